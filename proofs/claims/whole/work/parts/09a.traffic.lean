/-! traffic: an hour in three steps -/
abbrev Fm : Type := Nat → Nat → Int32
def froC (W L : Fm) (l : Int32) : Int32 := fiC W (rg 60 (L 4) l) (goalC L l)
def crsC (M L : Fm) (ne : Nat) (l m : Int32) : Int32 := cI (fun k => rg 60 (L 3) (nI k) == 1 && ansC L (nI k) l && oppC M (rg 60 (L 5) (nI k)) m) ne
def outM (Ld M : Fm) (m : Int32) : Fm := sr (sr M 2 (rs 12 (M 2) m (othC Ld (rg 12 (M 0) m) (rg 12 (M 2) m)))) 3 (rs 12 (M 3) m (hrsC Ld (rg 12 (M 0) m) (rg 12 (M 2) m) (othC Ld (rg 12 (M 0) m) (rg 12 (M 2) m))))
def crF (M L : Fm) (ne : Nat) (m cr : Int32) : Nat → Int32
  | 0 => cr
  | k + 1 => if withC L (nI k) m = true then crF M L ne m cr k + crsC M L ne (nI k) m else crF M L ne m cr k
def unlF (L M : Fm) (m h : Int32) : Nat → Fm
  | 0 => L
  | k + 1 => if withC (unlF L M m h k) (nI k) m = true then layC (unlF L M m h k) (nI k) (rg 12 (M 2) m) h else unlF L M m h k
def brM (M : Fm) (m : Int32) : Fm := sr (sr M 3 (rs 12 (M 3) m (rg 12 (M 3) m - 1))) 4 (rs 12 (M 4) m (rg 12 (M 4) m + 1))
def brF (M L : Fm) (ne : Nat) (h : Int32) : Nat → Fm × Fm
  | 0 => (M, L)
  | k + 1 => if uwC (brF M L ne h k).1 (nI k) = true then (if uwC (brM (brF M L ne h k).1 (nI k)) (nI k) = true then (brM (brF M L ne h k).1 (nI k), (brF M L ne h k).2) else (brM (brF M L ne h k).1 (nI k), unlF (brF M L ne h k).2 (brM (brF M L ne h k).1 (nI k)) (nI k) h ne)) else brF M L ne h k
def spS (L Ld : Fm) (ns : Nat) (fog h l : Int32) : Fm :=
  if isRecC L l = true then (if rg 60 (L 3) l = 0 then (if rg 60 (L 7) l = 0 then (if bH (litC Ld ns fog (rg 60 (L 6) l)) (rg 60 (L 4) l) = true then turnC (sr L 6 (rs 60 (L 6) l (litC Ld ns fog (rg 60 (L 6) l)))) l h else sr L 6 (rs 60 (L 6) l (litC Ld ns fog (rg 60 (L 6) l)))) else sr L 6 (rs 60 (L 6) l (litC Ld ns fog (rg 60 (L 6) l)))) else sr L 6 (rs 60 (L 6) l (litC Ld ns fog (rg 60 (L 6) l)))) else L
def spF (L Ld : Fm) (ns : Nat) (fog h : Int32) : Nat → Fm
  | 0 => L
  | k + 1 => spS (spF L Ld ns fog h k) Ld ns fog h (nI k)
def handC (L : Fm) (l m : Int32) : Fm := sr (sr (sr L 3 (rs 60 (L 3) l 1)) 4 (rs 60 (L 4) l (-1))) 5 (rs 60 (L 5) l m)
def ldS (W L : Fm) (here road m room : Int32) (has : Bool) (l : Int32) : Fm × Int32 × Bool :=
  if rg 60 (L 3) l = 0 then (if froC W L l = road then (if rg 60 (L 4) l = here then (if room ≤ 0 then (L, room, true) else (handC L l m, room + (-1), true)) else (L, room, true)) else (L, room, has)) else (L, room, has)
def ldF (W L : Fm) (here road m room : Int32) : Nat → Fm × Int32 × Bool
  | 0 => (L, room, false)
  | k + 1 => ldS W (ldF W L here road m room k).1 here road m (ldF W L here road m room k).2.1 (ldF W L here road m room k).2.2 (rg 60 ((ldF W L here road m room k).1 10) (nI k))
def ldC (W M L : Fm) (ne : Nat) (m : Int32) : Fm × Int32 × Bool := ldF W L (rg 12 (M 2) m) (rg 12 (M 0) m) m (rg 12 (M 1) m) ne
def sdF (W M L Ld : Fm) (ne : Nat) (cr : Int32) : Nat → Fm × Fm × Int32
  | 0 => (M, L, cr)
  | k + 1 => if uwC (sdF W M L Ld ne cr k).1 (nI k) = true then sdF W M L Ld ne cr k else (if (ldC W (sdF W M L Ld ne cr k).1 (sdF W M L Ld ne cr k).2.1 ne (nI k)).2.2 = true then (outM Ld (sdF W M L Ld ne cr k).1 (nI k), (ldC W (sdF W M L Ld ne cr k).1 (sdF W M L Ld ne cr k).2.1 ne (nI k)).1, crF (outM Ld (sdF W M L Ld ne cr k).1 (nI k)) (ldC W (sdF W M L Ld ne cr k).1 (sdF W M L Ld ne cr k).2.1 ne (nI k)).1 ne (nI k) (sdF W M L Ld ne cr k).2.2 ne) else ((sdF W M L Ld ne cr k).1, (ldC W (sdF W M L Ld ne cr k).1 (sdF W M L Ld ne cr k).2.1 ne (nI k)).1, (sdF W M L Ld ne cr k).2.2))
def hoS (W Ld : Fm) (ns : Nat) (fog : Int32) (nm ne : Nat) (X : Fm × Fm × Int32 × Int32) : Fm × Fm × Int32 × Int32 :=
  ((sdF W (brF X.1 X.2.1 ne X.2.2.1 nm).1 (spF (brF X.1 X.2.1 ne X.2.2.1 nm).2 Ld ns fog X.2.2.1 ne) Ld ne X.2.2.2 nm).1, (sdF W (brF X.1 X.2.1 ne X.2.2.1 nm).1 (spF (brF X.1 X.2.1 ne X.2.2.1 nm).2 Ld ns fog X.2.2.1 ne) Ld ne X.2.2.2 nm).2.1, X.2.2.1 + 1, (sdF W (brF X.1 X.2.1 ne X.2.2.1 nm).1 (spF (brF X.1 X.2.1 ne X.2.2.1 nm).2 Ld ns fog X.2.2.1 ne) Ld ne X.2.2.2 nm).2.2)
def hoF (W Ld : Fm) (ns : Nat) (fog : Int32) (nm ne : Nat) (X : Fm × Fm × Int32 × Int32) : Nat → Fm × Fm × Int32 × Int32
  | 0 => X
  | k + 1 => hoS W Ld ns fog nm ne (hoF W Ld ns fog nm ne X k)
set_option maxHeartbeats 4000000 in
set_option maxRecDepth 100000 in
theorem c_X4_firstRoadOf (l : Launch) (D : GG) (ot : Nat) (Ad : Nat → Nat) (Aw : Nat → Nat) (Am : Nat → Nat) (Ae : Nat → Nat) (hou : Int32) (cro : Int32) (Lw : Nat → Nat → Int32) (nm : Nat) (Lm : Nat → Nat → Int32) (ne : Nat) (Le : Nat → Nat → Int32) (nsd : Nat) (fogd : Int32) (nrd : Nat) (Ld : Nat → Nat → Int32) (p1 : Int32)  : Met l yX4_firstRoadOf wsX4_firstRoadOf ({ frames := 2, cells := 0, slots := 0, locals := 43 } : Room) (va_Pc [.ref ot, .int p1] (wd D ((wTob ot Ad Aw Am Ae hou cro) ++ ((wWays D Aw Lw) ++ ((wMul D Am nm Lm) ++ ((wLet D Ae ne Le) ++ (wLand D Ad nsd fogd nrd Ld))))))) (RP (.int (froC Lw Le p1))) 0 0 (fun _ => False) := by
  refine Met.ofW (cc := cX4_firstRoadOf) (maxL := 2) (ret := (some .int)) (by decide) rfl ?_
  intro p e s m args below meth c s₁ B hml hv
  obtain ⟨rfl, hP, hK, hD, hN⟩ := hv
  have hx := B.exec
  have hb := B.bytes
  have hr := B.returns
  have hts := atoms_spec (ws := wsX4_firstRoadOf) B.pre
  have hown : s.vm.findClass RX4 = some m.cls := findClass_of_methodNamed B.named
  have hlocks := B.notSynchronized
  have hinX1 : ∀ w ∈ u_ws RX1 TX1 12, w ∈ wsX4_firstRoadOf := by decide +kernel
  have hinX4 : ∀ w ∈ u_ws RX4 TX4 6, w ∈ wsX4_firstRoadOf := by decide +kernel
  have hl := lv_entry ([.ref ot, .int p1]) (n := 2) (Nat.le_of_ble_eq_true rfl)
  rw [lg_entry_eq]
  generalize (lg_sl ([.ref ot, .int p1]) ++ List.replicate (2 - (lg_sl ([.ref ot, .int p1])).length) Slot.unset).toArray = ls at hl ⊢
  have hl : lv_has ls 2 [(0, .ref ot), (1, .int p1)] := hl
  refine lv_aload_n hx hb dX4_firstRoadOf_0 rfl (lv_at hl 0 rfl) ?_
  refine va_get (D := D.1) (ci := 4) (v := .ref (Aw 0)) (C := RX4) (T := TX4) (N := 6) hx hb hts hinX4 hown hK (sP (Sb.l Sb.self) hP) 0 rfl rfl 1 (by decide) (hts (.fieldLink RX4 12 "MountainPost$Traffic" "ways" "LMountainPost$Ways;") (List.mem_of_getElem? (i := 1) rfl)) (fun _ h9 => h9) rfl dX4_firstRoadOf_1 ?_
  refine lv_aload_n hx hb dX4_firstRoadOf_4 rfl (lv_at hl 0 rfl) ?_
  refine va_get (D := D.1) (ci := 4) (v := .ref (Ae 0)) (C := RX4) (T := TX4) (N := 6) hx hb hts hinX4 hown hK (sP (Sb.l Sb.self) hP) 0 rfl rfl 3 (by decide) (hts (.fieldLink RX4 28 "MountainPost$Traffic" "letters" "LMountainPost$Letters;") (List.mem_of_getElem? (i := 2) rfl)) (fun _ h9 => h9) rfl dX4_firstRoadOf_5 ?_
  refine va_getN (D := D.1) (ci := 1) (v := .ref (Ae 5)) (C := RX1) (T := TX1) (N := 12) hx hb hts hinX1 hown hK (sP (Sb.r (Sb.r (Sb.r (Sb.l Sb.self)))) hP) 0 rfl rfl 5 (by decide) (hN.f 32 rfl) (fun _ h9 => h9) rfl dX4_firstRoadOf_8 ?_
  refine lv_iload_n hx hb dX4_firstRoadOf_11 rfl (lv_at hl 1 rfl) ?_
  refine kVp ⟨hx, hb, hml, hown, hts⟩ (c_X3_get l D (Ae 5) (Ae 16) 60 (Le 4) p1 (by decide)) (cwV 1 hts gX4_firstRoadOf_X3_get rfl rfl rfl (by decide +kernel) ⟨Nat.le_of_ble_eq_true rfl, Nat.le_of_ble_eq_true rfl⟩) hK hN hP hD (Sb.r (Sb.r (Sb.r (Sb.l sbLet4)))) 3 0 rfl rfl rfl hl.1 (Nat.le_of_ble_eq_true rfl) ⟨Nat.zero_le _, Nat.zero_le _⟩ dX4_firstRoadOf_12 ?_ rfl
  refine lv_aload_n hx hb dX4_firstRoadOf_15 rfl (lv_at hl 0 rfl) ?_
  refine va_get (D := D.1) (ci := 4) (v := .ref (Ae 0)) (C := RX4) (T := TX4) (N := 6) hx hb hts hinX4 hown hK (sP (Sb.l Sb.self) hP) 0 rfl rfl 3 (by decide) (hts (.fieldLink RX4 28 "MountainPost$Traffic" "letters" "LMountainPost$Letters;") (List.mem_of_getElem? (i := 2) rfl)) (fun _ h9 => h9) rfl dX4_firstRoadOf_16 ?_
  refine lv_iload_n hx hb dX4_firstRoadOf_19 rfl (lv_at hl 1 rfl) ?_
  refine kVp ⟨hx, hb, hml, hown, hts⟩ (c_X1_goal l D Ae ne Le p1) (cwV 1 hts gX4_firstRoadOf_X1_goal rfl rfl rfl (by decide +kernel) ⟨Nat.le_of_ble_eq_true rfl, Nat.le_of_ble_eq_true rfl⟩) hK hN hP hD (Sb.r (Sb.r (Sb.r (Sb.l Sb.self)))) 1 0 rfl rfl rfl hl.1 (Nat.le_of_ble_eq_true rfl) ⟨Nat.zero_le _, Nat.zero_le _⟩ dX4_firstRoadOf_20 ?_ rfl
  refine kVp ⟨hx, hb, hml, hown, hts⟩ (c_X5_firstRoad l D Aw Lw (rg 60 (Le 4) p1) (goalC Le p1)) (cwV 2 hts gX4_firstRoadOf_X5_firstRoad rfl rfl rfl (by decide +kernel) ⟨Nat.le_of_ble_eq_true rfl, Nat.le_of_ble_eq_true rfl⟩) hK hN hP hD (Sb.r (Sb.l Sb.self)) 5 0 rfl rfl rfl hl.1 (Nat.le_of_ble_eq_true rfl) ⟨Nat.zero_le _, Nat.zero_le _⟩ dX4_firstRoadOf_23 ?_ rfl
  exact eI hx hb hr hlocks dX4_firstRoadOf_26 (by rfl)

set_option maxHeartbeats 4000000 in
set_option maxRecDepth 100000 in
theorem c_X4_crossesOf (l : Launch) (D : GG) (ot : Nat) (Ad : Nat → Nat) (Aw : Nat → Nat) (Am : Nat → Nat) (Ae : Nat → Nat) (hou : Int32) (cro : Int32) (Lw : Nat → Nat → Int32) (nm : Nat) (Lm : Nat → Nat → Int32) (ne : Nat) (Le : Nat → Nat → Int32) (nsd : Nat) (fogd : Int32) (nrd : Nat) (Ld : Nat → Nat → Int32) (p1 : Int32) (p2 : Int32) (he : ne < 2 ^ 31) : Met l yX4_crossesOf wsX4_crossesOf ({ frames := 2, cells := 0, slots := 0, locals := 43 } : Room) (va_Pc [.ref ot, .int p1, .int p2] (wd D ((wTob ot Ad Aw Am Ae hou cro) ++ ((wWays D Aw Lw) ++ ((wMul D Am nm Lm) ++ ((wLet D Ae ne Le) ++ (wLand D Ad nsd fogd nrd Ld))))))) (RP (.int (crsC Lm Le ne p1 p2))) 0 0 (fun _ => False) := by
  refine Met.ofW (cc := cX4_crossesOf) (maxL := 5) (ret := (some .int)) (by decide) rfl ?_
  intro p e s m args below meth c s₁ B hml hv
  obtain ⟨rfl, hP, hK, hD, hN⟩ := hv
  have hx := B.exec
  have hb := B.bytes
  have hr := B.returns
  have hts := atoms_spec (ws := wsX4_crossesOf) B.pre
  have hown : s.vm.findClass RX4 = some m.cls := findClass_of_methodNamed B.named
  have hlocks := B.notSynchronized
  have hinX1 : ∀ w ∈ u_ws RX1 TX1 12, w ∈ wsX4_crossesOf := by decide +kernel
  have hinX4 : ∀ w ∈ u_ws RX4 TX4 6, w ∈ wsX4_crossesOf := by decide +kernel
  have hl := lv_entry ([.ref ot, .int p1, .int p2]) (n := 5) (Nat.le_of_ble_eq_true rfl)
  rw [lg_entry_eq]
  generalize (lg_sl ([.ref ot, .int p1, .int p2]) ++ List.replicate (5 - (lg_sl ([.ref ot, .int p1, .int p2])).length) Slot.unset).toArray = ls at hl ⊢
  have hl : lv_has ls 5 [(0, .ref ot), (1, .int p1), (2, .int p2)] := hl
  refine lv_iconst (v := 0) hx hb dX4_crossesOf_0 (by decide) ?_
  refine lv_istore_n (lv' := [(3, .int 0), (0, .ref ot), (1, .int p1), (2, .int p2)]) hx hb dX4_crossesOf_1 rfl hl (by decide) rfl (fun ls hl => ?_)
  refine lv_iconst (v := 0) hx hb dX4_crossesOf_2 (by decide) ?_
  refine lv_istore (lv' := [(4, .int 0), (3, .int 0), (0, .ref ot), (1, .int p1), (2, .int p2)]) hx hb dX4_crossesOf_3 hl (by decide) rfl (fun ls hl => ?_)
  have lp1 : ∀ (j1 : Nat) (k1 : Nat) (hk1 : k1 + j1 = ne) (x4_1 : Int32) (e4_1 : x4_1 = (nI k1)) (x3_1 : Int32) (e3_1 : x3_1 = (cI (fun k => rg 60 (Le 3) (nI k) == 1 && ansC Le (nI k) p1 && oppC Lm (rg 60 (Le 5) (nI k)) p2) k1)) (ls : Array Slot) (hl : lv_has ls 5 [(4, .int x4_1), (3, .int x3_1), (0, .ref ot), (1, .int p1), (2, .int p2)]), W p l e (headSpec wsX4_crossesOf ({ frames := 2, cells := 0, slots := 0, locals := 43 } : Room)).room s m ([.ref ot, .int p1, .int p2] : List Value).toArray below meth c s.heap [] 0 0 (MQ below (RP (.int (crsC Lm Le ne p1 p2))) ([.ref ot, .int p1, .int p2] : List Value).toArray s 0 0 (fun _ => False)) (F0 m 5 ls []) := by
    intro j1
    induction j1 with
    | zero =>
      intro k1 hk1 x4_1 e4_1 x3_1 e3_1   ls hl
      subst e4_1 e3_1
      have hkN1 : ne = k1 := (by omega)
      subst hkN1
      refine lv_iload hx hb dX4_crossesOf_5 (lv_at hl 0 rfl) ?_
      refine lv_aload_n hx hb dX4_crossesOf_7 rfl (lv_at hl 2 rfl) ?_
      refine va_get (D := D.1) (ci := 4) (v := .ref (Ae 0)) (C := RX4) (T := TX4) (N := 6) hx hb hts hinX4 hown hK (sP (Sb.l Sb.self) hP) 0 rfl rfl 3 (by decide) (hts (.fieldLink RX4 28 "MountainPost$Traffic" "letters" "LMountainPost$Letters;") (List.mem_of_getElem? (i := 1) rfl)) (fun _ h9 => h9) rfl dX4_crossesOf_8 ?_
      refine va_getN (D := D.1) (ci := 1) (v := .int (nI ne)) (C := RX1) (T := TX1) (N := 12) hx hb hts hinX1 hown hK (sP (Sb.r (Sb.r (Sb.r (Sb.l Sb.self)))) hP) 0 rfl rfl 0 (by decide) (hN.f 40 rfl) (fun _ h9 => h9) rfl dX4_crossesOf_11 ?_
      refine lv_icmp_ge (tgt := 78) hx hb dX4_crossesOf_14 (by decide) (fun c2 => ?_) (fun c2 => ?_)
      · refine lv_iload_n hx hb dX4_crossesOf_78 rfl (lv_at hl 1 rfl) ?_
        exact eI hx hb hr hlocks dX4_crossesOf_79 (by rfl)
      · exact (up0 rfl c2).elim
    | succ j1 ih =>
      intro k1 hk1 x4_1 e4_1 x3_1 e3_1   ls hl
      subst e4_1 e3_1
      have hlt1 : k1 < ne := by omega
      have hlt : k1 < ne := hlt1
      refine lv_iload hx hb dX4_crossesOf_5 (lv_at hl 0 rfl) ?_
      refine lv_aload_n hx hb dX4_crossesOf_7 rfl (lv_at hl 2 rfl) ?_
      refine va_get (D := D.1) (ci := 4) (v := .ref (Ae 0)) (C := RX4) (T := TX4) (N := 6) hx hb hts hinX4 hown hK (sP (Sb.l Sb.self) hP) 0 rfl rfl 3 (by decide) (hts (.fieldLink RX4 28 "MountainPost$Traffic" "letters" "LMountainPost$Letters;") (List.mem_of_getElem? (i := 1) rfl)) (fun _ h9 => h9) rfl dX4_crossesOf_8 ?_
      refine va_getN (D := D.1) (ci := 1) (v := .int (nI ne)) (C := RX1) (T := TX1) (N := 12) hx hb hts hinX1 hown hK (sP (Sb.r (Sb.r (Sb.r (Sb.l Sb.self)))) hP) 0 rfl rfl 0 (by decide) (hN.f 40 rfl) (fun _ h9 => h9) rfl dX4_crossesOf_11 ?_
      refine lv_icmp_ge (tgt := 78) hx hb dX4_crossesOf_14 (by decide) (fun c3 => ?_) (fun c3 => ?_)
      · exact (upS hk1 he c3).elim
      · refine lv_aload_n hx hb dX4_crossesOf_17 rfl (lv_at hl 2 rfl) ?_
        refine va_get (D := D.1) (ci := 4) (v := .ref (Ae 0)) (C := RX4) (T := TX4) (N := 6) hx hb hts hinX4 hown hK (sP (Sb.l Sb.self) hP) 0 rfl rfl 3 (by decide) (hts (.fieldLink RX4 28 "MountainPost$Traffic" "letters" "LMountainPost$Letters;") (List.mem_of_getElem? (i := 1) rfl)) (fun _ h9 => h9) rfl dX4_crossesOf_18 ?_
        refine va_getN (D := D.1) (ci := 1) (v := .ref (Ae 4)) (C := RX1) (T := TX1) (N := 12) hx hb hts hinX1 hown hK (sP (Sb.r (Sb.r (Sb.r (Sb.l Sb.self)))) hP) 0 rfl rfl 4 (by decide) (hN.f 30 rfl) (fun _ h9 => h9) rfl dX4_crossesOf_21 ?_
        refine lv_iload hx hb dX4_crossesOf_24 (lv_at hl 0 rfl) ?_
        refine kVp ⟨hx, hb, hml, hown, hts⟩ (c_X3_get l D (Ae 4) (Ae 15) 60 (Le 3) (nI k1) (by decide)) (cwV 1 hts gX4_crossesOf_X3_get rfl rfl rfl (by decide +kernel) ⟨Nat.le_of_ble_eq_true rfl, Nat.le_of_ble_eq_true rfl⟩) hK hN hP hD (Sb.r (Sb.r (Sb.r (Sb.l sbLet3)))) 3 0 rfl rfl rfl hl.1 (Nat.le_of_ble_eq_true rfl) ⟨Nat.zero_le _, Nat.zero_le _⟩ dX4_crossesOf_26 ?_ rfl
        refine lv_iconst (v := 1) hx hb dX4_crossesOf_29 (by decide) ?_
        refine lv_icmp_ne (tgt := 72) hx hb dX4_crossesOf_30 (by decide) (fun c4 => ?_) (fun c4 => ?_)
        · refine lv_iinc (v := ((nI k1) + 1)) (lv' := [(4, .int ((nI k1) + 1)), (3, .int (cI (fun k => rg 60 (Le 3) (nI k) == 1 && ansC Le (nI k) p1 && oppC Lm (rg 60 (Le 5) (nI k)) p2) k1)), (0, .ref ot), (1, .int p1), (2, .int p2)]) hx hb dX4_crossesOf_72 hl (k := 0) rfl rfl (by decide) rfl (fun ls hl => ?_)
          refine lv_goto (tgt := 5) hx hb dX4_crossesOf_75 (by decide) ?_
          exact ih (k1 + 1) (by omega) _ (nI_1 k1) _ (by simp [cI, c3, c4]) ls (lv_sub hl [0, 1, 2, 3, 4] rfl)
        · refine lv_aload_n hx hb dX4_crossesOf_33 rfl (lv_at hl 2 rfl) ?_
          refine va_get (D := D.1) (ci := 4) (v := .ref (Ae 0)) (C := RX4) (T := TX4) (N := 6) hx hb hts hinX4 hown hK (sP (Sb.l Sb.self) hP) 0 rfl rfl 3 (by decide) (hts (.fieldLink RX4 28 "MountainPost$Traffic" "letters" "LMountainPost$Letters;") (List.mem_of_getElem? (i := 1) rfl)) (fun _ h9 => h9) rfl dX4_crossesOf_34 ?_
          refine lv_iload hx hb dX4_crossesOf_37 (lv_at hl 0 rfl) ?_
          refine lv_iload_n hx hb dX4_crossesOf_39 rfl (lv_at hl 3 rfl) ?_
          refine kVp ⟨hx, hb, hml, hown, hts⟩ (c_X1_areAnswers l D Ae ne Le (nI k1) p1) (cwV 2 hts gX4_crossesOf_X1_areAnswers rfl rfl rfl (by decide +kernel) ⟨Nat.le_of_ble_eq_true rfl, Nat.le_of_ble_eq_true rfl⟩) hK hN hP hD (Sb.r (Sb.r (Sb.r (Sb.l Sb.self)))) 1 0 rfl rfl rfl hl.1 (Nat.le_of_ble_eq_true rfl) ⟨Nat.zero_le _, Nat.zero_le _⟩ dX4_crossesOf_40 ?_ rfl
          refine lv_if_eq (tgt := 72) hx hb dX4_crossesOf_43 (by decide) (fun c5 => ?_) (fun c5 => ?_)
          · have c5 := z2_0.mp c5
            refine lv_iinc (v := ((nI k1) + 1)) (lv' := [(4, .int ((nI k1) + 1)), (3, .int (cI (fun k => rg 60 (Le 3) (nI k) == 1 && ansC Le (nI k) p1 && oppC Lm (rg 60 (Le 5) (nI k)) p2) k1)), (0, .ref ot), (1, .int p1), (2, .int p2)]) hx hb dX4_crossesOf_72 hl (k := 0) rfl rfl (by decide) rfl (fun ls hl => ?_)
            refine lv_goto (tgt := 5) hx hb dX4_crossesOf_75 (by decide) ?_
            exact ih (k1 + 1) (by omega) _ (nI_1 k1) _ (by simp [cI, c3, c4, c5]) ls (lv_sub hl [0, 1, 2, 3, 4] rfl)
          · have c5 := z2_n.mp c5
            refine lv_aload_n hx hb dX4_crossesOf_46 rfl (lv_at hl 2 rfl) ?_
            refine va_get (D := D.1) (ci := 4) (v := .ref (Am 0)) (C := RX4) (T := TX4) (N := 6) hx hb hts hinX4 hown hK (sP (Sb.l Sb.self) hP) 0 rfl rfl 2 (by decide) (hts (.fieldLink RX4 21 "MountainPost$Traffic" "mules" "LMountainPost$Mules;") (List.mem_of_getElem? (i := 2) rfl)) (fun _ h9 => h9) rfl dX4_crossesOf_47 ?_
            refine lv_aload_n hx hb dX4_crossesOf_50 rfl (lv_at hl 2 rfl) ?_
            refine va_get (D := D.1) (ci := 4) (v := .ref (Ae 0)) (C := RX4) (T := TX4) (N := 6) hx hb hts hinX4 hown hK (sP (Sb.l Sb.self) hP) 0 rfl rfl 3 (by decide) (hts (.fieldLink RX4 28 "MountainPost$Traffic" "letters" "LMountainPost$Letters;") (List.mem_of_getElem? (i := 1) rfl)) (fun _ h9 => h9) rfl dX4_crossesOf_51 ?_
            refine va_getN (D := D.1) (ci := 1) (v := .ref (Ae 6)) (C := RX1) (T := TX1) (N := 12) hx hb hts hinX1 hown hK (sP (Sb.r (Sb.r (Sb.r (Sb.l Sb.self)))) hP) 0 rfl rfl 6 (by decide) (hN.f 36 rfl) (fun _ h9 => h9) rfl dX4_crossesOf_54 ?_
            refine lv_iload hx hb dX4_crossesOf_57 (lv_at hl 0 rfl) ?_
            refine kVp ⟨hx, hb, hml, hown, hts⟩ (c_X3_get l D (Ae 6) (Ae 17) 60 (Le 5) (nI k1) (by decide)) (cwV 1 hts gX4_crossesOf_X3_get rfl rfl rfl (by decide +kernel) ⟨Nat.le_of_ble_eq_true rfl, Nat.le_of_ble_eq_true rfl⟩) hK hN hP hD (Sb.r (Sb.r (Sb.r (Sb.l sbLet5)))) 3 0 rfl rfl rfl hl.1 (Nat.le_of_ble_eq_true rfl) ⟨Nat.zero_le _, Nat.zero_le _⟩ dX4_crossesOf_59 ?_ rfl
            refine lv_iload_n hx hb dX4_crossesOf_62 rfl (lv_at hl 4 rfl) ?_
            refine kVp ⟨hx, hb, hml, hown, hts⟩ (c_X2_areOpposed l D Am nm Lm (rg 60 (Le 5) (nI k1)) p2) (cwV 2 hts gX4_crossesOf_X2_areOpposed rfl rfl rfl (by decide +kernel) ⟨Nat.le_of_ble_eq_true rfl, Nat.le_of_ble_eq_true rfl⟩) hK hN hP hD (Sb.r (Sb.r (Sb.l Sb.self))) 2 0 rfl rfl rfl hl.1 (Nat.le_of_ble_eq_true rfl) ⟨Nat.zero_le _, Nat.zero_le _⟩ dX4_crossesOf_63 ?_ rfl
            refine lv_if_eq (tgt := 72) hx hb dX4_crossesOf_66 (by decide) (fun c6 => ?_) (fun c6 => ?_)
            · have c6 := z2_0.mp c6
              refine lv_iinc (v := ((nI k1) + 1)) (lv' := [(4, .int ((nI k1) + 1)), (3, .int (cI (fun k => rg 60 (Le 3) (nI k) == 1 && ansC Le (nI k) p1 && oppC Lm (rg 60 (Le 5) (nI k)) p2) k1)), (0, .ref ot), (1, .int p1), (2, .int p2)]) hx hb dX4_crossesOf_72 hl (k := 0) rfl rfl (by decide) rfl (fun ls hl => ?_)
              refine lv_goto (tgt := 5) hx hb dX4_crossesOf_75 (by decide) ?_
              exact ih (k1 + 1) (by omega) _ (nI_1 k1) _ (by simp [cI, c3, c4, c5, c6]) ls (lv_sub hl [0, 1, 2, 3, 4] rfl)
            · have c6 := z2_n.mp c6
              refine lv_iinc (v := ((cI (fun k => rg 60 (Le 3) (nI k) == 1 && ansC Le (nI k) p1 && oppC Lm (rg 60 (Le 5) (nI k)) p2) k1) + 1)) (lv' := [(3, .int ((cI (fun k => rg 60 (Le 3) (nI k) == 1 && ansC Le (nI k) p1 && oppC Lm (rg 60 (Le 5) (nI k)) p2) k1) + 1)), (4, .int (nI k1)), (0, .ref ot), (1, .int p1), (2, .int p2)]) hx hb dX4_crossesOf_69 hl (k := 1) rfl rfl (by decide) rfl (fun ls hl => ?_)
              refine lv_iinc (v := ((nI k1) + 1)) (lv' := [(4, .int ((nI k1) + 1)), (3, .int ((cI (fun k => rg 60 (Le 3) (nI k) == 1 && ansC Le (nI k) p1 && oppC Lm (rg 60 (Le 5) (nI k)) p2) k1) + 1)), (0, .ref ot), (1, .int p1), (2, .int p2)]) hx hb dX4_crossesOf_72 hl (k := 1) rfl rfl (by decide) rfl (fun ls hl => ?_)
              refine lv_goto (tgt := 5) hx hb dX4_crossesOf_75 (by decide) ?_
              exact ih (k1 + 1) (by omega) _ (nI_1 k1) _ (by simp [cI, c3, c4, c5, c6]) ls (lv_sub hl [0, 1, 2, 3, 4] rfl)
  exact lp1 ne 0 (by omega) _ nI_0.symm _ rfl ls (lv_sub hl [0, 1, 2, 3, 4] rfl)
