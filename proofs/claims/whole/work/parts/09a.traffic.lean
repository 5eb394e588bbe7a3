/-! traffic: an hour in three steps -/
abbrev Fm : Type := Nat → Nat → Int32
def froC (W L : Fm) (l : Int32) : Int32 := fiC W (rg 60 (L 4) l) (goalC L l)
def crsC (M L : Fm) (ne : Nat) (l m : Int32) : Int32 := cI (fun k => rg 60 (L 3) (nI k) == 1 && ansC L (nI k) l && oppC M (rg 60 (L 5) (nI k)) m) ne
def outM (Ld M : Fm) (m : Int32) : Fm := sr (sr M 2 (rs 12 (M 2) m (othC Ld (rg 12 (M 0) m) (rg 12 (M 2) m)))) 3 (rs 12 (M 3) m (hrsC Ld (rg 12 (M 0) m) (rg 12 (M 2) m) (othC Ld (rg 12 (M 0) m) (rg 12 (M 2) m))))
def crF (M L : Fm) (ne : Nat) (m cr : Int32) : Nat → Int32
  | 0 => cr
  | k + 1 => if withC L (nI k) m = true then crF M L ne m cr k + crsC M L ne (nI k) m else crF M L ne m cr k
def unlF (L M : Fm) (m h : Int32) : Nat → Fm
  | 0 => L
  | k + 1 => if withC (unlF L M m h k) (nI k) m = true then layC (unlF L M m h k) (nI k) (rg 12 (M 2) m) h else unlF L M m h k
def brM (M : Fm) (m : Int32) : Fm := sr (sr M 3 (rs 12 (M 3) m (rg 12 (M 3) m - 1))) 4 (rs 12 (M 4) m (rg 12 (M 4) m + 1))
def brF (M L : Fm) (ne : Nat) (h : Int32) : Nat → Fm × Fm
  | 0 => (M, L)
  | k + 1 => if uwC (brF M L ne h k).1 (nI k) = true then (if uwC (brM (brF M L ne h k).1 (nI k)) (nI k) = true then (brM (brF M L ne h k).1 (nI k), (brF M L ne h k).2) else (brM (brF M L ne h k).1 (nI k), unlF (brF M L ne h k).2 (brM (brF M L ne h k).1 (nI k)) (nI k) h ne)) else brF M L ne h k
def spS (L Ld : Fm) (ns : Nat) (fog h l : Int32) : Fm :=
  if isRecC L l = true then (if rg 60 (L 3) l = 0 then (if rg 60 (L 7) l = 0 then (if bH (litC Ld ns fog (rg 60 (L 6) l)) (rg 60 (L 4) l) = true then turnC (sr L 6 (rs 60 (L 6) l (litC Ld ns fog (rg 60 (L 6) l)))) l h else sr L 6 (rs 60 (L 6) l (litC Ld ns fog (rg 60 (L 6) l)))) else sr L 6 (rs 60 (L 6) l (litC Ld ns fog (rg 60 (L 6) l)))) else sr L 6 (rs 60 (L 6) l (litC Ld ns fog (rg 60 (L 6) l)))) else L
def spF (L Ld : Fm) (ns : Nat) (fog h : Int32) : Nat → Fm
  | 0 => L
  | k + 1 => spS (spF L Ld ns fog h k) Ld ns fog h (nI k)
def handC (L : Fm) (l m : Int32) : Fm := sr (sr (sr L 3 (rs 60 (L 3) l 1)) 4 (rs 60 (L 4) l (-1))) 5 (rs 60 (L 5) l m)
def ldS (W L : Fm) (here road m room : Int32) (has : Bool) (l : Int32) : Fm × Int32 × Bool :=
  if rg 60 (L 3) l = 0 then (if froC W L l = road then (if rg 60 (L 4) l = here then (if room ≤ 0 then (L, room, true) else (handC L l m, room + (-1), true)) else (L, room, true)) else (L, room, has)) else (L, room, has)
def ldF (W L : Fm) (here road m room : Int32) : Nat → Fm × Int32 × Bool
  | 0 => (L, room, false)
  | k + 1 => ldS W (ldF W L here road m room k).1 here road m (ldF W L here road m room k).2.1 (ldF W L here road m room k).2.2 (rg 60 ((ldF W L here road m room k).1 10) (nI k))
def ldC (W M L : Fm) (ne : Nat) (m : Int32) : Fm × Int32 × Bool := ldF W L (rg 12 (M 2) m) (rg 12 (M 0) m) m (rg 12 (M 1) m) ne
def sdF (W M L Ld : Fm) (ne : Nat) (cr : Int32) : Nat → Fm × Fm × Int32
  | 0 => (M, L, cr)
  | k + 1 => if uwC (sdF W M L Ld ne cr k).1 (nI k) = true then sdF W M L Ld ne cr k else (if (ldC W (sdF W M L Ld ne cr k).1 (sdF W M L Ld ne cr k).2.1 ne (nI k)).2.2 = true then (outM Ld (sdF W M L Ld ne cr k).1 (nI k), (ldC W (sdF W M L Ld ne cr k).1 (sdF W M L Ld ne cr k).2.1 ne (nI k)).1, crF (outM Ld (sdF W M L Ld ne cr k).1 (nI k)) (ldC W (sdF W M L Ld ne cr k).1 (sdF W M L Ld ne cr k).2.1 ne (nI k)).1 ne (nI k) (sdF W M L Ld ne cr k).2.2 ne) else ((sdF W M L Ld ne cr k).1, (ldC W (sdF W M L Ld ne cr k).1 (sdF W M L Ld ne cr k).2.1 ne (nI k)).1, (sdF W M L Ld ne cr k).2.2))
abbrev Rw : Type := Nat → Int32
/-- the class's own hour: what moves, what is lit, which road each letter goes by -/
def brB (M L : Fm) (ne : Nat) (h : Int32) : Nat → Bool
  | 0 => false
  | k + 1 => brB M L ne h k || uwC (brF M L ne h k).1 (nI k)
def spD (L Ld : Fm) (ns : Nat) (fog l : Int32) : Bool :=
  if isRecC L l = true then (if rg 60 (L 3) l = 0 then (if rg 60 (L 7) l = 0 then (if bH (litC Ld ns fog (rg 60 (L 6) l)) (rg 60 (L 4) l) = true then true else (if litC Ld ns fog (rg 60 (L 6) l) = rg 60 (L 6) l then false else true)) else (if litC Ld ns fog (rg 60 (L 6) l) = rg 60 (L 6) l then false else true)) else (if litC Ld ns fog (rg 60 (L 6) l) = rg 60 (L 6) l then false else true)) else false
def spB (L Ld : Fm) (ns : Nat) (fog h : Int32) : Nat → Bool
  | 0 => false
  | k + 1 => spB L Ld ns fog h k || spD (spF L Ld ns fog h k) Ld ns fog (nI k)
def fnR (W L : Fm) (l : Int32) : Int32 := if rg 60 (L 3) l = 0 then froC W L l else -1
def fnF (W L : Fm) (N : Rw) : Nat → Rw × Int32
  | 0 => (N, 0)
  | k + 1 => (rs 60 (fnF W L N k).1 (nI k) (fnR W L (nI k)), if fnR W L (nI k) = -1 then (fnF W L N k).2 else bW (fnF W L N k).2 (fnR W L (nI k)))
def leS (L : Fm) (N : Rw) (here road m room : Int32) (has : Bool) (l : Int32) : Fm × Rw × Int32 × Bool :=
  if rg 60 N l = road then (if rg 60 (L 4) l = here then (if room ≤ 0 then (L, N, room, true) else (handC L l m, rs 60 N l (-1), room + (-1), true)) else (L, N, room, true)) else (L, N, room, has)
def leF (L : Fm) (N : Rw) (here road m room : Int32) : Nat → Fm × Rw × Int32 × Bool
  | 0 => (L, N, room, false)
  | k + 1 => leS (leF L N here road m room k).1 (leF L N here road m room k).2.1 here road m (leF L N here road m room k).2.2.1 (leF L N here road m room k).2.2.2 (rg 60 ((leF L N here road m room k).1 10) (nI k))
def leC (M L : Fm) (N : Rw) (ne : Nat) (m : Int32) : Fm × Rw × Int32 × Bool := leF L N (rg 12 (M 2) m) (rg 12 (M 0) m) m (rg 12 (M 1) m) ne
def crJ (M L : Fm) (l m a : Int32) : Nat → Int32
  | 0 => a
  | k + 1 => if rg 60 (L 3) (nI k) = 1 then (if ansC L (nI k) l = true then (if oppC M (rg 60 (L 5) (nI k)) m = true then crJ M L l m a k + 1 else crJ M L l m a k) else crJ M L l m a k) else crJ M L l m a k
def crG (M L : Fm) (ne : Nat) (m : Int32) : Nat → Int32
  | 0 => 0
  | k + 1 => if withC L (nI k) m = true then crJ M L (nI k) m (crG M L ne m k) ne else crG M L ne m k
def ouC (Ld M L : Fm) (nm ne : Nat) (m cr : Int32) : Int32 := if onWC (outM Ld M m) nm (rg 12 (M 0) m) ≤ 1 then cr else cr + crG (outM Ld M m) L ne m ne
def sgS (Ld : Fm) (wa : Int32) (nm ne : Nat) (X : Fm × Fm × Int32 × Rw × Bool) (m : Int32) : Fm × Fm × Int32 × Rw × Bool :=
  if uwC X.1 m = true then X else if bH wa (rg 12 (X.1 0) m) = true then (if (leC X.1 X.2.1 X.2.2.2.1 ne m).2.2.2 = true then (outM Ld X.1 m, (leC X.1 X.2.1 X.2.2.2.1 ne m).1, ouC Ld X.1 (leC X.1 X.2.1 X.2.2.2.1 ne m).1 nm ne m X.2.2.1, (leC X.1 X.2.1 X.2.2.2.1 ne m).2.1, true) else (X.1, (leC X.1 X.2.1 X.2.2.2.1 ne m).1, X.2.2.1, (leC X.1 X.2.1 X.2.2.2.1 ne m).2.1, X.2.2.2.2)) else X
def sdG (M L Ld : Fm) (N : Rw) (wa : Int32) (nm ne : Nat) (cr : Int32) : Nat → Fm × Fm × Int32 × Rw × Bool
  | 0 => (M, L, cr, N, false)
  | k + 1 => sgS Ld wa nm ne (sdG M L Ld N wa nm ne cr k) (nI k)
abbrev Hs : Type := Fm × Fm × Int32 × Int32 × Rw × Bool
abbrev hgB (nm ne : Nat) (X : Hs) : Fm × Fm := brF X.1 X.2.1 ne X.2.2.1 nm
abbrev hgP (Ld : Fm) (ns : Nat) (fog : Int32) (nm ne : Nat) (X : Hs) : Fm := spF (hgB nm ne X).2 Ld ns fog X.2.2.1 ne
abbrev hgQ (W Ld : Fm) (ns : Nat) (fog : Int32) (nm ne : Nat) (X : Hs) : Fm × Fm × Int32 × Rw × Bool := sdG (hgB nm ne X).1 (hgP Ld ns fog nm ne X) Ld (fnF W (hgP Ld ns fog nm ne X) X.2.2.2.2.1 ne).1 (fnF W (hgP Ld ns fog nm ne X) X.2.2.2.2.1 ne).2 nm ne X.2.2.2.1 nm
def hgS (W Ld : Fm) (ns : Nat) (fog : Int32) (nm ne : Nat) (X : Hs) : Hs :=
  if X.2.2.2.2.2 = true then ((hgQ W Ld ns fog nm ne X).1, (hgQ W Ld ns fog nm ne X).2.1, X.2.2.1 + 1, (hgQ W Ld ns fog nm ne X).2.2.1, (hgQ W Ld ns fog nm ne X).2.2.2.1, brB X.1 X.2.1 ne X.2.2.1 nm || (spB (hgB nm ne X).2 Ld ns fog X.2.2.1 ne || (hgQ W Ld ns fog nm ne X).2.2.2.2)) else (X.1, X.2.1, X.2.2.1 + 1, X.2.2.2.1, X.2.2.2.2.1, X.2.2.2.2.2)
def hgF (W Ld : Fm) (ns : Nat) (fog : Int32) (nm ne : Nat) (X : Hs) : Nat → Hs
  | 0 => X
  | k + 1 => hgS W Ld ns fog nm ne (hgF W Ld ns fog nm ne X k)
def fwC (W Ld M : Fm) (ns nr nm : Nat) (r : Int32) : Fm := if ofRC M nm r = 1 then findC W Ld M ns nr nm else W
def hoS (W Ld : Fm) (ns : Nat) (fog : Int32) (nm ne : Nat) (X : Fm × Fm × Int32 × Int32) : Fm × Fm × Int32 × Int32 :=
  ((sdF W (brF X.1 X.2.1 ne X.2.2.1 nm).1 (spF (brF X.1 X.2.1 ne X.2.2.1 nm).2 Ld ns fog X.2.2.1 ne) Ld ne X.2.2.2 nm).1, (sdF W (brF X.1 X.2.1 ne X.2.2.1 nm).1 (spF (brF X.1 X.2.1 ne X.2.2.1 nm).2 Ld ns fog X.2.2.1 ne) Ld ne X.2.2.2 nm).2.1, X.2.2.1 + 1, (sdF W (brF X.1 X.2.1 ne X.2.2.1 nm).1 (spF (brF X.1 X.2.1 ne X.2.2.1 nm).2 Ld ns fog X.2.2.1 ne) Ld ne X.2.2.2 nm).2.2)
def hoF (W Ld : Fm) (ns : Nat) (fog : Int32) (nm ne : Nat) (X : Fm × Fm × Int32 × Int32) : Nat → Fm × Fm × Int32 × Int32
  | 0 => X
  | k + 1 => hoS W Ld ns fog nm ne (hoF W Ld ns fog nm ne X k)
set_option maxHeartbeats 4000000 in
set_option maxRecDepth 100000 in
theorem c_X4_firstRoadOf (l : Launch) (D : GG) (ot : Nat) (Ad : Nat → Nat) (Aw : Nat → Nat) (Am : Nat → Nat) (Ae : Nat → Nat) (xt : Nat) (hou : Int32) (cro : Int32) (Lw : Nat → Nat → Int32) (nm : Nat) (Lm : Nat → Nat → Int32) (ne : Nat) (Le : Nat → Nat → Int32) (nsd : Nat) (fogd : Int32) (nrd : Nat) (Ld : Nat → Nat → Int32) (p1 : Int32)  : Met l yX4_firstRoadOf wsX4_firstRoadOf ({ frames := 2, cells := 0, slots := 0, locals := 43 } : Room) (va_Pc [.ref ot, .int p1] (wd D ((wTob ot Ad Aw Am Ae xt hou cro) ++ ((wWays D Aw Lw) ++ ((wMul D Am nm Lm) ++ ((wLet D Ae ne Le) ++ (wLand D Ad nsd fogd nrd Ld))))))) (RP (.int (froC Lw Le p1))) 0 0 (fun _ => False) := by
  refine Met.ofW (cc := cX4_firstRoadOf) (maxL := 2) (ret := (some .int)) (by decide) rfl ?_
  intro p e s m args below meth c s₁ B hml hv
  obtain ⟨rfl, hP, hK, hD, hN⟩ := hv
  have hx := B.exec
  have hb := B.bytes
  have hr := B.returns
  have hts := atoms_spec (ws := wsX4_firstRoadOf) B.pre
  have hown : s.vm.findClass RX4 = some m.cls := findClass_of_methodNamed B.named
  have hlocks := B.notSynchronized
  have hinX1 : ∀ w ∈ u_ws RX1 TX1 12, w ∈ wsX4_firstRoadOf := by decide +kernel
  have hinX4 : ∀ w ∈ u_ws RX4 TX4 7, w ∈ wsX4_firstRoadOf := by decide +kernel
  have hl := lv_entry ([.ref ot, .int p1]) (n := 2) (Nat.le_of_ble_eq_true rfl)
  rw [lg_entry_eq]
  generalize (lg_sl ([.ref ot, .int p1]) ++ List.replicate (2 - (lg_sl ([.ref ot, .int p1])).length) Slot.unset).toArray = ls at hl ⊢
  have hl : lv_has ls 2 [(0, .ref ot), (1, .int p1)] := hl
  refine lv_aload_n hx hb dX4_firstRoadOf_0 rfl (lv_at hl 0 rfl) ?_
  refine va_get (D := D.1) (ci := 4) (v := .ref (Aw 0)) (C := RX4) (T := TX4) (N := 7) hx hb hts hinX4 hown hK (sP (Sb.l Sb.self) hP) 0 rfl rfl 1 (by decide) (hts (.fieldLink RX4 12 "MountainPost$Traffic" "ways" "LMountainPost$Ways;") (List.mem_of_getElem? (i := 1) rfl)) (fun _ h9 => h9) rfl dX4_firstRoadOf_1 ?_
  refine lv_aload_n hx hb dX4_firstRoadOf_4 rfl (lv_at hl 0 rfl) ?_
  refine va_get (D := D.1) (ci := 4) (v := .ref (Ae 0)) (C := RX4) (T := TX4) (N := 7) hx hb hts hinX4 hown hK (sP (Sb.l Sb.self) hP) 0 rfl rfl 3 (by decide) (hts (.fieldLink RX4 28 "MountainPost$Traffic" "letters" "LMountainPost$Letters;") (List.mem_of_getElem? (i := 2) rfl)) (fun _ h9 => h9) rfl dX4_firstRoadOf_5 ?_
  refine va_getN (D := D.1) (ci := 1) (v := .ref (Ae 5)) (C := RX1) (T := TX1) (N := 12) hx hb hts hinX1 hown hK (sP (Sb.r (Sb.r (Sb.r (Sb.l Sb.self)))) hP) 0 rfl rfl 5 (by decide) (hN.f 37 rfl) (fun _ h9 => h9) rfl dX4_firstRoadOf_8 ?_
  refine lv_iload_n hx hb dX4_firstRoadOf_11 rfl (lv_at hl 1 rfl) ?_
  refine kVp ⟨hx, hb, hml, hown, hts⟩ (c_X3_get l D (Ae 5) (Ae 16) 60 (Le 4) p1 (by decide)) (cwV 1 hts gX4_firstRoadOf_X3_get rfl rfl rfl (by decide +kernel) ⟨Nat.le_of_ble_eq_true rfl, Nat.le_of_ble_eq_true rfl⟩) hK hN hP hD (Sb.r (Sb.r (Sb.r (Sb.l sbLet4)))) 3 0 rfl rfl rfl hl.1 (Nat.le_of_ble_eq_true rfl) ⟨Nat.zero_le _, Nat.zero_le _⟩ dX4_firstRoadOf_12 ?_ rfl
  refine lv_aload_n hx hb dX4_firstRoadOf_15 rfl (lv_at hl 0 rfl) ?_
  refine va_get (D := D.1) (ci := 4) (v := .ref (Ae 0)) (C := RX4) (T := TX4) (N := 7) hx hb hts hinX4 hown hK (sP (Sb.l Sb.self) hP) 0 rfl rfl 3 (by decide) (hts (.fieldLink RX4 28 "MountainPost$Traffic" "letters" "LMountainPost$Letters;") (List.mem_of_getElem? (i := 2) rfl)) (fun _ h9 => h9) rfl dX4_firstRoadOf_16 ?_
  refine lv_iload_n hx hb dX4_firstRoadOf_19 rfl (lv_at hl 1 rfl) ?_
  refine kVp ⟨hx, hb, hml, hown, hts⟩ (c_X1_goal l D Ae ne Le p1) (cwV 1 hts gX4_firstRoadOf_X1_goal rfl rfl rfl (by decide +kernel) ⟨Nat.le_of_ble_eq_true rfl, Nat.le_of_ble_eq_true rfl⟩) hK hN hP hD (Sb.r (Sb.r (Sb.r (Sb.l Sb.self)))) 1 0 rfl rfl rfl hl.1 (Nat.le_of_ble_eq_true rfl) ⟨Nat.zero_le _, Nat.zero_le _⟩ dX4_firstRoadOf_20 ?_ rfl
  refine kVp ⟨hx, hb, hml, hown, hts⟩ (c_X5_firstRoad l D Aw Lw (rg 60 (Le 4) p1) (goalC Le p1)) (cwV 2 hts gX4_firstRoadOf_X5_firstRoad rfl rfl rfl (by decide +kernel) ⟨Nat.le_of_ble_eq_true rfl, Nat.le_of_ble_eq_true rfl⟩) hK hN hP hD (Sb.r (Sb.l Sb.self)) 5 0 rfl rfl rfl hl.1 (Nat.le_of_ble_eq_true rfl) ⟨Nat.zero_le _, Nat.zero_le _⟩ dX4_firstRoadOf_23 ?_ rfl
  exact eI hx hb hr hlocks dX4_firstRoadOf_26 (by rfl)

set_option maxHeartbeats 4000000 in
set_option maxRecDepth 100000 in
theorem c_X4_crossesOf (l : Launch) (D : GG) (ot : Nat) (Ad : Nat → Nat) (Aw : Nat → Nat) (Am : Nat → Nat) (Ae : Nat → Nat) (xt : Nat) (hou : Int32) (cro : Int32) (Lw : Nat → Nat → Int32) (nm : Nat) (Lm : Nat → Nat → Int32) (ne : Nat) (Le : Nat → Nat → Int32) (nsd : Nat) (fogd : Int32) (nrd : Nat) (Ld : Nat → Nat → Int32) (p1 : Int32) (he : ne < 2 ^ 31) : Met l yX4_crossesOf wsX4_crossesOf ({ frames := 2, cells := 0, slots := 0, locals := 43 } : Room) (va_Pc [.ref ot, .int p1] (wd D ((wTob ot Ad Aw Am Ae xt hou cro) ++ ((wWays D Aw Lw) ++ ((wMul D Am nm Lm) ++ ((wLet D Ae ne Le) ++ (wLand D Ad nsd fogd nrd Ld))))))) (RP (.int (crG Lm Le ne p1 ne))) 0 0 (fun _ => False) := by
  refine Met.ofW (cc := cX4_crossesOf) (maxL := 5) (ret := (some .int)) (by decide) rfl ?_
  intro p e s m args below meth c s₁ B hml hv
  obtain ⟨rfl, hP, hK, hD, hN⟩ := hv
  have hx := B.exec
  have hb := B.bytes
  have hr := B.returns
  have hts := atoms_spec (ws := wsX4_crossesOf) B.pre
  have hown : s.vm.findClass RX4 = some m.cls := findClass_of_methodNamed B.named
  have hlocks := B.notSynchronized
  have hinX1 : ∀ w ∈ u_ws RX1 TX1 12, w ∈ wsX4_crossesOf := by decide +kernel
  have hinX4 : ∀ w ∈ u_ws RX4 TX4 7, w ∈ wsX4_crossesOf := by decide +kernel
  have hl := lv_entry ([.ref ot, .int p1]) (n := 5) (Nat.le_of_ble_eq_true rfl)
  rw [lg_entry_eq]
  generalize (lg_sl ([.ref ot, .int p1]) ++ List.replicate (5 - (lg_sl ([.ref ot, .int p1])).length) Slot.unset).toArray = ls at hl ⊢
  have hl : lv_has ls 5 [(0, .ref ot), (1, .int p1)] := hl
  refine lv_iconst (v := 0) hx hb dX4_crossesOf_0 (by decide) ?_
  refine lv_istore_n (lv' := [(2, .int 0), (0, .ref ot), (1, .int p1)]) hx hb dX4_crossesOf_1 rfl hl (by decide) rfl (fun ls hl => ?_)
  refine lv_iconst (v := 0) hx hb dX4_crossesOf_2 (by decide) ?_
  refine lv_istore_n (lv' := [(3, .int 0), (2, .int 0), (0, .ref ot), (1, .int p1)]) hx hb dX4_crossesOf_3 rfl hl (by decide) rfl (fun ls hl => ?_)
  have lp1 : ∀ (j1 : Nat) (k1 : Nat) (hk1 : k1 + j1 = ne) (x3_1 : Int32) (e3_1 : x3_1 = (nI k1)) (x2_1 : Int32) (e2_1 : x2_1 = (crG Lm Le ne p1 k1)) (ls : Array Slot) (hl : lv_has ls 5 [(3, .int x3_1), (2, .int x2_1), (0, .ref ot), (1, .int p1)]), W p l e (headSpec wsX4_crossesOf ({ frames := 2, cells := 0, slots := 0, locals := 43 } : Room)).room s m ([.ref ot, .int p1] : List Value).toArray below meth c s.heap [] 0 0 (MQ below (RP (.int (crG Lm Le ne p1 ne))) ([.ref ot, .int p1] : List Value).toArray s 0 0 (fun _ => False)) (F0 m 4 ls []) := by
    intro j1
    induction j1 with
    | zero =>
      intro k1 hk1 x3_1 e3_1 x2_1 e2_1   ls hl
      subst e3_1 e2_1
      have hkN1 : ne = k1 := (by omega)
      subst hkN1
      refine lv_iload_n hx hb dX4_crossesOf_4 rfl (lv_at hl 0 rfl) ?_
      refine lv_aload_n hx hb dX4_crossesOf_5 rfl (lv_at hl 2 rfl) ?_
      refine va_get (D := D.1) (ci := 4) (v := .ref (Ae 0)) (C := RX4) (T := TX4) (N := 7) hx hb hts hinX4 hown hK (sP (Sb.l Sb.self) hP) 0 rfl rfl 3 (by decide) (hts (.fieldLink RX4 28 "MountainPost$Traffic" "letters" "LMountainPost$Letters;") (List.mem_of_getElem? (i := 1) rfl)) (fun _ h9 => h9) rfl dX4_crossesOf_6 ?_
      refine va_getN (D := D.1) (ci := 1) (v := .int (nI ne)) (C := RX1) (T := TX1) (N := 12) hx hb hts hinX1 hown hK (sP (Sb.r (Sb.r (Sb.r (Sb.l Sb.self)))) hP) 0 rfl rfl 0 (by decide) (hN.f 32 rfl) (fun _ h9 => h9) rfl dX4_crossesOf_9 ?_
      refine lv_icmp_ge (tgt := 109) hx hb dX4_crossesOf_12 (by decide) (fun c2 => ?_) (fun c2 => ?_)
      · refine lv_iload_n hx hb dX4_crossesOf_109 rfl (lv_at hl 1 rfl) ?_
        exact eI hx hb hr hlocks dX4_crossesOf_110 (by rfl)
      · exact (up0 rfl c2).elim
    | succ j1 ih1 =>
      intro k1 hk1 x3_1 e3_1 x2_1 e2_1   ls hl
      subst e3_1 e2_1
      have hlt1 : k1 < ne := by omega
      have hlt : k1 < ne := hlt1
      refine lv_iload_n hx hb dX4_crossesOf_4 rfl (lv_at hl 0 rfl) ?_
      refine lv_aload_n hx hb dX4_crossesOf_5 rfl (lv_at hl 2 rfl) ?_
      refine va_get (D := D.1) (ci := 4) (v := .ref (Ae 0)) (C := RX4) (T := TX4) (N := 7) hx hb hts hinX4 hown hK (sP (Sb.l Sb.self) hP) 0 rfl rfl 3 (by decide) (hts (.fieldLink RX4 28 "MountainPost$Traffic" "letters" "LMountainPost$Letters;") (List.mem_of_getElem? (i := 1) rfl)) (fun _ h9 => h9) rfl dX4_crossesOf_6 ?_
      refine va_getN (D := D.1) (ci := 1) (v := .int (nI ne)) (C := RX1) (T := TX1) (N := 12) hx hb hts hinX1 hown hK (sP (Sb.r (Sb.r (Sb.r (Sb.l Sb.self)))) hP) 0 rfl rfl 0 (by decide) (hN.f 32 rfl) (fun _ h9 => h9) rfl dX4_crossesOf_9 ?_
      refine lv_icmp_ge (tgt := 109) hx hb dX4_crossesOf_12 (by decide) (fun c3 => ?_) (fun c3 => ?_)
      · exact (upS hk1 he c3).elim
      · refine lv_aload_n hx hb dX4_crossesOf_15 rfl (lv_at hl 2 rfl) ?_
        refine va_get (D := D.1) (ci := 4) (v := .ref (Ae 0)) (C := RX4) (T := TX4) (N := 7) hx hb hts hinX4 hown hK (sP (Sb.l Sb.self) hP) 0 rfl rfl 3 (by decide) (hts (.fieldLink RX4 28 "MountainPost$Traffic" "letters" "LMountainPost$Letters;") (List.mem_of_getElem? (i := 1) rfl)) (fun _ h9 => h9) rfl dX4_crossesOf_16 ?_
        refine lv_iload_n hx hb dX4_crossesOf_19 rfl (lv_at hl 0 rfl) ?_
        refine lv_iload_n hx hb dX4_crossesOf_20 rfl (lv_at hl 3 rfl) ?_
        refine kVp ⟨hx, hb, hml, hown, hts⟩ (c_X1_isWith l D Ae ne Le (nI k1) p1) (cwV 2 hts gX4_crossesOf_X1_isWith rfl rfl rfl (by decide +kernel) ⟨Nat.le_of_ble_eq_true rfl, Nat.le_of_ble_eq_true rfl⟩) hK hN hP hD (Sb.r (Sb.r (Sb.r (Sb.l Sb.self)))) 1 0 rfl rfl rfl hl.1 (Nat.le_of_ble_eq_true rfl) ⟨Nat.zero_le _, Nat.zero_le _⟩ dX4_crossesOf_21 ?_ rfl
        refine lv_if_eq (tgt := 103) hx hb dX4_crossesOf_24 (by decide) (fun c4 => ?_) (fun c4 => ?_)
        · have c4 := z2_0.mp c4
          refine lv_iinc (v := ((nI k1) + 1)) (lv' := [(3, .int ((nI k1) + 1)), (2, .int (crG Lm Le ne p1 k1)), (0, .ref ot), (1, .int p1)]) hx hb dX4_crossesOf_103 hl (k := 0) rfl rfl (by decide) rfl (fun ls hl => ?_)
          refine lv_goto (tgt := 4) hx hb dX4_crossesOf_106 (by decide) ?_
          exact ih1 (k1 + 1) (by omega) _ (nI_1 k1) _ (by (rw [crG, if_neg c4]; first | done | rfl)) ls (lv_sub hl [0, 1, 2, 3] rfl)
        · have c4 := z2_n.mp c4
          refine lv_iconst (v := 0) hx hb dX4_crossesOf_27 (by decide) ?_
          refine lv_istore (lv' := [(4, .int 0), (3, .int (nI k1)), (2, .int (crG Lm Le ne p1 k1)), (0, .ref ot), (1, .int p1)]) hx hb dX4_crossesOf_28 hl (by decide) rfl (fun ls hl => ?_)
          have lp5 : ∀ (j5 : Nat) (k5 : Nat) (hk5 : k5 + j5 = ne) (x4_5 : Int32) (e4_5 : x4_5 = (nI k5)) (x2_5 : Int32) (e2_5 : x2_5 = (crJ Lm Le (nI k1) p1 (crG Lm Le ne p1 k1) k5)) (ls : Array Slot) (hl : lv_has ls 5 [(4, .int x4_5), (3, .int (nI k1)), (2, .int x2_5), (0, .ref ot), (1, .int p1)]), W p l e (headSpec wsX4_crossesOf ({ frames := 2, cells := 0, slots := 0, locals := 43 } : Room)).room s m ([.ref ot, .int p1] : List Value).toArray below meth c s.heap [] 0 0 (MQ below (RP (.int (crG Lm Le ne p1 ne))) ([.ref ot, .int p1] : List Value).toArray s 0 0 (fun _ => False)) (F0 m 30 ls []) := by
            intro j5
            induction j5 with
            | zero =>
              intro k5 hk5 x4_5 e4_5 x2_5 e2_5   ls hl
              subst e4_5 e2_5
              have hkN5 : ne = k5 := (by omega)
              subst hkN5
              refine lv_iload hx hb dX4_crossesOf_30 (lv_at hl 0 rfl) ?_
              refine lv_aload_n hx hb dX4_crossesOf_32 rfl (lv_at hl 3 rfl) ?_
              refine va_get (D := D.1) (ci := 4) (v := .ref (Ae 0)) (C := RX4) (T := TX4) (N := 7) hx hb hts hinX4 hown hK (sP (Sb.l Sb.self) hP) 0 rfl rfl 3 (by decide) (hts (.fieldLink RX4 28 "MountainPost$Traffic" "letters" "LMountainPost$Letters;") (List.mem_of_getElem? (i := 1) rfl)) (fun _ h9 => h9) rfl dX4_crossesOf_33 ?_
              refine va_getN (D := D.1) (ci := 1) (v := .int (nI ne)) (C := RX1) (T := TX1) (N := 12) hx hb hts hinX1 hown hK (sP (Sb.r (Sb.r (Sb.r (Sb.l Sb.self)))) hP) 0 rfl rfl 0 (by decide) (hN.f 32 rfl) (fun _ h9 => h9) rfl dX4_crossesOf_36 ?_
              refine lv_icmp_ge (tgt := 103) hx hb dX4_crossesOf_39 (by decide) (fun c6 => ?_) (fun c6 => ?_)
              · refine lv_iinc (v := ((nI k1) + 1)) (lv' := [(3, .int ((nI k1) + 1)), (4, .int (nI ne)), (2, .int (crJ Lm Le (nI k1) p1 (crG Lm Le ne p1 k1) ne)), (0, .ref ot), (1, .int p1)]) hx hb dX4_crossesOf_103 hl (k := 1) rfl rfl (by decide) rfl (fun ls hl => ?_)
                refine lv_goto (tgt := 4) hx hb dX4_crossesOf_106 (by decide) ?_
                exact ih1 (k1 + 1) (by omega) _ (nI_1 k1) _ (by (rw [crG, if_pos c4]; first | done | rfl)) ls (lv_sub hl [0, 2, 3, 4] rfl)
              · exact (up0 rfl c6).elim
            | succ j5 ih5 =>
              intro k5 hk5 x4_5 e4_5 x2_5 e2_5   ls hl
              subst e4_5 e2_5
              have hlt5 : k5 < ne := by omega
              have hlt : k5 < ne := hlt5
              refine lv_iload hx hb dX4_crossesOf_30 (lv_at hl 0 rfl) ?_
              refine lv_aload_n hx hb dX4_crossesOf_32 rfl (lv_at hl 3 rfl) ?_
              refine va_get (D := D.1) (ci := 4) (v := .ref (Ae 0)) (C := RX4) (T := TX4) (N := 7) hx hb hts hinX4 hown hK (sP (Sb.l Sb.self) hP) 0 rfl rfl 3 (by decide) (hts (.fieldLink RX4 28 "MountainPost$Traffic" "letters" "LMountainPost$Letters;") (List.mem_of_getElem? (i := 1) rfl)) (fun _ h9 => h9) rfl dX4_crossesOf_33 ?_
              refine va_getN (D := D.1) (ci := 1) (v := .int (nI ne)) (C := RX1) (T := TX1) (N := 12) hx hb hts hinX1 hown hK (sP (Sb.r (Sb.r (Sb.r (Sb.l Sb.self)))) hP) 0 rfl rfl 0 (by decide) (hN.f 32 rfl) (fun _ h9 => h9) rfl dX4_crossesOf_36 ?_
              refine lv_icmp_ge (tgt := 103) hx hb dX4_crossesOf_39 (by decide) (fun c7 => ?_) (fun c7 => ?_)
              · exact (upS hk5 he c7).elim
              · refine lv_aload_n hx hb dX4_crossesOf_42 rfl (lv_at hl 3 rfl) ?_
                refine va_get (D := D.1) (ci := 4) (v := .ref (Ae 0)) (C := RX4) (T := TX4) (N := 7) hx hb hts hinX4 hown hK (sP (Sb.l Sb.self) hP) 0 rfl rfl 3 (by decide) (hts (.fieldLink RX4 28 "MountainPost$Traffic" "letters" "LMountainPost$Letters;") (List.mem_of_getElem? (i := 1) rfl)) (fun _ h9 => h9) rfl dX4_crossesOf_43 ?_
                refine va_getN (D := D.1) (ci := 1) (v := .ref (Ae 4)) (C := RX1) (T := TX1) (N := 12) hx hb hts hinX1 hown hK (sP (Sb.r (Sb.r (Sb.r (Sb.l Sb.self)))) hP) 0 rfl rfl 4 (by decide) (hN.f 35 rfl) (fun _ h9 => h9) rfl dX4_crossesOf_46 ?_
                refine lv_iload hx hb dX4_crossesOf_49 (lv_at hl 0 rfl) ?_
                refine kVp ⟨hx, hb, hml, hown, hts⟩ (c_X3_get l D (Ae 4) (Ae 15) 60 (Le 3) (nI k5) (by decide)) (cwV 1 hts gX4_crossesOf_X3_get rfl rfl rfl (by decide +kernel) ⟨Nat.le_of_ble_eq_true rfl, Nat.le_of_ble_eq_true rfl⟩) hK hN hP hD (Sb.r (Sb.r (Sb.r (Sb.l sbLet3)))) 3 0 rfl rfl rfl hl.1 (Nat.le_of_ble_eq_true rfl) ⟨Nat.zero_le _, Nat.zero_le _⟩ dX4_crossesOf_51 ?_ rfl
                refine lv_iconst (v := 1) hx hb dX4_crossesOf_54 (by decide) ?_
                refine lv_icmp_ne (tgt := 97) hx hb dX4_crossesOf_55 (by decide) (fun c8 => ?_) (fun c8 => ?_)
                · refine lv_iinc (v := ((nI k5) + 1)) (lv' := [(4, .int ((nI k5) + 1)), (3, .int (nI k1)), (2, .int (crJ Lm Le (nI k1) p1 (crG Lm Le ne p1 k1) k5)), (0, .ref ot), (1, .int p1)]) hx hb dX4_crossesOf_97 hl (k := 0) rfl rfl (by decide) rfl (fun ls hl => ?_)
                  refine lv_goto (tgt := 30) hx hb dX4_crossesOf_100 (by decide) ?_
                  exact ih5 (k5 + 1) (by omega) _ (nI_1 k5) _ (by (rw [crJ, if_neg c8]; first | done | rfl)) ls (lv_sub hl [0, 1, 2, 3, 4] rfl)
                · refine lv_aload_n hx hb dX4_crossesOf_58 rfl (lv_at hl 3 rfl) ?_
                  refine va_get (D := D.1) (ci := 4) (v := .ref (Ae 0)) (C := RX4) (T := TX4) (N := 7) hx hb hts hinX4 hown hK (sP (Sb.l Sb.self) hP) 0 rfl rfl 3 (by decide) (hts (.fieldLink RX4 28 "MountainPost$Traffic" "letters" "LMountainPost$Letters;") (List.mem_of_getElem? (i := 1) rfl)) (fun _ h9 => h9) rfl dX4_crossesOf_59 ?_
                  refine lv_iload hx hb dX4_crossesOf_62 (lv_at hl 0 rfl) ?_
                  refine lv_iload_n hx hb dX4_crossesOf_64 rfl (lv_at hl 1 rfl) ?_
                  refine kVp ⟨hx, hb, hml, hown, hts⟩ (c_X1_areAnswers l D Ae ne Le (nI k5) (nI k1)) (cwV 2 hts gX4_crossesOf_X1_areAnswers rfl rfl rfl (by decide +kernel) ⟨Nat.le_of_ble_eq_true rfl, Nat.le_of_ble_eq_true rfl⟩) hK hN hP hD (Sb.r (Sb.r (Sb.r (Sb.l Sb.self)))) 1 0 rfl rfl rfl hl.1 (Nat.le_of_ble_eq_true rfl) ⟨Nat.zero_le _, Nat.zero_le _⟩ dX4_crossesOf_65 ?_ rfl
                  refine lv_if_eq (tgt := 97) hx hb dX4_crossesOf_68 (by decide) (fun c9 => ?_) (fun c9 => ?_)
                  · have c9 := z2_0.mp c9
                    refine lv_iinc (v := ((nI k5) + 1)) (lv' := [(4, .int ((nI k5) + 1)), (3, .int (nI k1)), (2, .int (crJ Lm Le (nI k1) p1 (crG Lm Le ne p1 k1) k5)), (0, .ref ot), (1, .int p1)]) hx hb dX4_crossesOf_97 hl (k := 0) rfl rfl (by decide) rfl (fun ls hl => ?_)
                    refine lv_goto (tgt := 30) hx hb dX4_crossesOf_100 (by decide) ?_
                    exact ih5 (k5 + 1) (by omega) _ (nI_1 k5) _ (by (rw [crJ, if_pos c8, if_neg c9]; first | done | rfl)) ls (lv_sub hl [0, 1, 2, 3, 4] rfl)
                  · have c9 := z2_n.mp c9
                    refine lv_aload_n hx hb dX4_crossesOf_71 rfl (lv_at hl 3 rfl) ?_
                    refine va_get (D := D.1) (ci := 4) (v := .ref (Am 0)) (C := RX4) (T := TX4) (N := 7) hx hb hts hinX4 hown hK (sP (Sb.l Sb.self) hP) 0 rfl rfl 2 (by decide) (hts (.fieldLink RX4 21 "MountainPost$Traffic" "mules" "LMountainPost$Mules;") (List.mem_of_getElem? (i := 2) rfl)) (fun _ h9 => h9) rfl dX4_crossesOf_72 ?_
                    refine lv_aload_n hx hb dX4_crossesOf_75 rfl (lv_at hl 3 rfl) ?_
                    refine va_get (D := D.1) (ci := 4) (v := .ref (Ae 0)) (C := RX4) (T := TX4) (N := 7) hx hb hts hinX4 hown hK (sP (Sb.l Sb.self) hP) 0 rfl rfl 3 (by decide) (hts (.fieldLink RX4 28 "MountainPost$Traffic" "letters" "LMountainPost$Letters;") (List.mem_of_getElem? (i := 1) rfl)) (fun _ h9 => h9) rfl dX4_crossesOf_76 ?_
                    refine va_getN (D := D.1) (ci := 1) (v := .ref (Ae 6)) (C := RX1) (T := TX1) (N := 12) hx hb hts hinX1 hown hK (sP (Sb.r (Sb.r (Sb.r (Sb.l Sb.self)))) hP) 0 rfl rfl 6 (by decide) (hN.f 41 rfl) (fun _ h9 => h9) rfl dX4_crossesOf_79 ?_
                    refine lv_iload hx hb dX4_crossesOf_82 (lv_at hl 0 rfl) ?_
                    refine kVp ⟨hx, hb, hml, hown, hts⟩ (c_X3_get l D (Ae 6) (Ae 17) 60 (Le 5) (nI k5) (by decide)) (cwV 1 hts gX4_crossesOf_X3_get rfl rfl rfl (by decide +kernel) ⟨Nat.le_of_ble_eq_true rfl, Nat.le_of_ble_eq_true rfl⟩) hK hN hP hD (Sb.r (Sb.r (Sb.r (Sb.l sbLet5)))) 3 0 rfl rfl rfl hl.1 (Nat.le_of_ble_eq_true rfl) ⟨Nat.zero_le _, Nat.zero_le _⟩ dX4_crossesOf_84 ?_ rfl
                    refine lv_iload_n hx hb dX4_crossesOf_87 rfl (lv_at hl 4 rfl) ?_
                    refine kVp ⟨hx, hb, hml, hown, hts⟩ (c_X2_areOpposed l D Am nm Lm (rg 60 (Le 5) (nI k5)) p1) (cwV 2 hts gX4_crossesOf_X2_areOpposed rfl rfl rfl (by decide +kernel) ⟨Nat.le_of_ble_eq_true rfl, Nat.le_of_ble_eq_true rfl⟩) hK hN hP hD (Sb.r (Sb.r (Sb.l Sb.self))) 2 0 rfl rfl rfl hl.1 (Nat.le_of_ble_eq_true rfl) ⟨Nat.zero_le _, Nat.zero_le _⟩ dX4_crossesOf_88 ?_ rfl
                    refine lv_if_eq (tgt := 97) hx hb dX4_crossesOf_91 (by decide) (fun c10 => ?_) (fun c10 => ?_)
                    · have c10 := z2_0.mp c10
                      refine lv_iinc (v := ((nI k5) + 1)) (lv' := [(4, .int ((nI k5) + 1)), (3, .int (nI k1)), (2, .int (crJ Lm Le (nI k1) p1 (crG Lm Le ne p1 k1) k5)), (0, .ref ot), (1, .int p1)]) hx hb dX4_crossesOf_97 hl (k := 0) rfl rfl (by decide) rfl (fun ls hl => ?_)
                      refine lv_goto (tgt := 30) hx hb dX4_crossesOf_100 (by decide) ?_
                      exact ih5 (k5 + 1) (by omega) _ (nI_1 k5) _ (by (rw [crJ, if_pos c8, if_pos c9, if_neg c10]; first | done | rfl)) ls (lv_sub hl [0, 1, 2, 3, 4] rfl)
                    · have c10 := z2_n.mp c10
                      refine lv_iinc (v := ((crJ Lm Le (nI k1) p1 (crG Lm Le ne p1 k1) k5) + 1)) (lv' := [(2, .int ((crJ Lm Le (nI k1) p1 (crG Lm Le ne p1 k1) k5) + 1)), (4, .int (nI k5)), (3, .int (nI k1)), (0, .ref ot), (1, .int p1)]) hx hb dX4_crossesOf_94 hl (k := 2) rfl rfl (by decide) rfl (fun ls hl => ?_)
                      refine lv_iinc (v := ((nI k5) + 1)) (lv' := [(4, .int ((nI k5) + 1)), (2, .int ((crJ Lm Le (nI k1) p1 (crG Lm Le ne p1 k1) k5) + 1)), (3, .int (nI k1)), (0, .ref ot), (1, .int p1)]) hx hb dX4_crossesOf_97 hl (k := 1) rfl rfl (by decide) rfl (fun ls hl => ?_)
                      refine lv_goto (tgt := 30) hx hb dX4_crossesOf_100 (by decide) ?_
                      exact ih5 (k5 + 1) (by omega) _ (nI_1 k5) _ (by (rw [crJ, if_pos c8, if_pos c9, if_pos c10]; first | done | rfl)) ls (lv_sub hl [0, 2, 1, 3, 4] rfl)
          exact lp5 ne 0 (by omega) _ nI_0.symm _ rfl ls (lv_sub hl [0, 1, 2, 3, 4] rfl)
  exact lp1 ne 0 (by omega) _ nI_0.symm _ rfl ls (lv_sub hl [0, 1, 2, 3] rfl)
