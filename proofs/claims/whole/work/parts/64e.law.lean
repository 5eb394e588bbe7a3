set_option maxHeartbeats 4000000 in
set_option maxRecDepth 100000 in
theorem law_c16 {p : Program} {l : Launch} {e : Env} {s : State} {m : MethodId} {below : List Frame} {meth : Method} {c : Code} {D : GG} {b L : Nat} {xs : Nat → Int32} {A0 : Nat → Prop} {om ot ou oq xt yt xu yu : Nat} {Ad Aw Am Ae Bw Bm Be : Nat → Nat} (X : LX p l s m meth c D b L xs A0) {i : Nat} (hi : 4 * i + 4 ≤ L) (ih : LG p l e s m below meth c D b L xs A0 om ot ou oq xt yt xu yu Ad Aw Am Ae Bw Bm Be (i + 1)) {a1 a2 a3 : Int32} (ea1 : xs (nI (4 * i) + 1).toNatClampNeg = a1) (ea2 : xs (nI (4 * i) + 2).toNatClampNeg = a2) (ea3 : xs (nI (4 * i) + 3).toNatClampNeg = a3)
    (Ax : Nat → Nat) (hou cro : Int32) (Lw : Fm) (nm : Nat) (Lm : Fm) (ne : Nat) (Le : Fm) (Nt : Rw) (hou2 cro2 : Int32) (Kw : Fm) (nm2 : Nat) (Km : Fm) (ne2 : Nat) (Ke : Fm) (Nu : Rw) (nsd : Nat) (fogd : Int32) (nrd : Nat) (Ld : Fm) (fq : Nat → Int64) (th : Int32) (Lx : Fm) (h : Nat) (hSY : SY Lw Ld Lm Le hou cro Lx nsd nrd nm ne h) (hh : h ≤ 100 * i) (H : Heap) (locs : List Loc) (hP : va_P D.1 vwCl ((wMob om Ad ot ou) ++ ((wTob ot Ad Aw Am Ae xt hou cro) ++ ((wWays D Aw Lw) ++ ((wMul D Am nm Lm) ++ ((wLet D Ae ne Le) ++ ((wRow D xt yt 60 Nt) ++ ((wTob ou Ad Bw Bm Be xu hou2 cro2) ++ ((wWays D Bw Kw) ++ ((wMul D Bm nm2 Km) ++ ((wLet D Be ne2 Ke) ++ ((wRow D xu yu 60 Nu) ++ ((wLand D Ad nsd fogd nrd Ld) ++ ((wLar D oq fq) ++ (wMod D Ax th nsd fogd nrd nm ne Lx)))))))))))))) H) (hD : va_D A0 ((wMob om Ad ot ou) ++ ((wTob ot Ad Aw Am Ae xt hou cro) ++ ((wWays D Aw Lw) ++ ((wMul D Am nm Lm) ++ ((wLet D Ae ne Le) ++ ((wRow D xt yt 60 Nt) ++ ((wTob ou Ad Bw Bm Be xu hou2 cro2) ++ ((wWays D Bw Kw) ++ ((wMul D Bm nm2 Km) ++ ((wLet D Be ne2 Ke) ++ ((wRow D xu yu 60 Nu) ++ ((wLand D Ad nsd fogd nrd Ld) ++ ((wLar D oq fq) ++ (wMod D Ax th nsd fogd nrd nm ne Lx))))))))))))))) (hS : va_S A0 s.heap H locs) (ls : Array Slot) (hl : lv_has ls 9 [(4, .int (nI (4 * i))), (0, .ref b), (1, .ref om), (2, .ref (Ax 0)), (3, .ref oq)]) : W p l e room_1 s m #[Value.ref b] below meth c H locs (200 + 81 * i) (9000 + 11700 * i) (lw_Z below #[Value.ref b] s) (F0 m 1280 ls []) := by
  obtain ⟨hx, hb, hr, hml, hown, hts, hX, hbl, hbA, hlocks, hl9, hCX, hSX, hTX, hZX, hNX, hK, hN, hA, -, hL⟩ := X
  have hS9 : okS Lx nsd nrd nm ne := okS_rel hSY.1
  have b10 : nsd ≤ 10 := hSY.1.1.1
  have b15 : nrd ≤ 15 := hSY.1.1.2.1
  have b12 : nm ≤ 12 := hSY.1.2.2.1.1
  have b60 : ne ≤ 60 := hSY.1.2.2.2.1
  have hrE : rE Le Lx ne := hSY.1.2.2.2.2.2.2.2.2.2.1
  have he : ne < 2 ^ 31 := by omega
  have hm : nm < 2 ^ 31 := by omega
  have hns : nsd < 2 ^ 31 := by omega
  have hnr : nrd < 2 ^ 31 := by omega
  refine lv_aload_n hx hb dL_law_1280 rfl (lv_at hl 2 rfl) ?_
  refine lv_aload_n hx hb dL_law_1281 rfl (lv_at hl 1 rfl) ?_
  refine lv_iload hx hb dL_law_1282 (lv_at hl 0 rfl) ?_
  refine lv_iconst (v := 1) hx hb dL_law_1284 (by decide) ?_
  refine lv_iadd hx hb dL_law_1285 ?_
  refine va_sld hx hb hX hbl hbA hS (i := ((nI (4 * i)) + 1)) (inS1 hi hL) dL_law_1286 ?_
  refine W.eq (g2 := F0 m 1287 ls [.int a1, .ref om]) (congrArg (fun zz : Int32 => F0 m 1287 ls [.int zz, .ref om]) ea1) ?_
  refine lv_aload_n hx hb dL_law_1287 rfl (lv_at hl 4 rfl) ?_
  refine kSL ⟨hx, hb, hml, hown, hts⟩ (c_L_arrives l D om Ad ot ou Aw Am Ae xt hou cro Lw nm Lm ne Le yt Nt Bw Bm Be xu hou2 cro2 Kw nm2 Km ne2 Ke yu Nu nsd fogd nrd Ld oq fq a1 _ (by assumption) (by assumption) (by assumption) hl9) (vx_cwSW 3 hts gL_law_L_arrives rfl rfl rfl (by decide +kernel) ⟨Nat.le_of_ble_eq_true rfl, Nat.le_of_ble_eq_true rfl⟩) hCX hSX hTX hZX hNX hK hN hP hD hS hA (fun z => (Fr.app (Fr.kp Sb.self) (Fr.app (Fr.kp Sb.self) (Fr.app (Fr.kp Sb.self) (Fr.app (Fr.kp Sb.self) (Fr.app (Fr.kp Sb.self) (Fr.app (Fr.kp Sb.self) (Fr.app frsTob (Fr.app frsWays (Fr.app frsMul (Fr.app frsLet (Fr.app frsRow (Fr.app (Fr.kp Sb.self) (Fr.l frsLar)))))))))))))) (Sb.app Sb.self (Sb.app Sb.self (Sb.app Sb.self (Sb.app Sb.self (Sb.app Sb.self (Sb.app Sb.self (Sb.app Sb.self (Sb.app Sb.self (Sb.app Sb.self (Sb.app Sb.self (Sb.app Sb.self (Sb.app Sb.self (Sb.l Sb.self))))))))))))) rfl hl.1 (Nat.le_of_ble_eq_true rfl) ⟨by show _ ≤ 601024; omega, by show _ ≤ 7293034; omega⟩ dL_law_1288 (fun H locs hk9 hP hD hS => ?_) (fun z H locs hk9 hP hD hS => ?_) rfl
  · have hP : va_P D.1 vwCl ((wMob om Ad ot ou) ++ ((wTob ot Ad Aw Am Ae xt hou cro) ++ ((wWays D Aw Lw) ++ ((wMul D Am nm Lm) ++ ((wLet D Ae ne Le) ++ ((wRow D xt yt 60 Nt) ++ ((wTob ou Ad Bw Bm Be xu hou2 cro2) ++ ((wWays D Bw Kw) ++ ((wMul D Bm nm2 Km) ++ ((wLet D Be ne2 Ke) ++ ((wRow D xu yu 60 Nu) ++ ((wLand D Ad nsd fogd nrd Ld) ++ ((wLar D oq fq) ++ (wMod D Ax th nsd fogd nrd nm ne Lx)))))))))))))) H := hP
    have hD : va_D A0 ((wMob om Ad ot ou) ++ ((wTob ot Ad Aw Am Ae xt hou cro) ++ ((wWays D Aw Lw) ++ ((wMul D Am nm Lm) ++ ((wLet D Ae ne Le) ++ ((wRow D xt yt 60 Nt) ++ ((wTob ou Ad Bw Bm Be xu hou2 cro2) ++ ((wWays D Bw Kw) ++ ((wMul D Bm nm2 Km) ++ ((wLet D Be ne2 Ke) ++ ((wRow D xu yu 60 Nu) ++ ((wLand D Ad nsd fogd nrd Ld) ++ ((wLar D oq fq) ++ (wMod D Ax th nsd fogd nrd nm ne Lx)))))))))))))) := hD
    refine lv_istore (lv' := [(5, .int (nI (kAR ne a1))), (4, .int (nI (4 * i))), (0, .ref b), (1, .ref om), (2, .ref (Ax 0)), (3, .ref oq)]) hx hb dL_law_1291 hl (by decide) rfl (fun ls hl => ?_)
    refine lv_aload_n hx hb dL_law_1293 rfl (lv_at hl 4 rfl) ?_
    refine lv_aload_n hx hb dL_law_1294 rfl (lv_at hl 2 rfl) ?_
    refine lv_iload hx hb dL_law_1295 (lv_at hl 1 rfl) ?_
    refine lv_iconst (v := 1) hx hb dL_law_1297 (by decide) ?_
    refine lv_iadd hx hb dL_law_1298 ?_
    refine va_sld hx hb hX hbl hbA hS (i := ((nI (4 * i)) + 1)) (inS1 hi hL) dL_law_1299 ?_
    refine W.eq (g2 := F0 m 1300 ls [.int a1, .ref (Ax 0)]) (congrArg (fun zz : Int32 => F0 m 1300 ls [.int zz, .ref (Ax 0)]) ea1) ?_
    refine kVx ⟨hx, hb, hml, hown, hts⟩ (c_X7_arrives l D Ax th nsd fogd nrd nm ne Lx a1 _ (by assumption) (by assumption) (by assumption) (by assumption) hS9) (cwV 1 hts gL_law_X7_arrives rfl rfl rfl (by decide +kernel) ⟨Nat.le_of_ble_eq_true rfl, Nat.le_of_ble_eq_true rfl⟩) (preVX hNX hK hN hP hD (Sb.r (Sb.r (Sb.r (Sb.r (Sb.r (Sb.r (Sb.r (Sb.r (Sb.r (Sb.r (Sb.r (Sb.r (Sb.r Sb.self))))))))))))) 7 0 rfl rfl) hP hD hS hA (wr := ((wMob om Ad ot ou) ++ ((wTob ot Ad Aw Am Ae xt hou cro) ++ ((wWays D Aw Lw) ++ ((wMul D Am nm Lm) ++ ((wLet D Ae ne Le) ++ ((wRow D xt yt 60 Nt) ++ ((wTob ou Ad Bw Bm Be xu hou2 cro2) ++ ((wWays D Bw Kw) ++ ((wMul D Bm nm2 Km) ++ ((wLet D Be ne2 Ke) ++ ((wRow D xu yu 60 Nu) ++ ((wLand D Ad nsd fogd nrd Ld) ++ (wLar D oq fq)))))))))))))) (fun _ h => h) rfl rfl hl.1 (Nat.le_of_ble_eq_true rfl) ⟨by show _ ≤ 601024; omega, by show _ ≤ 7293034; omega⟩ dL_law_1300 (fun g1 H locs hP hD hS => ?_) rfl
    have hP : va_P D.1 vwCl ((wMob om Ad ot ou) ++ ((wTob ot Ad Aw Am Ae xt hou cro) ++ ((wWays D Aw Lw) ++ ((wMul D Am nm Lm) ++ ((wLet D Ae ne Le) ++ ((wRow D xt yt 60 Nt) ++ ((wTob ou Ad Bw Bm Be xu hou2 cro2) ++ ((wWays D Bw Kw) ++ ((wMul D Bm nm2 Km) ++ ((wLet D Be ne2 Ke) ++ ((wRow D xu yu 60 Nu) ++ ((wLand D Ad nsd fogd nrd Ld) ++ ((wLar D oq fq) ++ (wMod D (bA Ax (g1 0) (g1 1) (g1 2)) ((par1 Lx nsd fogd nrd nm ne a1).2.1) nsd fogd nrd nm ne ((par1 Lx nsd fogd nrd nm ne a1).2.2))))))))))))))) H := hP
    have hD : va_D A0 ((wMob om Ad ot ou) ++ ((wTob ot Ad Aw Am Ae xt hou cro) ++ ((wWays D Aw Lw) ++ ((wMul D Am nm Lm) ++ ((wLet D Ae ne Le) ++ ((wRow D xt yt 60 Nt) ++ ((wTob ou Ad Bw Bm Be xu hou2 cro2) ++ ((wWays D Bw Kw) ++ ((wMul D Bm nm2 Km) ++ ((wLet D Be ne2 Ke) ++ ((wRow D xu yu 60 Nu) ++ ((wLand D Ad nsd fogd nrd Ld) ++ ((wLar D oq fq) ++ (wMod D (bA Ax (g1 0) (g1 1) (g1 2)) ((par1 Lx nsd fogd nrd nm ne a1).2.1) nsd fogd nrd nm ne ((par1 Lx nsd fogd nrd nm ne a1).2.2))))))))))))))) := hD
    refine W.eq (g2 := F0 m 1303 ls [.int ((par1 Lx nsd fogd nrd nm ne a1).1)]) rfl ?_
    have r9 := ar_rel (fog := fogd) (N := Nu) (a := a1) hSY (by omega)
    rw [r9.1, r9.2.1 hk9] at hP hD
    have hP : va_P D.1 vwCl ((wMob om Ad ot ou) ++ ((wTob ot Ad Aw Am Ae xt hou cro) ++ ((wWays D Aw Lw) ++ ((wMul D Am nm Lm) ++ ((wLet D Ae ne Le) ++ ((wRow D xt yt 60 Nt) ++ ((wTob ou Ad Bw Bm Be xu hou2 cro2) ++ ((wWays D Bw Kw) ++ ((wMul D Bm nm2 Km) ++ ((wLet D Be ne2 Ke) ++ ((wRow D xu yu 60 Nu) ++ ((wLand D Ad nsd fogd nrd Ld) ++ ((wLar D oq fq) ++ (wMod D (bA Ax (g1 0) (g1 1) (g1 2)) (nI (kAR ne a1)) nsd fogd nrd nm ne Lx)))))))))))))) H := hP
    have hD : va_D A0 ((wMob om Ad ot ou) ++ ((wTob ot Ad Aw Am Ae xt hou cro) ++ ((wWays D Aw Lw) ++ ((wMul D Am nm Lm) ++ ((wLet D Ae ne Le) ++ ((wRow D xt yt 60 Nt) ++ ((wTob ou Ad Bw Bm Be xu hou2 cro2) ++ ((wWays D Bw Kw) ++ ((wMul D Bm nm2 Km) ++ ((wLet D Be ne2 Ke) ++ ((wRow D xu yu 60 Nu) ++ ((wLand D Ad nsd fogd nrd Ld) ++ ((wLar D oq fq) ++ (wMod D (bA Ax (g1 0) (g1 1) (g1 2)) (nI (kAR ne a1)) nsd fogd nrd nm ne Lx)))))))))))))) := hD
    refine lv_istore (lv' := [(6, .int ((par1 Lx nsd fogd nrd nm ne a1).1)), (5, .int (nI (kAR ne a1))), (4, .int (nI (4 * i))), (0, .ref b), (1, .ref om), (2, .ref (Ax 0)), (3, .ref oq)]) hx hb dL_law_1303 hl (by decide) rfl (fun ls hl => ?_)
    refine lv_aload_n hx hb dL_law_1305 rfl (lv_at hl 5 rfl) ?_
    refine kVp ⟨hx, hb, hml, hown, hts⟩ (c_X7_thrown l D (bA Ax (g1 0) (g1 1) (g1 2)) (nI (kAR ne a1)) nsd fogd nrd nm ne Lx) (cwV 0 hts gL_law_X7_thrown rfl rfl rfl (by decide +kernel) ⟨Nat.le_of_ble_eq_true rfl, Nat.le_of_ble_eq_true rfl⟩) hK hN hP hD (Sb.r (Sb.r (Sb.r (Sb.r (Sb.r (Sb.r (Sb.r (Sb.r (Sb.r (Sb.r (Sb.r (Sb.r (Sb.r Sb.self))))))))))))) 7 0 rfl rfl rfl hl.1 (Nat.le_of_ble_eq_true rfl) ⟨by show _ ≤ 601024; omega, by show _ ≤ 7293034; omega⟩ dL_law_1306 ?_ rfl
    refine lv_iload hx hb dL_law_1309 (lv_at hl 1 rfl) ?_
    refine lv_icmp_eq (tgt := 1316) hx hb dL_law_1311 (by decide) (fun c2 => ?_) (fun c2 => ?_)
    · refine lv_iload hx hb dL_law_1316 (lv_at hl 1 rfl) ?_
      refine lv_if_ne (tgt := 1333) hx hb dL_law_1318 (by decide) (fun c3 => ?_) (fun c3 => ?_)
      · refine lv_goto (tgt := 1447) hx hb dL_law_1333 (by decide) ?_
        refine lv_iinc (v := ((nI (4 * i)) + 4)) (lv' := [(4, .int ((nI (4 * i)) + 4)), (6, .int ((par1 Lx nsd fogd nrd nm ne a1).1)), (5, .int (nI (kAR ne a1))), (0, .ref b), (1, .ref om), (2, .ref (Ax 0)), (3, .ref oq)]) hx hb dL_law_1447 hl (k := 2) rfl rfl (by decide) rfl (fun ls hl => ?_)
        rw [show nI (4 * i) + 4 = nI (4 * (i + 1)) from nI_add (4 * i) 4] at hl
        refine lv_goto (tgt := 23) hx hb dL_law_1450 (by decide) ?_
        refine W.widen (k := 200 + 81 * (i + 1)) (n := 9000 + 11700 * (i + 1)) (by omega) (by omega) ?_
        exact ih (bA Ax (g1 0) (g1 1) (g1 2)) hou cro Lw nm Lm ne Le Nt hou2 cro2 Kw nm2 Km ne2 Ke Nu nsd fogd nrd Ld fq (nI (kAR ne a1)) Lx h hSY (by omega) H locs hP hD hS ls (lv_sub hl [0, 3, 4, 5, 6] rfl)
      · exact (nI_ne0 (Nat.pos_of_ne_zero hk9) (Nat.lt_of_le_of_lt (kAR_b _ _) (by decide)) c3).elim
    · exact (c2 (by first | rfl | decide)).elim
  · have hP : va_P D.1 vwCl ((wMob om Ad ot ou) ++ ((wTob ot Ad Aw Am Ae xt hou cro) ++ ((wWays D Aw Lw) ++ ((wMul D Am nm Lm) ++ ((wLet D Ae ne Le) ++ ((wRow D xt yt 60 Nt) ++ ((wTob ou Ad Bw Bm Be xu z.2.2.2.2.2.1 z.2.2.2.2.2.2.1) ++ ((wWays D Bw (z.1)) ++ ((wMul D Bm z.2.1 (z.2.2.1)) ++ ((wLet D Be z.2.2.2.1 (z.2.2.2.2.1)) ++ ((wRow D xu yu 60 (z.2.2.2.2.2.2.2)) ++ ((wLand D Ad nsd fogd nrd Ld) ++ ((wLar D oq (vp_updL fq 0 (rg 60 ((hgF Lw Ld nsd fogd nm ne (Lm, Le, hou, cro, Nu, true) 300).2.1 9) a1).toInt64)) ++ (wMod D Ax th nsd fogd nrd nm ne Lx)))))))))))))) H := hP
    have hD : va_D A0 ((wMob om Ad ot ou) ++ ((wTob ot Ad Aw Am Ae xt hou cro) ++ ((wWays D Aw Lw) ++ ((wMul D Am nm Lm) ++ ((wLet D Ae ne Le) ++ ((wRow D xt yt 60 Nt) ++ ((wTob ou Ad Bw Bm Be xu z.2.2.2.2.2.1 z.2.2.2.2.2.2.1) ++ ((wWays D Bw (z.1)) ++ ((wMul D Bm z.2.1 (z.2.2.1)) ++ ((wLet D Be z.2.2.2.1 (z.2.2.2.2.1)) ++ ((wRow D xu yu 60 (z.2.2.2.2.2.2.2)) ++ ((wLand D Ad nsd fogd nrd Ld) ++ ((wLar D oq (vp_updL fq 0 (rg 60 ((hgF Lw Ld nsd fogd nm ne (Lm, Le, hou, cro, Nu, true) 300).2.1 9) a1).toInt64)) ++ (wMod D Ax th nsd fogd nrd nm ne Lx)))))))))))))) := hD
    refine lv_istore (lv' := [(5, .int 0), (4, .int (nI (4 * i))), (0, .ref b), (1, .ref om), (2, .ref (Ax 0)), (3, .ref oq)]) hx hb dL_law_1291 hl (by decide) rfl (fun ls hl => ?_)
    refine lv_aload_n hx hb dL_law_1293 rfl (lv_at hl 4 rfl) ?_
    refine lv_aload_n hx hb dL_law_1294 rfl (lv_at hl 2 rfl) ?_
    refine lv_iload hx hb dL_law_1295 (lv_at hl 1 rfl) ?_
    refine lv_iconst (v := 1) hx hb dL_law_1297 (by decide) ?_
    refine lv_iadd hx hb dL_law_1298 ?_
    refine va_sld hx hb hX hbl hbA hS (i := ((nI (4 * i)) + 1)) (inS1 hi hL) dL_law_1299 ?_
    refine W.eq (g2 := F0 m 1300 ls [.int a1, .ref (Ax 0)]) (congrArg (fun zz : Int32 => F0 m 1300 ls [.int zz, .ref (Ax 0)]) ea1) ?_
    refine kVx ⟨hx, hb, hml, hown, hts⟩ (c_X7_arrives l D Ax th nsd fogd nrd nm ne Lx a1 _ (by assumption) (by assumption) (by assumption) (by assumption) hS9) (cwV 1 hts gL_law_X7_arrives rfl rfl rfl (by decide +kernel) ⟨Nat.le_of_ble_eq_true rfl, Nat.le_of_ble_eq_true rfl⟩) (preVX hNX hK hN hP hD (Sb.r (Sb.r (Sb.r (Sb.r (Sb.r (Sb.r (Sb.r (Sb.r (Sb.r (Sb.r (Sb.r (Sb.r (Sb.r Sb.self))))))))))))) 7 0 rfl rfl) hP hD hS hA (wr := ((wMob om Ad ot ou) ++ ((wTob ot Ad Aw Am Ae xt hou cro) ++ ((wWays D Aw Lw) ++ ((wMul D Am nm Lm) ++ ((wLet D Ae ne Le) ++ ((wRow D xt yt 60 Nt) ++ ((wTob ou Ad Bw Bm Be xu z.2.2.2.2.2.1 z.2.2.2.2.2.2.1) ++ ((wWays D Bw (z.1)) ++ ((wMul D Bm z.2.1 (z.2.2.1)) ++ ((wLet D Be z.2.2.2.1 (z.2.2.2.2.1)) ++ ((wRow D xu yu 60 (z.2.2.2.2.2.2.2)) ++ ((wLand D Ad nsd fogd nrd Ld) ++ (wLar D oq (vp_updL fq 0 (rg 60 ((hgF Lw Ld nsd fogd nm ne (Lm, Le, hou, cro, Nu, true) 300).2.1 9) a1).toInt64))))))))))))))) (fun _ h => h) rfl rfl hl.1 (Nat.le_of_ble_eq_true rfl) ⟨by show _ ≤ 601024; omega, by show _ ≤ 7293034; omega⟩ dL_law_1300 (fun g4 H locs hP hD hS => ?_) rfl
    have hP : va_P D.1 vwCl ((wMob om Ad ot ou) ++ ((wTob ot Ad Aw Am Ae xt hou cro) ++ ((wWays D Aw Lw) ++ ((wMul D Am nm Lm) ++ ((wLet D Ae ne Le) ++ ((wRow D xt yt 60 Nt) ++ ((wTob ou Ad Bw Bm Be xu z.2.2.2.2.2.1 z.2.2.2.2.2.2.1) ++ ((wWays D Bw (z.1)) ++ ((wMul D Bm z.2.1 (z.2.2.1)) ++ ((wLet D Be z.2.2.2.1 (z.2.2.2.2.1)) ++ ((wRow D xu yu 60 (z.2.2.2.2.2.2.2)) ++ ((wLand D Ad nsd fogd nrd Ld) ++ ((wLar D oq (vp_updL fq 0 (rg 60 ((hgF Lw Ld nsd fogd nm ne (Lm, Le, hou, cro, Nu, true) 300).2.1 9) a1).toInt64)) ++ (wMod D (bA Ax (g4 0) (g4 1) (g4 2)) ((par1 Lx nsd fogd nrd nm ne a1).2.1) nsd fogd nrd nm ne ((par1 Lx nsd fogd nrd nm ne a1).2.2))))))))))))))) H := hP
    have hD : va_D A0 ((wMob om Ad ot ou) ++ ((wTob ot Ad Aw Am Ae xt hou cro) ++ ((wWays D Aw Lw) ++ ((wMul D Am nm Lm) ++ ((wLet D Ae ne Le) ++ ((wRow D xt yt 60 Nt) ++ ((wTob ou Ad Bw Bm Be xu z.2.2.2.2.2.1 z.2.2.2.2.2.2.1) ++ ((wWays D Bw (z.1)) ++ ((wMul D Bm z.2.1 (z.2.2.1)) ++ ((wLet D Be z.2.2.2.1 (z.2.2.2.2.1)) ++ ((wRow D xu yu 60 (z.2.2.2.2.2.2.2)) ++ ((wLand D Ad nsd fogd nrd Ld) ++ ((wLar D oq (vp_updL fq 0 (rg 60 ((hgF Lw Ld nsd fogd nm ne (Lm, Le, hou, cro, Nu, true) 300).2.1 9) a1).toInt64)) ++ (wMod D (bA Ax (g4 0) (g4 1) (g4 2)) ((par1 Lx nsd fogd nrd nm ne a1).2.1) nsd fogd nrd nm ne ((par1 Lx nsd fogd nrd nm ne a1).2.2))))))))))))))) := hD
    refine W.eq (g2 := F0 m 1303 ls [.int ((par1 Lx nsd fogd nrd nm ne a1).1)]) rfl ?_
    have r9 := ar_rel (fog := fogd) (N := Nu) (a := a1) hSY (by omega)
    rw [r9.1, hk9] at hP hD
    have hP : va_P D.1 vwCl ((wMob om Ad ot ou) ++ ((wTob ot Ad Aw Am Ae xt hou cro) ++ ((wWays D Aw Lw) ++ ((wMul D Am nm Lm) ++ ((wLet D Ae ne Le) ++ ((wRow D xt yt 60 Nt) ++ ((wTob ou Ad Bw Bm Be xu z.2.2.2.2.2.1 z.2.2.2.2.2.2.1) ++ ((wWays D Bw (z.1)) ++ ((wMul D Bm z.2.1 (z.2.2.1)) ++ ((wLet D Be z.2.2.2.1 (z.2.2.2.2.1)) ++ ((wRow D xu yu 60 (z.2.2.2.2.2.2.2)) ++ ((wLand D Ad nsd fogd nrd Ld) ++ ((wLar D oq (vp_updL fq 0 (rg 60 ((hgF Lw Ld nsd fogd nm ne (Lm, Le, hou, cro, Nu, true) 300).2.1 9) a1).toInt64)) ++ (wMod D (bA Ax (g4 0) (g4 1) (g4 2)) (nI 0) nsd fogd nrd nm ne ((par1 Lx nsd fogd nrd nm ne a1).2.2))))))))))))))) H := hP
    have hD : va_D A0 ((wMob om Ad ot ou) ++ ((wTob ot Ad Aw Am Ae xt hou cro) ++ ((wWays D Aw Lw) ++ ((wMul D Am nm Lm) ++ ((wLet D Ae ne Le) ++ ((wRow D xt yt 60 Nt) ++ ((wTob ou Ad Bw Bm Be xu z.2.2.2.2.2.1 z.2.2.2.2.2.2.1) ++ ((wWays D Bw (z.1)) ++ ((wMul D Bm z.2.1 (z.2.2.1)) ++ ((wLet D Be z.2.2.2.1 (z.2.2.2.2.1)) ++ ((wRow D xu yu 60 (z.2.2.2.2.2.2.2)) ++ ((wLand D Ad nsd fogd nrd Ld) ++ ((wLar D oq (vp_updL fq 0 (rg 60 ((hgF Lw Ld nsd fogd nm ne (Lm, Le, hou, cro, Nu, true) 300).2.1 9) a1).toInt64)) ++ (wMod D (bA Ax (g4 0) (g4 1) (g4 2)) (nI 0) nsd fogd nrd nm ne ((par1 Lx nsd fogd nrd nm ne a1).2.2))))))))))))))) := hD
    refine W.eq (g2 := F0 m 1303 ls [.int (rg 60 ((hgF Lw Ld nsd fogd nm ne (Lm, Le, hou, cro, Nu, true) 300).2.1 9) a1)]) (congrArg (fun zz : Int32 => F0 m 1303 ls [.int zz]) (show (par1 Lx nsd fogd nrd nm ne a1).1 = rg 60 ((hgF Lw Ld nsd fogd nm ne (Lm, Le, hou, cro, Nu, true) 300).2.1 9) a1 from (r9.2.2 hk9).1)) ?_
    refine lv_istore (lv' := [(6, .int (rg 60 ((hgF Lw Ld nsd fogd nm ne (Lm, Le, hou, cro, Nu, true) 300).2.1 9) a1)), (5, .int 0), (4, .int (nI (4 * i))), (0, .ref b), (1, .ref om), (2, .ref (Ax 0)), (3, .ref oq)]) hx hb dL_law_1303 hl (by decide) rfl (fun ls hl => ?_)
    refine lv_aload_n hx hb dL_law_1305 rfl (lv_at hl 5 rfl) ?_
    refine kVp ⟨hx, hb, hml, hown, hts⟩ (c_X7_thrown l D (bA Ax (g4 0) (g4 1) (g4 2)) (nI 0) nsd fogd nrd nm ne ((par1 Lx nsd fogd nrd nm ne a1).2.2)) (cwV 0 hts gL_law_X7_thrown rfl rfl rfl (by decide +kernel) ⟨Nat.le_of_ble_eq_true rfl, Nat.le_of_ble_eq_true rfl⟩) hK hN hP hD (Sb.r (Sb.r (Sb.r (Sb.r (Sb.r (Sb.r (Sb.r (Sb.r (Sb.r (Sb.r (Sb.r (Sb.r (Sb.r Sb.self))))))))))))) 7 0 rfl rfl rfl hl.1 (Nat.le_of_ble_eq_true rfl) ⟨by show _ ≤ 601024; omega, by show _ ≤ 7293034; omega⟩ dL_law_1306 ?_ rfl
    refine lv_iload hx hb dL_law_1309 (lv_at hl 1 rfl) ?_
    refine lv_icmp_eq (tgt := 1316) hx hb dL_law_1311 (by decide) (fun c5 => ?_) (fun c5 => ?_)
    · refine lv_iload hx hb dL_law_1316 (lv_at hl 1 rfl) ?_
      refine lv_if_ne (tgt := 1333) hx hb dL_law_1318 (by decide) (fun c6 => ?_) (fun c6 => ?_)
      · exact absurd c6 (by decide)
      · refine lv_aload_n hx hb dL_law_1321 rfl (lv_at hl 6 rfl) ?_
        refine lv_iconst (v := 0) hx hb dL_law_1322 (by decide) ?_
        refine va_lald (D := D.1) hx hb hK hP 96 1 rfl rfl (i := (0 : Int32)) (vpl (by decide)) dL_law_1323 ?_
        refine W.eq (g2 := F0 m 1324 ls [.long ((rg 60 ((hgF Lw Ld nsd fogd nm ne (Lm, Le, hou, cro, Nu, true) 300).2.1 9) a1).toInt64)]) (congrArg (fun zz : Int64 => F0 m 1324 ls [.long zz]) (show (vp_updL fq 0 (rg 60 ((hgF Lw Ld nsd fogd nm ne (Lm, Le, hou, cro, Nu, true) 300).2.1 9) a1).toInt64) ((0 : Int32).toNatClampNeg) = (rg 60 ((hgF Lw Ld nsd fogd nm ne (Lm, Le, hou, cro, Nu, true) 300).2.1 9) a1).toInt64 from pk_uLs)) ?_
        refine lv_iload hx hb dL_law_1324 (lv_at hl 0 rfl) ?_
        refine lv_i2l hx hb dL_law_1326 rfl ?_
        refine W.lcmp hx hb dL_law_1327 ?_
        refine W.eq (g2 := F0 m 1328 ls [.int 0]) (congrArg (fun zz : Int32 => F0 m 1328 ls [.int zz]) (lcmp0 _)) ?_
        refine lv_if_eq (tgt := 1333) hx hb dL_law_1328 (by decide) (fun c7 => ?_) (fun c7 => ?_)
        · refine lv_goto (tgt := 1447) hx hb dL_law_1333 (by decide) ?_
          refine lv_iinc (v := ((nI (4 * i)) + 4)) (lv' := [(4, .int ((nI (4 * i)) + 4)), (6, .int (rg 60 ((hgF Lw Ld nsd fogd nm ne (Lm, Le, hou, cro, Nu, true) 300).2.1 9) a1)), (5, .int 0), (0, .ref b), (1, .ref om), (2, .ref (Ax 0)), (3, .ref oq)]) hx hb dL_law_1447 hl (k := 2) rfl rfl (by decide) rfl (fun ls hl => ?_)
          rw [show nI (4 * i) + 4 = nI (4 * (i + 1)) from nI_add (4 * i) 4] at hl
          refine lv_goto (tgt := 23) hx hb dL_law_1450 (by decide) ?_
          refine W.widen (k := 200 + 81 * (i + 1)) (n := 9000 + 11700 * (i + 1)) (by omega) (by omega) ?_
          exact ih (bA Ax (g4 0) (g4 1) (g4 2)) hou cro Lw nm Lm ne Le Nt z.2.2.2.2.2.1 z.2.2.2.2.2.2.1 (z.1) z.2.1 (z.2.2.1) z.2.2.2.1 (z.2.2.2.2.1) (z.2.2.2.2.2.2.2) nsd fogd nrd Ld (vp_updL fq 0 (rg 60 ((hgF Lw Ld nsd fogd nm ne (Lm, Le, hou, cro, Nu, true) 300).2.1 9) a1).toInt64) (nI 0) ((par1 Lx nsd fogd nrd nm ne a1).2.2) h (r9.2.2 hk9).2 (by omega) H locs hP hD hS ls (lv_sub hl [0, 3, 4, 5, 6] rfl)
        · exact absurd c7 (by decide)
    · exact (c5 (by first | rfl | decide)).elim

set_option maxHeartbeats 4000000 in
set_option maxRecDepth 100000 in
theorem law_c17 {p : Program} {l : Launch} {e : Env} {s : State} {m : MethodId} {below : List Frame} {meth : Method} {c : Code} {D : GG} {b L : Nat} {xs : Nat → Int32} {A0 : Nat → Prop} {om ot ou oq xt yt xu yu : Nat} {Ad Aw Am Ae Bw Bm Be : Nat → Nat} (X : LX p l s m meth c D b L xs A0) {i : Nat} (hi : 4 * i + 4 ≤ L) (ih : LG p l e s m below meth c D b L xs A0 om ot ou oq xt yt xu yu Ad Aw Am Ae Bw Bm Be (i + 1)) {a1 a2 a3 : Int32} (ea1 : xs (nI (4 * i) + 1).toNatClampNeg = a1) (ea2 : xs (nI (4 * i) + 2).toNatClampNeg = a2) (ea3 : xs (nI (4 * i) + 3).toNatClampNeg = a3)
    (Ax : Nat → Nat) (hou cro : Int32) (Lw : Fm) (nm : Nat) (Lm : Fm) (ne : Nat) (Le : Fm) (Nt : Rw) (hou2 cro2 : Int32) (Kw : Fm) (nm2 : Nat) (Km : Fm) (ne2 : Nat) (Ke : Fm) (Nu : Rw) (nsd : Nat) (fogd : Int32) (nrd : Nat) (Ld : Fm) (fq : Nat → Int64) (th : Int32) (Lx : Fm) (h : Nat) (hSY : SY Lw Ld Lm Le hou cro Lx nsd nrd nm ne h) (hh : h ≤ 100 * i) (H : Heap) (locs : List Loc) (hP : va_P D.1 vwCl ((wMob om Ad ot ou) ++ ((wTob ot Ad Aw Am Ae xt hou cro) ++ ((wWays D Aw Lw) ++ ((wMul D Am nm Lm) ++ ((wLet D Ae ne Le) ++ ((wRow D xt yt 60 Nt) ++ ((wTob ou Ad Bw Bm Be xu hou2 cro2) ++ ((wWays D Bw Kw) ++ ((wMul D Bm nm2 Km) ++ ((wLet D Be ne2 Ke) ++ ((wRow D xu yu 60 Nu) ++ ((wLand D Ad nsd fogd nrd Ld) ++ ((wLar D oq fq) ++ (wMod D Ax th nsd fogd nrd nm ne Lx)))))))))))))) H) (hD : va_D A0 ((wMob om Ad ot ou) ++ ((wTob ot Ad Aw Am Ae xt hou cro) ++ ((wWays D Aw Lw) ++ ((wMul D Am nm Lm) ++ ((wLet D Ae ne Le) ++ ((wRow D xt yt 60 Nt) ++ ((wTob ou Ad Bw Bm Be xu hou2 cro2) ++ ((wWays D Bw Kw) ++ ((wMul D Bm nm2 Km) ++ ((wLet D Be ne2 Ke) ++ ((wRow D xu yu 60 Nu) ++ ((wLand D Ad nsd fogd nrd Ld) ++ ((wLar D oq fq) ++ (wMod D Ax th nsd fogd nrd nm ne Lx))))))))))))))) (hS : va_S A0 s.heap H locs) (ls : Array Slot) (hl : lv_has ls 9 [(4, .int (nI (4 * i))), (0, .ref b), (1, .ref om), (2, .ref (Ax 0)), (3, .ref oq)]) : W p l e room_1 s m #[Value.ref b] below meth c H locs (200 + 81 * i) (9000 + 11700 * i) (lw_Z below #[Value.ref b] s) (F0 m 1336 ls []) := by
  obtain ⟨hx, hb, hr, hml, hown, hts, hX, hbl, hbA, hlocks, hl9, hCX, hSX, hTX, hZX, hNX, hK, hN, hA, -, hL⟩ := X
  have hS9 : okS Lx nsd nrd nm ne := okS_rel hSY.1
  have b10 : nsd ≤ 10 := hSY.1.1.1
  have b15 : nrd ≤ 15 := hSY.1.1.2.1
  have b12 : nm ≤ 12 := hSY.1.2.2.1.1
  have b60 : ne ≤ 60 := hSY.1.2.2.2.1
  have hrE : rE Le Lx ne := hSY.1.2.2.2.2.2.2.2.2.2.1
  have he : ne < 2 ^ 31 := by omega
  have hm : nm < 2 ^ 31 := by omega
  have hns : nsd < 2 ^ 31 := by omega
  have hnr : nrd < 2 ^ 31 := by omega
  refine lv_aload_n hx hb dL_law_1336 rfl (lv_at hl 2 rfl) ?_
  refine lv_aload_n hx hb dL_law_1337 rfl (lv_at hl 1 rfl) ?_
  refine lv_iload hx hb dL_law_1338 (lv_at hl 0 rfl) ?_
  refine lv_iconst (v := 1) hx hb dL_law_1340 (by decide) ?_
  refine lv_iadd hx hb dL_law_1341 ?_
  refine va_sld hx hb hX hbl hbA hS (i := ((nI (4 * i)) + 1)) (inS1 hi hL) dL_law_1342 ?_
  refine W.eq (g2 := F0 m 1343 ls [.int a1, .ref om]) (congrArg (fun zz : Int32 => F0 m 1343 ls [.int zz, .ref om]) ea1) ?_
  refine lv_aload_n hx hb dL_law_1343 rfl (lv_at hl 4 rfl) ?_
  refine kSL ⟨hx, hb, hml, hown, hts⟩ (c_L_advise l D om Ad ot ou Aw Am Ae xt hou cro Lw nm Lm ne Le yt Nt Bw Bm Be xu hou2 cro2 Kw nm2 Km ne2 Ke yu Nu nsd fogd nrd Ld oq fq a1 _ (by assumption) (by assumption) (by assumption) (by assumption) (by assumption) hl9) (vx_cwSW 3 hts gL_law_L_advise rfl rfl rfl (by decide +kernel) ⟨Nat.le_of_ble_eq_true rfl, Nat.le_of_ble_eq_true rfl⟩) hCX hSX hTX hZX hNX hK hN hP hD hS hA (fun z => (Fr.app (Fr.kp Sb.self) (Fr.app (Fr.kp Sb.self) (Fr.app (Fr.kp Sb.self) (Fr.app (Fr.kp Sb.self) (Fr.app (Fr.kp Sb.self) (Fr.app (Fr.kp Sb.self) (Fr.app frsTob (Fr.app frsWays (Fr.app frsMul (Fr.app frsLet (Fr.app frsRow (Fr.app (Fr.kp Sb.self) (Fr.l frsLar)))))))))))))) (Sb.app Sb.self (Sb.app Sb.self (Sb.app Sb.self (Sb.app Sb.self (Sb.app Sb.self (Sb.app Sb.self (Sb.app Sb.self (Sb.app Sb.self (Sb.app Sb.self (Sb.app Sb.self (Sb.app Sb.self (Sb.app Sb.self (Sb.l Sb.self))))))))))))) rfl hl.1 (Nat.le_of_ble_eq_true rfl) ⟨by show _ ≤ 601024; omega, by show _ ≤ 7293034; omega⟩ dL_law_1344 (fun H locs hk9 hP hD hS => ?_) (fun z H locs hk9 hP hD hS => ?_) rfl
  · have hP : va_P D.1 vwCl ((wMob om Ad ot ou) ++ ((wTob ot Ad Aw Am Ae xt hou cro) ++ ((wWays D Aw Lw) ++ ((wMul D Am nm Lm) ++ ((wLet D Ae ne Le) ++ ((wRow D xt yt 60 Nt) ++ ((wTob ou Ad Bw Bm Be xu hou2 cro2) ++ ((wWays D Bw Kw) ++ ((wMul D Bm nm2 Km) ++ ((wLet D Be ne2 Ke) ++ ((wRow D xu yu 60 Nu) ++ ((wLand D Ad nsd fogd nrd Ld) ++ ((wLar D oq fq) ++ (wMod D Ax th nsd fogd nrd nm ne Lx)))))))))))))) H := hP
    have hD : va_D A0 ((wMob om Ad ot ou) ++ ((wTob ot Ad Aw Am Ae xt hou cro) ++ ((wWays D Aw Lw) ++ ((wMul D Am nm Lm) ++ ((wLet D Ae ne Le) ++ ((wRow D xt yt 60 Nt) ++ ((wTob ou Ad Bw Bm Be xu hou2 cro2) ++ ((wWays D Bw Kw) ++ ((wMul D Bm nm2 Km) ++ ((wLet D Be ne2 Ke) ++ ((wRow D xu yu 60 Nu) ++ ((wLand D Ad nsd fogd nrd Ld) ++ ((wLar D oq fq) ++ (wMod D Ax th nsd fogd nrd nm ne Lx)))))))))))))) := hD
    refine lv_istore (lv' := [(5, .int (nI (kAD nm a1))), (4, .int (nI (4 * i))), (0, .ref b), (1, .ref om), (2, .ref (Ax 0)), (3, .ref oq)]) hx hb dL_law_1347 hl (by decide) rfl (fun ls hl => ?_)
    refine lv_aload_n hx hb dL_law_1349 rfl (lv_at hl 4 rfl) ?_
    refine lv_aload_n hx hb dL_law_1350 rfl (lv_at hl 2 rfl) ?_
    refine lv_iload hx hb dL_law_1351 (lv_at hl 1 rfl) ?_
    refine lv_iconst (v := 1) hx hb dL_law_1353 (by decide) ?_
    refine lv_iadd hx hb dL_law_1354 ?_
    refine va_sld hx hb hX hbl hbA hS (i := ((nI (4 * i)) + 1)) (inS1 hi hL) dL_law_1355 ?_
    refine W.eq (g2 := F0 m 1356 ls [.int a1, .ref (Ax 0)]) (congrArg (fun zz : Int32 => F0 m 1356 ls [.int zz, .ref (Ax 0)]) ea1) ?_
    refine kVx ⟨hx, hb, hml, hown, hts⟩ (c_X7_advise l D Ax th nsd fogd nrd nm ne Lx a1 _ (by assumption) (by assumption) (by assumption) (by assumption) hS9) (cwV 1 hts gL_law_X7_advise rfl rfl rfl (by decide +kernel) ⟨Nat.le_of_ble_eq_true rfl, Nat.le_of_ble_eq_true rfl⟩) (preVX hNX hK hN hP hD (Sb.r (Sb.r (Sb.r (Sb.r (Sb.r (Sb.r (Sb.r (Sb.r (Sb.r (Sb.r (Sb.r (Sb.r (Sb.r Sb.self))))))))))))) 7 0 rfl rfl) hP hD hS hA (wr := ((wMob om Ad ot ou) ++ ((wTob ot Ad Aw Am Ae xt hou cro) ++ ((wWays D Aw Lw) ++ ((wMul D Am nm Lm) ++ ((wLet D Ae ne Le) ++ ((wRow D xt yt 60 Nt) ++ ((wTob ou Ad Bw Bm Be xu hou2 cro2) ++ ((wWays D Bw Kw) ++ ((wMul D Bm nm2 Km) ++ ((wLet D Be ne2 Ke) ++ ((wRow D xu yu 60 Nu) ++ ((wLand D Ad nsd fogd nrd Ld) ++ (wLar D oq fq)))))))))))))) (fun _ h => h) rfl rfl hl.1 (Nat.le_of_ble_eq_true rfl) ⟨by show _ ≤ 601024; omega, by show _ ≤ 7293034; omega⟩ dL_law_1356 (fun g1 H locs hP hD hS => ?_) rfl
    have hP : va_P D.1 vwCl ((wMob om Ad ot ou) ++ ((wTob ot Ad Aw Am Ae xt hou cro) ++ ((wWays D Aw Lw) ++ ((wMul D Am nm Lm) ++ ((wLet D Ae ne Le) ++ ((wRow D xt yt 60 Nt) ++ ((wTob ou Ad Bw Bm Be xu hou2 cro2) ++ ((wWays D Bw Kw) ++ ((wMul D Bm nm2 Km) ++ ((wLet D Be ne2 Ke) ++ ((wRow D xu yu 60 Nu) ++ ((wLand D Ad nsd fogd nrd Ld) ++ ((wLar D oq fq) ++ (wMod D (bA Ax (g1 0) (g1 1) (g1 2)) ((pad Lx nsd fogd nrd nm ne a1).2.1) nsd fogd nrd nm ne ((pad Lx nsd fogd nrd nm ne a1).2.2))))))))))))))) H := hP
    have hD : va_D A0 ((wMob om Ad ot ou) ++ ((wTob ot Ad Aw Am Ae xt hou cro) ++ ((wWays D Aw Lw) ++ ((wMul D Am nm Lm) ++ ((wLet D Ae ne Le) ++ ((wRow D xt yt 60 Nt) ++ ((wTob ou Ad Bw Bm Be xu hou2 cro2) ++ ((wWays D Bw Kw) ++ ((wMul D Bm nm2 Km) ++ ((wLet D Be ne2 Ke) ++ ((wRow D xu yu 60 Nu) ++ ((wLand D Ad nsd fogd nrd Ld) ++ ((wLar D oq fq) ++ (wMod D (bA Ax (g1 0) (g1 1) (g1 2)) ((pad Lx nsd fogd nrd nm ne a1).2.1) nsd fogd nrd nm ne ((pad Lx nsd fogd nrd nm ne a1).2.2))))))))))))))) := hD
    refine W.eq (g2 := F0 m 1359 ls [.int ((pad Lx nsd fogd nrd nm ne a1).1)]) rfl ?_
    have r9 := ad_rel (fog := fogd) (N := Nu) (p := a1) hSY (by omega)
    rw [r9.1, r9.2.1 hk9] at hP hD
    have hP : va_P D.1 vwCl ((wMob om Ad ot ou) ++ ((wTob ot Ad Aw Am Ae xt hou cro) ++ ((wWays D Aw Lw) ++ ((wMul D Am nm Lm) ++ ((wLet D Ae ne Le) ++ ((wRow D xt yt 60 Nt) ++ ((wTob ou Ad Bw Bm Be xu hou2 cro2) ++ ((wWays D Bw Kw) ++ ((wMul D Bm nm2 Km) ++ ((wLet D Be ne2 Ke) ++ ((wRow D xu yu 60 Nu) ++ ((wLand D Ad nsd fogd nrd Ld) ++ ((wLar D oq fq) ++ (wMod D (bA Ax (g1 0) (g1 1) (g1 2)) (nI (kAD nm a1)) nsd fogd nrd nm ne Lx)))))))))))))) H := hP
    have hD : va_D A0 ((wMob om Ad ot ou) ++ ((wTob ot Ad Aw Am Ae xt hou cro) ++ ((wWays D Aw Lw) ++ ((wMul D Am nm Lm) ++ ((wLet D Ae ne Le) ++ ((wRow D xt yt 60 Nt) ++ ((wTob ou Ad Bw Bm Be xu hou2 cro2) ++ ((wWays D Bw Kw) ++ ((wMul D Bm nm2 Km) ++ ((wLet D Be ne2 Ke) ++ ((wRow D xu yu 60 Nu) ++ ((wLand D Ad nsd fogd nrd Ld) ++ ((wLar D oq fq) ++ (wMod D (bA Ax (g1 0) (g1 1) (g1 2)) (nI (kAD nm a1)) nsd fogd nrd nm ne Lx)))))))))))))) := hD
    refine lv_istore (lv' := [(6, .int ((pad Lx nsd fogd nrd nm ne a1).1)), (5, .int (nI (kAD nm a1))), (4, .int (nI (4 * i))), (0, .ref b), (1, .ref om), (2, .ref (Ax 0)), (3, .ref oq)]) hx hb dL_law_1359 hl (by decide) rfl (fun ls hl => ?_)
    refine lv_aload_n hx hb dL_law_1361 rfl (lv_at hl 5 rfl) ?_
    refine kVp ⟨hx, hb, hml, hown, hts⟩ (c_X7_thrown l D (bA Ax (g1 0) (g1 1) (g1 2)) (nI (kAD nm a1)) nsd fogd nrd nm ne Lx) (cwV 0 hts gL_law_X7_thrown rfl rfl rfl (by decide +kernel) ⟨Nat.le_of_ble_eq_true rfl, Nat.le_of_ble_eq_true rfl⟩) hK hN hP hD (Sb.r (Sb.r (Sb.r (Sb.r (Sb.r (Sb.r (Sb.r (Sb.r (Sb.r (Sb.r (Sb.r (Sb.r (Sb.r Sb.self))))))))))))) 7 0 rfl rfl rfl hl.1 (Nat.le_of_ble_eq_true rfl) ⟨by show _ ≤ 601024; omega, by show _ ≤ 7293034; omega⟩ dL_law_1362 ?_ rfl
    refine lv_iload hx hb dL_law_1365 (lv_at hl 1 rfl) ?_
    refine lv_icmp_eq (tgt := 1372) hx hb dL_law_1367 (by decide) (fun c2 => ?_) (fun c2 => ?_)
    · refine lv_iload hx hb dL_law_1372 (lv_at hl 1 rfl) ?_
      refine lv_if_ne (tgt := 1389) hx hb dL_law_1374 (by decide) (fun c3 => ?_) (fun c3 => ?_)
      · refine lv_goto (tgt := 1447) hx hb dL_law_1389 (by decide) ?_
        refine lv_iinc (v := ((nI (4 * i)) + 4)) (lv' := [(4, .int ((nI (4 * i)) + 4)), (6, .int ((pad Lx nsd fogd nrd nm ne a1).1)), (5, .int (nI (kAD nm a1))), (0, .ref b), (1, .ref om), (2, .ref (Ax 0)), (3, .ref oq)]) hx hb dL_law_1447 hl (k := 2) rfl rfl (by decide) rfl (fun ls hl => ?_)
        rw [show nI (4 * i) + 4 = nI (4 * (i + 1)) from nI_add (4 * i) 4] at hl
        refine lv_goto (tgt := 23) hx hb dL_law_1450 (by decide) ?_
        refine W.widen (k := 200 + 81 * (i + 1)) (n := 9000 + 11700 * (i + 1)) (by omega) (by omega) ?_
        exact ih (bA Ax (g1 0) (g1 1) (g1 2)) hou cro Lw nm Lm ne Le Nt hou2 cro2 Kw nm2 Km ne2 Ke Nu nsd fogd nrd Ld fq (nI (kAD nm a1)) Lx h hSY (by omega) H locs hP hD hS ls (lv_sub hl [0, 3, 4, 5, 6] rfl)
      · exact (nI_ne0 (Nat.pos_of_ne_zero hk9) (Nat.lt_of_le_of_lt (kAD_b _ _) (by decide)) c3).elim
    · exact (c2 (by first | rfl | decide)).elim
  · have hP : va_P D.1 vwCl ((wMob om Ad ot ou) ++ ((wTob ot Ad Aw Am Ae xt hou cro) ++ ((wWays D Aw Lw) ++ ((wMul D Am nm Lm) ++ ((wLet D Ae ne Le) ++ ((wRow D xt yt 60 Nt) ++ ((wTob ou Ad Bw Bm Be xu z.2.2.2.2.2.1 z.2.2.2.2.2.2.1) ++ ((wWays D Bw (z.1)) ++ ((wMul D Bm z.2.1 (z.2.2.1)) ++ ((wLet D Be z.2.2.2.1 (z.2.2.2.2.1)) ++ ((wRow D xu yu 60 (z.2.2.2.2.2.2.2)) ++ ((wLand D Ad nsd fogd nrd Ld) ++ ((wLar D oq (vp_updL fq 0 ((adN Lw Ld nsd fogd nrd nm ne Lm Le hou cro Nu a1.toNatClampNeg nrd).1).toInt64)) ++ (wMod D Ax th nsd fogd nrd nm ne Lx)))))))))))))) H := hP
    have hD : va_D A0 ((wMob om Ad ot ou) ++ ((wTob ot Ad Aw Am Ae xt hou cro) ++ ((wWays D Aw Lw) ++ ((wMul D Am nm Lm) ++ ((wLet D Ae ne Le) ++ ((wRow D xt yt 60 Nt) ++ ((wTob ou Ad Bw Bm Be xu z.2.2.2.2.2.1 z.2.2.2.2.2.2.1) ++ ((wWays D Bw (z.1)) ++ ((wMul D Bm z.2.1 (z.2.2.1)) ++ ((wLet D Be z.2.2.2.1 (z.2.2.2.2.1)) ++ ((wRow D xu yu 60 (z.2.2.2.2.2.2.2)) ++ ((wLand D Ad nsd fogd nrd Ld) ++ ((wLar D oq (vp_updL fq 0 ((adN Lw Ld nsd fogd nrd nm ne Lm Le hou cro Nu a1.toNatClampNeg nrd).1).toInt64)) ++ (wMod D Ax th nsd fogd nrd nm ne Lx)))))))))))))) := hD
    refine lv_istore (lv' := [(5, .int 0), (4, .int (nI (4 * i))), (0, .ref b), (1, .ref om), (2, .ref (Ax 0)), (3, .ref oq)]) hx hb dL_law_1347 hl (by decide) rfl (fun ls hl => ?_)
    refine lv_aload_n hx hb dL_law_1349 rfl (lv_at hl 4 rfl) ?_
    refine lv_aload_n hx hb dL_law_1350 rfl (lv_at hl 2 rfl) ?_
    refine lv_iload hx hb dL_law_1351 (lv_at hl 1 rfl) ?_
    refine lv_iconst (v := 1) hx hb dL_law_1353 (by decide) ?_
    refine lv_iadd hx hb dL_law_1354 ?_
    refine va_sld hx hb hX hbl hbA hS (i := ((nI (4 * i)) + 1)) (inS1 hi hL) dL_law_1355 ?_
    refine W.eq (g2 := F0 m 1356 ls [.int a1, .ref (Ax 0)]) (congrArg (fun zz : Int32 => F0 m 1356 ls [.int zz, .ref (Ax 0)]) ea1) ?_
    refine kVx ⟨hx, hb, hml, hown, hts⟩ (c_X7_advise l D Ax th nsd fogd nrd nm ne Lx a1 _ (by assumption) (by assumption) (by assumption) (by assumption) hS9) (cwV 1 hts gL_law_X7_advise rfl rfl rfl (by decide +kernel) ⟨Nat.le_of_ble_eq_true rfl, Nat.le_of_ble_eq_true rfl⟩) (preVX hNX hK hN hP hD (Sb.r (Sb.r (Sb.r (Sb.r (Sb.r (Sb.r (Sb.r (Sb.r (Sb.r (Sb.r (Sb.r (Sb.r (Sb.r Sb.self))))))))))))) 7 0 rfl rfl) hP hD hS hA (wr := ((wMob om Ad ot ou) ++ ((wTob ot Ad Aw Am Ae xt hou cro) ++ ((wWays D Aw Lw) ++ ((wMul D Am nm Lm) ++ ((wLet D Ae ne Le) ++ ((wRow D xt yt 60 Nt) ++ ((wTob ou Ad Bw Bm Be xu z.2.2.2.2.2.1 z.2.2.2.2.2.2.1) ++ ((wWays D Bw (z.1)) ++ ((wMul D Bm z.2.1 (z.2.2.1)) ++ ((wLet D Be z.2.2.2.1 (z.2.2.2.2.1)) ++ ((wRow D xu yu 60 (z.2.2.2.2.2.2.2)) ++ ((wLand D Ad nsd fogd nrd Ld) ++ (wLar D oq (vp_updL fq 0 ((adN Lw Ld nsd fogd nrd nm ne Lm Le hou cro Nu a1.toNatClampNeg nrd).1).toInt64))))))))))))))) (fun _ h => h) rfl rfl hl.1 (Nat.le_of_ble_eq_true rfl) ⟨by show _ ≤ 601024; omega, by show _ ≤ 7293034; omega⟩ dL_law_1356 (fun g4 H locs hP hD hS => ?_) rfl
    have hP : va_P D.1 vwCl ((wMob om Ad ot ou) ++ ((wTob ot Ad Aw Am Ae xt hou cro) ++ ((wWays D Aw Lw) ++ ((wMul D Am nm Lm) ++ ((wLet D Ae ne Le) ++ ((wRow D xt yt 60 Nt) ++ ((wTob ou Ad Bw Bm Be xu z.2.2.2.2.2.1 z.2.2.2.2.2.2.1) ++ ((wWays D Bw (z.1)) ++ ((wMul D Bm z.2.1 (z.2.2.1)) ++ ((wLet D Be z.2.2.2.1 (z.2.2.2.2.1)) ++ ((wRow D xu yu 60 (z.2.2.2.2.2.2.2)) ++ ((wLand D Ad nsd fogd nrd Ld) ++ ((wLar D oq (vp_updL fq 0 ((adN Lw Ld nsd fogd nrd nm ne Lm Le hou cro Nu a1.toNatClampNeg nrd).1).toInt64)) ++ (wMod D (bA Ax (g4 0) (g4 1) (g4 2)) ((pad Lx nsd fogd nrd nm ne a1).2.1) nsd fogd nrd nm ne ((pad Lx nsd fogd nrd nm ne a1).2.2))))))))))))))) H := hP
    have hD : va_D A0 ((wMob om Ad ot ou) ++ ((wTob ot Ad Aw Am Ae xt hou cro) ++ ((wWays D Aw Lw) ++ ((wMul D Am nm Lm) ++ ((wLet D Ae ne Le) ++ ((wRow D xt yt 60 Nt) ++ ((wTob ou Ad Bw Bm Be xu z.2.2.2.2.2.1 z.2.2.2.2.2.2.1) ++ ((wWays D Bw (z.1)) ++ ((wMul D Bm z.2.1 (z.2.2.1)) ++ ((wLet D Be z.2.2.2.1 (z.2.2.2.2.1)) ++ ((wRow D xu yu 60 (z.2.2.2.2.2.2.2)) ++ ((wLand D Ad nsd fogd nrd Ld) ++ ((wLar D oq (vp_updL fq 0 ((adN Lw Ld nsd fogd nrd nm ne Lm Le hou cro Nu a1.toNatClampNeg nrd).1).toInt64)) ++ (wMod D (bA Ax (g4 0) (g4 1) (g4 2)) ((pad Lx nsd fogd nrd nm ne a1).2.1) nsd fogd nrd nm ne ((pad Lx nsd fogd nrd nm ne a1).2.2))))))))))))))) := hD
    refine W.eq (g2 := F0 m 1359 ls [.int ((pad Lx nsd fogd nrd nm ne a1).1)]) rfl ?_
    have r9 := ad_rel (fog := fogd) (N := Nu) (p := a1) hSY (by omega)
    rw [r9.1, hk9] at hP hD
    have hP : va_P D.1 vwCl ((wMob om Ad ot ou) ++ ((wTob ot Ad Aw Am Ae xt hou cro) ++ ((wWays D Aw Lw) ++ ((wMul D Am nm Lm) ++ ((wLet D Ae ne Le) ++ ((wRow D xt yt 60 Nt) ++ ((wTob ou Ad Bw Bm Be xu z.2.2.2.2.2.1 z.2.2.2.2.2.2.1) ++ ((wWays D Bw (z.1)) ++ ((wMul D Bm z.2.1 (z.2.2.1)) ++ ((wLet D Be z.2.2.2.1 (z.2.2.2.2.1)) ++ ((wRow D xu yu 60 (z.2.2.2.2.2.2.2)) ++ ((wLand D Ad nsd fogd nrd Ld) ++ ((wLar D oq (vp_updL fq 0 ((adN Lw Ld nsd fogd nrd nm ne Lm Le hou cro Nu a1.toNatClampNeg nrd).1).toInt64)) ++ (wMod D (bA Ax (g4 0) (g4 1) (g4 2)) (nI 0) nsd fogd nrd nm ne ((pad Lx nsd fogd nrd nm ne a1).2.2))))))))))))))) H := hP
    have hD : va_D A0 ((wMob om Ad ot ou) ++ ((wTob ot Ad Aw Am Ae xt hou cro) ++ ((wWays D Aw Lw) ++ ((wMul D Am nm Lm) ++ ((wLet D Ae ne Le) ++ ((wRow D xt yt 60 Nt) ++ ((wTob ou Ad Bw Bm Be xu z.2.2.2.2.2.1 z.2.2.2.2.2.2.1) ++ ((wWays D Bw (z.1)) ++ ((wMul D Bm z.2.1 (z.2.2.1)) ++ ((wLet D Be z.2.2.2.1 (z.2.2.2.2.1)) ++ ((wRow D xu yu 60 (z.2.2.2.2.2.2.2)) ++ ((wLand D Ad nsd fogd nrd Ld) ++ ((wLar D oq (vp_updL fq 0 ((adN Lw Ld nsd fogd nrd nm ne Lm Le hou cro Nu a1.toNatClampNeg nrd).1).toInt64)) ++ (wMod D (bA Ax (g4 0) (g4 1) (g4 2)) (nI 0) nsd fogd nrd nm ne ((pad Lx nsd fogd nrd nm ne a1).2.2))))))))))))))) := hD
    refine W.eq (g2 := F0 m 1359 ls [.int ((adN Lw Ld nsd fogd nrd nm ne Lm Le hou cro Nu a1.toNatClampNeg nrd).1)]) (congrArg (fun zz : Int32 => F0 m 1359 ls [.int zz]) (show (pad Lx nsd fogd nrd nm ne a1).1 = (adN Lw Ld nsd fogd nrd nm ne Lm Le hou cro Nu a1.toNatClampNeg nrd).1 from (r9.2.2 hk9).1)) ?_
    refine lv_istore (lv' := [(6, .int ((adN Lw Ld nsd fogd nrd nm ne Lm Le hou cro Nu a1.toNatClampNeg nrd).1)), (5, .int 0), (4, .int (nI (4 * i))), (0, .ref b), (1, .ref om), (2, .ref (Ax 0)), (3, .ref oq)]) hx hb dL_law_1359 hl (by decide) rfl (fun ls hl => ?_)
    refine lv_aload_n hx hb dL_law_1361 rfl (lv_at hl 5 rfl) ?_
    refine kVp ⟨hx, hb, hml, hown, hts⟩ (c_X7_thrown l D (bA Ax (g4 0) (g4 1) (g4 2)) (nI 0) nsd fogd nrd nm ne ((pad Lx nsd fogd nrd nm ne a1).2.2)) (cwV 0 hts gL_law_X7_thrown rfl rfl rfl (by decide +kernel) ⟨Nat.le_of_ble_eq_true rfl, Nat.le_of_ble_eq_true rfl⟩) hK hN hP hD (Sb.r (Sb.r (Sb.r (Sb.r (Sb.r (Sb.r (Sb.r (Sb.r (Sb.r (Sb.r (Sb.r (Sb.r (Sb.r Sb.self))))))))))))) 7 0 rfl rfl rfl hl.1 (Nat.le_of_ble_eq_true rfl) ⟨by show _ ≤ 601024; omega, by show _ ≤ 7293034; omega⟩ dL_law_1362 ?_ rfl
    refine lv_iload hx hb dL_law_1365 (lv_at hl 1 rfl) ?_
    refine lv_icmp_eq (tgt := 1372) hx hb dL_law_1367 (by decide) (fun c5 => ?_) (fun c5 => ?_)
    · refine lv_iload hx hb dL_law_1372 (lv_at hl 1 rfl) ?_
      refine lv_if_ne (tgt := 1389) hx hb dL_law_1374 (by decide) (fun c6 => ?_) (fun c6 => ?_)
      · exact absurd c6 (by decide)
      · refine lv_aload_n hx hb dL_law_1377 rfl (lv_at hl 6 rfl) ?_
        refine lv_iconst (v := 0) hx hb dL_law_1378 (by decide) ?_
        refine va_lald (D := D.1) hx hb hK hP 96 1 rfl rfl (i := (0 : Int32)) (vpl (by decide)) dL_law_1379 ?_
        refine W.eq (g2 := F0 m 1380 ls [.long (((adN Lw Ld nsd fogd nrd nm ne Lm Le hou cro Nu a1.toNatClampNeg nrd).1).toInt64)]) (congrArg (fun zz : Int64 => F0 m 1380 ls [.long zz]) (show (vp_updL fq 0 ((adN Lw Ld nsd fogd nrd nm ne Lm Le hou cro Nu a1.toNatClampNeg nrd).1).toInt64) ((0 : Int32).toNatClampNeg) = ((adN Lw Ld nsd fogd nrd nm ne Lm Le hou cro Nu a1.toNatClampNeg nrd).1).toInt64 from pk_uLs)) ?_
        refine lv_iload hx hb dL_law_1380 (lv_at hl 0 rfl) ?_
        refine lv_i2l hx hb dL_law_1382 rfl ?_
        refine W.lcmp hx hb dL_law_1383 ?_
        refine W.eq (g2 := F0 m 1384 ls [.int 0]) (congrArg (fun zz : Int32 => F0 m 1384 ls [.int zz]) (lcmp0 _)) ?_
        refine lv_if_eq (tgt := 1389) hx hb dL_law_1384 (by decide) (fun c7 => ?_) (fun c7 => ?_)
        · refine lv_goto (tgt := 1447) hx hb dL_law_1389 (by decide) ?_
          refine lv_iinc (v := ((nI (4 * i)) + 4)) (lv' := [(4, .int ((nI (4 * i)) + 4)), (6, .int ((adN Lw Ld nsd fogd nrd nm ne Lm Le hou cro Nu a1.toNatClampNeg nrd).1)), (5, .int 0), (0, .ref b), (1, .ref om), (2, .ref (Ax 0)), (3, .ref oq)]) hx hb dL_law_1447 hl (k := 2) rfl rfl (by decide) rfl (fun ls hl => ?_)
          rw [show nI (4 * i) + 4 = nI (4 * (i + 1)) from nI_add (4 * i) 4] at hl
          refine lv_goto (tgt := 23) hx hb dL_law_1450 (by decide) ?_
          refine W.widen (k := 200 + 81 * (i + 1)) (n := 9000 + 11700 * (i + 1)) (by omega) (by omega) ?_
          exact ih (bA Ax (g4 0) (g4 1) (g4 2)) hou cro Lw nm Lm ne Le Nt z.2.2.2.2.2.1 z.2.2.2.2.2.2.1 (z.1) z.2.1 (z.2.2.1) z.2.2.2.1 (z.2.2.2.2.1) (z.2.2.2.2.2.2.2) nsd fogd nrd Ld (vp_updL fq 0 ((adN Lw Ld nsd fogd nrd nm ne Lm Le hou cro Nu a1.toNatClampNeg nrd).1).toInt64) (nI 0) ((pad Lx nsd fogd nrd nm ne a1).2.2) h (r9.2.2 hk9).2 (by omega) H locs hP hD hS ls (lv_sub hl [0, 3, 4, 5, 6] rfl)
        · exact absurd c7 (by decide)
    · exact (c5 (by first | rfl | decide)).elim

set_option maxHeartbeats 4000000 in
set_option maxRecDepth 100000 in
theorem law_c18 {p : Program} {l : Launch} {e : Env} {s : State} {m : MethodId} {below : List Frame} {meth : Method} {c : Code} {D : GG} {b L : Nat} {xs : Nat → Int32} {A0 : Nat → Prop} {om ot ou oq xt yt xu yu : Nat} {Ad Aw Am Ae Bw Bm Be : Nat → Nat} (X : LX p l s m meth c D b L xs A0) {i : Nat} (hi : 4 * i + 4 ≤ L) (ih : LG p l e s m below meth c D b L xs A0 om ot ou oq xt yt xu yu Ad Aw Am Ae Bw Bm Be (i + 1)) {a1 a2 a3 : Int32} (ea1 : xs (nI (4 * i) + 1).toNatClampNeg = a1) (ea2 : xs (nI (4 * i) + 2).toNatClampNeg = a2) (ea3 : xs (nI (4 * i) + 3).toNatClampNeg = a3)
    (Ax : Nat → Nat) (hou cro : Int32) (Lw : Fm) (nm : Nat) (Lm : Fm) (ne : Nat) (Le : Fm) (Nt : Rw) (hou2 cro2 : Int32) (Kw : Fm) (nm2 : Nat) (Km : Fm) (ne2 : Nat) (Ke : Fm) (Nu : Rw) (nsd : Nat) (fogd : Int32) (nrd : Nat) (Ld : Fm) (fq : Nat → Int64) (th : Int32) (Lx : Fm) (h : Nat) (hSY : SY Lw Ld Lm Le hou cro Lx nsd nrd nm ne h) (hh : h ≤ 100 * i) (H : Heap) (locs : List Loc) (hP : va_P D.1 vwCl ((wMob om Ad ot ou) ++ ((wTob ot Ad Aw Am Ae xt hou cro) ++ ((wWays D Aw Lw) ++ ((wMul D Am nm Lm) ++ ((wLet D Ae ne Le) ++ ((wRow D xt yt 60 Nt) ++ ((wTob ou Ad Bw Bm Be xu hou2 cro2) ++ ((wWays D Bw Kw) ++ ((wMul D Bm nm2 Km) ++ ((wLet D Be ne2 Ke) ++ ((wRow D xu yu 60 Nu) ++ ((wLand D Ad nsd fogd nrd Ld) ++ ((wLar D oq fq) ++ (wMod D Ax th nsd fogd nrd nm ne Lx)))))))))))))) H) (hD : va_D A0 ((wMob om Ad ot ou) ++ ((wTob ot Ad Aw Am Ae xt hou cro) ++ ((wWays D Aw Lw) ++ ((wMul D Am nm Lm) ++ ((wLet D Ae ne Le) ++ ((wRow D xt yt 60 Nt) ++ ((wTob ou Ad Bw Bm Be xu hou2 cro2) ++ ((wWays D Bw Kw) ++ ((wMul D Bm nm2 Km) ++ ((wLet D Be ne2 Ke) ++ ((wRow D xu yu 60 Nu) ++ ((wLand D Ad nsd fogd nrd Ld) ++ ((wLar D oq fq) ++ (wMod D Ax th nsd fogd nrd nm ne Lx))))))))))))))) (hS : va_S A0 s.heap H locs) (ls : Array Slot) (hl : lv_has ls 9 [(4, .int (nI (4 * i))), (0, .ref b), (1, .ref om), (2, .ref (Ax 0)), (3, .ref oq)]) : W p l e room_1 s m #[Value.ref b] below meth c H locs (200 + 81 * i) (9000 + 11700 * i) (lw_Z below #[Value.ref b] s) (F0 m 1392 ls []) := by
  obtain ⟨hx, hb, hr, hml, hown, hts, hX, hbl, hbA, hlocks, hl9, hCX, hSX, hTX, hZX, hNX, hK, hN, hA, -, hL⟩ := X
  have hS9 : okS Lx nsd nrd nm ne := okS_rel hSY.1
  have b10 : nsd ≤ 10 := hSY.1.1.1
  have b15 : nrd ≤ 15 := hSY.1.1.2.1
  have b12 : nm ≤ 12 := hSY.1.2.2.1.1
  have b60 : ne ≤ 60 := hSY.1.2.2.2.1
  have hrE : rE Le Lx ne := hSY.1.2.2.2.2.2.2.2.2.2.1
  have he : ne < 2 ^ 31 := by omega
  have hm : nm < 2 ^ 31 := by omega
  have hns : nsd < 2 ^ 31 := by omega
  have hnr : nrd < 2 ^ 31 := by omega
  refine lv_aload_n hx hb dL_law_1392 rfl (lv_at hl 2 rfl) ?_
  refine kVp ⟨hx, hb, hml, hown, hts⟩ (c_X6_mean l D om Ad ot ou Aw Am Ae xt hou cro Lw nm Lm ne Le yt Nt nsd fogd nrd Ld (by assumption)) (cwV 0 hts gL_law_X6_mean rfl rfl rfl (by decide +kernel) ⟨Nat.le_of_ble_eq_true rfl, Nat.le_of_ble_eq_true rfl⟩) hK hN hP hD (Sb.app Sb.self (Sb.app Sb.self (Sb.app Sb.self (Sb.app Sb.self (Sb.app Sb.self (Sb.app Sb.self (Sb.r (Sb.r (Sb.r (Sb.r (Sb.r (Sb.l Sb.self)))))))))))) 6 0 rfl rfl rfl hl.1 (Nat.le_of_ble_eq_true rfl) ⟨by show _ ≤ 601024; omega, by show _ ≤ 7293034; omega⟩ dL_law_1393 ?_ rfl
  refine lv_dstore (lv' := [(5, .double (meanC Le ne)), (4, .int (nI (4 * i))), (0, .ref b), (1, .ref om), (2, .ref (Ax 0)), (3, .ref oq)]) hx hb dL_law_1396 hl (by decide) rfl (fun ls hl => ?_)
  refine lv_aload_n hx hb dL_law_1398 rfl (lv_at hl 4 rfl) ?_
  refine kVw ⟨hx, hb, hml, hown, hts⟩ (c_X7_mean l D Ax th nsd fogd nrd nm ne Lx (by assumption) (by assumption) (by assumption) (by assumption)) (cwV 0 hts gL_law_X7_mean rfl rfl rfl (by decide +kernel) ⟨Nat.le_of_ble_eq_true rfl, Nat.le_of_ble_eq_true rfl⟩) hK hN hP hD hS (Fr.r (Fr.r (Fr.r (Fr.r (Fr.r (Fr.r (Fr.r (Fr.r (Fr.r (Fr.r (Fr.r (Fr.r (Fr.r frsMod))))))))))))) 7 0 rfl rfl rfl hl.1 (Nat.le_of_ble_eq_true rfl) ⟨by show _ ≤ 601024; omega, by show _ ≤ 7293034; omega⟩ dL_law_1399 (fun H locs hP hD hS => ?_) rfl
  have hP : va_P D.1 vwCl ((wMob om Ad ot ou) ++ ((wTob ot Ad Aw Am Ae xt hou cro) ++ ((wWays D Aw Lw) ++ ((wMul D Am nm Lm) ++ ((wLet D Ae ne Le) ++ ((wRow D xt yt 60 Nt) ++ ((wTob ou Ad Bw Bm Be xu hou2 cro2) ++ ((wWays D Bw Kw) ++ ((wMul D Bm nm2 Km) ++ ((wLet D Be ne2 Ke) ++ ((wRow D xu yu 60 Nu) ++ ((wLand D Ad nsd fogd nrd Ld) ++ ((wLar D oq fq) ++ (wMod D Ax 0 nsd fogd nrd nm ne Lx)))))))))))))) H := hP
  have hD : va_D A0 ((wMob om Ad ot ou) ++ ((wTob ot Ad Aw Am Ae xt hou cro) ++ ((wWays D Aw Lw) ++ ((wMul D Am nm Lm) ++ ((wLet D Ae ne Le) ++ ((wRow D xt yt 60 Nt) ++ ((wTob ou Ad Bw Bm Be xu hou2 cro2) ++ ((wWays D Bw Kw) ++ ((wMul D Bm nm2 Km) ++ ((wLet D Be ne2 Ke) ++ ((wRow D xu yu 60 Nu) ++ ((wLand D Ad nsd fogd nrd Ld) ++ ((wLar D oq fq) ++ (wMod D Ax 0 nsd fogd nrd nm ne Lx)))))))))))))) := hD
  refine W.eq (g2 := F0 m 1402 ls [.double (meanM Lx ne)]) rfl ?_
  refine W.eq (g2 := F0 m 1402 ls [.double (meanC Le ne)]) (congrArg (fun zz : UInt64 => F0 m 1402 ls [.double zz]) (show meanM Lx ne = meanC Le ne from mean_eq b60 hrE)) ?_
  refine lv_dstore (lv' := [(7, .double (meanC Le ne)), (5, .double (meanC Le ne)), (4, .int (nI (4 * i))), (0, .ref b), (1, .ref om), (2, .ref (Ax 0)), (3, .ref oq)]) hx hb dL_law_1402 hl (by decide) rfl (fun ls hl => ?_)
  refine lv_dload hx hb dL_law_1404 (lv_at hl 1 rfl) ?_
  refine lv_dload hx hb dL_law_1406 (lv_at hl 0 rfl) ?_
  refine lv_dcmp hx hb dL_law_1408 ?_
  refine lv_if_eq (tgt := 1430) hx hb dL_law_1409 (by decide) (fun c1 => ?_) (fun c1 => ?_)
  · refine lv_goto (tgt := 1447) hx hb dL_law_1430 (by decide) ?_
    refine lv_iinc (v := ((nI (4 * i)) + 4)) (lv' := [(4, .int ((nI (4 * i)) + 4)), (7, .double (meanC Le ne)), (5, .double (meanC Le ne)), (0, .ref b), (1, .ref om), (2, .ref (Ax 0)), (3, .ref oq)]) hx hb dL_law_1447 hl (k := 2) rfl rfl (by decide) rfl (fun ls hl => ?_)
    rw [show nI (4 * i) + 4 = nI (4 * (i + 1)) from nI_add (4 * i) 4] at hl
    refine lv_goto (tgt := 23) hx hb dL_law_1450 (by decide) ?_
    refine W.widen (k := 200 + 81 * (i + 1)) (n := 9000 + 11700 * (i + 1)) (by omega) (by omega) ?_
    exact ih Ax hou cro Lw nm Lm ne Le Nt hou2 cro2 Kw nm2 Km ne2 Ke Nu nsd fogd nrd Ld fq 0 Lx h hSY (by omega) H locs hP hD hS ls (lv_sub hl [0, 3, 4, 5, 6] rfl)
  · refine lv_dload hx hb dL_law_1412 (lv_at hl 1 rfl) ?_
    refine lv_dload hx hb dL_law_1414 (lv_at hl 1 rfl) ?_
    refine lv_dcmp hx hb dL_law_1416 ?_
    refine lv_if_eq (tgt := 1428) hx hb dL_law_1417 (by decide) (fun c2 => ?_) (fun c2 => ?_)
    · exact absurd c2 c1
    · refine lv_dload hx hb dL_law_1420 (lv_at hl 0 rfl) ?_
      refine lv_dload hx hb dL_law_1422 (lv_at hl 0 rfl) ?_
      refine lv_dcmp hx hb dL_law_1424 ?_
      refine lv_if_ne (tgt := 1430) hx hb dL_law_1425 (by decide) (fun c3 => ?_) (fun c3 => ?_)
      · refine lv_goto (tgt := 1447) hx hb dL_law_1430 (by decide) ?_
        refine lv_iinc (v := ((nI (4 * i)) + 4)) (lv' := [(4, .int ((nI (4 * i)) + 4)), (7, .double (meanC Le ne)), (5, .double (meanC Le ne)), (0, .ref b), (1, .ref om), (2, .ref (Ax 0)), (3, .ref oq)]) hx hb dL_law_1447 hl (k := 2) rfl rfl (by decide) rfl (fun ls hl => ?_)
        rw [show nI (4 * i) + 4 = nI (4 * (i + 1)) from nI_add (4 * i) 4] at hl
        refine lv_goto (tgt := 23) hx hb dL_law_1450 (by decide) ?_
        refine W.widen (k := 200 + 81 * (i + 1)) (n := 9000 + 11700 * (i + 1)) (by omega) (by omega) ?_
        exact ih Ax hou cro Lw nm Lm ne Le Nt hou2 cro2 Kw nm2 Km ne2 Ke Nu nsd fogd nrd Ld fq 0 Lx h hSY (by omega) H locs hP hD hS ls (lv_sub hl [0, 3, 4, 5, 6] rfl)
      · exact absurd c3 c1

set_option maxHeartbeats 4000000 in
set_option maxRecDepth 100000 in
theorem law_c19 {p : Program} {l : Launch} {e : Env} {s : State} {m : MethodId} {below : List Frame} {meth : Method} {c : Code} {D : GG} {b L : Nat} {xs : Nat → Int32} {A0 : Nat → Prop} {om ot ou oq xt yt xu yu : Nat} {Ad Aw Am Ae Bw Bm Be : Nat → Nat} (X : LX p l s m meth c D b L xs A0) {i : Nat} (hi : 4 * i + 4 ≤ L) (ih : LG p l e s m below meth c D b L xs A0 om ot ou oq xt yt xu yu Ad Aw Am Ae Bw Bm Be (i + 1)) {a1 a2 a3 : Int32} (ea1 : xs (nI (4 * i) + 1).toNatClampNeg = a1) (ea2 : xs (nI (4 * i) + 2).toNatClampNeg = a2) (ea3 : xs (nI (4 * i) + 3).toNatClampNeg = a3)
    (Ax : Nat → Nat) (hou cro : Int32) (Lw : Fm) (nm : Nat) (Lm : Fm) (ne : Nat) (Le : Fm) (Nt : Rw) (hou2 cro2 : Int32) (Kw : Fm) (nm2 : Nat) (Km : Fm) (ne2 : Nat) (Ke : Fm) (Nu : Rw) (nsd : Nat) (fogd : Int32) (nrd : Nat) (Ld : Fm) (fq : Nat → Int64) (th : Int32) (Lx : Fm) (h : Nat) (hSY : SY Lw Ld Lm Le hou cro Lx nsd nrd nm ne h) (hh : h ≤ 100 * i) (H : Heap) (locs : List Loc) (hP : va_P D.1 vwCl ((wMob om Ad ot ou) ++ ((wTob ot Ad Aw Am Ae xt hou cro) ++ ((wWays D Aw Lw) ++ ((wMul D Am nm Lm) ++ ((wLet D Ae ne Le) ++ ((wRow D xt yt 60 Nt) ++ ((wTob ou Ad Bw Bm Be xu hou2 cro2) ++ ((wWays D Bw Kw) ++ ((wMul D Bm nm2 Km) ++ ((wLet D Be ne2 Ke) ++ ((wRow D xu yu 60 Nu) ++ ((wLand D Ad nsd fogd nrd Ld) ++ ((wLar D oq fq) ++ (wMod D Ax th nsd fogd nrd nm ne Lx)))))))))))))) H) (hD : va_D A0 ((wMob om Ad ot ou) ++ ((wTob ot Ad Aw Am Ae xt hou cro) ++ ((wWays D Aw Lw) ++ ((wMul D Am nm Lm) ++ ((wLet D Ae ne Le) ++ ((wRow D xt yt 60 Nt) ++ ((wTob ou Ad Bw Bm Be xu hou2 cro2) ++ ((wWays D Bw Kw) ++ ((wMul D Bm nm2 Km) ++ ((wLet D Be ne2 Ke) ++ ((wRow D xu yu 60 Nu) ++ ((wLand D Ad nsd fogd nrd Ld) ++ ((wLar D oq fq) ++ (wMod D Ax th nsd fogd nrd nm ne Lx))))))))))))))) (hS : va_S A0 s.heap H locs) (ls : Array Slot) (hl : lv_has ls 9 [(4, .int (nI (4 * i))), (0, .ref b), (1, .ref om), (2, .ref (Ax 0)), (3, .ref oq)]) : W p l e room_1 s m #[Value.ref b] below meth c H locs (200 + 81 * i) (9000 + 11700 * i) (lw_Z below #[Value.ref b] s) (F0 m 1433 ls []) := by
  obtain ⟨hx, hb, hr, hml, hown, hts, hX, hbl, hbA, hlocks, hl9, hCX, hSX, hTX, hZX, hNX, hK, hN, hA, -, hL⟩ := X
  have hS9 : okS Lx nsd nrd nm ne := okS_rel hSY.1
  have b10 : nsd ≤ 10 := hSY.1.1.1
  have b15 : nrd ≤ 15 := hSY.1.1.2.1
  have b12 : nm ≤ 12 := hSY.1.2.2.1.1
  have b60 : ne ≤ 60 := hSY.1.2.2.2.1
  have hrE : rE Le Lx ne := hSY.1.2.2.2.2.2.2.2.2.2.1
  have he : ne < 2 ^ 31 := by omega
  have hm : nm < 2 ^ 31 := by omega
  have hns : nsd < 2 ^ 31 := by omega
  have hnr : nrd < 2 ^ 31 := by omega
  refine lv_aload_n hx hb dL_law_1433 rfl (lv_at hl 2 rfl) ?_
  refine kVp ⟨hx, hb, hml, hown, hts⟩ (c_X6_digest l D om Ad ot ou Aw Am Ae xt hou cro Lw nm Lm ne Le yt Nt nsd fogd nrd Ld (by assumption) (by assumption) (by assumption) (by assumption)) (cwV 0 hts gL_law_X6_digest rfl rfl rfl (by decide +kernel) ⟨Nat.le_of_ble_eq_true rfl, Nat.le_of_ble_eq_true rfl⟩) hK hN hP hD (Sb.app Sb.self (Sb.app Sb.self (Sb.app Sb.self (Sb.app Sb.self (Sb.app Sb.self (Sb.app Sb.self (Sb.r (Sb.r (Sb.r (Sb.r (Sb.r (Sb.l Sb.self)))))))))))) 6 0 rfl rfl rfl hl.1 (Nat.le_of_ble_eq_true rfl) ⟨by show _ ≤ 601024; omega, by show _ ≤ 7293034; omega⟩ dL_law_1434 ?_ rfl
  refine W.eq (g2 := F0 m 1437 ls [.long (d62 (fun i k => tlM Lx (nI i) (nI k)) 11 (d62 (fun i k => tmM Lx ne (nI i) (nI k)) 6 (d62 (fun i k => trM Lx nm (nI i) (nI k)) 6 (d62 (fun i k => stM Lx fogd nm ne (nI i) (nI k)) 5 (d31 (fun k => cnM Lx nsd nrd nm ne (nI k)) 547 10) nsd) nrd) nm) ne)]) (congrArg (fun zz : Int64 => F0 m 1437 ls [.long zz]) (show d31 (fun k => tlC Le (nI k / 11) (nI k - nI k / 11 * 11)) (d31 (fun k => tmC Lm Le ne (nI k / 6) (nI k - nI k / 6 * 6)) (d31 (fun k => trC Ld Lm nm (nI k / 6) (nI k - nI k / 6 * 6)) (d31 (fun k => tsC Ld Lm Le fogd nm ne (nI k / 5) (nI k - nI k / 5 * 5)) (d31 (fun k => tcC Le hou cro nsd nrd nm ne (nI k)) 547 10) (nsd * 5)) (nrd * 6)) (nm * 6)) (ne * 11) = (d62 (fun i k => tlM Lx (nI i) (nI k)) 11 (d62 (fun i k => tmM Lx ne (nI i) (nI k)) 6 (d62 (fun i k => trM Lx nm (nI i) (nI k)) 6 (d62 (fun i k => stM Lx fogd nm ne (nI i) (nI k)) 5 (d31 (fun k => cnM Lx nsd nrd nm ne (nI k)) 547 10) nsd) nrd) nm) ne) from digest_eq (fog := fogd) hSY.1)) ?_
  refine lv_aload_n hx hb dL_law_1437 rfl (lv_at hl 3 rfl) ?_
  refine kVw ⟨hx, hb, hml, hown, hts⟩ (c_X7_digest l D Ax th nsd fogd nrd nm ne Lx (by assumption) (by assumption) (by assumption) (by assumption) hS9.1) (cwV 0 hts gL_law_X7_digest rfl rfl rfl (by decide +kernel) ⟨Nat.le_of_ble_eq_true rfl, Nat.le_of_ble_eq_true rfl⟩) hK hN hP hD hS (Fr.r (Fr.r (Fr.r (Fr.r (Fr.r (Fr.r (Fr.r (Fr.r (Fr.r (Fr.r (Fr.r (Fr.r (Fr.r frsMod))))))))))))) 7 0 rfl rfl rfl hl.1 (Nat.le_of_ble_eq_true rfl) ⟨by show _ ≤ 601024; omega, by show _ ≤ 7293034; omega⟩ dL_law_1438 (fun H locs hP hD hS => ?_) rfl
  have hP : va_P D.1 vwCl ((wMob om Ad ot ou) ++ ((wTob ot Ad Aw Am Ae xt hou cro) ++ ((wWays D Aw Lw) ++ ((wMul D Am nm Lm) ++ ((wLet D Ae ne Le) ++ ((wRow D xt yt 60 Nt) ++ ((wTob ou Ad Bw Bm Be xu hou2 cro2) ++ ((wWays D Bw Kw) ++ ((wMul D Bm nm2 Km) ++ ((wLet D Be ne2 Ke) ++ ((wRow D xu yu 60 Nu) ++ ((wLand D Ad nsd fogd nrd Ld) ++ ((wLar D oq fq) ++ (wMod D Ax 0 nsd fogd nrd nm ne Lx)))))))))))))) H := hP
  have hD : va_D A0 ((wMob om Ad ot ou) ++ ((wTob ot Ad Aw Am Ae xt hou cro) ++ ((wWays D Aw Lw) ++ ((wMul D Am nm Lm) ++ ((wLet D Ae ne Le) ++ ((wRow D xt yt 60 Nt) ++ ((wTob ou Ad Bw Bm Be xu hou2 cro2) ++ ((wWays D Bw Kw) ++ ((wMul D Bm nm2 Km) ++ ((wLet D Be ne2 Ke) ++ ((wRow D xu yu 60 Nu) ++ ((wLand D Ad nsd fogd nrd Ld) ++ ((wLar D oq fq) ++ (wMod D Ax 0 nsd fogd nrd nm ne Lx)))))))))))))) := hD
  refine W.eq (g2 := F0 m 1441 ls [.long (d62 (fun i k => tlM Lx (nI i) (nI k)) 11 (d62 (fun i k => tmM Lx ne (nI i) (nI k)) 6 (d62 (fun i k => trM Lx nm (nI i) (nI k)) 6 (d62 (fun i k => stM Lx fogd nm ne (nI i) (nI k)) 5 (d31 (fun k => cnM Lx nsd nrd nm ne (nI k)) 547 10) nsd) nrd) nm) ne), .long (d62 (fun i k => tlM Lx (nI i) (nI k)) 11 (d62 (fun i k => tmM Lx ne (nI i) (nI k)) 6 (d62 (fun i k => trM Lx nm (nI i) (nI k)) 6 (d62 (fun i k => stM Lx fogd nm ne (nI i) (nI k)) 5 (d31 (fun k => cnM Lx nsd nrd nm ne (nI k)) 547 10) nsd) nrd) nm) ne)]) rfl ?_
  refine W.lcmp hx hb dL_law_1441 ?_
  refine W.eq (g2 := F0 m 1442 ls [.int 0]) (congrArg (fun zz : Int32 => F0 m 1442 ls [.int zz]) (lcmp0 _)) ?_
  refine lv_if_eq (tgt := 1447) hx hb dL_law_1442 (by decide) (fun c1 => ?_) (fun c1 => ?_)
  · refine lv_iinc (v := ((nI (4 * i)) + 4)) (lv' := [(4, .int ((nI (4 * i)) + 4)), (0, .ref b), (1, .ref om), (2, .ref (Ax 0)), (3, .ref oq)]) hx hb dL_law_1447 hl (k := 0) rfl rfl (by decide) rfl (fun ls hl => ?_)
    rw [show nI (4 * i) + 4 = nI (4 * (i + 1)) from nI_add (4 * i) 4] at hl
    refine lv_goto (tgt := 23) hx hb dL_law_1450 (by decide) ?_
    refine W.widen (k := 200 + 81 * (i + 1)) (n := 9000 + 11700 * (i + 1)) (by omega) (by omega) ?_
    exact ih Ax hou cro Lw nm Lm ne Le Nt hou2 cro2 Kw nm2 Km ne2 Ke Nu nsd fogd nrd Ld fq 0 Lx h hSY (by omega) H locs hP hD hS ls (lv_sub hl [0, 1, 2, 3, 4] rfl)
  · exact absurd c1 (by decide)
