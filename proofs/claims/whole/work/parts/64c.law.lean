set_option maxHeartbeats 4000000 in
set_option maxRecDepth 100000 in
theorem law_c5 {p : Program} {l : Launch} {e : Env} {s : State} {m : MethodId} {below : List Frame} {meth : Method} {c : Code} {D : GG} {b L : Nat} {xs : Nat → Int32} {A0 : Nat → Prop} {om ot ou oq xt yt xu yu : Nat} {Ad Aw Am Ae Bw Bm Be : Nat → Nat} (X : LX p l s m meth c D b L xs A0) {i : Nat} (hi : 4 * i + 4 ≤ L) (ih : LG p l e s m below meth c D b L xs A0 om ot ou oq xt yt xu yu Ad Aw Am Ae Bw Bm Be (i + 1)) {a1 a2 a3 : Int32} (ea1 : xs (nI (4 * i) + 1).toNatClampNeg = a1) (ea2 : xs (nI (4 * i) + 2).toNatClampNeg = a2) (ea3 : xs (nI (4 * i) + 3).toNatClampNeg = a3)
    (Ax : Nat → Nat) (hou cro : Int32) (Lw : Fm) (nm : Nat) (Lm : Fm) (ne : Nat) (Le : Fm) (Nt : Rw) (hou2 cro2 : Int32) (Kw : Fm) (nm2 : Nat) (Km : Fm) (ne2 : Nat) (Ke : Fm) (Nu : Rw) (nsd : Nat) (fogd : Int32) (nrd : Nat) (Ld : Fm) (fq : Nat → Int64) (th : Int32) (Lx : Fm) (h : Nat) (hSY : SY Lw Ld Lm Le hou cro Lx nsd nrd nm ne h) (hh : h ≤ 100 * i) (H : Heap) (locs : List Loc) (hP : va_P D.1 vwCl ((wMob om Ad ot ou) ++ ((wTob ot Ad Aw Am Ae xt hou cro) ++ ((wWays D Aw Lw) ++ ((wMul D Am nm Lm) ++ ((wLet D Ae ne Le) ++ ((wRow D xt yt 60 Nt) ++ ((wTob ou Ad Bw Bm Be xu hou2 cro2) ++ ((wWays D Bw Kw) ++ ((wMul D Bm nm2 Km) ++ ((wLet D Be ne2 Ke) ++ ((wRow D xu yu 60 Nu) ++ ((wLand D Ad nsd fogd nrd Ld) ++ ((wLar D oq fq) ++ (wMod D Ax th nsd fogd nrd nm ne Lx)))))))))))))) H) (hD : va_D A0 ((wMob om Ad ot ou) ++ ((wTob ot Ad Aw Am Ae xt hou cro) ++ ((wWays D Aw Lw) ++ ((wMul D Am nm Lm) ++ ((wLet D Ae ne Le) ++ ((wRow D xt yt 60 Nt) ++ ((wTob ou Ad Bw Bm Be xu hou2 cro2) ++ ((wWays D Bw Kw) ++ ((wMul D Bm nm2 Km) ++ ((wLet D Be ne2 Ke) ++ ((wRow D xu yu 60 Nu) ++ ((wLand D Ad nsd fogd nrd Ld) ++ ((wLar D oq fq) ++ (wMod D Ax th nsd fogd nrd nm ne Lx))))))))))))))) (hS : va_S A0 s.heap H locs) (ls : Array Slot) (hl : lv_has ls 9 [(4, .int (nI (4 * i))), (0, .ref b), (1, .ref om), (2, .ref (Ax 0)), (3, .ref oq)]) : W p l e room_1 s m #[Value.ref b] below meth c H locs (200 + 81 * i) (9000 + 11700 * i) (lw_Z below #[Value.ref b] s) (F0 m 544 ls []) := by
  obtain ⟨hx, hb, hr, hml, hown, hts, hX, hbl, hbA, hlocks, hl9, hCX, hSX, hTX, hZX, hNX, hK, hN, hA, -, hL⟩ := X
  have hS9 : okS Lx nsd nrd nm ne := okS_rel hSY.1
  have b10 : nsd ≤ 10 := hSY.1.1.1
  have b15 : nrd ≤ 15 := hSY.1.1.2.1
  have b12 : nm ≤ 12 := hSY.1.2.2.1.1
  have b60 : ne ≤ 60 := hSY.1.2.2.2.1
  have hrE : rE Le Lx ne := hSY.1.2.2.2.2.2.2.2.2.2.1
  have he : ne < 2 ^ 31 := by omega
  have hm : nm < 2 ^ 31 := by omega
  have hns : nsd < 2 ^ 31 := by omega
  have hnr : nrd < 2 ^ 31 := by omega
  refine lv_aload_n hx hb dL_law_544 rfl (lv_at hl 2 rfl) ?_
  refine lv_aload_n hx hb dL_law_545 rfl (lv_at hl 1 rfl) ?_
  refine lv_iload hx hb dL_law_546 (lv_at hl 0 rfl) ?_
  refine lv_iconst (v := 1) hx hb dL_law_548 (by decide) ?_
  refine lv_iadd hx hb dL_law_549 ?_
  refine va_sld hx hb hX hbl hbA hS (i := ((nI (4 * i)) + 1)) (inS1 hi hL) dL_law_550 ?_
  refine W.eq (g2 := F0 m 551 ls [.int a1, .ref om]) (congrArg (fun zz : Int32 => F0 m 551 ls [.int zz, .ref om]) ea1) ?_
  refine lv_aload_n hx hb dL_law_551 rfl (lv_at hl 1 rfl) ?_
  refine lv_iload hx hb dL_law_552 (lv_at hl 0 rfl) ?_
  refine lv_iconst (v := 2) hx hb dL_law_554 (by decide) ?_
  refine lv_iadd hx hb dL_law_555 ?_
  refine va_sld hx hb hX hbl hbA hS (i := ((nI (4 * i)) + 2)) (inS2 hi hL) dL_law_556 ?_
  refine W.eq (g2 := F0 m 557 ls [.int a2, .int a1, .ref om]) (congrArg (fun zz : Int32 => F0 m 557 ls [.int zz, .int a1, .ref om]) ea2) ?_
  refine lv_aload_n hx hb dL_law_557 rfl (lv_at hl 4 rfl) ?_
  refine kSL ⟨hx, hb, hml, hown, hts⟩ (c_L_station l D om Ad ot ou Aw Am Ae xt hou cro Lw nm Lm ne Le yt Nt nsd fogd nrd Ld oq fq a1 a2 _ (by assumption) (by assumption) hl9) (vx_cwSW 4 hts gL_law_L_station rfl rfl rfl (by decide +kernel) ⟨Nat.le_of_ble_eq_true rfl, Nat.le_of_ble_eq_true rfl⟩) hCX hSX hTX hZX hNX hK hN hP hD hS hA (fun z => (Fr.app (Fr.kp Sb.self) (Fr.app (Fr.kp Sb.self) (Fr.app (Fr.kp Sb.self) (Fr.app (Fr.kp Sb.self) (Fr.app (Fr.kp Sb.self) (Fr.app (Fr.kp Sb.self) (Fr.r (Fr.r (Fr.r (Fr.r (Fr.r (Fr.app (Fr.kp Sb.self) (Fr.l frsLar)))))))))))))) (Sb.app Sb.self (Sb.app Sb.self (Sb.app Sb.self (Sb.app Sb.self (Sb.app Sb.self (Sb.app Sb.self (Sb.r (Sb.r (Sb.r (Sb.r (Sb.r (Sb.app Sb.self (Sb.l Sb.self))))))))))))) rfl hl.1 (Nat.le_of_ble_eq_true rfl) ⟨by show _ ≤ 601024; omega, by show _ ≤ 7293034; omega⟩ dL_law_558 (fun H locs hk9 hP hD hS => ?_) (fun z H locs hk9 hP hD hS => ?_) rfl
  · have hP : va_P D.1 vwCl ((wMob om Ad ot ou) ++ ((wTob ot Ad Aw Am Ae xt hou cro) ++ ((wWays D Aw Lw) ++ ((wMul D Am nm Lm) ++ ((wLet D Ae ne Le) ++ ((wRow D xt yt 60 Nt) ++ ((wTob ou Ad Bw Bm Be xu hou2 cro2) ++ ((wWays D Bw Kw) ++ ((wMul D Bm nm2 Km) ++ ((wLet D Be ne2 Ke) ++ ((wRow D xu yu 60 Nu) ++ ((wLand D Ad nsd fogd nrd Ld) ++ ((wLar D oq fq) ++ (wMod D Ax th nsd fogd nrd nm ne Lx)))))))))))))) H := hP
    have hD : va_D A0 ((wMob om Ad ot ou) ++ ((wTob ot Ad Aw Am Ae xt hou cro) ++ ((wWays D Aw Lw) ++ ((wMul D Am nm Lm) ++ ((wLet D Ae ne Le) ++ ((wRow D xt yt 60 Nt) ++ ((wTob ou Ad Bw Bm Be xu hou2 cro2) ++ ((wWays D Bw Kw) ++ ((wMul D Bm nm2 Km) ++ ((wLet D Be ne2 Ke) ++ ((wRow D xu yu 60 Nu) ++ ((wLand D Ad nsd fogd nrd Ld) ++ ((wLar D oq fq) ++ (wMod D Ax th nsd fogd nrd nm ne Lx)))))))))))))) := hD
    refine lv_istore (lv' := [(5, .int (nI (kTL nsd 4 a1 a2))), (4, .int (nI (4 * i))), (0, .ref b), (1, .ref om), (2, .ref (Ax 0)), (3, .ref oq)]) hx hb dL_law_561 hl (by decide) rfl (fun ls hl => ?_)
    refine lv_aload_n hx hb dL_law_563 rfl (lv_at hl 4 rfl) ?_
    refine lv_aload_n hx hb dL_law_564 rfl (lv_at hl 2 rfl) ?_
    refine lv_iload hx hb dL_law_565 (lv_at hl 1 rfl) ?_
    refine lv_iconst (v := 1) hx hb dL_law_567 (by decide) ?_
    refine lv_iadd hx hb dL_law_568 ?_
    refine va_sld hx hb hX hbl hbA hS (i := ((nI (4 * i)) + 1)) (inS1 hi hL) dL_law_569 ?_
    refine W.eq (g2 := F0 m 570 ls [.int a1, .ref (Ax 0)]) (congrArg (fun zz : Int32 => F0 m 570 ls [.int zz, .ref (Ax 0)]) ea1) ?_
    refine lv_aload_n hx hb dL_law_570 rfl (lv_at hl 2 rfl) ?_
    refine lv_iload hx hb dL_law_571 (lv_at hl 1 rfl) ?_
    refine lv_iconst (v := 2) hx hb dL_law_573 (by decide) ?_
    refine lv_iadd hx hb dL_law_574 ?_
    refine va_sld hx hb hX hbl hbA hS (i := ((nI (4 * i)) + 2)) (inS2 hi hL) dL_law_575 ?_
    refine W.eq (g2 := F0 m 576 ls [.int a2, .int a1, .ref (Ax 0)]) (congrArg (fun zz : Int32 => F0 m 576 ls [.int zz, .int a1, .ref (Ax 0)]) ea2) ?_
    refine kVw ⟨hx, hb, hml, hown, hts⟩ (c_X7_station l D Ax th nsd fogd nrd nm ne Lx a1 a2 (by assumption) (by assumption) (by assumption) (by assumption)) (cwV 2 hts gL_law_X7_station rfl rfl rfl (by decide +kernel) ⟨Nat.le_of_ble_eq_true rfl, Nat.le_of_ble_eq_true rfl⟩) hK hN hP hD hS (Fr.r (Fr.r (Fr.r (Fr.r (Fr.r (Fr.r (Fr.r (Fr.r (Fr.r (Fr.r (Fr.r (Fr.r (Fr.r frsMod))))))))))))) 7 0 rfl rfl rfl hl.1 (Nat.le_of_ble_eq_true rfl) ⟨by show _ ≤ 601024; omega, by show _ ≤ 7293034; omega⟩ dL_law_576 (fun H locs hP hD hS => ?_) rfl
    have hP : va_P D.1 vwCl ((wMob om Ad ot ou) ++ ((wTob ot Ad Aw Am Ae xt hou cro) ++ ((wWays D Aw Lw) ++ ((wMul D Am nm Lm) ++ ((wLet D Ae ne Le) ++ ((wRow D xt yt 60 Nt) ++ ((wTob ou Ad Bw Bm Be xu hou2 cro2) ++ ((wWays D Bw Kw) ++ ((wMul D Bm nm2 Km) ++ ((wLet D Be ne2 Ke) ++ ((wRow D xu yu 60 Nu) ++ ((wLand D Ad nsd fogd nrd Ld) ++ ((wLar D oq fq) ++ (wMod D Ax ((pst Lx fogd nsd nm ne a1 a2).2) nsd fogd nrd nm ne Lx)))))))))))))) H := hP
    have hD : va_D A0 ((wMob om Ad ot ou) ++ ((wTob ot Ad Aw Am Ae xt hou cro) ++ ((wWays D Aw Lw) ++ ((wMul D Am nm Lm) ++ ((wLet D Ae ne Le) ++ ((wRow D xt yt 60 Nt) ++ ((wTob ou Ad Bw Bm Be xu hou2 cro2) ++ ((wWays D Bw Kw) ++ ((wMul D Bm nm2 Km) ++ ((wLet D Be ne2 Ke) ++ ((wRow D xu yu 60 Nu) ++ ((wLand D Ad nsd fogd nrd Ld) ++ ((wLar D oq fq) ++ (wMod D Ax ((pst Lx fogd nsd nm ne a1 a2).2) nsd fogd nrd nm ne Lx)))))))))))))) := hD
    refine W.eq (g2 := F0 m 579 ls [.int ((pst Lx fogd nsd nm ne a1 a2).1)]) rfl ?_
    have r9 := st_rel (fog := fogd) (s := a1) (w := a2) hSY
    rw [r9.1] at hP hD
    have hP : va_P D.1 vwCl ((wMob om Ad ot ou) ++ ((wTob ot Ad Aw Am Ae xt hou cro) ++ ((wWays D Aw Lw) ++ ((wMul D Am nm Lm) ++ ((wLet D Ae ne Le) ++ ((wRow D xt yt 60 Nt) ++ ((wTob ou Ad Bw Bm Be xu hou2 cro2) ++ ((wWays D Bw Kw) ++ ((wMul D Bm nm2 Km) ++ ((wLet D Be ne2 Ke) ++ ((wRow D xu yu 60 Nu) ++ ((wLand D Ad nsd fogd nrd Ld) ++ ((wLar D oq fq) ++ (wMod D Ax (nI (kTL nsd 4 a1 a2)) nsd fogd nrd nm ne Lx)))))))))))))) H := hP
    have hD : va_D A0 ((wMob om Ad ot ou) ++ ((wTob ot Ad Aw Am Ae xt hou cro) ++ ((wWays D Aw Lw) ++ ((wMul D Am nm Lm) ++ ((wLet D Ae ne Le) ++ ((wRow D xt yt 60 Nt) ++ ((wTob ou Ad Bw Bm Be xu hou2 cro2) ++ ((wWays D Bw Kw) ++ ((wMul D Bm nm2 Km) ++ ((wLet D Be ne2 Ke) ++ ((wRow D xu yu 60 Nu) ++ ((wLand D Ad nsd fogd nrd Ld) ++ ((wLar D oq fq) ++ (wMod D Ax (nI (kTL nsd 4 a1 a2)) nsd fogd nrd nm ne Lx)))))))))))))) := hD
    refine lv_istore (lv' := [(6, .int ((pst Lx fogd nsd nm ne a1 a2).1)), (5, .int (nI (kTL nsd 4 a1 a2))), (4, .int (nI (4 * i))), (0, .ref b), (1, .ref om), (2, .ref (Ax 0)), (3, .ref oq)]) hx hb dL_law_579 hl (by decide) rfl (fun ls hl => ?_)
    refine lv_aload_n hx hb dL_law_581 rfl (lv_at hl 5 rfl) ?_
    refine kVp ⟨hx, hb, hml, hown, hts⟩ (c_X7_thrown l D Ax (nI (kTL nsd 4 a1 a2)) nsd fogd nrd nm ne Lx) (cwV 0 hts gL_law_X7_thrown rfl rfl rfl (by decide +kernel) ⟨Nat.le_of_ble_eq_true rfl, Nat.le_of_ble_eq_true rfl⟩) hK hN hP hD (Sb.r (Sb.r (Sb.r (Sb.r (Sb.r (Sb.r (Sb.r (Sb.r (Sb.r (Sb.r (Sb.r (Sb.r (Sb.r Sb.self))))))))))))) 7 0 rfl rfl rfl hl.1 (Nat.le_of_ble_eq_true rfl) ⟨by show _ ≤ 601024; omega, by show _ ≤ 7293034; omega⟩ dL_law_582 ?_ rfl
    refine lv_iload hx hb dL_law_585 (lv_at hl 1 rfl) ?_
    refine lv_icmp_eq (tgt := 592) hx hb dL_law_587 (by decide) (fun c1 => ?_) (fun c1 => ?_)
    · refine lv_iload hx hb dL_law_592 (lv_at hl 1 rfl) ?_
      refine lv_if_ne (tgt := 609) hx hb dL_law_594 (by decide) (fun c2 => ?_) (fun c2 => ?_)
      · refine lv_goto (tgt := 1447) hx hb dL_law_609 (by decide) ?_
        refine lv_iinc (v := ((nI (4 * i)) + 4)) (lv' := [(4, .int ((nI (4 * i)) + 4)), (6, .int ((pst Lx fogd nsd nm ne a1 a2).1)), (5, .int (nI (kTL nsd 4 a1 a2))), (0, .ref b), (1, .ref om), (2, .ref (Ax 0)), (3, .ref oq)]) hx hb dL_law_1447 hl (k := 2) rfl rfl (by decide) rfl (fun ls hl => ?_)
        rw [show nI (4 * i) + 4 = nI (4 * (i + 1)) from nI_add (4 * i) 4] at hl
        refine lv_goto (tgt := 23) hx hb dL_law_1450 (by decide) ?_
        refine W.widen (k := 200 + 81 * (i + 1)) (n := 9000 + 11700 * (i + 1)) (by omega) (by omega) ?_
        exact ih Ax hou cro Lw nm Lm ne Le Nt hou2 cro2 Kw nm2 Km ne2 Ke Nu nsd fogd nrd Ld fq (nI (kTL nsd 4 a1 a2)) Lx h hSY (by omega) H locs hP hD hS ls (lv_sub hl [0, 3, 4, 5, 6] rfl)
      · exact (nI_ne0 (Nat.pos_of_ne_zero hk9) (Nat.lt_of_le_of_lt (kTL_b _ _ _ _) (by decide)) c2).elim
    · exact (c1 (by first | rfl | decide)).elim
  · have hP : va_P D.1 vwCl ((wMob om Ad ot ou) ++ ((wTob ot Ad Aw Am Ae xt hou cro) ++ ((wWays D Aw Lw) ++ ((wMul D Am nm Lm) ++ ((wLet D Ae ne Le) ++ ((wRow D xt yt 60 Nt) ++ ((wTob ou Ad Bw Bm Be xu hou2 cro2) ++ ((wWays D Bw Kw) ++ ((wMul D Bm nm2 Km) ++ ((wLet D Be ne2 Ke) ++ ((wRow D xu yu 60 Nu) ++ ((wLand D Ad nsd fogd nrd Ld) ++ ((wLar D oq (vp_updL fq 0 (tsC Ld Lm Le fogd nm ne a1 a2).toInt64)) ++ (wMod D Ax th nsd fogd nrd nm ne Lx)))))))))))))) H := hP
    have hD : va_D A0 ((wMob om Ad ot ou) ++ ((wTob ot Ad Aw Am Ae xt hou cro) ++ ((wWays D Aw Lw) ++ ((wMul D Am nm Lm) ++ ((wLet D Ae ne Le) ++ ((wRow D xt yt 60 Nt) ++ ((wTob ou Ad Bw Bm Be xu hou2 cro2) ++ ((wWays D Bw Kw) ++ ((wMul D Bm nm2 Km) ++ ((wLet D Be ne2 Ke) ++ ((wRow D xu yu 60 Nu) ++ ((wLand D Ad nsd fogd nrd Ld) ++ ((wLar D oq (vp_updL fq 0 (tsC Ld Lm Le fogd nm ne a1 a2).toInt64)) ++ (wMod D Ax th nsd fogd nrd nm ne Lx)))))))))))))) := hD
    refine lv_istore (lv' := [(5, .int 0), (4, .int (nI (4 * i))), (0, .ref b), (1, .ref om), (2, .ref (Ax 0)), (3, .ref oq)]) hx hb dL_law_561 hl (by decide) rfl (fun ls hl => ?_)
    refine lv_aload_n hx hb dL_law_563 rfl (lv_at hl 4 rfl) ?_
    refine lv_aload_n hx hb dL_law_564 rfl (lv_at hl 2 rfl) ?_
    refine lv_iload hx hb dL_law_565 (lv_at hl 1 rfl) ?_
    refine lv_iconst (v := 1) hx hb dL_law_567 (by decide) ?_
    refine lv_iadd hx hb dL_law_568 ?_
    refine va_sld hx hb hX hbl hbA hS (i := ((nI (4 * i)) + 1)) (inS1 hi hL) dL_law_569 ?_
    refine W.eq (g2 := F0 m 570 ls [.int a1, .ref (Ax 0)]) (congrArg (fun zz : Int32 => F0 m 570 ls [.int zz, .ref (Ax 0)]) ea1) ?_
    refine lv_aload_n hx hb dL_law_570 rfl (lv_at hl 2 rfl) ?_
    refine lv_iload hx hb dL_law_571 (lv_at hl 1 rfl) ?_
    refine lv_iconst (v := 2) hx hb dL_law_573 (by decide) ?_
    refine lv_iadd hx hb dL_law_574 ?_
    refine va_sld hx hb hX hbl hbA hS (i := ((nI (4 * i)) + 2)) (inS2 hi hL) dL_law_575 ?_
    refine W.eq (g2 := F0 m 576 ls [.int a2, .int a1, .ref (Ax 0)]) (congrArg (fun zz : Int32 => F0 m 576 ls [.int zz, .int a1, .ref (Ax 0)]) ea2) ?_
    refine kVw ⟨hx, hb, hml, hown, hts⟩ (c_X7_station l D Ax th nsd fogd nrd nm ne Lx a1 a2 (by assumption) (by assumption) (by assumption) (by assumption)) (cwV 2 hts gL_law_X7_station rfl rfl rfl (by decide +kernel) ⟨Nat.le_of_ble_eq_true rfl, Nat.le_of_ble_eq_true rfl⟩) hK hN hP hD hS (Fr.r (Fr.r (Fr.r (Fr.r (Fr.r (Fr.r (Fr.r (Fr.r (Fr.r (Fr.r (Fr.r (Fr.r (Fr.r frsMod))))))))))))) 7 0 rfl rfl rfl hl.1 (Nat.le_of_ble_eq_true rfl) ⟨by show _ ≤ 601024; omega, by show _ ≤ 7293034; omega⟩ dL_law_576 (fun H locs hP hD hS => ?_) rfl
    have hP : va_P D.1 vwCl ((wMob om Ad ot ou) ++ ((wTob ot Ad Aw Am Ae xt hou cro) ++ ((wWays D Aw Lw) ++ ((wMul D Am nm Lm) ++ ((wLet D Ae ne Le) ++ ((wRow D xt yt 60 Nt) ++ ((wTob ou Ad Bw Bm Be xu hou2 cro2) ++ ((wWays D Bw Kw) ++ ((wMul D Bm nm2 Km) ++ ((wLet D Be ne2 Ke) ++ ((wRow D xu yu 60 Nu) ++ ((wLand D Ad nsd fogd nrd Ld) ++ ((wLar D oq (vp_updL fq 0 (tsC Ld Lm Le fogd nm ne a1 a2).toInt64)) ++ (wMod D Ax ((pst Lx fogd nsd nm ne a1 a2).2) nsd fogd nrd nm ne Lx)))))))))))))) H := hP
    have hD : va_D A0 ((wMob om Ad ot ou) ++ ((wTob ot Ad Aw Am Ae xt hou cro) ++ ((wWays D Aw Lw) ++ ((wMul D Am nm Lm) ++ ((wLet D Ae ne Le) ++ ((wRow D xt yt 60 Nt) ++ ((wTob ou Ad Bw Bm Be xu hou2 cro2) ++ ((wWays D Bw Kw) ++ ((wMul D Bm nm2 Km) ++ ((wLet D Be ne2 Ke) ++ ((wRow D xu yu 60 Nu) ++ ((wLand D Ad nsd fogd nrd Ld) ++ ((wLar D oq (vp_updL fq 0 (tsC Ld Lm Le fogd nm ne a1 a2).toInt64)) ++ (wMod D Ax ((pst Lx fogd nsd nm ne a1 a2).2) nsd fogd nrd nm ne Lx)))))))))))))) := hD
    refine W.eq (g2 := F0 m 579 ls [.int ((pst Lx fogd nsd nm ne a1 a2).1)]) rfl ?_
    have r9 := st_rel (fog := fogd) (s := a1) (w := a2) hSY
    rw [r9.1, hk9] at hP hD
    have hP : va_P D.1 vwCl ((wMob om Ad ot ou) ++ ((wTob ot Ad Aw Am Ae xt hou cro) ++ ((wWays D Aw Lw) ++ ((wMul D Am nm Lm) ++ ((wLet D Ae ne Le) ++ ((wRow D xt yt 60 Nt) ++ ((wTob ou Ad Bw Bm Be xu hou2 cro2) ++ ((wWays D Bw Kw) ++ ((wMul D Bm nm2 Km) ++ ((wLet D Be ne2 Ke) ++ ((wRow D xu yu 60 Nu) ++ ((wLand D Ad nsd fogd nrd Ld) ++ ((wLar D oq (vp_updL fq 0 (tsC Ld Lm Le fogd nm ne a1 a2).toInt64)) ++ (wMod D Ax (nI 0) nsd fogd nrd nm ne Lx)))))))))))))) H := hP
    have hD : va_D A0 ((wMob om Ad ot ou) ++ ((wTob ot Ad Aw Am Ae xt hou cro) ++ ((wWays D Aw Lw) ++ ((wMul D Am nm Lm) ++ ((wLet D Ae ne Le) ++ ((wRow D xt yt 60 Nt) ++ ((wTob ou Ad Bw Bm Be xu hou2 cro2) ++ ((wWays D Bw Kw) ++ ((wMul D Bm nm2 Km) ++ ((wLet D Be ne2 Ke) ++ ((wRow D xu yu 60 Nu) ++ ((wLand D Ad nsd fogd nrd Ld) ++ ((wLar D oq (vp_updL fq 0 (tsC Ld Lm Le fogd nm ne a1 a2).toInt64)) ++ (wMod D Ax (nI 0) nsd fogd nrd nm ne Lx)))))))))))))) := hD
    refine W.eq (g2 := F0 m 579 ls [.int (tsC Ld Lm Le fogd nm ne a1 a2)]) (congrArg (fun zz : Int32 => F0 m 579 ls [.int zz]) (show (pst Lx fogd nsd nm ne a1 a2).1 = tsC Ld Lm Le fogd nm ne a1 a2 from r9.2 hk9)) ?_
    refine lv_istore (lv' := [(6, .int (tsC Ld Lm Le fogd nm ne a1 a2)), (5, .int 0), (4, .int (nI (4 * i))), (0, .ref b), (1, .ref om), (2, .ref (Ax 0)), (3, .ref oq)]) hx hb dL_law_579 hl (by decide) rfl (fun ls hl => ?_)
    refine lv_aload_n hx hb dL_law_581 rfl (lv_at hl 5 rfl) ?_
    refine kVp ⟨hx, hb, hml, hown, hts⟩ (c_X7_thrown l D Ax (nI 0) nsd fogd nrd nm ne Lx) (cwV 0 hts gL_law_X7_thrown rfl rfl rfl (by decide +kernel) ⟨Nat.le_of_ble_eq_true rfl, Nat.le_of_ble_eq_true rfl⟩) hK hN hP hD (Sb.r (Sb.r (Sb.r (Sb.r (Sb.r (Sb.r (Sb.r (Sb.r (Sb.r (Sb.r (Sb.r (Sb.r (Sb.r Sb.self))))))))))))) 7 0 rfl rfl rfl hl.1 (Nat.le_of_ble_eq_true rfl) ⟨by show _ ≤ 601024; omega, by show _ ≤ 7293034; omega⟩ dL_law_582 ?_ rfl
    refine lv_iload hx hb dL_law_585 (lv_at hl 1 rfl) ?_
    refine lv_icmp_eq (tgt := 592) hx hb dL_law_587 (by decide) (fun c3 => ?_) (fun c3 => ?_)
    · refine lv_iload hx hb dL_law_592 (lv_at hl 1 rfl) ?_
      refine lv_if_ne (tgt := 609) hx hb dL_law_594 (by decide) (fun c4 => ?_) (fun c4 => ?_)
      · exact absurd c4 (by decide)
      · refine lv_aload_n hx hb dL_law_597 rfl (lv_at hl 6 rfl) ?_
        refine lv_iconst (v := 0) hx hb dL_law_598 (by decide) ?_
        refine va_lald (D := D.1) hx hb hK hP 96 1 rfl rfl (i := (0 : Int32)) (vpl (by decide)) dL_law_599 ?_
        refine W.eq (g2 := F0 m 600 ls [.long ((tsC Ld Lm Le fogd nm ne a1 a2).toInt64)]) (congrArg (fun zz : Int64 => F0 m 600 ls [.long zz]) (show (vp_updL fq 0 (tsC Ld Lm Le fogd nm ne a1 a2).toInt64) ((0 : Int32).toNatClampNeg) = (tsC Ld Lm Le fogd nm ne a1 a2).toInt64 from pk_uLs)) ?_
        refine lv_iload hx hb dL_law_600 (lv_at hl 0 rfl) ?_
        refine lv_i2l hx hb dL_law_602 rfl ?_
        refine W.lcmp hx hb dL_law_603 ?_
        refine W.eq (g2 := F0 m 604 ls [.int 0]) (congrArg (fun zz : Int32 => F0 m 604 ls [.int zz]) (lcmp0 _)) ?_
        refine lv_if_eq (tgt := 609) hx hb dL_law_604 (by decide) (fun c5 => ?_) (fun c5 => ?_)
        · refine lv_goto (tgt := 1447) hx hb dL_law_609 (by decide) ?_
          refine lv_iinc (v := ((nI (4 * i)) + 4)) (lv' := [(4, .int ((nI (4 * i)) + 4)), (6, .int (tsC Ld Lm Le fogd nm ne a1 a2)), (5, .int 0), (0, .ref b), (1, .ref om), (2, .ref (Ax 0)), (3, .ref oq)]) hx hb dL_law_1447 hl (k := 2) rfl rfl (by decide) rfl (fun ls hl => ?_)
          rw [show nI (4 * i) + 4 = nI (4 * (i + 1)) from nI_add (4 * i) 4] at hl
          refine lv_goto (tgt := 23) hx hb dL_law_1450 (by decide) ?_
          refine W.widen (k := 200 + 81 * (i + 1)) (n := 9000 + 11700 * (i + 1)) (by omega) (by omega) ?_
          exact ih Ax hou cro Lw nm Lm ne Le Nt hou2 cro2 Kw nm2 Km ne2 Ke Nu nsd fogd nrd Ld (vp_updL fq 0 (tsC Ld Lm Le fogd nm ne a1 a2).toInt64) (nI 0) Lx h hSY (by omega) H locs hP hD hS ls (lv_sub hl [0, 3, 4, 5, 6] rfl)
        · exact absurd c5 (by decide)
    · exact (c3 (by first | rfl | decide)).elim

set_option maxHeartbeats 4000000 in
set_option maxRecDepth 100000 in
theorem law_c6 {p : Program} {l : Launch} {e : Env} {s : State} {m : MethodId} {below : List Frame} {meth : Method} {c : Code} {D : GG} {b L : Nat} {xs : Nat → Int32} {A0 : Nat → Prop} {om ot ou oq xt yt xu yu : Nat} {Ad Aw Am Ae Bw Bm Be : Nat → Nat} (X : LX p l s m meth c D b L xs A0) {i : Nat} (hi : 4 * i + 4 ≤ L) (ih : LG p l e s m below meth c D b L xs A0 om ot ou oq xt yt xu yu Ad Aw Am Ae Bw Bm Be (i + 1)) {a1 a2 a3 : Int32} (ea1 : xs (nI (4 * i) + 1).toNatClampNeg = a1) (ea2 : xs (nI (4 * i) + 2).toNatClampNeg = a2) (ea3 : xs (nI (4 * i) + 3).toNatClampNeg = a3)
    (Ax : Nat → Nat) (hou cro : Int32) (Lw : Fm) (nm : Nat) (Lm : Fm) (ne : Nat) (Le : Fm) (Nt : Rw) (hou2 cro2 : Int32) (Kw : Fm) (nm2 : Nat) (Km : Fm) (ne2 : Nat) (Ke : Fm) (Nu : Rw) (nsd : Nat) (fogd : Int32) (nrd : Nat) (Ld : Fm) (fq : Nat → Int64) (th : Int32) (Lx : Fm) (h : Nat) (hSY : SY Lw Ld Lm Le hou cro Lx nsd nrd nm ne h) (hh : h ≤ 100 * i) (H : Heap) (locs : List Loc) (hP : va_P D.1 vwCl ((wMob om Ad ot ou) ++ ((wTob ot Ad Aw Am Ae xt hou cro) ++ ((wWays D Aw Lw) ++ ((wMul D Am nm Lm) ++ ((wLet D Ae ne Le) ++ ((wRow D xt yt 60 Nt) ++ ((wTob ou Ad Bw Bm Be xu hou2 cro2) ++ ((wWays D Bw Kw) ++ ((wMul D Bm nm2 Km) ++ ((wLet D Be ne2 Ke) ++ ((wRow D xu yu 60 Nu) ++ ((wLand D Ad nsd fogd nrd Ld) ++ ((wLar D oq fq) ++ (wMod D Ax th nsd fogd nrd nm ne Lx)))))))))))))) H) (hD : va_D A0 ((wMob om Ad ot ou) ++ ((wTob ot Ad Aw Am Ae xt hou cro) ++ ((wWays D Aw Lw) ++ ((wMul D Am nm Lm) ++ ((wLet D Ae ne Le) ++ ((wRow D xt yt 60 Nt) ++ ((wTob ou Ad Bw Bm Be xu hou2 cro2) ++ ((wWays D Bw Kw) ++ ((wMul D Bm nm2 Km) ++ ((wLet D Be ne2 Ke) ++ ((wRow D xu yu 60 Nu) ++ ((wLand D Ad nsd fogd nrd Ld) ++ ((wLar D oq fq) ++ (wMod D Ax th nsd fogd nrd nm ne Lx))))))))))))))) (hS : va_S A0 s.heap H locs) (ls : Array Slot) (hl : lv_has ls 9 [(4, .int (nI (4 * i))), (0, .ref b), (1, .ref om), (2, .ref (Ax 0)), (3, .ref oq)]) : W p l e room_1 s m #[Value.ref b] below meth c H locs (200 + 81 * i) (9000 + 11700 * i) (lw_Z below #[Value.ref b] s) (F0 m 612 ls []) := by
  obtain ⟨hx, hb, hr, hml, hown, hts, hX, hbl, hbA, hlocks, hl9, hCX, hSX, hTX, hZX, hNX, hK, hN, hA, -, hL⟩ := X
  have hS9 : okS Lx nsd nrd nm ne := okS_rel hSY.1
  have b10 : nsd ≤ 10 := hSY.1.1.1
  have b15 : nrd ≤ 15 := hSY.1.1.2.1
  have b12 : nm ≤ 12 := hSY.1.2.2.1.1
  have b60 : ne ≤ 60 := hSY.1.2.2.2.1
  have hrE : rE Le Lx ne := hSY.1.2.2.2.2.2.2.2.2.2.1
  have he : ne < 2 ^ 31 := by omega
  have hm : nm < 2 ^ 31 := by omega
  have hns : nsd < 2 ^ 31 := by omega
  have hnr : nrd < 2 ^ 31 := by omega
  refine lv_aload_n hx hb dL_law_612 rfl (lv_at hl 2 rfl) ?_
  refine lv_aload_n hx hb dL_law_613 rfl (lv_at hl 1 rfl) ?_
  refine lv_iload hx hb dL_law_614 (lv_at hl 0 rfl) ?_
  refine lv_iconst (v := 1) hx hb dL_law_616 (by decide) ?_
  refine lv_iadd hx hb dL_law_617 ?_
  refine va_sld hx hb hX hbl hbA hS (i := ((nI (4 * i)) + 1)) (inS1 hi hL) dL_law_618 ?_
  refine W.eq (g2 := F0 m 619 ls [.int a1, .ref om]) (congrArg (fun zz : Int32 => F0 m 619 ls [.int zz, .ref om]) ea1) ?_
  refine lv_aload_n hx hb dL_law_619 rfl (lv_at hl 1 rfl) ?_
  refine lv_iload hx hb dL_law_620 (lv_at hl 0 rfl) ?_
  refine lv_iconst (v := 2) hx hb dL_law_622 (by decide) ?_
  refine lv_iadd hx hb dL_law_623 ?_
  refine va_sld hx hb hX hbl hbA hS (i := ((nI (4 * i)) + 2)) (inS2 hi hL) dL_law_624 ?_
  refine W.eq (g2 := F0 m 625 ls [.int a2, .int a1, .ref om]) (congrArg (fun zz : Int32 => F0 m 625 ls [.int zz, .int a1, .ref om]) ea2) ?_
  refine lv_aload_n hx hb dL_law_625 rfl (lv_at hl 4 rfl) ?_
  refine kSL ⟨hx, hb, hml, hown, hts⟩ (c_L_road l D om Ad ot ou Aw Am Ae xt hou cro Lw nm Lm ne Le yt Nt nsd fogd nrd Ld oq fq a1 a2 _ (by assumption) hl9) (vx_cwSW 4 hts gL_law_L_road rfl rfl rfl (by decide +kernel) ⟨Nat.le_of_ble_eq_true rfl, Nat.le_of_ble_eq_true rfl⟩) hCX hSX hTX hZX hNX hK hN hP hD hS hA (fun z => (Fr.app (Fr.kp Sb.self) (Fr.app (Fr.kp Sb.self) (Fr.app (Fr.kp Sb.self) (Fr.app (Fr.kp Sb.self) (Fr.app (Fr.kp Sb.self) (Fr.app (Fr.kp Sb.self) (Fr.r (Fr.r (Fr.r (Fr.r (Fr.r (Fr.app (Fr.kp Sb.self) (Fr.l frsLar)))))))))))))) (Sb.app Sb.self (Sb.app Sb.self (Sb.app Sb.self (Sb.app Sb.self (Sb.app Sb.self (Sb.app Sb.self (Sb.r (Sb.r (Sb.r (Sb.r (Sb.r (Sb.app Sb.self (Sb.l Sb.self))))))))))))) rfl hl.1 (Nat.le_of_ble_eq_true rfl) ⟨by show _ ≤ 601024; omega, by show _ ≤ 7293034; omega⟩ dL_law_626 (fun H locs hk9 hP hD hS => ?_) (fun z H locs hk9 hP hD hS => ?_) rfl
  · have hP : va_P D.1 vwCl ((wMob om Ad ot ou) ++ ((wTob ot Ad Aw Am Ae xt hou cro) ++ ((wWays D Aw Lw) ++ ((wMul D Am nm Lm) ++ ((wLet D Ae ne Le) ++ ((wRow D xt yt 60 Nt) ++ ((wTob ou Ad Bw Bm Be xu hou2 cro2) ++ ((wWays D Bw Kw) ++ ((wMul D Bm nm2 Km) ++ ((wLet D Be ne2 Ke) ++ ((wRow D xu yu 60 Nu) ++ ((wLand D Ad nsd fogd nrd Ld) ++ ((wLar D oq fq) ++ (wMod D Ax th nsd fogd nrd nm ne Lx)))))))))))))) H := hP
    have hD : va_D A0 ((wMob om Ad ot ou) ++ ((wTob ot Ad Aw Am Ae xt hou cro) ++ ((wWays D Aw Lw) ++ ((wMul D Am nm Lm) ++ ((wLet D Ae ne Le) ++ ((wRow D xt yt 60 Nt) ++ ((wTob ou Ad Bw Bm Be xu hou2 cro2) ++ ((wWays D Bw Kw) ++ ((wMul D Bm nm2 Km) ++ ((wLet D Be ne2 Ke) ++ ((wRow D xu yu 60 Nu) ++ ((wLand D Ad nsd fogd nrd Ld) ++ ((wLar D oq fq) ++ (wMod D Ax th nsd fogd nrd nm ne Lx)))))))))))))) := hD
    refine lv_istore (lv' := [(5, .int (nI (kTL nrd 5 a1 a2))), (4, .int (nI (4 * i))), (0, .ref b), (1, .ref om), (2, .ref (Ax 0)), (3, .ref oq)]) hx hb dL_law_629 hl (by decide) rfl (fun ls hl => ?_)
    refine lv_aload_n hx hb dL_law_631 rfl (lv_at hl 4 rfl) ?_
    refine lv_aload_n hx hb dL_law_632 rfl (lv_at hl 2 rfl) ?_
    refine lv_iload hx hb dL_law_633 (lv_at hl 1 rfl) ?_
    refine lv_iconst (v := 1) hx hb dL_law_635 (by decide) ?_
    refine lv_iadd hx hb dL_law_636 ?_
    refine va_sld hx hb hX hbl hbA hS (i := ((nI (4 * i)) + 1)) (inS1 hi hL) dL_law_637 ?_
    refine W.eq (g2 := F0 m 638 ls [.int a1, .ref (Ax 0)]) (congrArg (fun zz : Int32 => F0 m 638 ls [.int zz, .ref (Ax 0)]) ea1) ?_
    refine lv_aload_n hx hb dL_law_638 rfl (lv_at hl 2 rfl) ?_
    refine lv_iload hx hb dL_law_639 (lv_at hl 1 rfl) ?_
    refine lv_iconst (v := 2) hx hb dL_law_641 (by decide) ?_
    refine lv_iadd hx hb dL_law_642 ?_
    refine va_sld hx hb hX hbl hbA hS (i := ((nI (4 * i)) + 2)) (inS2 hi hL) dL_law_643 ?_
    refine W.eq (g2 := F0 m 644 ls [.int a2, .int a1, .ref (Ax 0)]) (congrArg (fun zz : Int32 => F0 m 644 ls [.int zz, .int a1, .ref (Ax 0)]) ea2) ?_
    refine kVw ⟨hx, hb, hml, hown, hts⟩ (c_X7_road l D Ax th nsd fogd nrd nm ne Lx a1 a2 (by assumption) (by assumption) (by assumption) (by assumption) hS9.1) (cwV 2 hts gL_law_X7_road rfl rfl rfl (by decide +kernel) ⟨Nat.le_of_ble_eq_true rfl, Nat.le_of_ble_eq_true rfl⟩) hK hN hP hD hS (Fr.r (Fr.r (Fr.r (Fr.r (Fr.r (Fr.r (Fr.r (Fr.r (Fr.r (Fr.r (Fr.r (Fr.r (Fr.r frsMod))))))))))))) 7 0 rfl rfl rfl hl.1 (Nat.le_of_ble_eq_true rfl) ⟨by show _ ≤ 601024; omega, by show _ ≤ 7293034; omega⟩ dL_law_644 (fun H locs hP hD hS => ?_) rfl
    have hP : va_P D.1 vwCl ((wMob om Ad ot ou) ++ ((wTob ot Ad Aw Am Ae xt hou cro) ++ ((wWays D Aw Lw) ++ ((wMul D Am nm Lm) ++ ((wLet D Ae ne Le) ++ ((wRow D xt yt 60 Nt) ++ ((wTob ou Ad Bw Bm Be xu hou2 cro2) ++ ((wWays D Bw Kw) ++ ((wMul D Bm nm2 Km) ++ ((wLet D Be ne2 Ke) ++ ((wRow D xu yu 60 Nu) ++ ((wLand D Ad nsd fogd nrd Ld) ++ ((wLar D oq fq) ++ (wMod D Ax ((prd Lx nrd nm a1 a2).2) nsd fogd nrd nm ne Lx)))))))))))))) H := hP
    have hD : va_D A0 ((wMob om Ad ot ou) ++ ((wTob ot Ad Aw Am Ae xt hou cro) ++ ((wWays D Aw Lw) ++ ((wMul D Am nm Lm) ++ ((wLet D Ae ne Le) ++ ((wRow D xt yt 60 Nt) ++ ((wTob ou Ad Bw Bm Be xu hou2 cro2) ++ ((wWays D Bw Kw) ++ ((wMul D Bm nm2 Km) ++ ((wLet D Be ne2 Ke) ++ ((wRow D xu yu 60 Nu) ++ ((wLand D Ad nsd fogd nrd Ld) ++ ((wLar D oq fq) ++ (wMod D Ax ((prd Lx nrd nm a1 a2).2) nsd fogd nrd nm ne Lx)))))))))))))) := hD
    refine W.eq (g2 := F0 m 647 ls [.int ((prd Lx nrd nm a1 a2).1)]) rfl ?_
    have r9 := tr_rel (s := a1) (w := a2) hSY
    rw [r9.1] at hP hD
    have hP : va_P D.1 vwCl ((wMob om Ad ot ou) ++ ((wTob ot Ad Aw Am Ae xt hou cro) ++ ((wWays D Aw Lw) ++ ((wMul D Am nm Lm) ++ ((wLet D Ae ne Le) ++ ((wRow D xt yt 60 Nt) ++ ((wTob ou Ad Bw Bm Be xu hou2 cro2) ++ ((wWays D Bw Kw) ++ ((wMul D Bm nm2 Km) ++ ((wLet D Be ne2 Ke) ++ ((wRow D xu yu 60 Nu) ++ ((wLand D Ad nsd fogd nrd Ld) ++ ((wLar D oq fq) ++ (wMod D Ax (nI (kTL nrd 5 a1 a2)) nsd fogd nrd nm ne Lx)))))))))))))) H := hP
    have hD : va_D A0 ((wMob om Ad ot ou) ++ ((wTob ot Ad Aw Am Ae xt hou cro) ++ ((wWays D Aw Lw) ++ ((wMul D Am nm Lm) ++ ((wLet D Ae ne Le) ++ ((wRow D xt yt 60 Nt) ++ ((wTob ou Ad Bw Bm Be xu hou2 cro2) ++ ((wWays D Bw Kw) ++ ((wMul D Bm nm2 Km) ++ ((wLet D Be ne2 Ke) ++ ((wRow D xu yu 60 Nu) ++ ((wLand D Ad nsd fogd nrd Ld) ++ ((wLar D oq fq) ++ (wMod D Ax (nI (kTL nrd 5 a1 a2)) nsd fogd nrd nm ne Lx)))))))))))))) := hD
    refine lv_istore (lv' := [(6, .int ((prd Lx nrd nm a1 a2).1)), (5, .int (nI (kTL nrd 5 a1 a2))), (4, .int (nI (4 * i))), (0, .ref b), (1, .ref om), (2, .ref (Ax 0)), (3, .ref oq)]) hx hb dL_law_647 hl (by decide) rfl (fun ls hl => ?_)
    refine lv_aload_n hx hb dL_law_649 rfl (lv_at hl 5 rfl) ?_
    refine kVp ⟨hx, hb, hml, hown, hts⟩ (c_X7_thrown l D Ax (nI (kTL nrd 5 a1 a2)) nsd fogd nrd nm ne Lx) (cwV 0 hts gL_law_X7_thrown rfl rfl rfl (by decide +kernel) ⟨Nat.le_of_ble_eq_true rfl, Nat.le_of_ble_eq_true rfl⟩) hK hN hP hD (Sb.r (Sb.r (Sb.r (Sb.r (Sb.r (Sb.r (Sb.r (Sb.r (Sb.r (Sb.r (Sb.r (Sb.r (Sb.r Sb.self))))))))))))) 7 0 rfl rfl rfl hl.1 (Nat.le_of_ble_eq_true rfl) ⟨by show _ ≤ 601024; omega, by show _ ≤ 7293034; omega⟩ dL_law_650 ?_ rfl
    refine lv_iload hx hb dL_law_653 (lv_at hl 1 rfl) ?_
    refine lv_icmp_eq (tgt := 660) hx hb dL_law_655 (by decide) (fun c1 => ?_) (fun c1 => ?_)
    · refine lv_iload hx hb dL_law_660 (lv_at hl 1 rfl) ?_
      refine lv_if_ne (tgt := 677) hx hb dL_law_662 (by decide) (fun c2 => ?_) (fun c2 => ?_)
      · refine lv_goto (tgt := 1447) hx hb dL_law_677 (by decide) ?_
        refine lv_iinc (v := ((nI (4 * i)) + 4)) (lv' := [(4, .int ((nI (4 * i)) + 4)), (6, .int ((prd Lx nrd nm a1 a2).1)), (5, .int (nI (kTL nrd 5 a1 a2))), (0, .ref b), (1, .ref om), (2, .ref (Ax 0)), (3, .ref oq)]) hx hb dL_law_1447 hl (k := 2) rfl rfl (by decide) rfl (fun ls hl => ?_)
        rw [show nI (4 * i) + 4 = nI (4 * (i + 1)) from nI_add (4 * i) 4] at hl
        refine lv_goto (tgt := 23) hx hb dL_law_1450 (by decide) ?_
        refine W.widen (k := 200 + 81 * (i + 1)) (n := 9000 + 11700 * (i + 1)) (by omega) (by omega) ?_
        exact ih Ax hou cro Lw nm Lm ne Le Nt hou2 cro2 Kw nm2 Km ne2 Ke Nu nsd fogd nrd Ld fq (nI (kTL nrd 5 a1 a2)) Lx h hSY (by omega) H locs hP hD hS ls (lv_sub hl [0, 3, 4, 5, 6] rfl)
      · exact (nI_ne0 (Nat.pos_of_ne_zero hk9) (Nat.lt_of_le_of_lt (kTL_b _ _ _ _) (by decide)) c2).elim
    · exact (c1 (by first | rfl | decide)).elim
  · have hP : va_P D.1 vwCl ((wMob om Ad ot ou) ++ ((wTob ot Ad Aw Am Ae xt hou cro) ++ ((wWays D Aw Lw) ++ ((wMul D Am nm Lm) ++ ((wLet D Ae ne Le) ++ ((wRow D xt yt 60 Nt) ++ ((wTob ou Ad Bw Bm Be xu hou2 cro2) ++ ((wWays D Bw Kw) ++ ((wMul D Bm nm2 Km) ++ ((wLet D Be ne2 Ke) ++ ((wRow D xu yu 60 Nu) ++ ((wLand D Ad nsd fogd nrd Ld) ++ ((wLar D oq (vp_updL fq 0 (trC Ld Lm nm a1 a2).toInt64)) ++ (wMod D Ax th nsd fogd nrd nm ne Lx)))))))))))))) H := hP
    have hD : va_D A0 ((wMob om Ad ot ou) ++ ((wTob ot Ad Aw Am Ae xt hou cro) ++ ((wWays D Aw Lw) ++ ((wMul D Am nm Lm) ++ ((wLet D Ae ne Le) ++ ((wRow D xt yt 60 Nt) ++ ((wTob ou Ad Bw Bm Be xu hou2 cro2) ++ ((wWays D Bw Kw) ++ ((wMul D Bm nm2 Km) ++ ((wLet D Be ne2 Ke) ++ ((wRow D xu yu 60 Nu) ++ ((wLand D Ad nsd fogd nrd Ld) ++ ((wLar D oq (vp_updL fq 0 (trC Ld Lm nm a1 a2).toInt64)) ++ (wMod D Ax th nsd fogd nrd nm ne Lx)))))))))))))) := hD
    refine lv_istore (lv' := [(5, .int 0), (4, .int (nI (4 * i))), (0, .ref b), (1, .ref om), (2, .ref (Ax 0)), (3, .ref oq)]) hx hb dL_law_629 hl (by decide) rfl (fun ls hl => ?_)
    refine lv_aload_n hx hb dL_law_631 rfl (lv_at hl 4 rfl) ?_
    refine lv_aload_n hx hb dL_law_632 rfl (lv_at hl 2 rfl) ?_
    refine lv_iload hx hb dL_law_633 (lv_at hl 1 rfl) ?_
    refine lv_iconst (v := 1) hx hb dL_law_635 (by decide) ?_
    refine lv_iadd hx hb dL_law_636 ?_
    refine va_sld hx hb hX hbl hbA hS (i := ((nI (4 * i)) + 1)) (inS1 hi hL) dL_law_637 ?_
    refine W.eq (g2 := F0 m 638 ls [.int a1, .ref (Ax 0)]) (congrArg (fun zz : Int32 => F0 m 638 ls [.int zz, .ref (Ax 0)]) ea1) ?_
    refine lv_aload_n hx hb dL_law_638 rfl (lv_at hl 2 rfl) ?_
    refine lv_iload hx hb dL_law_639 (lv_at hl 1 rfl) ?_
    refine lv_iconst (v := 2) hx hb dL_law_641 (by decide) ?_
    refine lv_iadd hx hb dL_law_642 ?_
    refine va_sld hx hb hX hbl hbA hS (i := ((nI (4 * i)) + 2)) (inS2 hi hL) dL_law_643 ?_
    refine W.eq (g2 := F0 m 644 ls [.int a2, .int a1, .ref (Ax 0)]) (congrArg (fun zz : Int32 => F0 m 644 ls [.int zz, .int a1, .ref (Ax 0)]) ea2) ?_
    refine kVw ⟨hx, hb, hml, hown, hts⟩ (c_X7_road l D Ax th nsd fogd nrd nm ne Lx a1 a2 (by assumption) (by assumption) (by assumption) (by assumption) hS9.1) (cwV 2 hts gL_law_X7_road rfl rfl rfl (by decide +kernel) ⟨Nat.le_of_ble_eq_true rfl, Nat.le_of_ble_eq_true rfl⟩) hK hN hP hD hS (Fr.r (Fr.r (Fr.r (Fr.r (Fr.r (Fr.r (Fr.r (Fr.r (Fr.r (Fr.r (Fr.r (Fr.r (Fr.r frsMod))))))))))))) 7 0 rfl rfl rfl hl.1 (Nat.le_of_ble_eq_true rfl) ⟨by show _ ≤ 601024; omega, by show _ ≤ 7293034; omega⟩ dL_law_644 (fun H locs hP hD hS => ?_) rfl
    have hP : va_P D.1 vwCl ((wMob om Ad ot ou) ++ ((wTob ot Ad Aw Am Ae xt hou cro) ++ ((wWays D Aw Lw) ++ ((wMul D Am nm Lm) ++ ((wLet D Ae ne Le) ++ ((wRow D xt yt 60 Nt) ++ ((wTob ou Ad Bw Bm Be xu hou2 cro2) ++ ((wWays D Bw Kw) ++ ((wMul D Bm nm2 Km) ++ ((wLet D Be ne2 Ke) ++ ((wRow D xu yu 60 Nu) ++ ((wLand D Ad nsd fogd nrd Ld) ++ ((wLar D oq (vp_updL fq 0 (trC Ld Lm nm a1 a2).toInt64)) ++ (wMod D Ax ((prd Lx nrd nm a1 a2).2) nsd fogd nrd nm ne Lx)))))))))))))) H := hP
    have hD : va_D A0 ((wMob om Ad ot ou) ++ ((wTob ot Ad Aw Am Ae xt hou cro) ++ ((wWays D Aw Lw) ++ ((wMul D Am nm Lm) ++ ((wLet D Ae ne Le) ++ ((wRow D xt yt 60 Nt) ++ ((wTob ou Ad Bw Bm Be xu hou2 cro2) ++ ((wWays D Bw Kw) ++ ((wMul D Bm nm2 Km) ++ ((wLet D Be ne2 Ke) ++ ((wRow D xu yu 60 Nu) ++ ((wLand D Ad nsd fogd nrd Ld) ++ ((wLar D oq (vp_updL fq 0 (trC Ld Lm nm a1 a2).toInt64)) ++ (wMod D Ax ((prd Lx nrd nm a1 a2).2) nsd fogd nrd nm ne Lx)))))))))))))) := hD
    refine W.eq (g2 := F0 m 647 ls [.int ((prd Lx nrd nm a1 a2).1)]) rfl ?_
    have r9 := tr_rel (s := a1) (w := a2) hSY
    rw [r9.1, hk9] at hP hD
    have hP : va_P D.1 vwCl ((wMob om Ad ot ou) ++ ((wTob ot Ad Aw Am Ae xt hou cro) ++ ((wWays D Aw Lw) ++ ((wMul D Am nm Lm) ++ ((wLet D Ae ne Le) ++ ((wRow D xt yt 60 Nt) ++ ((wTob ou Ad Bw Bm Be xu hou2 cro2) ++ ((wWays D Bw Kw) ++ ((wMul D Bm nm2 Km) ++ ((wLet D Be ne2 Ke) ++ ((wRow D xu yu 60 Nu) ++ ((wLand D Ad nsd fogd nrd Ld) ++ ((wLar D oq (vp_updL fq 0 (trC Ld Lm nm a1 a2).toInt64)) ++ (wMod D Ax (nI 0) nsd fogd nrd nm ne Lx)))))))))))))) H := hP
    have hD : va_D A0 ((wMob om Ad ot ou) ++ ((wTob ot Ad Aw Am Ae xt hou cro) ++ ((wWays D Aw Lw) ++ ((wMul D Am nm Lm) ++ ((wLet D Ae ne Le) ++ ((wRow D xt yt 60 Nt) ++ ((wTob ou Ad Bw Bm Be xu hou2 cro2) ++ ((wWays D Bw Kw) ++ ((wMul D Bm nm2 Km) ++ ((wLet D Be ne2 Ke) ++ ((wRow D xu yu 60 Nu) ++ ((wLand D Ad nsd fogd nrd Ld) ++ ((wLar D oq (vp_updL fq 0 (trC Ld Lm nm a1 a2).toInt64)) ++ (wMod D Ax (nI 0) nsd fogd nrd nm ne Lx)))))))))))))) := hD
    refine W.eq (g2 := F0 m 647 ls [.int (trC Ld Lm nm a1 a2)]) (congrArg (fun zz : Int32 => F0 m 647 ls [.int zz]) (show (prd Lx nrd nm a1 a2).1 = trC Ld Lm nm a1 a2 from r9.2 hk9)) ?_
    refine lv_istore (lv' := [(6, .int (trC Ld Lm nm a1 a2)), (5, .int 0), (4, .int (nI (4 * i))), (0, .ref b), (1, .ref om), (2, .ref (Ax 0)), (3, .ref oq)]) hx hb dL_law_647 hl (by decide) rfl (fun ls hl => ?_)
    refine lv_aload_n hx hb dL_law_649 rfl (lv_at hl 5 rfl) ?_
    refine kVp ⟨hx, hb, hml, hown, hts⟩ (c_X7_thrown l D Ax (nI 0) nsd fogd nrd nm ne Lx) (cwV 0 hts gL_law_X7_thrown rfl rfl rfl (by decide +kernel) ⟨Nat.le_of_ble_eq_true rfl, Nat.le_of_ble_eq_true rfl⟩) hK hN hP hD (Sb.r (Sb.r (Sb.r (Sb.r (Sb.r (Sb.r (Sb.r (Sb.r (Sb.r (Sb.r (Sb.r (Sb.r (Sb.r Sb.self))))))))))))) 7 0 rfl rfl rfl hl.1 (Nat.le_of_ble_eq_true rfl) ⟨by show _ ≤ 601024; omega, by show _ ≤ 7293034; omega⟩ dL_law_650 ?_ rfl
    refine lv_iload hx hb dL_law_653 (lv_at hl 1 rfl) ?_
    refine lv_icmp_eq (tgt := 660) hx hb dL_law_655 (by decide) (fun c3 => ?_) (fun c3 => ?_)
    · refine lv_iload hx hb dL_law_660 (lv_at hl 1 rfl) ?_
      refine lv_if_ne (tgt := 677) hx hb dL_law_662 (by decide) (fun c4 => ?_) (fun c4 => ?_)
      · exact absurd c4 (by decide)
      · refine lv_aload_n hx hb dL_law_665 rfl (lv_at hl 6 rfl) ?_
        refine lv_iconst (v := 0) hx hb dL_law_666 (by decide) ?_
        refine va_lald (D := D.1) hx hb hK hP 96 1 rfl rfl (i := (0 : Int32)) (vpl (by decide)) dL_law_667 ?_
        refine W.eq (g2 := F0 m 668 ls [.long ((trC Ld Lm nm a1 a2).toInt64)]) (congrArg (fun zz : Int64 => F0 m 668 ls [.long zz]) (show (vp_updL fq 0 (trC Ld Lm nm a1 a2).toInt64) ((0 : Int32).toNatClampNeg) = (trC Ld Lm nm a1 a2).toInt64 from pk_uLs)) ?_
        refine lv_iload hx hb dL_law_668 (lv_at hl 0 rfl) ?_
        refine lv_i2l hx hb dL_law_670 rfl ?_
        refine W.lcmp hx hb dL_law_671 ?_
        refine W.eq (g2 := F0 m 672 ls [.int 0]) (congrArg (fun zz : Int32 => F0 m 672 ls [.int zz]) (lcmp0 _)) ?_
        refine lv_if_eq (tgt := 677) hx hb dL_law_672 (by decide) (fun c5 => ?_) (fun c5 => ?_)
        · refine lv_goto (tgt := 1447) hx hb dL_law_677 (by decide) ?_
          refine lv_iinc (v := ((nI (4 * i)) + 4)) (lv' := [(4, .int ((nI (4 * i)) + 4)), (6, .int (trC Ld Lm nm a1 a2)), (5, .int 0), (0, .ref b), (1, .ref om), (2, .ref (Ax 0)), (3, .ref oq)]) hx hb dL_law_1447 hl (k := 2) rfl rfl (by decide) rfl (fun ls hl => ?_)
          rw [show nI (4 * i) + 4 = nI (4 * (i + 1)) from nI_add (4 * i) 4] at hl
          refine lv_goto (tgt := 23) hx hb dL_law_1450 (by decide) ?_
          refine W.widen (k := 200 + 81 * (i + 1)) (n := 9000 + 11700 * (i + 1)) (by omega) (by omega) ?_
          exact ih Ax hou cro Lw nm Lm ne Le Nt hou2 cro2 Kw nm2 Km ne2 Ke Nu nsd fogd nrd Ld (vp_updL fq 0 (trC Ld Lm nm a1 a2).toInt64) (nI 0) Lx h hSY (by omega) H locs hP hD hS ls (lv_sub hl [0, 3, 4, 5, 6] rfl)
        · exact absurd c5 (by decide)
    · exact (c3 (by first | rfl | decide)).elim

set_option maxHeartbeats 4000000 in
set_option maxRecDepth 100000 in
theorem law_c7 {p : Program} {l : Launch} {e : Env} {s : State} {m : MethodId} {below : List Frame} {meth : Method} {c : Code} {D : GG} {b L : Nat} {xs : Nat → Int32} {A0 : Nat → Prop} {om ot ou oq xt yt xu yu : Nat} {Ad Aw Am Ae Bw Bm Be : Nat → Nat} (X : LX p l s m meth c D b L xs A0) {i : Nat} (hi : 4 * i + 4 ≤ L) (ih : LG p l e s m below meth c D b L xs A0 om ot ou oq xt yt xu yu Ad Aw Am Ae Bw Bm Be (i + 1)) {a1 a2 a3 : Int32} (ea1 : xs (nI (4 * i) + 1).toNatClampNeg = a1) (ea2 : xs (nI (4 * i) + 2).toNatClampNeg = a2) (ea3 : xs (nI (4 * i) + 3).toNatClampNeg = a3)
    (Ax : Nat → Nat) (hou cro : Int32) (Lw : Fm) (nm : Nat) (Lm : Fm) (ne : Nat) (Le : Fm) (Nt : Rw) (hou2 cro2 : Int32) (Kw : Fm) (nm2 : Nat) (Km : Fm) (ne2 : Nat) (Ke : Fm) (Nu : Rw) (nsd : Nat) (fogd : Int32) (nrd : Nat) (Ld : Fm) (fq : Nat → Int64) (th : Int32) (Lx : Fm) (h : Nat) (hSY : SY Lw Ld Lm Le hou cro Lx nsd nrd nm ne h) (hh : h ≤ 100 * i) (H : Heap) (locs : List Loc) (hP : va_P D.1 vwCl ((wMob om Ad ot ou) ++ ((wTob ot Ad Aw Am Ae xt hou cro) ++ ((wWays D Aw Lw) ++ ((wMul D Am nm Lm) ++ ((wLet D Ae ne Le) ++ ((wRow D xt yt 60 Nt) ++ ((wTob ou Ad Bw Bm Be xu hou2 cro2) ++ ((wWays D Bw Kw) ++ ((wMul D Bm nm2 Km) ++ ((wLet D Be ne2 Ke) ++ ((wRow D xu yu 60 Nu) ++ ((wLand D Ad nsd fogd nrd Ld) ++ ((wLar D oq fq) ++ (wMod D Ax th nsd fogd nrd nm ne Lx)))))))))))))) H) (hD : va_D A0 ((wMob om Ad ot ou) ++ ((wTob ot Ad Aw Am Ae xt hou cro) ++ ((wWays D Aw Lw) ++ ((wMul D Am nm Lm) ++ ((wLet D Ae ne Le) ++ ((wRow D xt yt 60 Nt) ++ ((wTob ou Ad Bw Bm Be xu hou2 cro2) ++ ((wWays D Bw Kw) ++ ((wMul D Bm nm2 Km) ++ ((wLet D Be ne2 Ke) ++ ((wRow D xu yu 60 Nu) ++ ((wLand D Ad nsd fogd nrd Ld) ++ ((wLar D oq fq) ++ (wMod D Ax th nsd fogd nrd nm ne Lx))))))))))))))) (hS : va_S A0 s.heap H locs) (ls : Array Slot) (hl : lv_has ls 9 [(4, .int (nI (4 * i))), (0, .ref b), (1, .ref om), (2, .ref (Ax 0)), (3, .ref oq)]) : W p l e room_1 s m #[Value.ref b] below meth c H locs (200 + 81 * i) (9000 + 11700 * i) (lw_Z below #[Value.ref b] s) (F0 m 680 ls []) := by
  obtain ⟨hx, hb, hr, hml, hown, hts, hX, hbl, hbA, hlocks, hl9, hCX, hSX, hTX, hZX, hNX, hK, hN, hA, -, hL⟩ := X
  have hS9 : okS Lx nsd nrd nm ne := okS_rel hSY.1
  have b10 : nsd ≤ 10 := hSY.1.1.1
  have b15 : nrd ≤ 15 := hSY.1.1.2.1
  have b12 : nm ≤ 12 := hSY.1.2.2.1.1
  have b60 : ne ≤ 60 := hSY.1.2.2.2.1
  have hrE : rE Le Lx ne := hSY.1.2.2.2.2.2.2.2.2.2.1
  have he : ne < 2 ^ 31 := by omega
  have hm : nm < 2 ^ 31 := by omega
  have hns : nsd < 2 ^ 31 := by omega
  have hnr : nrd < 2 ^ 31 := by omega
  refine lv_aload_n hx hb dL_law_680 rfl (lv_at hl 2 rfl) ?_
  refine lv_aload_n hx hb dL_law_681 rfl (lv_at hl 1 rfl) ?_
  refine lv_iload hx hb dL_law_682 (lv_at hl 0 rfl) ?_
  refine lv_iconst (v := 1) hx hb dL_law_684 (by decide) ?_
  refine lv_iadd hx hb dL_law_685 ?_
  refine va_sld hx hb hX hbl hbA hS (i := ((nI (4 * i)) + 1)) (inS1 hi hL) dL_law_686 ?_
  refine W.eq (g2 := F0 m 687 ls [.int a1, .ref om]) (congrArg (fun zz : Int32 => F0 m 687 ls [.int zz, .ref om]) ea1) ?_
  refine lv_aload_n hx hb dL_law_687 rfl (lv_at hl 1 rfl) ?_
  refine lv_iload hx hb dL_law_688 (lv_at hl 0 rfl) ?_
  refine lv_iconst (v := 2) hx hb dL_law_690 (by decide) ?_
  refine lv_iadd hx hb dL_law_691 ?_
  refine va_sld hx hb hX hbl hbA hS (i := ((nI (4 * i)) + 2)) (inS2 hi hL) dL_law_692 ?_
  refine W.eq (g2 := F0 m 693 ls [.int a2, .int a1, .ref om]) (congrArg (fun zz : Int32 => F0 m 693 ls [.int zz, .int a1, .ref om]) ea2) ?_
  refine lv_aload_n hx hb dL_law_693 rfl (lv_at hl 4 rfl) ?_
  refine kSL ⟨hx, hb, hml, hown, hts⟩ (c_L_mule l D om Ad ot ou Aw Am Ae xt hou cro Lw nm Lm ne Le yt Nt nsd fogd nrd Ld oq fq a1 a2 _ (by assumption) hl9) (vx_cwSW 4 hts gL_law_L_mule rfl rfl rfl (by decide +kernel) ⟨Nat.le_of_ble_eq_true rfl, Nat.le_of_ble_eq_true rfl⟩) hCX hSX hTX hZX hNX hK hN hP hD hS hA (fun z => (Fr.app (Fr.kp Sb.self) (Fr.app (Fr.kp Sb.self) (Fr.app (Fr.kp Sb.self) (Fr.app (Fr.kp Sb.self) (Fr.app (Fr.kp Sb.self) (Fr.app (Fr.kp Sb.self) (Fr.r (Fr.r (Fr.r (Fr.r (Fr.r (Fr.app (Fr.kp Sb.self) (Fr.l frsLar)))))))))))))) (Sb.app Sb.self (Sb.app Sb.self (Sb.app Sb.self (Sb.app Sb.self (Sb.app Sb.self (Sb.app Sb.self (Sb.r (Sb.r (Sb.r (Sb.r (Sb.r (Sb.app Sb.self (Sb.l Sb.self))))))))))))) rfl hl.1 (Nat.le_of_ble_eq_true rfl) ⟨by show _ ≤ 601024; omega, by show _ ≤ 7293034; omega⟩ dL_law_694 (fun H locs hk9 hP hD hS => ?_) (fun z H locs hk9 hP hD hS => ?_) rfl
  · have hP : va_P D.1 vwCl ((wMob om Ad ot ou) ++ ((wTob ot Ad Aw Am Ae xt hou cro) ++ ((wWays D Aw Lw) ++ ((wMul D Am nm Lm) ++ ((wLet D Ae ne Le) ++ ((wRow D xt yt 60 Nt) ++ ((wTob ou Ad Bw Bm Be xu hou2 cro2) ++ ((wWays D Bw Kw) ++ ((wMul D Bm nm2 Km) ++ ((wLet D Be ne2 Ke) ++ ((wRow D xu yu 60 Nu) ++ ((wLand D Ad nsd fogd nrd Ld) ++ ((wLar D oq fq) ++ (wMod D Ax th nsd fogd nrd nm ne Lx)))))))))))))) H := hP
    have hD : va_D A0 ((wMob om Ad ot ou) ++ ((wTob ot Ad Aw Am Ae xt hou cro) ++ ((wWays D Aw Lw) ++ ((wMul D Am nm Lm) ++ ((wLet D Ae ne Le) ++ ((wRow D xt yt 60 Nt) ++ ((wTob ou Ad Bw Bm Be xu hou2 cro2) ++ ((wWays D Bw Kw) ++ ((wMul D Bm nm2 Km) ++ ((wLet D Be ne2 Ke) ++ ((wRow D xu yu 60 Nu) ++ ((wLand D Ad nsd fogd nrd Ld) ++ ((wLar D oq fq) ++ (wMod D Ax th nsd fogd nrd nm ne Lx)))))))))))))) := hD
    refine lv_istore (lv' := [(5, .int (nI (kTL nm 5 a1 a2))), (4, .int (nI (4 * i))), (0, .ref b), (1, .ref om), (2, .ref (Ax 0)), (3, .ref oq)]) hx hb dL_law_697 hl (by decide) rfl (fun ls hl => ?_)
    refine lv_aload_n hx hb dL_law_699 rfl (lv_at hl 4 rfl) ?_
    refine lv_aload_n hx hb dL_law_700 rfl (lv_at hl 2 rfl) ?_
    refine lv_iload hx hb dL_law_701 (lv_at hl 1 rfl) ?_
    refine lv_iconst (v := 1) hx hb dL_law_703 (by decide) ?_
    refine lv_iadd hx hb dL_law_704 ?_
    refine va_sld hx hb hX hbl hbA hS (i := ((nI (4 * i)) + 1)) (inS1 hi hL) dL_law_705 ?_
    refine W.eq (g2 := F0 m 706 ls [.int a1, .ref (Ax 0)]) (congrArg (fun zz : Int32 => F0 m 706 ls [.int zz, .ref (Ax 0)]) ea1) ?_
    refine lv_aload_n hx hb dL_law_706 rfl (lv_at hl 2 rfl) ?_
    refine lv_iload hx hb dL_law_707 (lv_at hl 1 rfl) ?_
    refine lv_iconst (v := 2) hx hb dL_law_709 (by decide) ?_
    refine lv_iadd hx hb dL_law_710 ?_
    refine va_sld hx hb hX hbl hbA hS (i := ((nI (4 * i)) + 2)) (inS2 hi hL) dL_law_711 ?_
    refine W.eq (g2 := F0 m 712 ls [.int a2, .int a1, .ref (Ax 0)]) (congrArg (fun zz : Int32 => F0 m 712 ls [.int zz, .int a1, .ref (Ax 0)]) ea2) ?_
    refine kVw ⟨hx, hb, hml, hown, hts⟩ (c_X7_mule l D Ax th nsd fogd nrd nm ne Lx a1 a2 (by assumption) (by assumption) (by assumption) (by assumption)) (cwV 2 hts gL_law_X7_mule rfl rfl rfl (by decide +kernel) ⟨Nat.le_of_ble_eq_true rfl, Nat.le_of_ble_eq_true rfl⟩) hK hN hP hD hS (Fr.r (Fr.r (Fr.r (Fr.r (Fr.r (Fr.r (Fr.r (Fr.r (Fr.r (Fr.r (Fr.r (Fr.r (Fr.r frsMod))))))))))))) 7 0 rfl rfl rfl hl.1 (Nat.le_of_ble_eq_true rfl) ⟨by show _ ≤ 601024; omega, by show _ ≤ 7293034; omega⟩ dL_law_712 (fun H locs hP hD hS => ?_) rfl
    have hP : va_P D.1 vwCl ((wMob om Ad ot ou) ++ ((wTob ot Ad Aw Am Ae xt hou cro) ++ ((wWays D Aw Lw) ++ ((wMul D Am nm Lm) ++ ((wLet D Ae ne Le) ++ ((wRow D xt yt 60 Nt) ++ ((wTob ou Ad Bw Bm Be xu hou2 cro2) ++ ((wWays D Bw Kw) ++ ((wMul D Bm nm2 Km) ++ ((wLet D Be ne2 Ke) ++ ((wRow D xu yu 60 Nu) ++ ((wLand D Ad nsd fogd nrd Ld) ++ ((wLar D oq fq) ++ (wMod D Ax ((pmu Lx nm ne a1 a2).2) nsd fogd nrd nm ne Lx)))))))))))))) H := hP
    have hD : va_D A0 ((wMob om Ad ot ou) ++ ((wTob ot Ad Aw Am Ae xt hou cro) ++ ((wWays D Aw Lw) ++ ((wMul D Am nm Lm) ++ ((wLet D Ae ne Le) ++ ((wRow D xt yt 60 Nt) ++ ((wTob ou Ad Bw Bm Be xu hou2 cro2) ++ ((wWays D Bw Kw) ++ ((wMul D Bm nm2 Km) ++ ((wLet D Be ne2 Ke) ++ ((wRow D xu yu 60 Nu) ++ ((wLand D Ad nsd fogd nrd Ld) ++ ((wLar D oq fq) ++ (wMod D Ax ((pmu Lx nm ne a1 a2).2) nsd fogd nrd nm ne Lx)))))))))))))) := hD
    refine W.eq (g2 := F0 m 715 ls [.int ((pmu Lx nm ne a1 a2).1)]) rfl ?_
    have r9 := tm_rel (s := a1) (w := a2) hSY
    rw [r9.1] at hP hD
    have hP : va_P D.1 vwCl ((wMob om Ad ot ou) ++ ((wTob ot Ad Aw Am Ae xt hou cro) ++ ((wWays D Aw Lw) ++ ((wMul D Am nm Lm) ++ ((wLet D Ae ne Le) ++ ((wRow D xt yt 60 Nt) ++ ((wTob ou Ad Bw Bm Be xu hou2 cro2) ++ ((wWays D Bw Kw) ++ ((wMul D Bm nm2 Km) ++ ((wLet D Be ne2 Ke) ++ ((wRow D xu yu 60 Nu) ++ ((wLand D Ad nsd fogd nrd Ld) ++ ((wLar D oq fq) ++ (wMod D Ax (nI (kTL nm 5 a1 a2)) nsd fogd nrd nm ne Lx)))))))))))))) H := hP
    have hD : va_D A0 ((wMob om Ad ot ou) ++ ((wTob ot Ad Aw Am Ae xt hou cro) ++ ((wWays D Aw Lw) ++ ((wMul D Am nm Lm) ++ ((wLet D Ae ne Le) ++ ((wRow D xt yt 60 Nt) ++ ((wTob ou Ad Bw Bm Be xu hou2 cro2) ++ ((wWays D Bw Kw) ++ ((wMul D Bm nm2 Km) ++ ((wLet D Be ne2 Ke) ++ ((wRow D xu yu 60 Nu) ++ ((wLand D Ad nsd fogd nrd Ld) ++ ((wLar D oq fq) ++ (wMod D Ax (nI (kTL nm 5 a1 a2)) nsd fogd nrd nm ne Lx)))))))))))))) := hD
    refine lv_istore (lv' := [(6, .int ((pmu Lx nm ne a1 a2).1)), (5, .int (nI (kTL nm 5 a1 a2))), (4, .int (nI (4 * i))), (0, .ref b), (1, .ref om), (2, .ref (Ax 0)), (3, .ref oq)]) hx hb dL_law_715 hl (by decide) rfl (fun ls hl => ?_)
    refine lv_aload_n hx hb dL_law_717 rfl (lv_at hl 5 rfl) ?_
    refine kVp ⟨hx, hb, hml, hown, hts⟩ (c_X7_thrown l D Ax (nI (kTL nm 5 a1 a2)) nsd fogd nrd nm ne Lx) (cwV 0 hts gL_law_X7_thrown rfl rfl rfl (by decide +kernel) ⟨Nat.le_of_ble_eq_true rfl, Nat.le_of_ble_eq_true rfl⟩) hK hN hP hD (Sb.r (Sb.r (Sb.r (Sb.r (Sb.r (Sb.r (Sb.r (Sb.r (Sb.r (Sb.r (Sb.r (Sb.r (Sb.r Sb.self))))))))))))) 7 0 rfl rfl rfl hl.1 (Nat.le_of_ble_eq_true rfl) ⟨by show _ ≤ 601024; omega, by show _ ≤ 7293034; omega⟩ dL_law_718 ?_ rfl
    refine lv_iload hx hb dL_law_721 (lv_at hl 1 rfl) ?_
    refine lv_icmp_eq (tgt := 728) hx hb dL_law_723 (by decide) (fun c1 => ?_) (fun c1 => ?_)
    · refine lv_iload hx hb dL_law_728 (lv_at hl 1 rfl) ?_
      refine lv_if_ne (tgt := 745) hx hb dL_law_730 (by decide) (fun c2 => ?_) (fun c2 => ?_)
      · refine lv_goto (tgt := 1447) hx hb dL_law_745 (by decide) ?_
        refine lv_iinc (v := ((nI (4 * i)) + 4)) (lv' := [(4, .int ((nI (4 * i)) + 4)), (6, .int ((pmu Lx nm ne a1 a2).1)), (5, .int (nI (kTL nm 5 a1 a2))), (0, .ref b), (1, .ref om), (2, .ref (Ax 0)), (3, .ref oq)]) hx hb dL_law_1447 hl (k := 2) rfl rfl (by decide) rfl (fun ls hl => ?_)
        rw [show nI (4 * i) + 4 = nI (4 * (i + 1)) from nI_add (4 * i) 4] at hl
        refine lv_goto (tgt := 23) hx hb dL_law_1450 (by decide) ?_
        refine W.widen (k := 200 + 81 * (i + 1)) (n := 9000 + 11700 * (i + 1)) (by omega) (by omega) ?_
        exact ih Ax hou cro Lw nm Lm ne Le Nt hou2 cro2 Kw nm2 Km ne2 Ke Nu nsd fogd nrd Ld fq (nI (kTL nm 5 a1 a2)) Lx h hSY (by omega) H locs hP hD hS ls (lv_sub hl [0, 3, 4, 5, 6] rfl)
      · exact (nI_ne0 (Nat.pos_of_ne_zero hk9) (Nat.lt_of_le_of_lt (kTL_b _ _ _ _) (by decide)) c2).elim
    · exact (c1 (by first | rfl | decide)).elim
  · have hP : va_P D.1 vwCl ((wMob om Ad ot ou) ++ ((wTob ot Ad Aw Am Ae xt hou cro) ++ ((wWays D Aw Lw) ++ ((wMul D Am nm Lm) ++ ((wLet D Ae ne Le) ++ ((wRow D xt yt 60 Nt) ++ ((wTob ou Ad Bw Bm Be xu hou2 cro2) ++ ((wWays D Bw Kw) ++ ((wMul D Bm nm2 Km) ++ ((wLet D Be ne2 Ke) ++ ((wRow D xu yu 60 Nu) ++ ((wLand D Ad nsd fogd nrd Ld) ++ ((wLar D oq (vp_updL fq 0 (tmC Lm Le ne a1 a2).toInt64)) ++ (wMod D Ax th nsd fogd nrd nm ne Lx)))))))))))))) H := hP
    have hD : va_D A0 ((wMob om Ad ot ou) ++ ((wTob ot Ad Aw Am Ae xt hou cro) ++ ((wWays D Aw Lw) ++ ((wMul D Am nm Lm) ++ ((wLet D Ae ne Le) ++ ((wRow D xt yt 60 Nt) ++ ((wTob ou Ad Bw Bm Be xu hou2 cro2) ++ ((wWays D Bw Kw) ++ ((wMul D Bm nm2 Km) ++ ((wLet D Be ne2 Ke) ++ ((wRow D xu yu 60 Nu) ++ ((wLand D Ad nsd fogd nrd Ld) ++ ((wLar D oq (vp_updL fq 0 (tmC Lm Le ne a1 a2).toInt64)) ++ (wMod D Ax th nsd fogd nrd nm ne Lx)))))))))))))) := hD
    refine lv_istore (lv' := [(5, .int 0), (4, .int (nI (4 * i))), (0, .ref b), (1, .ref om), (2, .ref (Ax 0)), (3, .ref oq)]) hx hb dL_law_697 hl (by decide) rfl (fun ls hl => ?_)
    refine lv_aload_n hx hb dL_law_699 rfl (lv_at hl 4 rfl) ?_
    refine lv_aload_n hx hb dL_law_700 rfl (lv_at hl 2 rfl) ?_
    refine lv_iload hx hb dL_law_701 (lv_at hl 1 rfl) ?_
    refine lv_iconst (v := 1) hx hb dL_law_703 (by decide) ?_
    refine lv_iadd hx hb dL_law_704 ?_
    refine va_sld hx hb hX hbl hbA hS (i := ((nI (4 * i)) + 1)) (inS1 hi hL) dL_law_705 ?_
    refine W.eq (g2 := F0 m 706 ls [.int a1, .ref (Ax 0)]) (congrArg (fun zz : Int32 => F0 m 706 ls [.int zz, .ref (Ax 0)]) ea1) ?_
    refine lv_aload_n hx hb dL_law_706 rfl (lv_at hl 2 rfl) ?_
    refine lv_iload hx hb dL_law_707 (lv_at hl 1 rfl) ?_
    refine lv_iconst (v := 2) hx hb dL_law_709 (by decide) ?_
    refine lv_iadd hx hb dL_law_710 ?_
    refine va_sld hx hb hX hbl hbA hS (i := ((nI (4 * i)) + 2)) (inS2 hi hL) dL_law_711 ?_
    refine W.eq (g2 := F0 m 712 ls [.int a2, .int a1, .ref (Ax 0)]) (congrArg (fun zz : Int32 => F0 m 712 ls [.int zz, .int a1, .ref (Ax 0)]) ea2) ?_
    refine kVw ⟨hx, hb, hml, hown, hts⟩ (c_X7_mule l D Ax th nsd fogd nrd nm ne Lx a1 a2 (by assumption) (by assumption) (by assumption) (by assumption)) (cwV 2 hts gL_law_X7_mule rfl rfl rfl (by decide +kernel) ⟨Nat.le_of_ble_eq_true rfl, Nat.le_of_ble_eq_true rfl⟩) hK hN hP hD hS (Fr.r (Fr.r (Fr.r (Fr.r (Fr.r (Fr.r (Fr.r (Fr.r (Fr.r (Fr.r (Fr.r (Fr.r (Fr.r frsMod))))))))))))) 7 0 rfl rfl rfl hl.1 (Nat.le_of_ble_eq_true rfl) ⟨by show _ ≤ 601024; omega, by show _ ≤ 7293034; omega⟩ dL_law_712 (fun H locs hP hD hS => ?_) rfl
    have hP : va_P D.1 vwCl ((wMob om Ad ot ou) ++ ((wTob ot Ad Aw Am Ae xt hou cro) ++ ((wWays D Aw Lw) ++ ((wMul D Am nm Lm) ++ ((wLet D Ae ne Le) ++ ((wRow D xt yt 60 Nt) ++ ((wTob ou Ad Bw Bm Be xu hou2 cro2) ++ ((wWays D Bw Kw) ++ ((wMul D Bm nm2 Km) ++ ((wLet D Be ne2 Ke) ++ ((wRow D xu yu 60 Nu) ++ ((wLand D Ad nsd fogd nrd Ld) ++ ((wLar D oq (vp_updL fq 0 (tmC Lm Le ne a1 a2).toInt64)) ++ (wMod D Ax ((pmu Lx nm ne a1 a2).2) nsd fogd nrd nm ne Lx)))))))))))))) H := hP
    have hD : va_D A0 ((wMob om Ad ot ou) ++ ((wTob ot Ad Aw Am Ae xt hou cro) ++ ((wWays D Aw Lw) ++ ((wMul D Am nm Lm) ++ ((wLet D Ae ne Le) ++ ((wRow D xt yt 60 Nt) ++ ((wTob ou Ad Bw Bm Be xu hou2 cro2) ++ ((wWays D Bw Kw) ++ ((wMul D Bm nm2 Km) ++ ((wLet D Be ne2 Ke) ++ ((wRow D xu yu 60 Nu) ++ ((wLand D Ad nsd fogd nrd Ld) ++ ((wLar D oq (vp_updL fq 0 (tmC Lm Le ne a1 a2).toInt64)) ++ (wMod D Ax ((pmu Lx nm ne a1 a2).2) nsd fogd nrd nm ne Lx)))))))))))))) := hD
    refine W.eq (g2 := F0 m 715 ls [.int ((pmu Lx nm ne a1 a2).1)]) rfl ?_
    have r9 := tm_rel (s := a1) (w := a2) hSY
    rw [r9.1, hk9] at hP hD
    have hP : va_P D.1 vwCl ((wMob om Ad ot ou) ++ ((wTob ot Ad Aw Am Ae xt hou cro) ++ ((wWays D Aw Lw) ++ ((wMul D Am nm Lm) ++ ((wLet D Ae ne Le) ++ ((wRow D xt yt 60 Nt) ++ ((wTob ou Ad Bw Bm Be xu hou2 cro2) ++ ((wWays D Bw Kw) ++ ((wMul D Bm nm2 Km) ++ ((wLet D Be ne2 Ke) ++ ((wRow D xu yu 60 Nu) ++ ((wLand D Ad nsd fogd nrd Ld) ++ ((wLar D oq (vp_updL fq 0 (tmC Lm Le ne a1 a2).toInt64)) ++ (wMod D Ax (nI 0) nsd fogd nrd nm ne Lx)))))))))))))) H := hP
    have hD : va_D A0 ((wMob om Ad ot ou) ++ ((wTob ot Ad Aw Am Ae xt hou cro) ++ ((wWays D Aw Lw) ++ ((wMul D Am nm Lm) ++ ((wLet D Ae ne Le) ++ ((wRow D xt yt 60 Nt) ++ ((wTob ou Ad Bw Bm Be xu hou2 cro2) ++ ((wWays D Bw Kw) ++ ((wMul D Bm nm2 Km) ++ ((wLet D Be ne2 Ke) ++ ((wRow D xu yu 60 Nu) ++ ((wLand D Ad nsd fogd nrd Ld) ++ ((wLar D oq (vp_updL fq 0 (tmC Lm Le ne a1 a2).toInt64)) ++ (wMod D Ax (nI 0) nsd fogd nrd nm ne Lx)))))))))))))) := hD
    refine W.eq (g2 := F0 m 715 ls [.int (tmC Lm Le ne a1 a2)]) (congrArg (fun zz : Int32 => F0 m 715 ls [.int zz]) (show (pmu Lx nm ne a1 a2).1 = tmC Lm Le ne a1 a2 from r9.2 hk9)) ?_
    refine lv_istore (lv' := [(6, .int (tmC Lm Le ne a1 a2)), (5, .int 0), (4, .int (nI (4 * i))), (0, .ref b), (1, .ref om), (2, .ref (Ax 0)), (3, .ref oq)]) hx hb dL_law_715 hl (by decide) rfl (fun ls hl => ?_)
    refine lv_aload_n hx hb dL_law_717 rfl (lv_at hl 5 rfl) ?_
    refine kVp ⟨hx, hb, hml, hown, hts⟩ (c_X7_thrown l D Ax (nI 0) nsd fogd nrd nm ne Lx) (cwV 0 hts gL_law_X7_thrown rfl rfl rfl (by decide +kernel) ⟨Nat.le_of_ble_eq_true rfl, Nat.le_of_ble_eq_true rfl⟩) hK hN hP hD (Sb.r (Sb.r (Sb.r (Sb.r (Sb.r (Sb.r (Sb.r (Sb.r (Sb.r (Sb.r (Sb.r (Sb.r (Sb.r Sb.self))))))))))))) 7 0 rfl rfl rfl hl.1 (Nat.le_of_ble_eq_true rfl) ⟨by show _ ≤ 601024; omega, by show _ ≤ 7293034; omega⟩ dL_law_718 ?_ rfl
    refine lv_iload hx hb dL_law_721 (lv_at hl 1 rfl) ?_
    refine lv_icmp_eq (tgt := 728) hx hb dL_law_723 (by decide) (fun c3 => ?_) (fun c3 => ?_)
    · refine lv_iload hx hb dL_law_728 (lv_at hl 1 rfl) ?_
      refine lv_if_ne (tgt := 745) hx hb dL_law_730 (by decide) (fun c4 => ?_) (fun c4 => ?_)
      · exact absurd c4 (by decide)
      · refine lv_aload_n hx hb dL_law_733 rfl (lv_at hl 6 rfl) ?_
        refine lv_iconst (v := 0) hx hb dL_law_734 (by decide) ?_
        refine va_lald (D := D.1) hx hb hK hP 96 1 rfl rfl (i := (0 : Int32)) (vpl (by decide)) dL_law_735 ?_
        refine W.eq (g2 := F0 m 736 ls [.long ((tmC Lm Le ne a1 a2).toInt64)]) (congrArg (fun zz : Int64 => F0 m 736 ls [.long zz]) (show (vp_updL fq 0 (tmC Lm Le ne a1 a2).toInt64) ((0 : Int32).toNatClampNeg) = (tmC Lm Le ne a1 a2).toInt64 from pk_uLs)) ?_
        refine lv_iload hx hb dL_law_736 (lv_at hl 0 rfl) ?_
        refine lv_i2l hx hb dL_law_738 rfl ?_
        refine W.lcmp hx hb dL_law_739 ?_
        refine W.eq (g2 := F0 m 740 ls [.int 0]) (congrArg (fun zz : Int32 => F0 m 740 ls [.int zz]) (lcmp0 _)) ?_
        refine lv_if_eq (tgt := 745) hx hb dL_law_740 (by decide) (fun c5 => ?_) (fun c5 => ?_)
        · refine lv_goto (tgt := 1447) hx hb dL_law_745 (by decide) ?_
          refine lv_iinc (v := ((nI (4 * i)) + 4)) (lv' := [(4, .int ((nI (4 * i)) + 4)), (6, .int (tmC Lm Le ne a1 a2)), (5, .int 0), (0, .ref b), (1, .ref om), (2, .ref (Ax 0)), (3, .ref oq)]) hx hb dL_law_1447 hl (k := 2) rfl rfl (by decide) rfl (fun ls hl => ?_)
          rw [show nI (4 * i) + 4 = nI (4 * (i + 1)) from nI_add (4 * i) 4] at hl
          refine lv_goto (tgt := 23) hx hb dL_law_1450 (by decide) ?_
          refine W.widen (k := 200 + 81 * (i + 1)) (n := 9000 + 11700 * (i + 1)) (by omega) (by omega) ?_
          exact ih Ax hou cro Lw nm Lm ne Le Nt hou2 cro2 Kw nm2 Km ne2 Ke Nu nsd fogd nrd Ld (vp_updL fq 0 (tmC Lm Le ne a1 a2).toInt64) (nI 0) Lx h hSY (by omega) H locs hP hD hS ls (lv_sub hl [0, 3, 4, 5, 6] rfl)
        · exact absurd c5 (by decide)
    · exact (c3 (by first | rfl | decide)).elim

set_option maxHeartbeats 4000000 in
set_option maxRecDepth 100000 in
theorem law_c8 {p : Program} {l : Launch} {e : Env} {s : State} {m : MethodId} {below : List Frame} {meth : Method} {c : Code} {D : GG} {b L : Nat} {xs : Nat → Int32} {A0 : Nat → Prop} {om ot ou oq xt yt xu yu : Nat} {Ad Aw Am Ae Bw Bm Be : Nat → Nat} (X : LX p l s m meth c D b L xs A0) {i : Nat} (hi : 4 * i + 4 ≤ L) (ih : LG p l e s m below meth c D b L xs A0 om ot ou oq xt yt xu yu Ad Aw Am Ae Bw Bm Be (i + 1)) {a1 a2 a3 : Int32} (ea1 : xs (nI (4 * i) + 1).toNatClampNeg = a1) (ea2 : xs (nI (4 * i) + 2).toNatClampNeg = a2) (ea3 : xs (nI (4 * i) + 3).toNatClampNeg = a3)
    (Ax : Nat → Nat) (hou cro : Int32) (Lw : Fm) (nm : Nat) (Lm : Fm) (ne : Nat) (Le : Fm) (Nt : Rw) (hou2 cro2 : Int32) (Kw : Fm) (nm2 : Nat) (Km : Fm) (ne2 : Nat) (Ke : Fm) (Nu : Rw) (nsd : Nat) (fogd : Int32) (nrd : Nat) (Ld : Fm) (fq : Nat → Int64) (th : Int32) (Lx : Fm) (h : Nat) (hSY : SY Lw Ld Lm Le hou cro Lx nsd nrd nm ne h) (hh : h ≤ 100 * i) (H : Heap) (locs : List Loc) (hP : va_P D.1 vwCl ((wMob om Ad ot ou) ++ ((wTob ot Ad Aw Am Ae xt hou cro) ++ ((wWays D Aw Lw) ++ ((wMul D Am nm Lm) ++ ((wLet D Ae ne Le) ++ ((wRow D xt yt 60 Nt) ++ ((wTob ou Ad Bw Bm Be xu hou2 cro2) ++ ((wWays D Bw Kw) ++ ((wMul D Bm nm2 Km) ++ ((wLet D Be ne2 Ke) ++ ((wRow D xu yu 60 Nu) ++ ((wLand D Ad nsd fogd nrd Ld) ++ ((wLar D oq fq) ++ (wMod D Ax th nsd fogd nrd nm ne Lx)))))))))))))) H) (hD : va_D A0 ((wMob om Ad ot ou) ++ ((wTob ot Ad Aw Am Ae xt hou cro) ++ ((wWays D Aw Lw) ++ ((wMul D Am nm Lm) ++ ((wLet D Ae ne Le) ++ ((wRow D xt yt 60 Nt) ++ ((wTob ou Ad Bw Bm Be xu hou2 cro2) ++ ((wWays D Bw Kw) ++ ((wMul D Bm nm2 Km) ++ ((wLet D Be ne2 Ke) ++ ((wRow D xu yu 60 Nu) ++ ((wLand D Ad nsd fogd nrd Ld) ++ ((wLar D oq fq) ++ (wMod D Ax th nsd fogd nrd nm ne Lx))))))))))))))) (hS : va_S A0 s.heap H locs) (ls : Array Slot) (hl : lv_has ls 9 [(4, .int (nI (4 * i))), (0, .ref b), (1, .ref om), (2, .ref (Ax 0)), (3, .ref oq)]) : W p l e room_1 s m #[Value.ref b] below meth c H locs (200 + 81 * i) (9000 + 11700 * i) (lw_Z below #[Value.ref b] s) (F0 m 748 ls []) := by
  obtain ⟨hx, hb, hr, hml, hown, hts, hX, hbl, hbA, hlocks, hl9, hCX, hSX, hTX, hZX, hNX, hK, hN, hA, -, hL⟩ := X
  have hS9 : okS Lx nsd nrd nm ne := okS_rel hSY.1
  have b10 : nsd ≤ 10 := hSY.1.1.1
  have b15 : nrd ≤ 15 := hSY.1.1.2.1
  have b12 : nm ≤ 12 := hSY.1.2.2.1.1
  have b60 : ne ≤ 60 := hSY.1.2.2.2.1
  have hrE : rE Le Lx ne := hSY.1.2.2.2.2.2.2.2.2.2.1
  have he : ne < 2 ^ 31 := by omega
  have hm : nm < 2 ^ 31 := by omega
  have hns : nsd < 2 ^ 31 := by omega
  have hnr : nrd < 2 ^ 31 := by omega
  refine lv_aload_n hx hb dL_law_748 rfl (lv_at hl 2 rfl) ?_
  refine lv_aload_n hx hb dL_law_749 rfl (lv_at hl 1 rfl) ?_
  refine lv_iload hx hb dL_law_750 (lv_at hl 0 rfl) ?_
  refine lv_iconst (v := 1) hx hb dL_law_752 (by decide) ?_
  refine lv_iadd hx hb dL_law_753 ?_
  refine va_sld hx hb hX hbl hbA hS (i := ((nI (4 * i)) + 1)) (inS1 hi hL) dL_law_754 ?_
  refine W.eq (g2 := F0 m 755 ls [.int a1, .ref om]) (congrArg (fun zz : Int32 => F0 m 755 ls [.int zz, .ref om]) ea1) ?_
  refine lv_aload_n hx hb dL_law_755 rfl (lv_at hl 1 rfl) ?_
  refine lv_iload hx hb dL_law_756 (lv_at hl 0 rfl) ?_
  refine lv_iconst (v := 2) hx hb dL_law_758 (by decide) ?_
  refine lv_iadd hx hb dL_law_759 ?_
  refine va_sld hx hb hX hbl hbA hS (i := ((nI (4 * i)) + 2)) (inS2 hi hL) dL_law_760 ?_
  refine W.eq (g2 := F0 m 761 ls [.int a2, .int a1, .ref om]) (congrArg (fun zz : Int32 => F0 m 761 ls [.int zz, .int a1, .ref om]) ea2) ?_
  refine lv_aload_n hx hb dL_law_761 rfl (lv_at hl 1 rfl) ?_
  refine lv_iload hx hb dL_law_762 (lv_at hl 0 rfl) ?_
  refine lv_iconst (v := 3) hx hb dL_law_764 (by decide) ?_
  refine lv_iadd hx hb dL_law_765 ?_
  refine va_sld hx hb hX hbl hbA hS (i := ((nI (4 * i)) + 3)) (inS3 hi hL) dL_law_766 ?_
  refine W.eq (g2 := F0 m 767 ls [.int a3, .int a2, .int a1, .ref om]) (congrArg (fun zz : Int32 => F0 m 767 ls [.int zz, .int a2, .int a1, .ref om]) ea3) ?_
  refine lv_aload_n hx hb dL_law_767 rfl (lv_at hl 4 rfl) ?_
  refine kSL ⟨hx, hb, hml, hown, hts⟩ (c_L_post l D om Ad ot ou Aw Am Ae xt hou cro Lw nm Lm ne Le yt Nt nsd fogd nrd Ld oq fq a1 a2 a3 _ (by assumption) hl9) (vx_cwSW 5 hts gL_law_L_post rfl rfl rfl (by decide +kernel) ⟨Nat.le_of_ble_eq_true rfl, Nat.le_of_ble_eq_true rfl⟩) hCX hSX hTX hZX hNX hK hN hP hD hS hA (fun z => (Fr.app (Fr.kp Sb.self) (Fr.app (Fr.kp Sb.self) (Fr.app (Fr.kp Sb.self) (Fr.app (Fr.kp Sb.self) (Fr.app frsLet (Fr.app (Fr.kp Sb.self) (Fr.r (Fr.r (Fr.r (Fr.r (Fr.r (Fr.app (Fr.kp Sb.self) (Fr.l frsLar)))))))))))))) (Sb.app Sb.self (Sb.app Sb.self (Sb.app Sb.self (Sb.app Sb.self (Sb.app Sb.self (Sb.app Sb.self (Sb.r (Sb.r (Sb.r (Sb.r (Sb.r (Sb.app Sb.self (Sb.l Sb.self))))))))))))) rfl hl.1 (Nat.le_of_ble_eq_true rfl) ⟨by show _ ≤ 601024; omega, by show _ ≤ 7293034; omega⟩ dL_law_768 (fun H locs hk9 hP hD hS => ?_) (fun z H locs hk9 hP hD hS => ?_) rfl
  · have hP : va_P D.1 vwCl ((wMob om Ad ot ou) ++ ((wTob ot Ad Aw Am Ae xt hou cro) ++ ((wWays D Aw Lw) ++ ((wMul D Am nm Lm) ++ ((wLet D Ae ne Le) ++ ((wRow D xt yt 60 Nt) ++ ((wTob ou Ad Bw Bm Be xu hou2 cro2) ++ ((wWays D Bw Kw) ++ ((wMul D Bm nm2 Km) ++ ((wLet D Be ne2 Ke) ++ ((wRow D xu yu 60 Nu) ++ ((wLand D Ad nsd fogd nrd Ld) ++ ((wLar D oq fq) ++ (wMod D Ax th nsd fogd nrd nm ne Lx)))))))))))))) H := hP
    have hD : va_D A0 ((wMob om Ad ot ou) ++ ((wTob ot Ad Aw Am Ae xt hou cro) ++ ((wWays D Aw Lw) ++ ((wMul D Am nm Lm) ++ ((wLet D Ae ne Le) ++ ((wRow D xt yt 60 Nt) ++ ((wTob ou Ad Bw Bm Be xu hou2 cro2) ++ ((wWays D Bw Kw) ++ ((wMul D Bm nm2 Km) ++ ((wLet D Be ne2 Ke) ++ ((wRow D xu yu 60 Nu) ++ ((wLand D Ad nsd fogd nrd Ld) ++ ((wLar D oq fq) ++ (wMod D Ax th nsd fogd nrd nm ne Lx)))))))))))))) := hD
    refine lv_istore (lv' := [(5, .int (nI (kPO nsd ne a1 a2 a3))), (4, .int (nI (4 * i))), (0, .ref b), (1, .ref om), (2, .ref (Ax 0)), (3, .ref oq)]) hx hb dL_law_771 hl (by decide) rfl (fun ls hl => ?_)
    refine lv_aload_n hx hb dL_law_773 rfl (lv_at hl 4 rfl) ?_
    refine lv_aload_n hx hb dL_law_774 rfl (lv_at hl 2 rfl) ?_
    refine lv_iload hx hb dL_law_775 (lv_at hl 1 rfl) ?_
    refine lv_iconst (v := 1) hx hb dL_law_777 (by decide) ?_
    refine lv_iadd hx hb dL_law_778 ?_
    refine va_sld hx hb hX hbl hbA hS (i := ((nI (4 * i)) + 1)) (inS1 hi hL) dL_law_779 ?_
    refine W.eq (g2 := F0 m 780 ls [.int a1, .ref (Ax 0)]) (congrArg (fun zz : Int32 => F0 m 780 ls [.int zz, .ref (Ax 0)]) ea1) ?_
    refine lv_aload_n hx hb dL_law_780 rfl (lv_at hl 2 rfl) ?_
    refine lv_iload hx hb dL_law_781 (lv_at hl 1 rfl) ?_
    refine lv_iconst (v := 2) hx hb dL_law_783 (by decide) ?_
    refine lv_iadd hx hb dL_law_784 ?_
    refine va_sld hx hb hX hbl hbA hS (i := ((nI (4 * i)) + 2)) (inS2 hi hL) dL_law_785 ?_
    refine W.eq (g2 := F0 m 786 ls [.int a2, .int a1, .ref (Ax 0)]) (congrArg (fun zz : Int32 => F0 m 786 ls [.int zz, .int a1, .ref (Ax 0)]) ea2) ?_
    refine lv_aload_n hx hb dL_law_786 rfl (lv_at hl 2 rfl) ?_
    refine lv_iload hx hb dL_law_787 (lv_at hl 1 rfl) ?_
    refine lv_iconst (v := 3) hx hb dL_law_789 (by decide) ?_
    refine lv_iadd hx hb dL_law_790 ?_
    refine va_sld hx hb hX hbl hbA hS (i := ((nI (4 * i)) + 3)) (inS3 hi hL) dL_law_791 ?_
    refine W.eq (g2 := F0 m 792 ls [.int a3, .int a2, .int a1, .ref (Ax 0)]) (congrArg (fun zz : Int32 => F0 m 792 ls [.int zz, .int a2, .int a1, .ref (Ax 0)]) ea3) ?_
    refine kVa ⟨hx, hb, hml, hown, hts⟩ (c_X7_post l D Ax th nsd fogd nrd nm ne Lx a1 a2 a3 _ (by assumption) (by assumption) (by assumption) (by assumption)) (cwV 3 hts gL_law_X7_post rfl rfl rfl (by decide +kernel) ⟨Nat.le_of_ble_eq_true rfl, Nat.le_of_ble_eq_true rfl⟩) hK hN hP hD hS hA (Fr.r (Fr.r (Fr.r (Fr.r (Fr.r (Fr.r (Fr.r (Fr.r (Fr.r (Fr.r (Fr.r (Fr.r (Fr.r frsMod))))))))))))) 7 0 rfl rfl rfl hl.1 (Nat.le_of_ble_eq_true rfl) ⟨by show _ ≤ 601024; omega, by show _ ≤ 7293034; omega⟩ dL_law_792 (fun H locs hP hD hS => ?_) rfl
    have hP : va_P D.1 vwCl ((wMob om Ad ot ou) ++ ((wTob ot Ad Aw Am Ae xt hou cro) ++ ((wWays D Aw Lw) ++ ((wMul D Am nm Lm) ++ ((wLet D Ae ne Le) ++ ((wRow D xt yt 60 Nt) ++ ((wTob ou Ad Bw Bm Be xu hou2 cro2) ++ ((wWays D Bw Kw) ++ ((wMul D Bm nm2 Km) ++ ((wLet D Be ne2 Ke) ++ ((wRow D xu yu 60 Nu) ++ ((wLand D Ad nsd fogd nrd Ld) ++ ((wLar D oq fq) ++ (wMod D Ax ((ppo Lx nsd ne a1 a2 a3).2.1) nsd fogd nrd nm ((ppo Lx nsd ne a1 a2 a3).2.2.1) ((ppo Lx nsd ne a1 a2 a3).2.2.2))))))))))))))) H := hP
    have hD : va_D A0 ((wMob om Ad ot ou) ++ ((wTob ot Ad Aw Am Ae xt hou cro) ++ ((wWays D Aw Lw) ++ ((wMul D Am nm Lm) ++ ((wLet D Ae ne Le) ++ ((wRow D xt yt 60 Nt) ++ ((wTob ou Ad Bw Bm Be xu hou2 cro2) ++ ((wWays D Bw Kw) ++ ((wMul D Bm nm2 Km) ++ ((wLet D Be ne2 Ke) ++ ((wRow D xu yu 60 Nu) ++ ((wLand D Ad nsd fogd nrd Ld) ++ ((wLar D oq fq) ++ (wMod D Ax ((ppo Lx nsd ne a1 a2 a3).2.1) nsd fogd nrd nm ((ppo Lx nsd ne a1 a2 a3).2.2.1) ((ppo Lx nsd ne a1 a2 a3).2.2.2))))))))))))))) := hD
    refine W.eq (g2 := F0 m 795 ls [.int ((ppo Lx nsd ne a1 a2 a3).1)]) rfl ?_
    have r9 := po_rel (a := a1) (b := a2) (c := a3) hSY
    rw [r9.1, r9.2.1 hk9] at hP hD
    have hP : va_P D.1 vwCl ((wMob om Ad ot ou) ++ ((wTob ot Ad Aw Am Ae xt hou cro) ++ ((wWays D Aw Lw) ++ ((wMul D Am nm Lm) ++ ((wLet D Ae ne Le) ++ ((wRow D xt yt 60 Nt) ++ ((wTob ou Ad Bw Bm Be xu hou2 cro2) ++ ((wWays D Bw Kw) ++ ((wMul D Bm nm2 Km) ++ ((wLet D Be ne2 Ke) ++ ((wRow D xu yu 60 Nu) ++ ((wLand D Ad nsd fogd nrd Ld) ++ ((wLar D oq fq) ++ (wMod D Ax (nI (kPO nsd ne a1 a2 a3)) nsd fogd nrd nm ne Lx)))))))))))))) H := hP
    have hD : va_D A0 ((wMob om Ad ot ou) ++ ((wTob ot Ad Aw Am Ae xt hou cro) ++ ((wWays D Aw Lw) ++ ((wMul D Am nm Lm) ++ ((wLet D Ae ne Le) ++ ((wRow D xt yt 60 Nt) ++ ((wTob ou Ad Bw Bm Be xu hou2 cro2) ++ ((wWays D Bw Kw) ++ ((wMul D Bm nm2 Km) ++ ((wLet D Be ne2 Ke) ++ ((wRow D xu yu 60 Nu) ++ ((wLand D Ad nsd fogd nrd Ld) ++ ((wLar D oq fq) ++ (wMod D Ax (nI (kPO nsd ne a1 a2 a3)) nsd fogd nrd nm ne Lx)))))))))))))) := hD
    refine lv_istore (lv' := [(6, .int ((ppo Lx nsd ne a1 a2 a3).1)), (5, .int (nI (kPO nsd ne a1 a2 a3))), (4, .int (nI (4 * i))), (0, .ref b), (1, .ref om), (2, .ref (Ax 0)), (3, .ref oq)]) hx hb dL_law_795 hl (by decide) rfl (fun ls hl => ?_)
    refine lv_aload_n hx hb dL_law_797 rfl (lv_at hl 5 rfl) ?_
    refine kVp ⟨hx, hb, hml, hown, hts⟩ (c_X7_thrown l D Ax (nI (kPO nsd ne a1 a2 a3)) nsd fogd nrd nm ne Lx) (cwV 0 hts gL_law_X7_thrown rfl rfl rfl (by decide +kernel) ⟨Nat.le_of_ble_eq_true rfl, Nat.le_of_ble_eq_true rfl⟩) hK hN hP hD (Sb.r (Sb.r (Sb.r (Sb.r (Sb.r (Sb.r (Sb.r (Sb.r (Sb.r (Sb.r (Sb.r (Sb.r (Sb.r Sb.self))))))))))))) 7 0 rfl rfl rfl hl.1 (Nat.le_of_ble_eq_true rfl) ⟨by show _ ≤ 601024; omega, by show _ ≤ 7293034; omega⟩ dL_law_798 ?_ rfl
    refine lv_iload hx hb dL_law_801 (lv_at hl 1 rfl) ?_
    refine lv_icmp_eq (tgt := 808) hx hb dL_law_803 (by decide) (fun c1 => ?_) (fun c1 => ?_)
    · refine lv_iload hx hb dL_law_808 (lv_at hl 1 rfl) ?_
      refine lv_if_ne (tgt := 825) hx hb dL_law_810 (by decide) (fun c2 => ?_) (fun c2 => ?_)
      · refine lv_goto (tgt := 1447) hx hb dL_law_825 (by decide) ?_
        refine lv_iinc (v := ((nI (4 * i)) + 4)) (lv' := [(4, .int ((nI (4 * i)) + 4)), (6, .int ((ppo Lx nsd ne a1 a2 a3).1)), (5, .int (nI (kPO nsd ne a1 a2 a3))), (0, .ref b), (1, .ref om), (2, .ref (Ax 0)), (3, .ref oq)]) hx hb dL_law_1447 hl (k := 2) rfl rfl (by decide) rfl (fun ls hl => ?_)
        rw [show nI (4 * i) + 4 = nI (4 * (i + 1)) from nI_add (4 * i) 4] at hl
        refine lv_goto (tgt := 23) hx hb dL_law_1450 (by decide) ?_
        refine W.widen (k := 200 + 81 * (i + 1)) (n := 9000 + 11700 * (i + 1)) (by omega) (by omega) ?_
        exact ih Ax hou cro Lw nm Lm ne Le Nt hou2 cro2 Kw nm2 Km ne2 Ke Nu nsd fogd nrd Ld fq (nI (kPO nsd ne a1 a2 a3)) Lx h hSY (by omega) H locs hP hD hS ls (lv_sub hl [0, 3, 4, 5, 6] rfl)
      · exact (nI_ne0 (Nat.pos_of_ne_zero hk9) (Nat.lt_of_le_of_lt (kPO_b _ _ _ _ _) (by decide)) c2).elim
    · exact (c1 (by first | rfl | decide)).elim
  · have hP : va_P D.1 vwCl ((wMob om Ad ot ou) ++ ((wTob ot Ad Aw Am Ae xt hou cro) ++ ((wWays D Aw Lw) ++ ((wMul D Am nm Lm) ++ ((wLet D Ae (ne + 1) (poC Le ne a1 a2 a3 hou)) ++ ((wRow D xt yt 60 Nt) ++ ((wTob ou Ad Bw Bm Be xu hou2 cro2) ++ ((wWays D Bw Kw) ++ ((wMul D Bm nm2 Km) ++ ((wLet D Be ne2 Ke) ++ ((wRow D xu yu 60 Nu) ++ ((wLand D Ad nsd fogd nrd Ld) ++ ((wLar D oq (vp_updL fq 0 (nI ne).toInt64)) ++ (wMod D Ax th nsd fogd nrd nm ne Lx)))))))))))))) H := hP
    have hD : va_D A0 ((wMob om Ad ot ou) ++ ((wTob ot Ad Aw Am Ae xt hou cro) ++ ((wWays D Aw Lw) ++ ((wMul D Am nm Lm) ++ ((wLet D Ae (ne + 1) (poC Le ne a1 a2 a3 hou)) ++ ((wRow D xt yt 60 Nt) ++ ((wTob ou Ad Bw Bm Be xu hou2 cro2) ++ ((wWays D Bw Kw) ++ ((wMul D Bm nm2 Km) ++ ((wLet D Be ne2 Ke) ++ ((wRow D xu yu 60 Nu) ++ ((wLand D Ad nsd fogd nrd Ld) ++ ((wLar D oq (vp_updL fq 0 (nI ne).toInt64)) ++ (wMod D Ax th nsd fogd nrd nm ne Lx)))))))))))))) := hD
    refine lv_istore (lv' := [(5, .int 0), (4, .int (nI (4 * i))), (0, .ref b), (1, .ref om), (2, .ref (Ax 0)), (3, .ref oq)]) hx hb dL_law_771 hl (by decide) rfl (fun ls hl => ?_)
    refine lv_aload_n hx hb dL_law_773 rfl (lv_at hl 4 rfl) ?_
    refine lv_aload_n hx hb dL_law_774 rfl (lv_at hl 2 rfl) ?_
    refine lv_iload hx hb dL_law_775 (lv_at hl 1 rfl) ?_
    refine lv_iconst (v := 1) hx hb dL_law_777 (by decide) ?_
    refine lv_iadd hx hb dL_law_778 ?_
    refine va_sld hx hb hX hbl hbA hS (i := ((nI (4 * i)) + 1)) (inS1 hi hL) dL_law_779 ?_
    refine W.eq (g2 := F0 m 780 ls [.int a1, .ref (Ax 0)]) (congrArg (fun zz : Int32 => F0 m 780 ls [.int zz, .ref (Ax 0)]) ea1) ?_
    refine lv_aload_n hx hb dL_law_780 rfl (lv_at hl 2 rfl) ?_
    refine lv_iload hx hb dL_law_781 (lv_at hl 1 rfl) ?_
    refine lv_iconst (v := 2) hx hb dL_law_783 (by decide) ?_
    refine lv_iadd hx hb dL_law_784 ?_
    refine va_sld hx hb hX hbl hbA hS (i := ((nI (4 * i)) + 2)) (inS2 hi hL) dL_law_785 ?_
    refine W.eq (g2 := F0 m 786 ls [.int a2, .int a1, .ref (Ax 0)]) (congrArg (fun zz : Int32 => F0 m 786 ls [.int zz, .int a1, .ref (Ax 0)]) ea2) ?_
    refine lv_aload_n hx hb dL_law_786 rfl (lv_at hl 2 rfl) ?_
    refine lv_iload hx hb dL_law_787 (lv_at hl 1 rfl) ?_
    refine lv_iconst (v := 3) hx hb dL_law_789 (by decide) ?_
    refine lv_iadd hx hb dL_law_790 ?_
    refine va_sld hx hb hX hbl hbA hS (i := ((nI (4 * i)) + 3)) (inS3 hi hL) dL_law_791 ?_
    refine W.eq (g2 := F0 m 792 ls [.int a3, .int a2, .int a1, .ref (Ax 0)]) (congrArg (fun zz : Int32 => F0 m 792 ls [.int zz, .int a2, .int a1, .ref (Ax 0)]) ea3) ?_
    refine kVa ⟨hx, hb, hml, hown, hts⟩ (c_X7_post l D Ax th nsd fogd nrd nm ne Lx a1 a2 a3 _ (by assumption) (by assumption) (by assumption) (by assumption)) (cwV 3 hts gL_law_X7_post rfl rfl rfl (by decide +kernel) ⟨Nat.le_of_ble_eq_true rfl, Nat.le_of_ble_eq_true rfl⟩) hK hN hP hD hS hA (Fr.r (Fr.r (Fr.r (Fr.r (Fr.r (Fr.r (Fr.r (Fr.r (Fr.r (Fr.r (Fr.r (Fr.r (Fr.r frsMod))))))))))))) 7 0 rfl rfl rfl hl.1 (Nat.le_of_ble_eq_true rfl) ⟨by show _ ≤ 601024; omega, by show _ ≤ 7293034; omega⟩ dL_law_792 (fun H locs hP hD hS => ?_) rfl
    have hP : va_P D.1 vwCl ((wMob om Ad ot ou) ++ ((wTob ot Ad Aw Am Ae xt hou cro) ++ ((wWays D Aw Lw) ++ ((wMul D Am nm Lm) ++ ((wLet D Ae (ne + 1) (poC Le ne a1 a2 a3 hou)) ++ ((wRow D xt yt 60 Nt) ++ ((wTob ou Ad Bw Bm Be xu hou2 cro2) ++ ((wWays D Bw Kw) ++ ((wMul D Bm nm2 Km) ++ ((wLet D Be ne2 Ke) ++ ((wRow D xu yu 60 Nu) ++ ((wLand D Ad nsd fogd nrd Ld) ++ ((wLar D oq (vp_updL fq 0 (nI ne).toInt64)) ++ (wMod D Ax ((ppo Lx nsd ne a1 a2 a3).2.1) nsd fogd nrd nm ((ppo Lx nsd ne a1 a2 a3).2.2.1) ((ppo Lx nsd ne a1 a2 a3).2.2.2))))))))))))))) H := hP
    have hD : va_D A0 ((wMob om Ad ot ou) ++ ((wTob ot Ad Aw Am Ae xt hou cro) ++ ((wWays D Aw Lw) ++ ((wMul D Am nm Lm) ++ ((wLet D Ae (ne + 1) (poC Le ne a1 a2 a3 hou)) ++ ((wRow D xt yt 60 Nt) ++ ((wTob ou Ad Bw Bm Be xu hou2 cro2) ++ ((wWays D Bw Kw) ++ ((wMul D Bm nm2 Km) ++ ((wLet D Be ne2 Ke) ++ ((wRow D xu yu 60 Nu) ++ ((wLand D Ad nsd fogd nrd Ld) ++ ((wLar D oq (vp_updL fq 0 (nI ne).toInt64)) ++ (wMod D Ax ((ppo Lx nsd ne a1 a2 a3).2.1) nsd fogd nrd nm ((ppo Lx nsd ne a1 a2 a3).2.2.1) ((ppo Lx nsd ne a1 a2 a3).2.2.2))))))))))))))) := hD
    refine W.eq (g2 := F0 m 795 ls [.int ((ppo Lx nsd ne a1 a2 a3).1)]) rfl ?_
    have r9 := po_rel (a := a1) (b := a2) (c := a3) hSY
    rw [r9.1, hk9, (r9.2.2 hk9).2.1] at hP hD
    have hP : va_P D.1 vwCl ((wMob om Ad ot ou) ++ ((wTob ot Ad Aw Am Ae xt hou cro) ++ ((wWays D Aw Lw) ++ ((wMul D Am nm Lm) ++ ((wLet D Ae (ne + 1) (poC Le ne a1 a2 a3 hou)) ++ ((wRow D xt yt 60 Nt) ++ ((wTob ou Ad Bw Bm Be xu hou2 cro2) ++ ((wWays D Bw Kw) ++ ((wMul D Bm nm2 Km) ++ ((wLet D Be ne2 Ke) ++ ((wRow D xu yu 60 Nu) ++ ((wLand D Ad nsd fogd nrd Ld) ++ ((wLar D oq (vp_updL fq 0 (nI ne).toInt64)) ++ (wMod D Ax (nI 0) nsd fogd nrd nm (ne + 1) ((ppo Lx nsd ne a1 a2 a3).2.2.2))))))))))))))) H := hP
    have hD : va_D A0 ((wMob om Ad ot ou) ++ ((wTob ot Ad Aw Am Ae xt hou cro) ++ ((wWays D Aw Lw) ++ ((wMul D Am nm Lm) ++ ((wLet D Ae (ne + 1) (poC Le ne a1 a2 a3 hou)) ++ ((wRow D xt yt 60 Nt) ++ ((wTob ou Ad Bw Bm Be xu hou2 cro2) ++ ((wWays D Bw Kw) ++ ((wMul D Bm nm2 Km) ++ ((wLet D Be ne2 Ke) ++ ((wRow D xu yu 60 Nu) ++ ((wLand D Ad nsd fogd nrd Ld) ++ ((wLar D oq (vp_updL fq 0 (nI ne).toInt64)) ++ (wMod D Ax (nI 0) nsd fogd nrd nm (ne + 1) ((ppo Lx nsd ne a1 a2 a3).2.2.2))))))))))))))) := hD
    refine W.eq (g2 := F0 m 795 ls [.int (nI ne)]) (congrArg (fun zz : Int32 => F0 m 795 ls [.int zz]) (show (ppo Lx nsd ne a1 a2 a3).1 = nI ne from (r9.2.2 hk9).1)) ?_
    refine lv_istore (lv' := [(6, .int (nI ne)), (5, .int 0), (4, .int (nI (4 * i))), (0, .ref b), (1, .ref om), (2, .ref (Ax 0)), (3, .ref oq)]) hx hb dL_law_795 hl (by decide) rfl (fun ls hl => ?_)
    refine lv_aload_n hx hb dL_law_797 rfl (lv_at hl 5 rfl) ?_
    refine kVp ⟨hx, hb, hml, hown, hts⟩ (c_X7_thrown l D Ax (nI 0) nsd fogd nrd nm (ne + 1) ((ppo Lx nsd ne a1 a2 a3).2.2.2)) (cwV 0 hts gL_law_X7_thrown rfl rfl rfl (by decide +kernel) ⟨Nat.le_of_ble_eq_true rfl, Nat.le_of_ble_eq_true rfl⟩) hK hN hP hD (Sb.r (Sb.r (Sb.r (Sb.r (Sb.r (Sb.r (Sb.r (Sb.r (Sb.r (Sb.r (Sb.r (Sb.r (Sb.r Sb.self))))))))))))) 7 0 rfl rfl rfl hl.1 (Nat.le_of_ble_eq_true rfl) ⟨by show _ ≤ 601024; omega, by show _ ≤ 7293034; omega⟩ dL_law_798 ?_ rfl
    refine lv_iload hx hb dL_law_801 (lv_at hl 1 rfl) ?_
    refine lv_icmp_eq (tgt := 808) hx hb dL_law_803 (by decide) (fun c3 => ?_) (fun c3 => ?_)
    · refine lv_iload hx hb dL_law_808 (lv_at hl 1 rfl) ?_
      refine lv_if_ne (tgt := 825) hx hb dL_law_810 (by decide) (fun c4 => ?_) (fun c4 => ?_)
      · exact absurd c4 (by decide)
      · refine lv_aload_n hx hb dL_law_813 rfl (lv_at hl 6 rfl) ?_
        refine lv_iconst (v := 0) hx hb dL_law_814 (by decide) ?_
        refine va_lald (D := D.1) hx hb hK hP 96 1 rfl rfl (i := (0 : Int32)) (vpl (by decide)) dL_law_815 ?_
        refine W.eq (g2 := F0 m 816 ls [.long ((nI ne).toInt64)]) (congrArg (fun zz : Int64 => F0 m 816 ls [.long zz]) (show (vp_updL fq 0 (nI ne).toInt64) ((0 : Int32).toNatClampNeg) = (nI ne).toInt64 from pk_uLs)) ?_
        refine lv_iload hx hb dL_law_816 (lv_at hl 0 rfl) ?_
        refine lv_i2l hx hb dL_law_818 rfl ?_
        refine W.lcmp hx hb dL_law_819 ?_
        refine W.eq (g2 := F0 m 820 ls [.int 0]) (congrArg (fun zz : Int32 => F0 m 820 ls [.int zz]) (lcmp0 _)) ?_
        refine lv_if_eq (tgt := 825) hx hb dL_law_820 (by decide) (fun c5 => ?_) (fun c5 => ?_)
        · refine lv_goto (tgt := 1447) hx hb dL_law_825 (by decide) ?_
          refine lv_iinc (v := ((nI (4 * i)) + 4)) (lv' := [(4, .int ((nI (4 * i)) + 4)), (6, .int (nI ne)), (5, .int 0), (0, .ref b), (1, .ref om), (2, .ref (Ax 0)), (3, .ref oq)]) hx hb dL_law_1447 hl (k := 2) rfl rfl (by decide) rfl (fun ls hl => ?_)
          rw [show nI (4 * i) + 4 = nI (4 * (i + 1)) from nI_add (4 * i) 4] at hl
          refine lv_goto (tgt := 23) hx hb dL_law_1450 (by decide) ?_
          refine W.widen (k := 200 + 81 * (i + 1)) (n := 9000 + 11700 * (i + 1)) (by omega) (by omega) ?_
          exact ih Ax hou cro Lw nm Lm (ne + 1) (poC Le ne a1 a2 a3 hou) Nt hou2 cro2 Kw nm2 Km ne2 Ke Nu nsd fogd nrd Ld (vp_updL fq 0 (nI ne).toInt64) (nI 0) ((ppo Lx nsd ne a1 a2 a3).2.2.2) h (r9.2.2 hk9).2.2 (by omega) H locs hP hD hS ls (lv_sub hl [0, 3, 4, 5, 6] rfl)
        · exact absurd c5 (by decide)
    · exact (c3 (by first | rfl | decide)).elim

set_option maxHeartbeats 4000000 in
set_option maxRecDepth 100000 in
theorem law_c9 {p : Program} {l : Launch} {e : Env} {s : State} {m : MethodId} {below : List Frame} {meth : Method} {c : Code} {D : GG} {b L : Nat} {xs : Nat → Int32} {A0 : Nat → Prop} {om ot ou oq xt yt xu yu : Nat} {Ad Aw Am Ae Bw Bm Be : Nat → Nat} (X : LX p l s m meth c D b L xs A0) {i : Nat} (hi : 4 * i + 4 ≤ L) (ih : LG p l e s m below meth c D b L xs A0 om ot ou oq xt yt xu yu Ad Aw Am Ae Bw Bm Be (i + 1)) {a1 a2 a3 : Int32} (ea1 : xs (nI (4 * i) + 1).toNatClampNeg = a1) (ea2 : xs (nI (4 * i) + 2).toNatClampNeg = a2) (ea3 : xs (nI (4 * i) + 3).toNatClampNeg = a3)
    (Ax : Nat → Nat) (hou cro : Int32) (Lw : Fm) (nm : Nat) (Lm : Fm) (ne : Nat) (Le : Fm) (Nt : Rw) (hou2 cro2 : Int32) (Kw : Fm) (nm2 : Nat) (Km : Fm) (ne2 : Nat) (Ke : Fm) (Nu : Rw) (nsd : Nat) (fogd : Int32) (nrd : Nat) (Ld : Fm) (fq : Nat → Int64) (th : Int32) (Lx : Fm) (h : Nat) (hSY : SY Lw Ld Lm Le hou cro Lx nsd nrd nm ne h) (hh : h ≤ 100 * i) (H : Heap) (locs : List Loc) (hP : va_P D.1 vwCl ((wMob om Ad ot ou) ++ ((wTob ot Ad Aw Am Ae xt hou cro) ++ ((wWays D Aw Lw) ++ ((wMul D Am nm Lm) ++ ((wLet D Ae ne Le) ++ ((wRow D xt yt 60 Nt) ++ ((wTob ou Ad Bw Bm Be xu hou2 cro2) ++ ((wWays D Bw Kw) ++ ((wMul D Bm nm2 Km) ++ ((wLet D Be ne2 Ke) ++ ((wRow D xu yu 60 Nu) ++ ((wLand D Ad nsd fogd nrd Ld) ++ ((wLar D oq fq) ++ (wMod D Ax th nsd fogd nrd nm ne Lx)))))))))))))) H) (hD : va_D A0 ((wMob om Ad ot ou) ++ ((wTob ot Ad Aw Am Ae xt hou cro) ++ ((wWays D Aw Lw) ++ ((wMul D Am nm Lm) ++ ((wLet D Ae ne Le) ++ ((wRow D xt yt 60 Nt) ++ ((wTob ou Ad Bw Bm Be xu hou2 cro2) ++ ((wWays D Bw Kw) ++ ((wMul D Bm nm2 Km) ++ ((wLet D Be ne2 Ke) ++ ((wRow D xu yu 60 Nu) ++ ((wLand D Ad nsd fogd nrd Ld) ++ ((wLar D oq fq) ++ (wMod D Ax th nsd fogd nrd nm ne Lx))))))))))))))) (hS : va_S A0 s.heap H locs) (ls : Array Slot) (hl : lv_has ls 9 [(4, .int (nI (4 * i))), (0, .ref b), (1, .ref om), (2, .ref (Ax 0)), (3, .ref oq)]) : W p l e room_1 s m #[Value.ref b] below meth c H locs (200 + 81 * i) (9000 + 11700 * i) (lw_Z below #[Value.ref b] s) (F0 m 828 ls []) := by
  obtain ⟨hx, hb, hr, hml, hown, hts, hX, hbl, hbA, hlocks, hl9, hCX, hSX, hTX, hZX, hNX, hK, hN, hA, -, hL⟩ := X
  have hS9 : okS Lx nsd nrd nm ne := okS_rel hSY.1
  have b10 : nsd ≤ 10 := hSY.1.1.1
  have b15 : nrd ≤ 15 := hSY.1.1.2.1
  have b12 : nm ≤ 12 := hSY.1.2.2.1.1
  have b60 : ne ≤ 60 := hSY.1.2.2.2.1
  have hrE : rE Le Lx ne := hSY.1.2.2.2.2.2.2.2.2.2.1
  have he : ne < 2 ^ 31 := by omega
  have hm : nm < 2 ^ 31 := by omega
  have hns : nsd < 2 ^ 31 := by omega
  have hnr : nrd < 2 ^ 31 := by omega
  refine lv_aload_n hx hb dL_law_828 rfl (lv_at hl 2 rfl) ?_
  refine lv_aload_n hx hb dL_law_829 rfl (lv_at hl 1 rfl) ?_
  refine lv_iload hx hb dL_law_830 (lv_at hl 0 rfl) ?_
  refine lv_iconst (v := 1) hx hb dL_law_832 (by decide) ?_
  refine lv_iadd hx hb dL_law_833 ?_
  refine va_sld hx hb hX hbl hbA hS (i := ((nI (4 * i)) + 1)) (inS1 hi hL) dL_law_834 ?_
  refine W.eq (g2 := F0 m 835 ls [.int a1, .ref om]) (congrArg (fun zz : Int32 => F0 m 835 ls [.int zz, .ref om]) ea1) ?_
  refine lv_aload_n hx hb dL_law_835 rfl (lv_at hl 4 rfl) ?_
  refine kSL ⟨hx, hb, hml, hown, hts⟩ (c_L_recall l D om Ad ot ou Aw Am Ae xt hou cro Lw nm Lm ne Le yt Nt nsd fogd nrd Ld oq fq a1 _ (by assumption) hl9) (vx_cwSW 3 hts gL_law_L_recall rfl rfl rfl (by decide +kernel) ⟨Nat.le_of_ble_eq_true rfl, Nat.le_of_ble_eq_true rfl⟩) hCX hSX hTX hZX hNX hK hN hP hD hS hA (fun z => (Fr.app (Fr.kp Sb.self) (Fr.app (Fr.kp Sb.self) (Fr.app (Fr.kp Sb.self) (Fr.app (Fr.kp Sb.self) (Fr.app frsLet (Fr.app (Fr.kp Sb.self) (Fr.r (Fr.r (Fr.r (Fr.r (Fr.r (Fr.app (Fr.kp Sb.self) (Fr.l frsLar)))))))))))))) (Sb.app Sb.self (Sb.app Sb.self (Sb.app Sb.self (Sb.app Sb.self (Sb.app Sb.self (Sb.app Sb.self (Sb.r (Sb.r (Sb.r (Sb.r (Sb.r (Sb.app Sb.self (Sb.l Sb.self))))))))))))) rfl hl.1 (Nat.le_of_ble_eq_true rfl) ⟨by show _ ≤ 601024; omega, by show _ ≤ 7293034; omega⟩ dL_law_836 (fun H locs hk9 hP hD hS => ?_) (fun z H locs hk9 hP hD hS => ?_) rfl
  · have hP : va_P D.1 vwCl ((wMob om Ad ot ou) ++ ((wTob ot Ad Aw Am Ae xt hou cro) ++ ((wWays D Aw Lw) ++ ((wMul D Am nm Lm) ++ ((wLet D Ae ne Le) ++ ((wRow D xt yt 60 Nt) ++ ((wTob ou Ad Bw Bm Be xu hou2 cro2) ++ ((wWays D Bw Kw) ++ ((wMul D Bm nm2 Km) ++ ((wLet D Be ne2 Ke) ++ ((wRow D xu yu 60 Nu) ++ ((wLand D Ad nsd fogd nrd Ld) ++ ((wLar D oq fq) ++ (wMod D Ax th nsd fogd nrd nm ne Lx)))))))))))))) H := hP
    have hD : va_D A0 ((wMob om Ad ot ou) ++ ((wTob ot Ad Aw Am Ae xt hou cro) ++ ((wWays D Aw Lw) ++ ((wMul D Am nm Lm) ++ ((wLet D Ae ne Le) ++ ((wRow D xt yt 60 Nt) ++ ((wTob ou Ad Bw Bm Be xu hou2 cro2) ++ ((wWays D Bw Kw) ++ ((wMul D Bm nm2 Km) ++ ((wLet D Be ne2 Ke) ++ ((wRow D xu yu 60 Nu) ++ ((wLand D Ad nsd fogd nrd Ld) ++ ((wLar D oq fq) ++ (wMod D Ax th nsd fogd nrd nm ne Lx)))))))))))))) := hD
    refine lv_istore (lv' := [(5, .int (nI (kRC Le ne a1))), (4, .int (nI (4 * i))), (0, .ref b), (1, .ref om), (2, .ref (Ax 0)), (3, .ref oq)]) hx hb dL_law_839 hl (by decide) rfl (fun ls hl => ?_)
    refine lv_aload_n hx hb dL_law_841 rfl (lv_at hl 4 rfl) ?_
    refine lv_aload_n hx hb dL_law_842 rfl (lv_at hl 2 rfl) ?_
    refine lv_iload hx hb dL_law_843 (lv_at hl 1 rfl) ?_
    refine lv_iconst (v := 1) hx hb dL_law_845 (by decide) ?_
    refine lv_iadd hx hb dL_law_846 ?_
    refine va_sld hx hb hX hbl hbA hS (i := ((nI (4 * i)) + 1)) (inS1 hi hL) dL_law_847 ?_
    refine W.eq (g2 := F0 m 848 ls [.int a1, .ref (Ax 0)]) (congrArg (fun zz : Int32 => F0 m 848 ls [.int zz, .ref (Ax 0)]) ea1) ?_
    refine kVw ⟨hx, hb, hml, hown, hts⟩ (c_X7_recall l D Ax th nsd fogd nrd nm ne Lx a1 (by assumption) (by assumption) (by assumption) (by assumption)) (cwV 1 hts gL_law_X7_recall rfl rfl rfl (by decide +kernel) ⟨Nat.le_of_ble_eq_true rfl, Nat.le_of_ble_eq_true rfl⟩) hK hN hP hD hS (Fr.r (Fr.r (Fr.r (Fr.r (Fr.r (Fr.r (Fr.r (Fr.r (Fr.r (Fr.r (Fr.r (Fr.r (Fr.r frsMod))))))))))))) 7 0 rfl rfl rfl hl.1 (Nat.le_of_ble_eq_true rfl) ⟨by show _ ≤ 601024; omega, by show _ ≤ 7293034; omega⟩ dL_law_848 (fun H locs hP hD hS => ?_) rfl
    have hP : va_P D.1 vwCl ((wMob om Ad ot ou) ++ ((wTob ot Ad Aw Am Ae xt hou cro) ++ ((wWays D Aw Lw) ++ ((wMul D Am nm Lm) ++ ((wLet D Ae ne Le) ++ ((wRow D xt yt 60 Nt) ++ ((wTob ou Ad Bw Bm Be xu hou2 cro2) ++ ((wWays D Bw Kw) ++ ((wMul D Bm nm2 Km) ++ ((wLet D Be ne2 Ke) ++ ((wRow D xu yu 60 Nu) ++ ((wLand D Ad nsd fogd nrd Ld) ++ ((wLar D oq fq) ++ (wMod D Ax ((prc Lx nsd fogd ne a1).2.1) nsd fogd nrd nm ne ((prc Lx nsd fogd ne a1).2.2))))))))))))))) H := hP
    have hD : va_D A0 ((wMob om Ad ot ou) ++ ((wTob ot Ad Aw Am Ae xt hou cro) ++ ((wWays D Aw Lw) ++ ((wMul D Am nm Lm) ++ ((wLet D Ae ne Le) ++ ((wRow D xt yt 60 Nt) ++ ((wTob ou Ad Bw Bm Be xu hou2 cro2) ++ ((wWays D Bw Kw) ++ ((wMul D Bm nm2 Km) ++ ((wLet D Be ne2 Ke) ++ ((wRow D xu yu 60 Nu) ++ ((wLand D Ad nsd fogd nrd Ld) ++ ((wLar D oq fq) ++ (wMod D Ax ((prc Lx nsd fogd ne a1).2.1) nsd fogd nrd nm ne ((prc Lx nsd fogd ne a1).2.2))))))))))))))) := hD
    refine W.eq (g2 := F0 m 851 ls [.int ((prc Lx nsd fogd ne a1).1)]) rfl ?_
    have r9 := rc_rel (fog := fogd) (l := a1) hSY
    rw [r9.1, r9.2.1 hk9] at hP hD
    have hP : va_P D.1 vwCl ((wMob om Ad ot ou) ++ ((wTob ot Ad Aw Am Ae xt hou cro) ++ ((wWays D Aw Lw) ++ ((wMul D Am nm Lm) ++ ((wLet D Ae ne Le) ++ ((wRow D xt yt 60 Nt) ++ ((wTob ou Ad Bw Bm Be xu hou2 cro2) ++ ((wWays D Bw Kw) ++ ((wMul D Bm nm2 Km) ++ ((wLet D Be ne2 Ke) ++ ((wRow D xu yu 60 Nu) ++ ((wLand D Ad nsd fogd nrd Ld) ++ ((wLar D oq fq) ++ (wMod D Ax (nI (kRC Le ne a1)) nsd fogd nrd nm ne Lx)))))))))))))) H := hP
    have hD : va_D A0 ((wMob om Ad ot ou) ++ ((wTob ot Ad Aw Am Ae xt hou cro) ++ ((wWays D Aw Lw) ++ ((wMul D Am nm Lm) ++ ((wLet D Ae ne Le) ++ ((wRow D xt yt 60 Nt) ++ ((wTob ou Ad Bw Bm Be xu hou2 cro2) ++ ((wWays D Bw Kw) ++ ((wMul D Bm nm2 Km) ++ ((wLet D Be ne2 Ke) ++ ((wRow D xu yu 60 Nu) ++ ((wLand D Ad nsd fogd nrd Ld) ++ ((wLar D oq fq) ++ (wMod D Ax (nI (kRC Le ne a1)) nsd fogd nrd nm ne Lx)))))))))))))) := hD
    refine lv_istore (lv' := [(6, .int ((prc Lx nsd fogd ne a1).1)), (5, .int (nI (kRC Le ne a1))), (4, .int (nI (4 * i))), (0, .ref b), (1, .ref om), (2, .ref (Ax 0)), (3, .ref oq)]) hx hb dL_law_851 hl (by decide) rfl (fun ls hl => ?_)
    refine lv_aload_n hx hb dL_law_853 rfl (lv_at hl 5 rfl) ?_
    refine kVp ⟨hx, hb, hml, hown, hts⟩ (c_X7_thrown l D Ax (nI (kRC Le ne a1)) nsd fogd nrd nm ne Lx) (cwV 0 hts gL_law_X7_thrown rfl rfl rfl (by decide +kernel) ⟨Nat.le_of_ble_eq_true rfl, Nat.le_of_ble_eq_true rfl⟩) hK hN hP hD (Sb.r (Sb.r (Sb.r (Sb.r (Sb.r (Sb.r (Sb.r (Sb.r (Sb.r (Sb.r (Sb.r (Sb.r (Sb.r Sb.self))))))))))))) 7 0 rfl rfl rfl hl.1 (Nat.le_of_ble_eq_true rfl) ⟨by show _ ≤ 601024; omega, by show _ ≤ 7293034; omega⟩ dL_law_854 ?_ rfl
    refine lv_iload hx hb dL_law_857 (lv_at hl 1 rfl) ?_
    refine lv_icmp_eq (tgt := 864) hx hb dL_law_859 (by decide) (fun c1 => ?_) (fun c1 => ?_)
    · refine lv_iload hx hb dL_law_864 (lv_at hl 1 rfl) ?_
      refine lv_if_ne (tgt := 881) hx hb dL_law_866 (by decide) (fun c2 => ?_) (fun c2 => ?_)
      · refine lv_goto (tgt := 1447) hx hb dL_law_881 (by decide) ?_
        refine lv_iinc (v := ((nI (4 * i)) + 4)) (lv' := [(4, .int ((nI (4 * i)) + 4)), (6, .int ((prc Lx nsd fogd ne a1).1)), (5, .int (nI (kRC Le ne a1))), (0, .ref b), (1, .ref om), (2, .ref (Ax 0)), (3, .ref oq)]) hx hb dL_law_1447 hl (k := 2) rfl rfl (by decide) rfl (fun ls hl => ?_)
        rw [show nI (4 * i) + 4 = nI (4 * (i + 1)) from nI_add (4 * i) 4] at hl
        refine lv_goto (tgt := 23) hx hb dL_law_1450 (by decide) ?_
        refine W.widen (k := 200 + 81 * (i + 1)) (n := 9000 + 11700 * (i + 1)) (by omega) (by omega) ?_
        exact ih Ax hou cro Lw nm Lm ne Le Nt hou2 cro2 Kw nm2 Km ne2 Ke Nu nsd fogd nrd Ld fq (nI (kRC Le ne a1)) Lx h hSY (by omega) H locs hP hD hS ls (lv_sub hl [0, 3, 4, 5, 6] rfl)
      · exact (nI_ne0 (Nat.pos_of_ne_zero hk9) (Nat.lt_of_le_of_lt (kRC_b _ _ _) (by decide)) c2).elim
    · exact (c1 (by first | rfl | decide)).elim
  · have hP : va_P D.1 vwCl ((wMob om Ad ot ou) ++ ((wTob ot Ad Aw Am Ae xt hou cro) ++ ((wWays D Aw Lw) ++ ((wMul D Am nm Lm) ++ ((wLet D Ae ne (sr Le 6 (rs 60 (Le 6) a1 (bW 0 (rg 60 (Le 0) a1))))) ++ ((wRow D xt yt 60 Nt) ++ ((wTob ou Ad Bw Bm Be xu hou2 cro2) ++ ((wWays D Bw Kw) ++ ((wMul D Bm nm2 Km) ++ ((wLet D Be ne2 Ke) ++ ((wRow D xu yu 60 Nu) ++ ((wLand D Ad nsd fogd nrd Ld) ++ ((wLar D oq (vp_updL fq 0 (bitC (evF Ld nsd fogd (rg 60 (Le 0) a1) nsd) - 1).toInt64)) ++ (wMod D Ax th nsd fogd nrd nm ne Lx)))))))))))))) H := hP
    have hD : va_D A0 ((wMob om Ad ot ou) ++ ((wTob ot Ad Aw Am Ae xt hou cro) ++ ((wWays D Aw Lw) ++ ((wMul D Am nm Lm) ++ ((wLet D Ae ne (sr Le 6 (rs 60 (Le 6) a1 (bW 0 (rg 60 (Le 0) a1))))) ++ ((wRow D xt yt 60 Nt) ++ ((wTob ou Ad Bw Bm Be xu hou2 cro2) ++ ((wWays D Bw Kw) ++ ((wMul D Bm nm2 Km) ++ ((wLet D Be ne2 Ke) ++ ((wRow D xu yu 60 Nu) ++ ((wLand D Ad nsd fogd nrd Ld) ++ ((wLar D oq (vp_updL fq 0 (bitC (evF Ld nsd fogd (rg 60 (Le 0) a1) nsd) - 1).toInt64)) ++ (wMod D Ax th nsd fogd nrd nm ne Lx)))))))))))))) := hD
    refine lv_istore (lv' := [(5, .int 0), (4, .int (nI (4 * i))), (0, .ref b), (1, .ref om), (2, .ref (Ax 0)), (3, .ref oq)]) hx hb dL_law_839 hl (by decide) rfl (fun ls hl => ?_)
    refine lv_aload_n hx hb dL_law_841 rfl (lv_at hl 4 rfl) ?_
    refine lv_aload_n hx hb dL_law_842 rfl (lv_at hl 2 rfl) ?_
    refine lv_iload hx hb dL_law_843 (lv_at hl 1 rfl) ?_
    refine lv_iconst (v := 1) hx hb dL_law_845 (by decide) ?_
    refine lv_iadd hx hb dL_law_846 ?_
    refine va_sld hx hb hX hbl hbA hS (i := ((nI (4 * i)) + 1)) (inS1 hi hL) dL_law_847 ?_
    refine W.eq (g2 := F0 m 848 ls [.int a1, .ref (Ax 0)]) (congrArg (fun zz : Int32 => F0 m 848 ls [.int zz, .ref (Ax 0)]) ea1) ?_
    refine kVw ⟨hx, hb, hml, hown, hts⟩ (c_X7_recall l D Ax th nsd fogd nrd nm ne Lx a1 (by assumption) (by assumption) (by assumption) (by assumption)) (cwV 1 hts gL_law_X7_recall rfl rfl rfl (by decide +kernel) ⟨Nat.le_of_ble_eq_true rfl, Nat.le_of_ble_eq_true rfl⟩) hK hN hP hD hS (Fr.r (Fr.r (Fr.r (Fr.r (Fr.r (Fr.r (Fr.r (Fr.r (Fr.r (Fr.r (Fr.r (Fr.r (Fr.r frsMod))))))))))))) 7 0 rfl rfl rfl hl.1 (Nat.le_of_ble_eq_true rfl) ⟨by show _ ≤ 601024; omega, by show _ ≤ 7293034; omega⟩ dL_law_848 (fun H locs hP hD hS => ?_) rfl
    have hP : va_P D.1 vwCl ((wMob om Ad ot ou) ++ ((wTob ot Ad Aw Am Ae xt hou cro) ++ ((wWays D Aw Lw) ++ ((wMul D Am nm Lm) ++ ((wLet D Ae ne (sr Le 6 (rs 60 (Le 6) a1 (bW 0 (rg 60 (Le 0) a1))))) ++ ((wRow D xt yt 60 Nt) ++ ((wTob ou Ad Bw Bm Be xu hou2 cro2) ++ ((wWays D Bw Kw) ++ ((wMul D Bm nm2 Km) ++ ((wLet D Be ne2 Ke) ++ ((wRow D xu yu 60 Nu) ++ ((wLand D Ad nsd fogd nrd Ld) ++ ((wLar D oq (vp_updL fq 0 (bitC (evF Ld nsd fogd (rg 60 (Le 0) a1) nsd) - 1).toInt64)) ++ (wMod D Ax ((prc Lx nsd fogd ne a1).2.1) nsd fogd nrd nm ne ((prc Lx nsd fogd ne a1).2.2))))))))))))))) H := hP
    have hD : va_D A0 ((wMob om Ad ot ou) ++ ((wTob ot Ad Aw Am Ae xt hou cro) ++ ((wWays D Aw Lw) ++ ((wMul D Am nm Lm) ++ ((wLet D Ae ne (sr Le 6 (rs 60 (Le 6) a1 (bW 0 (rg 60 (Le 0) a1))))) ++ ((wRow D xt yt 60 Nt) ++ ((wTob ou Ad Bw Bm Be xu hou2 cro2) ++ ((wWays D Bw Kw) ++ ((wMul D Bm nm2 Km) ++ ((wLet D Be ne2 Ke) ++ ((wRow D xu yu 60 Nu) ++ ((wLand D Ad nsd fogd nrd Ld) ++ ((wLar D oq (vp_updL fq 0 (bitC (evF Ld nsd fogd (rg 60 (Le 0) a1) nsd) - 1).toInt64)) ++ (wMod D Ax ((prc Lx nsd fogd ne a1).2.1) nsd fogd nrd nm ne ((prc Lx nsd fogd ne a1).2.2))))))))))))))) := hD
    refine W.eq (g2 := F0 m 851 ls [.int ((prc Lx nsd fogd ne a1).1)]) rfl ?_
    have r9 := rc_rel (fog := fogd) (l := a1) hSY
    rw [r9.1, hk9] at hP hD
    have hP : va_P D.1 vwCl ((wMob om Ad ot ou) ++ ((wTob ot Ad Aw Am Ae xt hou cro) ++ ((wWays D Aw Lw) ++ ((wMul D Am nm Lm) ++ ((wLet D Ae ne (sr Le 6 (rs 60 (Le 6) a1 (bW 0 (rg 60 (Le 0) a1))))) ++ ((wRow D xt yt 60 Nt) ++ ((wTob ou Ad Bw Bm Be xu hou2 cro2) ++ ((wWays D Bw Kw) ++ ((wMul D Bm nm2 Km) ++ ((wLet D Be ne2 Ke) ++ ((wRow D xu yu 60 Nu) ++ ((wLand D Ad nsd fogd nrd Ld) ++ ((wLar D oq (vp_updL fq 0 (bitC (evF Ld nsd fogd (rg 60 (Le 0) a1) nsd) - 1).toInt64)) ++ (wMod D Ax (nI 0) nsd fogd nrd nm ne ((prc Lx nsd fogd ne a1).2.2))))))))))))))) H := hP
    have hD : va_D A0 ((wMob om Ad ot ou) ++ ((wTob ot Ad Aw Am Ae xt hou cro) ++ ((wWays D Aw Lw) ++ ((wMul D Am nm Lm) ++ ((wLet D Ae ne (sr Le 6 (rs 60 (Le 6) a1 (bW 0 (rg 60 (Le 0) a1))))) ++ ((wRow D xt yt 60 Nt) ++ ((wTob ou Ad Bw Bm Be xu hou2 cro2) ++ ((wWays D Bw Kw) ++ ((wMul D Bm nm2 Km) ++ ((wLet D Be ne2 Ke) ++ ((wRow D xu yu 60 Nu) ++ ((wLand D Ad nsd fogd nrd Ld) ++ ((wLar D oq (vp_updL fq 0 (bitC (evF Ld nsd fogd (rg 60 (Le 0) a1) nsd) - 1).toInt64)) ++ (wMod D Ax (nI 0) nsd fogd nrd nm ne ((prc Lx nsd fogd ne a1).2.2))))))))))))))) := hD
    refine W.eq (g2 := F0 m 851 ls [.int (bitC (evF Ld nsd fogd (rg 60 (Le 0) a1) nsd) - 1)]) (congrArg (fun zz : Int32 => F0 m 851 ls [.int zz]) (show (prc Lx nsd fogd ne a1).1 = bitC (evF Ld nsd fogd (rg 60 (Le 0) a1) nsd) - 1 from (r9.2.2 hk9).1)) ?_
    refine lv_istore (lv' := [(6, .int (bitC (evF Ld nsd fogd (rg 60 (Le 0) a1) nsd) - 1)), (5, .int 0), (4, .int (nI (4 * i))), (0, .ref b), (1, .ref om), (2, .ref (Ax 0)), (3, .ref oq)]) hx hb dL_law_851 hl (by decide) rfl (fun ls hl => ?_)
    refine lv_aload_n hx hb dL_law_853 rfl (lv_at hl 5 rfl) ?_
    refine kVp ⟨hx, hb, hml, hown, hts⟩ (c_X7_thrown l D Ax (nI 0) nsd fogd nrd nm ne ((prc Lx nsd fogd ne a1).2.2)) (cwV 0 hts gL_law_X7_thrown rfl rfl rfl (by decide +kernel) ⟨Nat.le_of_ble_eq_true rfl, Nat.le_of_ble_eq_true rfl⟩) hK hN hP hD (Sb.r (Sb.r (Sb.r (Sb.r (Sb.r (Sb.r (Sb.r (Sb.r (Sb.r (Sb.r (Sb.r (Sb.r (Sb.r Sb.self))))))))))))) 7 0 rfl rfl rfl hl.1 (Nat.le_of_ble_eq_true rfl) ⟨by show _ ≤ 601024; omega, by show _ ≤ 7293034; omega⟩ dL_law_854 ?_ rfl
    refine lv_iload hx hb dL_law_857 (lv_at hl 1 rfl) ?_
    refine lv_icmp_eq (tgt := 864) hx hb dL_law_859 (by decide) (fun c3 => ?_) (fun c3 => ?_)
    · refine lv_iload hx hb dL_law_864 (lv_at hl 1 rfl) ?_
      refine lv_if_ne (tgt := 881) hx hb dL_law_866 (by decide) (fun c4 => ?_) (fun c4 => ?_)
      · exact absurd c4 (by decide)
      · refine lv_aload_n hx hb dL_law_869 rfl (lv_at hl 6 rfl) ?_
        refine lv_iconst (v := 0) hx hb dL_law_870 (by decide) ?_
        refine va_lald (D := D.1) hx hb hK hP 96 1 rfl rfl (i := (0 : Int32)) (vpl (by decide)) dL_law_871 ?_
        refine W.eq (g2 := F0 m 872 ls [.long ((bitC (evF Ld nsd fogd (rg 60 (Le 0) a1) nsd) - 1).toInt64)]) (congrArg (fun zz : Int64 => F0 m 872 ls [.long zz]) (show (vp_updL fq 0 (bitC (evF Ld nsd fogd (rg 60 (Le 0) a1) nsd) - 1).toInt64) ((0 : Int32).toNatClampNeg) = (bitC (evF Ld nsd fogd (rg 60 (Le 0) a1) nsd) - 1).toInt64 from pk_uLs)) ?_
        refine lv_iload hx hb dL_law_872 (lv_at hl 0 rfl) ?_
        refine lv_i2l hx hb dL_law_874 rfl ?_
        refine W.lcmp hx hb dL_law_875 ?_
        refine W.eq (g2 := F0 m 876 ls [.int 0]) (congrArg (fun zz : Int32 => F0 m 876 ls [.int zz]) (lcmp0 _)) ?_
        refine lv_if_eq (tgt := 881) hx hb dL_law_876 (by decide) (fun c5 => ?_) (fun c5 => ?_)
        · refine lv_goto (tgt := 1447) hx hb dL_law_881 (by decide) ?_
          refine lv_iinc (v := ((nI (4 * i)) + 4)) (lv' := [(4, .int ((nI (4 * i)) + 4)), (6, .int (bitC (evF Ld nsd fogd (rg 60 (Le 0) a1) nsd) - 1)), (5, .int 0), (0, .ref b), (1, .ref om), (2, .ref (Ax 0)), (3, .ref oq)]) hx hb dL_law_1447 hl (k := 2) rfl rfl (by decide) rfl (fun ls hl => ?_)
          rw [show nI (4 * i) + 4 = nI (4 * (i + 1)) from nI_add (4 * i) 4] at hl
          refine lv_goto (tgt := 23) hx hb dL_law_1450 (by decide) ?_
          refine W.widen (k := 200 + 81 * (i + 1)) (n := 9000 + 11700 * (i + 1)) (by omega) (by omega) ?_
          exact ih Ax hou cro Lw nm Lm ne (sr Le 6 (rs 60 (Le 6) a1 (bW 0 (rg 60 (Le 0) a1)))) Nt hou2 cro2 Kw nm2 Km ne2 Ke Nu nsd fogd nrd Ld (vp_updL fq 0 (bitC (evF Ld nsd fogd (rg 60 (Le 0) a1) nsd) - 1).toInt64) (nI 0) ((prc Lx nsd fogd ne a1).2.2) h (r9.2.2 hk9).2 (by omega) H locs hP hD hS ls (lv_sub hl [0, 3, 4, 5, 6] rfl)
        · exact absurd c5 (by decide)
    · exact (c3 (by first | rfl | decide)).elim
