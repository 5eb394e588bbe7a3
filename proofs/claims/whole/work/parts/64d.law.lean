set_option maxHeartbeats 4000000 in
set_option maxRecDepth 100000 in
theorem law_c10 {p : Program} {l : Launch} {e : Env} {s : State} {m : MethodId} {below : List Frame} {meth : Method} {c : Code} {D : GG} {b L : Nat} {xs : Nat → Int32} {A0 : Nat → Prop} {om ot ou oq xt yt xu yu : Nat} {Ad Aw Am Ae Bw Bm Be : Nat → Nat} (X : LX p l s m meth c D b L xs A0) {i : Nat} (hi : 4 * i + 4 ≤ L) (ih : LG p l e s m below meth c D b L xs A0 om ot ou oq xt yt xu yu Ad Aw Am Ae Bw Bm Be (i + 1)) {a1 a2 a3 : Int32} (ea1 : xs (nI (4 * i) + 1).toNatClampNeg = a1) (ea2 : xs (nI (4 * i) + 2).toNatClampNeg = a2) (ea3 : xs (nI (4 * i) + 3).toNatClampNeg = a3)
    (Ax : Nat → Nat) (hou cro : Int32) (Lw : Fm) (nm : Nat) (Lm : Fm) (ne : Nat) (Le : Fm) (Nt : Rw) (hou2 cro2 : Int32) (Kw : Fm) (nm2 : Nat) (Km : Fm) (ne2 : Nat) (Ke : Fm) (Nu : Rw) (nsd : Nat) (fogd : Int32) (nrd : Nat) (Ld : Fm) (fq : Nat → Int64) (th : Int32) (Lx : Fm) (h : Nat) (hSY : SY Lw Ld Lm Le hou cro Lx nsd nrd nm ne h) (hh : h ≤ 100 * i) (H : Heap) (locs : List Loc) (hP : va_P D.1 vwCl ((wMob om Ad ot ou) ++ ((wTob ot Ad Aw Am Ae xt hou cro) ++ ((wWays D Aw Lw) ++ ((wMul D Am nm Lm) ++ ((wLet D Ae ne Le) ++ ((wRow D xt yt 60 Nt) ++ ((wTob ou Ad Bw Bm Be xu hou2 cro2) ++ ((wWays D Bw Kw) ++ ((wMul D Bm nm2 Km) ++ ((wLet D Be ne2 Ke) ++ ((wRow D xu yu 60 Nu) ++ ((wLand D Ad nsd fogd nrd Ld) ++ ((wLar D oq fq) ++ (wMod D Ax th nsd fogd nrd nm ne Lx)))))))))))))) H) (hD : va_D A0 ((wMob om Ad ot ou) ++ ((wTob ot Ad Aw Am Ae xt hou cro) ++ ((wWays D Aw Lw) ++ ((wMul D Am nm Lm) ++ ((wLet D Ae ne Le) ++ ((wRow D xt yt 60 Nt) ++ ((wTob ou Ad Bw Bm Be xu hou2 cro2) ++ ((wWays D Bw Kw) ++ ((wMul D Bm nm2 Km) ++ ((wLet D Be ne2 Ke) ++ ((wRow D xu yu 60 Nu) ++ ((wLand D Ad nsd fogd nrd Ld) ++ ((wLar D oq fq) ++ (wMod D Ax th nsd fogd nrd nm ne Lx))))))))))))))) (hS : va_S A0 s.heap H locs) (ls : Array Slot) (hl : lv_has ls 9 [(4, .int (nI (4 * i))), (0, .ref b), (1, .ref om), (2, .ref (Ax 0)), (3, .ref oq)]) : W p l e room_1 s m #[Value.ref b] below meth c H locs (200 + 81 * i) (9000 + 11700 * i) (lw_Z below #[Value.ref b] s) (F0 m 884 ls []) := by
  obtain ⟨hx, hb, hr, hml, hown, hts, hX, hbl, hbA, hlocks, hl9, hCX, hSX, hTX, hZX, hNX, hK, hN, hA, -, hL⟩ := X
  have hS9 : okS Lx nsd nrd nm ne := okS_rel hSY.1
  have b10 : nsd ≤ 10 := hSY.1.1.1
  have b15 : nrd ≤ 15 := hSY.1.1.2.1
  have b12 : nm ≤ 12 := hSY.1.2.2.1.1
  have b60 : ne ≤ 60 := hSY.1.2.2.2.1
  have hrE : rE Le Lx ne := hSY.1.2.2.2.2.2.2.2.2.2.1
  have he : ne < 2 ^ 31 := by omega
  have hm : nm < 2 ^ 31 := by omega
  have hns : nsd < 2 ^ 31 := by omega
  have hnr : nrd < 2 ^ 31 := by omega
  refine lv_aload_n hx hb dL_law_884 rfl (lv_at hl 2 rfl) ?_
  refine lv_aload_n hx hb dL_law_885 rfl (lv_at hl 1 rfl) ?_
  refine lv_iload hx hb dL_law_886 (lv_at hl 0 rfl) ?_
  refine lv_iconst (v := 1) hx hb dL_law_888 (by decide) ?_
  refine lv_iadd hx hb dL_law_889 ?_
  refine va_sld hx hb hX hbl hbA hS (i := ((nI (4 * i)) + 1)) (inS1 hi hL) dL_law_890 ?_
  refine W.eq (g2 := F0 m 891 ls [.int a1, .ref om]) (congrArg (fun zz : Int32 => F0 m 891 ls [.int zz, .ref om]) ea1) ?_
  refine lv_aload_n hx hb dL_law_891 rfl (lv_at hl 1 rfl) ?_
  refine lv_iload hx hb dL_law_892 (lv_at hl 0 rfl) ?_
  refine lv_iconst (v := 2) hx hb dL_law_894 (by decide) ?_
  refine lv_iadd hx hb dL_law_895 ?_
  refine va_sld hx hb hX hbl hbA hS (i := ((nI (4 * i)) + 2)) (inS2 hi hL) dL_law_896 ?_
  refine W.eq (g2 := F0 m 897 ls [.int a2, .int a1, .ref om]) (congrArg (fun zz : Int32 => F0 m 897 ls [.int zz, .int a1, .ref om]) ea2) ?_
  refine lv_aload_n hx hb dL_law_897 rfl (lv_at hl 4 rfl) ?_
  refine kSL ⟨hx, hb, hml, hown, hts⟩ (c_L_letter l D om Ad ot ou Aw Am Ae xt hou cro Lw nm Lm ne Le yt Nt nsd fogd nrd Ld oq fq a1 a2 _ hl9) (vx_cwSW 4 hts gL_law_L_letter rfl rfl rfl (by decide +kernel) ⟨Nat.le_of_ble_eq_true rfl, Nat.le_of_ble_eq_true rfl⟩) hCX hSX hTX hZX hNX hK hN hP hD hS hA (fun z => (Fr.app (Fr.kp Sb.self) (Fr.app (Fr.kp Sb.self) (Fr.app (Fr.kp Sb.self) (Fr.app (Fr.kp Sb.self) (Fr.app (Fr.kp Sb.self) (Fr.app (Fr.kp Sb.self) (Fr.r (Fr.r (Fr.r (Fr.r (Fr.r (Fr.app (Fr.kp Sb.self) (Fr.l frsLar)))))))))))))) (Sb.app Sb.self (Sb.app Sb.self (Sb.app Sb.self (Sb.app Sb.self (Sb.app Sb.self (Sb.app Sb.self (Sb.r (Sb.r (Sb.r (Sb.r (Sb.r (Sb.app Sb.self (Sb.l Sb.self))))))))))))) rfl hl.1 (Nat.le_of_ble_eq_true rfl) ⟨by show _ ≤ 601024; omega, by show _ ≤ 7293034; omega⟩ dL_law_898 (fun H locs hk9 hP hD hS => ?_) (fun z H locs hk9 hP hD hS => ?_) rfl
  · have hP : va_P D.1 vwCl ((wMob om Ad ot ou) ++ ((wTob ot Ad Aw Am Ae xt hou cro) ++ ((wWays D Aw Lw) ++ ((wMul D Am nm Lm) ++ ((wLet D Ae ne Le) ++ ((wRow D xt yt 60 Nt) ++ ((wTob ou Ad Bw Bm Be xu hou2 cro2) ++ ((wWays D Bw Kw) ++ ((wMul D Bm nm2 Km) ++ ((wLet D Be ne2 Ke) ++ ((wRow D xu yu 60 Nu) ++ ((wLand D Ad nsd fogd nrd Ld) ++ ((wLar D oq fq) ++ (wMod D Ax th nsd fogd nrd nm ne Lx)))))))))))))) H := hP
    have hD : va_D A0 ((wMob om Ad ot ou) ++ ((wTob ot Ad Aw Am Ae xt hou cro) ++ ((wWays D Aw Lw) ++ ((wMul D Am nm Lm) ++ ((wLet D Ae ne Le) ++ ((wRow D xt yt 60 Nt) ++ ((wTob ou Ad Bw Bm Be xu hou2 cro2) ++ ((wWays D Bw Kw) ++ ((wMul D Bm nm2 Km) ++ ((wLet D Be ne2 Ke) ++ ((wRow D xu yu 60 Nu) ++ ((wLand D Ad nsd fogd nrd Ld) ++ ((wLar D oq fq) ++ (wMod D Ax th nsd fogd nrd nm ne Lx)))))))))))))) := hD
    refine lv_istore (lv' := [(5, .int (nI (kTL ne 10 a1 a2))), (4, .int (nI (4 * i))), (0, .ref b), (1, .ref om), (2, .ref (Ax 0)), (3, .ref oq)]) hx hb dL_law_901 hl (by decide) rfl (fun ls hl => ?_)
    refine lv_aload_n hx hb dL_law_903 rfl (lv_at hl 4 rfl) ?_
    refine lv_aload_n hx hb dL_law_904 rfl (lv_at hl 2 rfl) ?_
    refine lv_iload hx hb dL_law_905 (lv_at hl 1 rfl) ?_
    refine lv_iconst (v := 1) hx hb dL_law_907 (by decide) ?_
    refine lv_iadd hx hb dL_law_908 ?_
    refine va_sld hx hb hX hbl hbA hS (i := ((nI (4 * i)) + 1)) (inS1 hi hL) dL_law_909 ?_
    refine W.eq (g2 := F0 m 910 ls [.int a1, .ref (Ax 0)]) (congrArg (fun zz : Int32 => F0 m 910 ls [.int zz, .ref (Ax 0)]) ea1) ?_
    refine lv_aload_n hx hb dL_law_910 rfl (lv_at hl 2 rfl) ?_
    refine lv_iload hx hb dL_law_911 (lv_at hl 1 rfl) ?_
    refine lv_iconst (v := 2) hx hb dL_law_913 (by decide) ?_
    refine lv_iadd hx hb dL_law_914 ?_
    refine va_sld hx hb hX hbl hbA hS (i := ((nI (4 * i)) + 2)) (inS2 hi hL) dL_law_915 ?_
    refine W.eq (g2 := F0 m 916 ls [.int a2, .int a1, .ref (Ax 0)]) (congrArg (fun zz : Int32 => F0 m 916 ls [.int zz, .int a1, .ref (Ax 0)]) ea2) ?_
    refine kVw ⟨hx, hb, hml, hown, hts⟩ (c_X7_letter l D Ax th nsd fogd nrd nm ne Lx a1 a2 (by assumption) (by assumption) (by assumption) (by assumption)) (cwV 2 hts gL_law_X7_letter rfl rfl rfl (by decide +kernel) ⟨Nat.le_of_ble_eq_true rfl, Nat.le_of_ble_eq_true rfl⟩) hK hN hP hD hS (Fr.r (Fr.r (Fr.r (Fr.r (Fr.r (Fr.r (Fr.r (Fr.r (Fr.r (Fr.r (Fr.r (Fr.r (Fr.r frsMod))))))))))))) 7 0 rfl rfl rfl hl.1 (Nat.le_of_ble_eq_true rfl) ⟨by show _ ≤ 601024; omega, by show _ ≤ 7293034; omega⟩ dL_law_916 (fun H locs hP hD hS => ?_) rfl
    have hP : va_P D.1 vwCl ((wMob om Ad ot ou) ++ ((wTob ot Ad Aw Am Ae xt hou cro) ++ ((wWays D Aw Lw) ++ ((wMul D Am nm Lm) ++ ((wLet D Ae ne Le) ++ ((wRow D xt yt 60 Nt) ++ ((wTob ou Ad Bw Bm Be xu hou2 cro2) ++ ((wWays D Bw Kw) ++ ((wMul D Bm nm2 Km) ++ ((wLet D Be ne2 Ke) ++ ((wRow D xu yu 60 Nu) ++ ((wLand D Ad nsd fogd nrd Ld) ++ ((wLar D oq fq) ++ (wMod D Ax ((ple Lx ne a1 a2).2) nsd fogd nrd nm ne Lx)))))))))))))) H := hP
    have hD : va_D A0 ((wMob om Ad ot ou) ++ ((wTob ot Ad Aw Am Ae xt hou cro) ++ ((wWays D Aw Lw) ++ ((wMul D Am nm Lm) ++ ((wLet D Ae ne Le) ++ ((wRow D xt yt 60 Nt) ++ ((wTob ou Ad Bw Bm Be xu hou2 cro2) ++ ((wWays D Bw Kw) ++ ((wMul D Bm nm2 Km) ++ ((wLet D Be ne2 Ke) ++ ((wRow D xu yu 60 Nu) ++ ((wLand D Ad nsd fogd nrd Ld) ++ ((wLar D oq fq) ++ (wMod D Ax ((ple Lx ne a1 a2).2) nsd fogd nrd nm ne Lx)))))))))))))) := hD
    refine W.eq (g2 := F0 m 919 ls [.int ((ple Lx ne a1 a2).1)]) rfl ?_
    have r9 := tl_rel (s := a1) (w := a2) hSY
    rw [r9.1] at hP hD
    have hP : va_P D.1 vwCl ((wMob om Ad ot ou) ++ ((wTob ot Ad Aw Am Ae xt hou cro) ++ ((wWays D Aw Lw) ++ ((wMul D Am nm Lm) ++ ((wLet D Ae ne Le) ++ ((wRow D xt yt 60 Nt) ++ ((wTob ou Ad Bw Bm Be xu hou2 cro2) ++ ((wWays D Bw Kw) ++ ((wMul D Bm nm2 Km) ++ ((wLet D Be ne2 Ke) ++ ((wRow D xu yu 60 Nu) ++ ((wLand D Ad nsd fogd nrd Ld) ++ ((wLar D oq fq) ++ (wMod D Ax (nI (kTL ne 10 a1 a2)) nsd fogd nrd nm ne Lx)))))))))))))) H := hP
    have hD : va_D A0 ((wMob om Ad ot ou) ++ ((wTob ot Ad Aw Am Ae xt hou cro) ++ ((wWays D Aw Lw) ++ ((wMul D Am nm Lm) ++ ((wLet D Ae ne Le) ++ ((wRow D xt yt 60 Nt) ++ ((wTob ou Ad Bw Bm Be xu hou2 cro2) ++ ((wWays D Bw Kw) ++ ((wMul D Bm nm2 Km) ++ ((wLet D Be ne2 Ke) ++ ((wRow D xu yu 60 Nu) ++ ((wLand D Ad nsd fogd nrd Ld) ++ ((wLar D oq fq) ++ (wMod D Ax (nI (kTL ne 10 a1 a2)) nsd fogd nrd nm ne Lx)))))))))))))) := hD
    refine lv_istore (lv' := [(6, .int ((ple Lx ne a1 a2).1)), (5, .int (nI (kTL ne 10 a1 a2))), (4, .int (nI (4 * i))), (0, .ref b), (1, .ref om), (2, .ref (Ax 0)), (3, .ref oq)]) hx hb dL_law_919 hl (by decide) rfl (fun ls hl => ?_)
    refine lv_aload_n hx hb dL_law_921 rfl (lv_at hl 5 rfl) ?_
    refine kVp ⟨hx, hb, hml, hown, hts⟩ (c_X7_thrown l D Ax (nI (kTL ne 10 a1 a2)) nsd fogd nrd nm ne Lx) (cwV 0 hts gL_law_X7_thrown rfl rfl rfl (by decide +kernel) ⟨Nat.le_of_ble_eq_true rfl, Nat.le_of_ble_eq_true rfl⟩) hK hN hP hD (Sb.r (Sb.r (Sb.r (Sb.r (Sb.r (Sb.r (Sb.r (Sb.r (Sb.r (Sb.r (Sb.r (Sb.r (Sb.r Sb.self))))))))))))) 7 0 rfl rfl rfl hl.1 (Nat.le_of_ble_eq_true rfl) ⟨by show _ ≤ 601024; omega, by show _ ≤ 7293034; omega⟩ dL_law_922 ?_ rfl
    refine lv_iload hx hb dL_law_925 (lv_at hl 1 rfl) ?_
    refine lv_icmp_eq (tgt := 932) hx hb dL_law_927 (by decide) (fun c1 => ?_) (fun c1 => ?_)
    · refine lv_iload hx hb dL_law_932 (lv_at hl 1 rfl) ?_
      refine lv_if_ne (tgt := 949) hx hb dL_law_934 (by decide) (fun c2 => ?_) (fun c2 => ?_)
      · refine lv_goto (tgt := 1447) hx hb dL_law_949 (by decide) ?_
        refine lv_iinc (v := ((nI (4 * i)) + 4)) (lv' := [(4, .int ((nI (4 * i)) + 4)), (6, .int ((ple Lx ne a1 a2).1)), (5, .int (nI (kTL ne 10 a1 a2))), (0, .ref b), (1, .ref om), (2, .ref (Ax 0)), (3, .ref oq)]) hx hb dL_law_1447 hl (k := 2) rfl rfl (by decide) rfl (fun ls hl => ?_)
        rw [show nI (4 * i) + 4 = nI (4 * (i + 1)) from nI_add (4 * i) 4] at hl
        refine lv_goto (tgt := 23) hx hb dL_law_1450 (by decide) ?_
        refine W.widen (k := 200 + 81 * (i + 1)) (n := 9000 + 11700 * (i + 1)) (by omega) (by omega) ?_
        exact ih Ax hou cro Lw nm Lm ne Le Nt hou2 cro2 Kw nm2 Km ne2 Ke Nu nsd fogd nrd Ld fq (nI (kTL ne 10 a1 a2)) Lx h hSY (by omega) H locs hP hD hS ls (lv_sub hl [0, 3, 4, 5, 6] rfl)
      · exact (nI_ne0 (Nat.pos_of_ne_zero hk9) (Nat.lt_of_le_of_lt (kTL_b _ _ _ _) (by decide)) c2).elim
    · exact (c1 (by first | rfl | decide)).elim
  · have hP : va_P D.1 vwCl ((wMob om Ad ot ou) ++ ((wTob ot Ad Aw Am Ae xt hou cro) ++ ((wWays D Aw Lw) ++ ((wMul D Am nm Lm) ++ ((wLet D Ae ne Le) ++ ((wRow D xt yt 60 Nt) ++ ((wTob ou Ad Bw Bm Be xu hou2 cro2) ++ ((wWays D Bw Kw) ++ ((wMul D Bm nm2 Km) ++ ((wLet D Be ne2 Ke) ++ ((wRow D xu yu 60 Nu) ++ ((wLand D Ad nsd fogd nrd Ld) ++ ((wLar D oq (vp_updL fq 0 (tlC Le a1 a2).toInt64)) ++ (wMod D Ax th nsd fogd nrd nm ne Lx)))))))))))))) H := hP
    have hD : va_D A0 ((wMob om Ad ot ou) ++ ((wTob ot Ad Aw Am Ae xt hou cro) ++ ((wWays D Aw Lw) ++ ((wMul D Am nm Lm) ++ ((wLet D Ae ne Le) ++ ((wRow D xt yt 60 Nt) ++ ((wTob ou Ad Bw Bm Be xu hou2 cro2) ++ ((wWays D Bw Kw) ++ ((wMul D Bm nm2 Km) ++ ((wLet D Be ne2 Ke) ++ ((wRow D xu yu 60 Nu) ++ ((wLand D Ad nsd fogd nrd Ld) ++ ((wLar D oq (vp_updL fq 0 (tlC Le a1 a2).toInt64)) ++ (wMod D Ax th nsd fogd nrd nm ne Lx)))))))))))))) := hD
    refine lv_istore (lv' := [(5, .int 0), (4, .int (nI (4 * i))), (0, .ref b), (1, .ref om), (2, .ref (Ax 0)), (3, .ref oq)]) hx hb dL_law_901 hl (by decide) rfl (fun ls hl => ?_)
    refine lv_aload_n hx hb dL_law_903 rfl (lv_at hl 4 rfl) ?_
    refine lv_aload_n hx hb dL_law_904 rfl (lv_at hl 2 rfl) ?_
    refine lv_iload hx hb dL_law_905 (lv_at hl 1 rfl) ?_
    refine lv_iconst (v := 1) hx hb dL_law_907 (by decide) ?_
    refine lv_iadd hx hb dL_law_908 ?_
    refine va_sld hx hb hX hbl hbA hS (i := ((nI (4 * i)) + 1)) (inS1 hi hL) dL_law_909 ?_
    refine W.eq (g2 := F0 m 910 ls [.int a1, .ref (Ax 0)]) (congrArg (fun zz : Int32 => F0 m 910 ls [.int zz, .ref (Ax 0)]) ea1) ?_
    refine lv_aload_n hx hb dL_law_910 rfl (lv_at hl 2 rfl) ?_
    refine lv_iload hx hb dL_law_911 (lv_at hl 1 rfl) ?_
    refine lv_iconst (v := 2) hx hb dL_law_913 (by decide) ?_
    refine lv_iadd hx hb dL_law_914 ?_
    refine va_sld hx hb hX hbl hbA hS (i := ((nI (4 * i)) + 2)) (inS2 hi hL) dL_law_915 ?_
    refine W.eq (g2 := F0 m 916 ls [.int a2, .int a1, .ref (Ax 0)]) (congrArg (fun zz : Int32 => F0 m 916 ls [.int zz, .int a1, .ref (Ax 0)]) ea2) ?_
    refine kVw ⟨hx, hb, hml, hown, hts⟩ (c_X7_letter l D Ax th nsd fogd nrd nm ne Lx a1 a2 (by assumption) (by assumption) (by assumption) (by assumption)) (cwV 2 hts gL_law_X7_letter rfl rfl rfl (by decide +kernel) ⟨Nat.le_of_ble_eq_true rfl, Nat.le_of_ble_eq_true rfl⟩) hK hN hP hD hS (Fr.r (Fr.r (Fr.r (Fr.r (Fr.r (Fr.r (Fr.r (Fr.r (Fr.r (Fr.r (Fr.r (Fr.r (Fr.r frsMod))))))))))))) 7 0 rfl rfl rfl hl.1 (Nat.le_of_ble_eq_true rfl) ⟨by show _ ≤ 601024; omega, by show _ ≤ 7293034; omega⟩ dL_law_916 (fun H locs hP hD hS => ?_) rfl
    have hP : va_P D.1 vwCl ((wMob om Ad ot ou) ++ ((wTob ot Ad Aw Am Ae xt hou cro) ++ ((wWays D Aw Lw) ++ ((wMul D Am nm Lm) ++ ((wLet D Ae ne Le) ++ ((wRow D xt yt 60 Nt) ++ ((wTob ou Ad Bw Bm Be xu hou2 cro2) ++ ((wWays D Bw Kw) ++ ((wMul D Bm nm2 Km) ++ ((wLet D Be ne2 Ke) ++ ((wRow D xu yu 60 Nu) ++ ((wLand D Ad nsd fogd nrd Ld) ++ ((wLar D oq (vp_updL fq 0 (tlC Le a1 a2).toInt64)) ++ (wMod D Ax ((ple Lx ne a1 a2).2) nsd fogd nrd nm ne Lx)))))))))))))) H := hP
    have hD : va_D A0 ((wMob om Ad ot ou) ++ ((wTob ot Ad Aw Am Ae xt hou cro) ++ ((wWays D Aw Lw) ++ ((wMul D Am nm Lm) ++ ((wLet D Ae ne Le) ++ ((wRow D xt yt 60 Nt) ++ ((wTob ou Ad Bw Bm Be xu hou2 cro2) ++ ((wWays D Bw Kw) ++ ((wMul D Bm nm2 Km) ++ ((wLet D Be ne2 Ke) ++ ((wRow D xu yu 60 Nu) ++ ((wLand D Ad nsd fogd nrd Ld) ++ ((wLar D oq (vp_updL fq 0 (tlC Le a1 a2).toInt64)) ++ (wMod D Ax ((ple Lx ne a1 a2).2) nsd fogd nrd nm ne Lx)))))))))))))) := hD
    refine W.eq (g2 := F0 m 919 ls [.int ((ple Lx ne a1 a2).1)]) rfl ?_
    have r9 := tl_rel (s := a1) (w := a2) hSY
    rw [r9.1, hk9] at hP hD
    have hP : va_P D.1 vwCl ((wMob om Ad ot ou) ++ ((wTob ot Ad Aw Am Ae xt hou cro) ++ ((wWays D Aw Lw) ++ ((wMul D Am nm Lm) ++ ((wLet D Ae ne Le) ++ ((wRow D xt yt 60 Nt) ++ ((wTob ou Ad Bw Bm Be xu hou2 cro2) ++ ((wWays D Bw Kw) ++ ((wMul D Bm nm2 Km) ++ ((wLet D Be ne2 Ke) ++ ((wRow D xu yu 60 Nu) ++ ((wLand D Ad nsd fogd nrd Ld) ++ ((wLar D oq (vp_updL fq 0 (tlC Le a1 a2).toInt64)) ++ (wMod D Ax (nI 0) nsd fogd nrd nm ne Lx)))))))))))))) H := hP
    have hD : va_D A0 ((wMob om Ad ot ou) ++ ((wTob ot Ad Aw Am Ae xt hou cro) ++ ((wWays D Aw Lw) ++ ((wMul D Am nm Lm) ++ ((wLet D Ae ne Le) ++ ((wRow D xt yt 60 Nt) ++ ((wTob ou Ad Bw Bm Be xu hou2 cro2) ++ ((wWays D Bw Kw) ++ ((wMul D Bm nm2 Km) ++ ((wLet D Be ne2 Ke) ++ ((wRow D xu yu 60 Nu) ++ ((wLand D Ad nsd fogd nrd Ld) ++ ((wLar D oq (vp_updL fq 0 (tlC Le a1 a2).toInt64)) ++ (wMod D Ax (nI 0) nsd fogd nrd nm ne Lx)))))))))))))) := hD
    refine W.eq (g2 := F0 m 919 ls [.int (tlC Le a1 a2)]) (congrArg (fun zz : Int32 => F0 m 919 ls [.int zz]) (show (ple Lx ne a1 a2).1 = tlC Le a1 a2 from r9.2 hk9)) ?_
    refine lv_istore (lv' := [(6, .int (tlC Le a1 a2)), (5, .int 0), (4, .int (nI (4 * i))), (0, .ref b), (1, .ref om), (2, .ref (Ax 0)), (3, .ref oq)]) hx hb dL_law_919 hl (by decide) rfl (fun ls hl => ?_)
    refine lv_aload_n hx hb dL_law_921 rfl (lv_at hl 5 rfl) ?_
    refine kVp ⟨hx, hb, hml, hown, hts⟩ (c_X7_thrown l D Ax (nI 0) nsd fogd nrd nm ne Lx) (cwV 0 hts gL_law_X7_thrown rfl rfl rfl (by decide +kernel) ⟨Nat.le_of_ble_eq_true rfl, Nat.le_of_ble_eq_true rfl⟩) hK hN hP hD (Sb.r (Sb.r (Sb.r (Sb.r (Sb.r (Sb.r (Sb.r (Sb.r (Sb.r (Sb.r (Sb.r (Sb.r (Sb.r Sb.self))))))))))))) 7 0 rfl rfl rfl hl.1 (Nat.le_of_ble_eq_true rfl) ⟨by show _ ≤ 601024; omega, by show _ ≤ 7293034; omega⟩ dL_law_922 ?_ rfl
    refine lv_iload hx hb dL_law_925 (lv_at hl 1 rfl) ?_
    refine lv_icmp_eq (tgt := 932) hx hb dL_law_927 (by decide) (fun c3 => ?_) (fun c3 => ?_)
    · refine lv_iload hx hb dL_law_932 (lv_at hl 1 rfl) ?_
      refine lv_if_ne (tgt := 949) hx hb dL_law_934 (by decide) (fun c4 => ?_) (fun c4 => ?_)
      · exact absurd c4 (by decide)
      · refine lv_aload_n hx hb dL_law_937 rfl (lv_at hl 6 rfl) ?_
        refine lv_iconst (v := 0) hx hb dL_law_938 (by decide) ?_
        refine va_lald (D := D.1) hx hb hK hP 96 1 rfl rfl (i := (0 : Int32)) (vpl (by decide)) dL_law_939 ?_
        refine W.eq (g2 := F0 m 940 ls [.long ((tlC Le a1 a2).toInt64)]) (congrArg (fun zz : Int64 => F0 m 940 ls [.long zz]) (show (vp_updL fq 0 (tlC Le a1 a2).toInt64) ((0 : Int32).toNatClampNeg) = (tlC Le a1 a2).toInt64 from pk_uLs)) ?_
        refine lv_iload hx hb dL_law_940 (lv_at hl 0 rfl) ?_
        refine lv_i2l hx hb dL_law_942 rfl ?_
        refine W.lcmp hx hb dL_law_943 ?_
        refine W.eq (g2 := F0 m 944 ls [.int 0]) (congrArg (fun zz : Int32 => F0 m 944 ls [.int zz]) (lcmp0 _)) ?_
        refine lv_if_eq (tgt := 949) hx hb dL_law_944 (by decide) (fun c5 => ?_) (fun c5 => ?_)
        · refine lv_goto (tgt := 1447) hx hb dL_law_949 (by decide) ?_
          refine lv_iinc (v := ((nI (4 * i)) + 4)) (lv' := [(4, .int ((nI (4 * i)) + 4)), (6, .int (tlC Le a1 a2)), (5, .int 0), (0, .ref b), (1, .ref om), (2, .ref (Ax 0)), (3, .ref oq)]) hx hb dL_law_1447 hl (k := 2) rfl rfl (by decide) rfl (fun ls hl => ?_)
          rw [show nI (4 * i) + 4 = nI (4 * (i + 1)) from nI_add (4 * i) 4] at hl
          refine lv_goto (tgt := 23) hx hb dL_law_1450 (by decide) ?_
          refine W.widen (k := 200 + 81 * (i + 1)) (n := 9000 + 11700 * (i + 1)) (by omega) (by omega) ?_
          exact ih Ax hou cro Lw nm Lm ne Le Nt hou2 cro2 Kw nm2 Km ne2 Ke Nu nsd fogd nrd Ld (vp_updL fq 0 (tlC Le a1 a2).toInt64) (nI 0) Lx h hSY (by omega) H locs hP hD hS ls (lv_sub hl [0, 3, 4, 5, 6] rfl)
        · exact absurd c5 (by decide)
    · exact (c3 (by first | rfl | decide)).elim

set_option maxHeartbeats 4000000 in
set_option maxRecDepth 100000 in
theorem law_c11 {p : Program} {l : Launch} {e : Env} {s : State} {m : MethodId} {below : List Frame} {meth : Method} {c : Code} {D : GG} {b L : Nat} {xs : Nat → Int32} {A0 : Nat → Prop} {om ot ou oq xt yt xu yu : Nat} {Ad Aw Am Ae Bw Bm Be : Nat → Nat} (X : LX p l s m meth c D b L xs A0) {i : Nat} (hi : 4 * i + 4 ≤ L) (ih : LG p l e s m below meth c D b L xs A0 om ot ou oq xt yt xu yu Ad Aw Am Ae Bw Bm Be (i + 1)) {a1 a2 a3 : Int32} (ea1 : xs (nI (4 * i) + 1).toNatClampNeg = a1) (ea2 : xs (nI (4 * i) + 2).toNatClampNeg = a2) (ea3 : xs (nI (4 * i) + 3).toNatClampNeg = a3)
    (Ax : Nat → Nat) (hou cro : Int32) (Lw : Fm) (nm : Nat) (Lm : Fm) (ne : Nat) (Le : Fm) (Nt : Rw) (hou2 cro2 : Int32) (Kw : Fm) (nm2 : Nat) (Km : Fm) (ne2 : Nat) (Ke : Fm) (Nu : Rw) (nsd : Nat) (fogd : Int32) (nrd : Nat) (Ld : Fm) (fq : Nat → Int64) (th : Int32) (Lx : Fm) (h : Nat) (hSY : SY Lw Ld Lm Le hou cro Lx nsd nrd nm ne h) (hh : h ≤ 100 * i) (H : Heap) (locs : List Loc) (hP : va_P D.1 vwCl ((wMob om Ad ot ou) ++ ((wTob ot Ad Aw Am Ae xt hou cro) ++ ((wWays D Aw Lw) ++ ((wMul D Am nm Lm) ++ ((wLet D Ae ne Le) ++ ((wRow D xt yt 60 Nt) ++ ((wTob ou Ad Bw Bm Be xu hou2 cro2) ++ ((wWays D Bw Kw) ++ ((wMul D Bm nm2 Km) ++ ((wLet D Be ne2 Ke) ++ ((wRow D xu yu 60 Nu) ++ ((wLand D Ad nsd fogd nrd Ld) ++ ((wLar D oq fq) ++ (wMod D Ax th nsd fogd nrd nm ne Lx)))))))))))))) H) (hD : va_D A0 ((wMob om Ad ot ou) ++ ((wTob ot Ad Aw Am Ae xt hou cro) ++ ((wWays D Aw Lw) ++ ((wMul D Am nm Lm) ++ ((wLet D Ae ne Le) ++ ((wRow D xt yt 60 Nt) ++ ((wTob ou Ad Bw Bm Be xu hou2 cro2) ++ ((wWays D Bw Kw) ++ ((wMul D Bm nm2 Km) ++ ((wLet D Be ne2 Ke) ++ ((wRow D xu yu 60 Nu) ++ ((wLand D Ad nsd fogd nrd Ld) ++ ((wLar D oq fq) ++ (wMod D Ax th nsd fogd nrd nm ne Lx))))))))))))))) (hS : va_S A0 s.heap H locs) (ls : Array Slot) (hl : lv_has ls 9 [(4, .int (nI (4 * i))), (0, .ref b), (1, .ref om), (2, .ref (Ax 0)), (3, .ref oq)]) : W p l e room_1 s m #[Value.ref b] below meth c H locs (200 + 81 * i) (9000 + 11700 * i) (lw_Z below #[Value.ref b] s) (F0 m 952 ls []) := by
  obtain ⟨hx, hb, hr, hml, hown, hts, hX, hbl, hbA, hlocks, hl9, hCX, hSX, hTX, hZX, hNX, hK, hN, hA, -, hL⟩ := X
  have hS9 : okS Lx nsd nrd nm ne := okS_rel hSY.1
  have b10 : nsd ≤ 10 := hSY.1.1.1
  have b15 : nrd ≤ 15 := hSY.1.1.2.1
  have b12 : nm ≤ 12 := hSY.1.2.2.1.1
  have b60 : ne ≤ 60 := hSY.1.2.2.2.1
  have hrE : rE Le Lx ne := hSY.1.2.2.2.2.2.2.2.2.2.1
  have he : ne < 2 ^ 31 := by omega
  have hm : nm < 2 ^ 31 := by omega
  have hns : nsd < 2 ^ 31 := by omega
  have hnr : nrd < 2 ^ 31 := by omega
  refine lv_aload_n hx hb dL_law_952 rfl (lv_at hl 2 rfl) ?_
  refine lv_aload_n hx hb dL_law_953 rfl (lv_at hl 1 rfl) ?_
  refine lv_iload hx hb dL_law_954 (lv_at hl 0 rfl) ?_
  refine lv_iconst (v := 1) hx hb dL_law_956 (by decide) ?_
  refine lv_iadd hx hb dL_law_957 ?_
  refine va_sld hx hb hX hbl hbA hS (i := ((nI (4 * i)) + 1)) (inS1 hi hL) dL_law_958 ?_
  refine W.eq (g2 := F0 m 959 ls [.int a1, .ref om]) (congrArg (fun zz : Int32 => F0 m 959 ls [.int zz, .ref om]) ea1) ?_
  refine lv_aload_n hx hb dL_law_959 rfl (lv_at hl 4 rfl) ?_
  refine kSL ⟨hx, hb, hml, hown, hts⟩ (c_L_pass l D om Ad ot ou Aw Am Ae xt hou cro Lw nm Lm ne Le yt Nt nsd fogd nrd Ld oq fq a1 _ (by assumption) (by assumption) (by assumption) hl9) (vx_cwSW 3 hts gL_law_L_pass rfl rfl rfl (by decide +kernel) ⟨Nat.le_of_ble_eq_true rfl, Nat.le_of_ble_eq_true rfl⟩) hCX hSX hTX hZX hNX hK hN hP hD hS hA (fun z => (Fr.app (Fr.kp Sb.self) (Fr.app frsTob (Fr.app (Fr.kp Sb.self) (Fr.app frsMul (Fr.app frsLet (Fr.app frsRow (Fr.r (Fr.r (Fr.r (Fr.r (Fr.r (Fr.app (Fr.kp Sb.self) (Fr.l frsLar)))))))))))))) (Sb.app Sb.self (Sb.app Sb.self (Sb.app Sb.self (Sb.app Sb.self (Sb.app Sb.self (Sb.app Sb.self (Sb.r (Sb.r (Sb.r (Sb.r (Sb.r (Sb.app Sb.self (Sb.l Sb.self))))))))))))) rfl hl.1 (Nat.le_of_ble_eq_true rfl) ⟨by show _ ≤ 601024; omega, by show _ ≤ 7293034; omega⟩ dL_law_960 (fun H locs hk9 hP hD hS => ?_) (fun z H locs hk9 hP hD hS => ?_) rfl
  · have hP : va_P D.1 vwCl ((wMob om Ad ot ou) ++ ((wTob ot Ad Aw Am Ae xt hou cro) ++ ((wWays D Aw Lw) ++ ((wMul D Am nm Lm) ++ ((wLet D Ae ne Le) ++ ((wRow D xt yt 60 Nt) ++ ((wTob ou Ad Bw Bm Be xu hou2 cro2) ++ ((wWays D Bw Kw) ++ ((wMul D Bm nm2 Km) ++ ((wLet D Be ne2 Ke) ++ ((wRow D xu yu 60 Nu) ++ ((wLand D Ad nsd fogd nrd Ld) ++ ((wLar D oq fq) ++ (wMod D Ax th nsd fogd nrd nm ne Lx)))))))))))))) H := hP
    have hD : va_D A0 ((wMob om Ad ot ou) ++ ((wTob ot Ad Aw Am Ae xt hou cro) ++ ((wWays D Aw Lw) ++ ((wMul D Am nm Lm) ++ ((wLet D Ae ne Le) ++ ((wRow D xt yt 60 Nt) ++ ((wTob ou Ad Bw Bm Be xu hou2 cro2) ++ ((wWays D Bw Kw) ++ ((wMul D Bm nm2 Km) ++ ((wLet D Be ne2 Ke) ++ ((wRow D xu yu 60 Nu) ++ ((wLand D Ad nsd fogd nrd Ld) ++ ((wLar D oq fq) ++ (wMod D Ax th nsd fogd nrd nm ne Lx)))))))))))))) := hD
    refine lv_istore (lv' := [(5, .int (nI (kPS a1))), (4, .int (nI (4 * i))), (0, .ref b), (1, .ref om), (2, .ref (Ax 0)), (3, .ref oq)]) hx hb dL_law_963 hl (by decide) rfl (fun ls hl => ?_)
    refine lv_aload_n hx hb dL_law_965 rfl (lv_at hl 4 rfl) ?_
    refine lv_aload_n hx hb dL_law_966 rfl (lv_at hl 2 rfl) ?_
    refine lv_iload hx hb dL_law_967 (lv_at hl 1 rfl) ?_
    refine lv_iconst (v := 1) hx hb dL_law_969 (by decide) ?_
    refine lv_iadd hx hb dL_law_970 ?_
    refine va_sld hx hb hX hbl hbA hS (i := ((nI (4 * i)) + 1)) (inS1 hi hL) dL_law_971 ?_
    refine W.eq (g2 := F0 m 972 ls [.int a1, .ref (Ax 0)]) (congrArg (fun zz : Int32 => F0 m 972 ls [.int zz, .ref (Ax 0)]) ea1) ?_
    refine kVw ⟨hx, hb, hml, hown, hts⟩ (c_X7_pass l D Ax th nsd fogd nrd nm ne Lx a1 (by assumption) (by assumption) (by assumption) (by assumption) hS9) (cwV 1 hts gL_law_X7_pass rfl rfl rfl (by decide +kernel) ⟨Nat.le_of_ble_eq_true rfl, Nat.le_of_ble_eq_true rfl⟩) hK hN hP hD hS (Fr.r (Fr.r (Fr.r (Fr.r (Fr.r (Fr.r (Fr.r (Fr.r (Fr.r (Fr.r (Fr.r (Fr.r (Fr.r frsMod))))))))))))) 7 0 rfl rfl rfl hl.1 (Nat.le_of_ble_eq_true rfl) ⟨by show _ ≤ 601024; omega, by show _ ≤ 7293034; omega⟩ dL_law_972 (fun H locs hP hD hS => ?_) rfl
    have hP : va_P D.1 vwCl ((wMob om Ad ot ou) ++ ((wTob ot Ad Aw Am Ae xt hou cro) ++ ((wWays D Aw Lw) ++ ((wMul D Am nm Lm) ++ ((wLet D Ae ne Le) ++ ((wRow D xt yt 60 Nt) ++ ((wTob ou Ad Bw Bm Be xu hou2 cro2) ++ ((wWays D Bw Kw) ++ ((wMul D Bm nm2 Km) ++ ((wLet D Be ne2 Ke) ++ ((wRow D xu yu 60 Nu) ++ ((wLand D Ad nsd fogd nrd Ld) ++ ((wLar D oq fq) ++ (wMod D Ax ((pps Lx nsd fogd nrd nm ne a1).2.1) nsd fogd nrd nm ne ((pps Lx nsd fogd nrd nm ne a1).2.2))))))))))))))) H := hP
    have hD : va_D A0 ((wMob om Ad ot ou) ++ ((wTob ot Ad Aw Am Ae xt hou cro) ++ ((wWays D Aw Lw) ++ ((wMul D Am nm Lm) ++ ((wLet D Ae ne Le) ++ ((wRow D xt yt 60 Nt) ++ ((wTob ou Ad Bw Bm Be xu hou2 cro2) ++ ((wWays D Bw Kw) ++ ((wMul D Bm nm2 Km) ++ ((wLet D Be ne2 Ke) ++ ((wRow D xu yu 60 Nu) ++ ((wLand D Ad nsd fogd nrd Ld) ++ ((wLar D oq fq) ++ (wMod D Ax ((pps Lx nsd fogd nrd nm ne a1).2.1) nsd fogd nrd nm ne ((pps Lx nsd fogd nrd nm ne a1).2.2))))))))))))))) := hD
    refine W.eq (g2 := F0 m 975 ls [.int ((pps Lx nsd fogd nrd nm ne a1).1)]) rfl ?_
    have r9 := pp_rel (fog := fogd) (N := Nt) (p := a1) hSY (by omega)
    rw [r9.1, r9.2.1 hk9] at hP hD
    have hP : va_P D.1 vwCl ((wMob om Ad ot ou) ++ ((wTob ot Ad Aw Am Ae xt hou cro) ++ ((wWays D Aw Lw) ++ ((wMul D Am nm Lm) ++ ((wLet D Ae ne Le) ++ ((wRow D xt yt 60 Nt) ++ ((wTob ou Ad Bw Bm Be xu hou2 cro2) ++ ((wWays D Bw Kw) ++ ((wMul D Bm nm2 Km) ++ ((wLet D Be ne2 Ke) ++ ((wRow D xu yu 60 Nu) ++ ((wLand D Ad nsd fogd nrd Ld) ++ ((wLar D oq fq) ++ (wMod D Ax (nI (kPS a1)) nsd fogd nrd nm ne Lx)))))))))))))) H := hP
    have hD : va_D A0 ((wMob om Ad ot ou) ++ ((wTob ot Ad Aw Am Ae xt hou cro) ++ ((wWays D Aw Lw) ++ ((wMul D Am nm Lm) ++ ((wLet D Ae ne Le) ++ ((wRow D xt yt 60 Nt) ++ ((wTob ou Ad Bw Bm Be xu hou2 cro2) ++ ((wWays D Bw Kw) ++ ((wMul D Bm nm2 Km) ++ ((wLet D Be ne2 Ke) ++ ((wRow D xu yu 60 Nu) ++ ((wLand D Ad nsd fogd nrd Ld) ++ ((wLar D oq fq) ++ (wMod D Ax (nI (kPS a1)) nsd fogd nrd nm ne Lx)))))))))))))) := hD
    refine lv_istore (lv' := [(6, .int ((pps Lx nsd fogd nrd nm ne a1).1)), (5, .int (nI (kPS a1))), (4, .int (nI (4 * i))), (0, .ref b), (1, .ref om), (2, .ref (Ax 0)), (3, .ref oq)]) hx hb dL_law_975 hl (by decide) rfl (fun ls hl => ?_)
    refine lv_aload_n hx hb dL_law_977 rfl (lv_at hl 5 rfl) ?_
    refine kVp ⟨hx, hb, hml, hown, hts⟩ (c_X7_thrown l D Ax (nI (kPS a1)) nsd fogd nrd nm ne Lx) (cwV 0 hts gL_law_X7_thrown rfl rfl rfl (by decide +kernel) ⟨Nat.le_of_ble_eq_true rfl, Nat.le_of_ble_eq_true rfl⟩) hK hN hP hD (Sb.r (Sb.r (Sb.r (Sb.r (Sb.r (Sb.r (Sb.r (Sb.r (Sb.r (Sb.r (Sb.r (Sb.r (Sb.r Sb.self))))))))))))) 7 0 rfl rfl rfl hl.1 (Nat.le_of_ble_eq_true rfl) ⟨by show _ ≤ 601024; omega, by show _ ≤ 7293034; omega⟩ dL_law_978 ?_ rfl
    refine lv_iload hx hb dL_law_981 (lv_at hl 1 rfl) ?_
    refine lv_icmp_eq (tgt := 988) hx hb dL_law_983 (by decide) (fun c1 => ?_) (fun c1 => ?_)
    · refine lv_iload hx hb dL_law_988 (lv_at hl 1 rfl) ?_
      refine lv_if_ne (tgt := 1005) hx hb dL_law_990 (by decide) (fun c2 => ?_) (fun c2 => ?_)
      · refine lv_goto (tgt := 1447) hx hb dL_law_1005 (by decide) ?_
        refine lv_iinc (v := ((nI (4 * i)) + 4)) (lv' := [(4, .int ((nI (4 * i)) + 4)), (6, .int ((pps Lx nsd fogd nrd nm ne a1).1)), (5, .int (nI (kPS a1))), (0, .ref b), (1, .ref om), (2, .ref (Ax 0)), (3, .ref oq)]) hx hb dL_law_1447 hl (k := 2) rfl rfl (by decide) rfl (fun ls hl => ?_)
        rw [show nI (4 * i) + 4 = nI (4 * (i + 1)) from nI_add (4 * i) 4] at hl
        refine lv_goto (tgt := 23) hx hb dL_law_1450 (by decide) ?_
        refine W.widen (k := 200 + 81 * (i + 1)) (n := 9000 + 11700 * (i + 1)) (by omega) (by omega) ?_
        exact ih Ax hou cro Lw nm Lm ne Le Nt hou2 cro2 Kw nm2 Km ne2 Ke Nu nsd fogd nrd Ld fq (nI (kPS a1)) Lx h hSY (by omega) H locs hP hD hS ls (lv_sub hl [0, 3, 4, 5, 6] rfl)
      · exact (nI_ne0 (Nat.pos_of_ne_zero hk9) (Nat.lt_of_le_of_lt (kPS_b _) (by decide)) c2).elim
    · exact (c1 (by first | rfl | decide)).elim
  · have hP : va_P D.1 vwCl ((wMob om Ad ot ou) ++ ((wTob ot Ad Aw Am Ae xt ((hgF Lw Ld nsd fogd nm ne (Lm, Le, hou, cro, Nt, true) a1.toNatClampNeg).2.2.1) ((hgF Lw Ld nsd fogd nm ne (Lm, Le, hou, cro, Nt, true) a1.toNatClampNeg).2.2.2.1)) ++ ((wWays D Aw Lw) ++ ((wMul D Am nm ((hgF Lw Ld nsd fogd nm ne (Lm, Le, hou, cro, Nt, true) a1.toNatClampNeg).1)) ++ ((wLet D Ae ne ((hgF Lw Ld nsd fogd nm ne (Lm, Le, hou, cro, Nt, true) a1.toNatClampNeg).2.1)) ++ ((wRow D xt yt 60 ((hgF Lw Ld nsd fogd nm ne (Lm, Le, hou, cro, Nt, true) a1.toNatClampNeg).2.2.2.2.1)) ++ ((wTob ou Ad Bw Bm Be xu hou2 cro2) ++ ((wWays D Bw Kw) ++ ((wMul D Bm nm2 Km) ++ ((wLet D Be ne2 Ke) ++ ((wRow D xu yu 60 Nu) ++ ((wLand D Ad nsd fogd nrd Ld) ++ ((wLar D oq (vp_updL fq 0 (cmN Lw Ld nsd fogd nm ne Lm Le hou cro Nt a1.toNatClampNeg).toInt64)) ++ (wMod D Ax th nsd fogd nrd nm ne Lx)))))))))))))) H := hP
    have hD : va_D A0 ((wMob om Ad ot ou) ++ ((wTob ot Ad Aw Am Ae xt ((hgF Lw Ld nsd fogd nm ne (Lm, Le, hou, cro, Nt, true) a1.toNatClampNeg).2.2.1) ((hgF Lw Ld nsd fogd nm ne (Lm, Le, hou, cro, Nt, true) a1.toNatClampNeg).2.2.2.1)) ++ ((wWays D Aw Lw) ++ ((wMul D Am nm ((hgF Lw Ld nsd fogd nm ne (Lm, Le, hou, cro, Nt, true) a1.toNatClampNeg).1)) ++ ((wLet D Ae ne ((hgF Lw Ld nsd fogd nm ne (Lm, Le, hou, cro, Nt, true) a1.toNatClampNeg).2.1)) ++ ((wRow D xt yt 60 ((hgF Lw Ld nsd fogd nm ne (Lm, Le, hou, cro, Nt, true) a1.toNatClampNeg).2.2.2.2.1)) ++ ((wTob ou Ad Bw Bm Be xu hou2 cro2) ++ ((wWays D Bw Kw) ++ ((wMul D Bm nm2 Km) ++ ((wLet D Be ne2 Ke) ++ ((wRow D xu yu 60 Nu) ++ ((wLand D Ad nsd fogd nrd Ld) ++ ((wLar D oq (vp_updL fq 0 (cmN Lw Ld nsd fogd nm ne Lm Le hou cro Nt a1.toNatClampNeg).toInt64)) ++ (wMod D Ax th nsd fogd nrd nm ne Lx)))))))))))))) := hD
    refine lv_istore (lv' := [(5, .int 0), (4, .int (nI (4 * i))), (0, .ref b), (1, .ref om), (2, .ref (Ax 0)), (3, .ref oq)]) hx hb dL_law_963 hl (by decide) rfl (fun ls hl => ?_)
    refine lv_aload_n hx hb dL_law_965 rfl (lv_at hl 4 rfl) ?_
    refine lv_aload_n hx hb dL_law_966 rfl (lv_at hl 2 rfl) ?_
    refine lv_iload hx hb dL_law_967 (lv_at hl 1 rfl) ?_
    refine lv_iconst (v := 1) hx hb dL_law_969 (by decide) ?_
    refine lv_iadd hx hb dL_law_970 ?_
    refine va_sld hx hb hX hbl hbA hS (i := ((nI (4 * i)) + 1)) (inS1 hi hL) dL_law_971 ?_
    refine W.eq (g2 := F0 m 972 ls [.int a1, .ref (Ax 0)]) (congrArg (fun zz : Int32 => F0 m 972 ls [.int zz, .ref (Ax 0)]) ea1) ?_
    refine kVw ⟨hx, hb, hml, hown, hts⟩ (c_X7_pass l D Ax th nsd fogd nrd nm ne Lx a1 (by assumption) (by assumption) (by assumption) (by assumption) hS9) (cwV 1 hts gL_law_X7_pass rfl rfl rfl (by decide +kernel) ⟨Nat.le_of_ble_eq_true rfl, Nat.le_of_ble_eq_true rfl⟩) hK hN hP hD hS (Fr.r (Fr.r (Fr.r (Fr.r (Fr.r (Fr.r (Fr.r (Fr.r (Fr.r (Fr.r (Fr.r (Fr.r (Fr.r frsMod))))))))))))) 7 0 rfl rfl rfl hl.1 (Nat.le_of_ble_eq_true rfl) ⟨by show _ ≤ 601024; omega, by show _ ≤ 7293034; omega⟩ dL_law_972 (fun H locs hP hD hS => ?_) rfl
    have hP : va_P D.1 vwCl ((wMob om Ad ot ou) ++ ((wTob ot Ad Aw Am Ae xt ((hgF Lw Ld nsd fogd nm ne (Lm, Le, hou, cro, Nt, true) a1.toNatClampNeg).2.2.1) ((hgF Lw Ld nsd fogd nm ne (Lm, Le, hou, cro, Nt, true) a1.toNatClampNeg).2.2.2.1)) ++ ((wWays D Aw Lw) ++ ((wMul D Am nm ((hgF Lw Ld nsd fogd nm ne (Lm, Le, hou, cro, Nt, true) a1.toNatClampNeg).1)) ++ ((wLet D Ae ne ((hgF Lw Ld nsd fogd nm ne (Lm, Le, hou, cro, Nt, true) a1.toNatClampNeg).2.1)) ++ ((wRow D xt yt 60 ((hgF Lw Ld nsd fogd nm ne (Lm, Le, hou, cro, Nt, true) a1.toNatClampNeg).2.2.2.2.1)) ++ ((wTob ou Ad Bw Bm Be xu hou2 cro2) ++ ((wWays D Bw Kw) ++ ((wMul D Bm nm2 Km) ++ ((wLet D Be ne2 Ke) ++ ((wRow D xu yu 60 Nu) ++ ((wLand D Ad nsd fogd nrd Ld) ++ ((wLar D oq (vp_updL fq 0 (cmN Lw Ld nsd fogd nm ne Lm Le hou cro Nt a1.toNatClampNeg).toInt64)) ++ (wMod D Ax ((pps Lx nsd fogd nrd nm ne a1).2.1) nsd fogd nrd nm ne ((pps Lx nsd fogd nrd nm ne a1).2.2))))))))))))))) H := hP
    have hD : va_D A0 ((wMob om Ad ot ou) ++ ((wTob ot Ad Aw Am Ae xt ((hgF Lw Ld nsd fogd nm ne (Lm, Le, hou, cro, Nt, true) a1.toNatClampNeg).2.2.1) ((hgF Lw Ld nsd fogd nm ne (Lm, Le, hou, cro, Nt, true) a1.toNatClampNeg).2.2.2.1)) ++ ((wWays D Aw Lw) ++ ((wMul D Am nm ((hgF Lw Ld nsd fogd nm ne (Lm, Le, hou, cro, Nt, true) a1.toNatClampNeg).1)) ++ ((wLet D Ae ne ((hgF Lw Ld nsd fogd nm ne (Lm, Le, hou, cro, Nt, true) a1.toNatClampNeg).2.1)) ++ ((wRow D xt yt 60 ((hgF Lw Ld nsd fogd nm ne (Lm, Le, hou, cro, Nt, true) a1.toNatClampNeg).2.2.2.2.1)) ++ ((wTob ou Ad Bw Bm Be xu hou2 cro2) ++ ((wWays D Bw Kw) ++ ((wMul D Bm nm2 Km) ++ ((wLet D Be ne2 Ke) ++ ((wRow D xu yu 60 Nu) ++ ((wLand D Ad nsd fogd nrd Ld) ++ ((wLar D oq (vp_updL fq 0 (cmN Lw Ld nsd fogd nm ne Lm Le hou cro Nt a1.toNatClampNeg).toInt64)) ++ (wMod D Ax ((pps Lx nsd fogd nrd nm ne a1).2.1) nsd fogd nrd nm ne ((pps Lx nsd fogd nrd nm ne a1).2.2))))))))))))))) := hD
    refine W.eq (g2 := F0 m 975 ls [.int ((pps Lx nsd fogd nrd nm ne a1).1)]) rfl ?_
    have r9 := pp_rel (fog := fogd) (N := Nt) (p := a1) hSY (by omega)
    rw [r9.1, hk9] at hP hD
    have hP : va_P D.1 vwCl ((wMob om Ad ot ou) ++ ((wTob ot Ad Aw Am Ae xt ((hgF Lw Ld nsd fogd nm ne (Lm, Le, hou, cro, Nt, true) a1.toNatClampNeg).2.2.1) ((hgF Lw Ld nsd fogd nm ne (Lm, Le, hou, cro, Nt, true) a1.toNatClampNeg).2.2.2.1)) ++ ((wWays D Aw Lw) ++ ((wMul D Am nm ((hgF Lw Ld nsd fogd nm ne (Lm, Le, hou, cro, Nt, true) a1.toNatClampNeg).1)) ++ ((wLet D Ae ne ((hgF Lw Ld nsd fogd nm ne (Lm, Le, hou, cro, Nt, true) a1.toNatClampNeg).2.1)) ++ ((wRow D xt yt 60 ((hgF Lw Ld nsd fogd nm ne (Lm, Le, hou, cro, Nt, true) a1.toNatClampNeg).2.2.2.2.1)) ++ ((wTob ou Ad Bw Bm Be xu hou2 cro2) ++ ((wWays D Bw Kw) ++ ((wMul D Bm nm2 Km) ++ ((wLet D Be ne2 Ke) ++ ((wRow D xu yu 60 Nu) ++ ((wLand D Ad nsd fogd nrd Ld) ++ ((wLar D oq (vp_updL fq 0 (cmN Lw Ld nsd fogd nm ne Lm Le hou cro Nt a1.toNatClampNeg).toInt64)) ++ (wMod D Ax (nI 0) nsd fogd nrd nm ne ((pps Lx nsd fogd nrd nm ne a1).2.2))))))))))))))) H := hP
    have hD : va_D A0 ((wMob om Ad ot ou) ++ ((wTob ot Ad Aw Am Ae xt ((hgF Lw Ld nsd fogd nm ne (Lm, Le, hou, cro, Nt, true) a1.toNatClampNeg).2.2.1) ((hgF Lw Ld nsd fogd nm ne (Lm, Le, hou, cro, Nt, true) a1.toNatClampNeg).2.2.2.1)) ++ ((wWays D Aw Lw) ++ ((wMul D Am nm ((hgF Lw Ld nsd fogd nm ne (Lm, Le, hou, cro, Nt, true) a1.toNatClampNeg).1)) ++ ((wLet D Ae ne ((hgF Lw Ld nsd fogd nm ne (Lm, Le, hou, cro, Nt, true) a1.toNatClampNeg).2.1)) ++ ((wRow D xt yt 60 ((hgF Lw Ld nsd fogd nm ne (Lm, Le, hou, cro, Nt, true) a1.toNatClampNeg).2.2.2.2.1)) ++ ((wTob ou Ad Bw Bm Be xu hou2 cro2) ++ ((wWays D Bw Kw) ++ ((wMul D Bm nm2 Km) ++ ((wLet D Be ne2 Ke) ++ ((wRow D xu yu 60 Nu) ++ ((wLand D Ad nsd fogd nrd Ld) ++ ((wLar D oq (vp_updL fq 0 (cmN Lw Ld nsd fogd nm ne Lm Le hou cro Nt a1.toNatClampNeg).toInt64)) ++ (wMod D Ax (nI 0) nsd fogd nrd nm ne ((pps Lx nsd fogd nrd nm ne a1).2.2))))))))))))))) := hD
    refine W.eq (g2 := F0 m 975 ls [.int (cmN Lw Ld nsd fogd nm ne Lm Le hou cro Nt a1.toNatClampNeg)]) (congrArg (fun zz : Int32 => F0 m 975 ls [.int zz]) (show (pps Lx nsd fogd nrd nm ne a1).1 = cmN Lw Ld nsd fogd nm ne Lm Le hou cro Nt a1.toNatClampNeg from (r9.2.2 hk9).1)) ?_
    refine lv_istore (lv' := [(6, .int (cmN Lw Ld nsd fogd nm ne Lm Le hou cro Nt a1.toNatClampNeg)), (5, .int 0), (4, .int (nI (4 * i))), (0, .ref b), (1, .ref om), (2, .ref (Ax 0)), (3, .ref oq)]) hx hb dL_law_975 hl (by decide) rfl (fun ls hl => ?_)
    refine lv_aload_n hx hb dL_law_977 rfl (lv_at hl 5 rfl) ?_
    refine kVp ⟨hx, hb, hml, hown, hts⟩ (c_X7_thrown l D Ax (nI 0) nsd fogd nrd nm ne ((pps Lx nsd fogd nrd nm ne a1).2.2)) (cwV 0 hts gL_law_X7_thrown rfl rfl rfl (by decide +kernel) ⟨Nat.le_of_ble_eq_true rfl, Nat.le_of_ble_eq_true rfl⟩) hK hN hP hD (Sb.r (Sb.r (Sb.r (Sb.r (Sb.r (Sb.r (Sb.r (Sb.r (Sb.r (Sb.r (Sb.r (Sb.r (Sb.r Sb.self))))))))))))) 7 0 rfl rfl rfl hl.1 (Nat.le_of_ble_eq_true rfl) ⟨by show _ ≤ 601024; omega, by show _ ≤ 7293034; omega⟩ dL_law_978 ?_ rfl
    refine lv_iload hx hb dL_law_981 (lv_at hl 1 rfl) ?_
    refine lv_icmp_eq (tgt := 988) hx hb dL_law_983 (by decide) (fun c3 => ?_) (fun c3 => ?_)
    · refine lv_iload hx hb dL_law_988 (lv_at hl 1 rfl) ?_
      refine lv_if_ne (tgt := 1005) hx hb dL_law_990 (by decide) (fun c4 => ?_) (fun c4 => ?_)
      · exact absurd c4 (by decide)
      · refine lv_aload_n hx hb dL_law_993 rfl (lv_at hl 6 rfl) ?_
        refine lv_iconst (v := 0) hx hb dL_law_994 (by decide) ?_
        refine va_lald (D := D.1) hx hb hK hP 96 1 rfl rfl (i := (0 : Int32)) (vpl (by decide)) dL_law_995 ?_
        refine W.eq (g2 := F0 m 996 ls [.long ((cmN Lw Ld nsd fogd nm ne Lm Le hou cro Nt a1.toNatClampNeg).toInt64)]) (congrArg (fun zz : Int64 => F0 m 996 ls [.long zz]) (show (vp_updL fq 0 (cmN Lw Ld nsd fogd nm ne Lm Le hou cro Nt a1.toNatClampNeg).toInt64) ((0 : Int32).toNatClampNeg) = (cmN Lw Ld nsd fogd nm ne Lm Le hou cro Nt a1.toNatClampNeg).toInt64 from pk_uLs)) ?_
        refine lv_iload hx hb dL_law_996 (lv_at hl 0 rfl) ?_
        refine lv_i2l hx hb dL_law_998 rfl ?_
        refine W.lcmp hx hb dL_law_999 ?_
        refine W.eq (g2 := F0 m 1000 ls [.int 0]) (congrArg (fun zz : Int32 => F0 m 1000 ls [.int zz]) (lcmp0 _)) ?_
        refine lv_if_eq (tgt := 1005) hx hb dL_law_1000 (by decide) (fun c5 => ?_) (fun c5 => ?_)
        · refine lv_goto (tgt := 1447) hx hb dL_law_1005 (by decide) ?_
          refine lv_iinc (v := ((nI (4 * i)) + 4)) (lv' := [(4, .int ((nI (4 * i)) + 4)), (6, .int (cmN Lw Ld nsd fogd nm ne Lm Le hou cro Nt a1.toNatClampNeg)), (5, .int 0), (0, .ref b), (1, .ref om), (2, .ref (Ax 0)), (3, .ref oq)]) hx hb dL_law_1447 hl (k := 2) rfl rfl (by decide) rfl (fun ls hl => ?_)
          rw [show nI (4 * i) + 4 = nI (4 * (i + 1)) from nI_add (4 * i) 4] at hl
          refine lv_goto (tgt := 23) hx hb dL_law_1450 (by decide) ?_
          refine W.widen (k := 200 + 81 * (i + 1)) (n := 9000 + 11700 * (i + 1)) (by omega) (by omega) ?_
          exact ih Ax ((hgF Lw Ld nsd fogd nm ne (Lm, Le, hou, cro, Nt, true) a1.toNatClampNeg).2.2.1) ((hgF Lw Ld nsd fogd nm ne (Lm, Le, hou, cro, Nt, true) a1.toNatClampNeg).2.2.2.1) Lw nm ((hgF Lw Ld nsd fogd nm ne (Lm, Le, hou, cro, Nt, true) a1.toNatClampNeg).1) ne ((hgF Lw Ld nsd fogd nm ne (Lm, Le, hou, cro, Nt, true) a1.toNatClampNeg).2.1) ((hgF Lw Ld nsd fogd nm ne (Lm, Le, hou, cro, Nt, true) a1.toNatClampNeg).2.2.2.2.1) hou2 cro2 Kw nm2 Km ne2 Ke Nu nsd fogd nrd Ld (vp_updL fq 0 (cmN Lw Ld nsd fogd nm ne Lm Le hou cro Nt a1.toNatClampNeg).toInt64) (nI 0) ((pps Lx nsd fogd nrd nm ne a1).2.2) (h + a1.toNatClampNeg) (r9.2.2 hk9).2.1 (by have := (r9.2.2 hk9).2.2; omega) H locs hP hD hS ls (lv_sub hl [0, 3, 4, 5, 6] rfl)
        · exact absurd c5 (by decide)
    · exact (c3 (by first | rfl | decide)).elim

set_option maxHeartbeats 4000000 in
set_option maxRecDepth 100000 in
theorem law_c12 {p : Program} {l : Launch} {e : Env} {s : State} {m : MethodId} {below : List Frame} {meth : Method} {c : Code} {D : GG} {b L : Nat} {xs : Nat → Int32} {A0 : Nat → Prop} {om ot ou oq xt yt xu yu : Nat} {Ad Aw Am Ae Bw Bm Be : Nat → Nat} (X : LX p l s m meth c D b L xs A0) {i : Nat} (hi : 4 * i + 4 ≤ L) (ih : LG p l e s m below meth c D b L xs A0 om ot ou oq xt yt xu yu Ad Aw Am Ae Bw Bm Be (i + 1)) {a1 a2 a3 : Int32} (ea1 : xs (nI (4 * i) + 1).toNatClampNeg = a1) (ea2 : xs (nI (4 * i) + 2).toNatClampNeg = a2) (ea3 : xs (nI (4 * i) + 3).toNatClampNeg = a3)
    (Ax : Nat → Nat) (hou cro : Int32) (Lw : Fm) (nm : Nat) (Lm : Fm) (ne : Nat) (Le : Fm) (Nt : Rw) (hou2 cro2 : Int32) (Kw : Fm) (nm2 : Nat) (Km : Fm) (ne2 : Nat) (Ke : Fm) (Nu : Rw) (nsd : Nat) (fogd : Int32) (nrd : Nat) (Ld : Fm) (fq : Nat → Int64) (th : Int32) (Lx : Fm) (h : Nat) (hSY : SY Lw Ld Lm Le hou cro Lx nsd nrd nm ne h) (hh : h ≤ 100 * i) (H : Heap) (locs : List Loc) (hP : va_P D.1 vwCl ((wMob om Ad ot ou) ++ ((wTob ot Ad Aw Am Ae xt hou cro) ++ ((wWays D Aw Lw) ++ ((wMul D Am nm Lm) ++ ((wLet D Ae ne Le) ++ ((wRow D xt yt 60 Nt) ++ ((wTob ou Ad Bw Bm Be xu hou2 cro2) ++ ((wWays D Bw Kw) ++ ((wMul D Bm nm2 Km) ++ ((wLet D Be ne2 Ke) ++ ((wRow D xu yu 60 Nu) ++ ((wLand D Ad nsd fogd nrd Ld) ++ ((wLar D oq fq) ++ (wMod D Ax th nsd fogd nrd nm ne Lx)))))))))))))) H) (hD : va_D A0 ((wMob om Ad ot ou) ++ ((wTob ot Ad Aw Am Ae xt hou cro) ++ ((wWays D Aw Lw) ++ ((wMul D Am nm Lm) ++ ((wLet D Ae ne Le) ++ ((wRow D xt yt 60 Nt) ++ ((wTob ou Ad Bw Bm Be xu hou2 cro2) ++ ((wWays D Bw Kw) ++ ((wMul D Bm nm2 Km) ++ ((wLet D Be ne2 Ke) ++ ((wRow D xu yu 60 Nu) ++ ((wLand D Ad nsd fogd nrd Ld) ++ ((wLar D oq fq) ++ (wMod D Ax th nsd fogd nrd nm ne Lx))))))))))))))) (hS : va_S A0 s.heap H locs) (ls : Array Slot) (hl : lv_has ls 9 [(4, .int (nI (4 * i))), (0, .ref b), (1, .ref om), (2, .ref (Ax 0)), (3, .ref oq)]) : W p l e room_1 s m #[Value.ref b] below meth c H locs (200 + 81 * i) (9000 + 11700 * i) (lw_Z below #[Value.ref b] s) (F0 m 1008 ls []) := by
  obtain ⟨hx, hb, hr, hml, hown, hts, hX, hbl, hbA, hlocks, hl9, hCX, hSX, hTX, hZX, hNX, hK, hN, hA, -, hL⟩ := X
  have hS9 : okS Lx nsd nrd nm ne := okS_rel hSY.1
  have b10 : nsd ≤ 10 := hSY.1.1.1
  have b15 : nrd ≤ 15 := hSY.1.1.2.1
  have b12 : nm ≤ 12 := hSY.1.2.2.1.1
  have b60 : ne ≤ 60 := hSY.1.2.2.2.1
  have hrE : rE Le Lx ne := hSY.1.2.2.2.2.2.2.2.2.2.1
  have he : ne < 2 ^ 31 := by omega
  have hm : nm < 2 ^ 31 := by omega
  have hns : nsd < 2 ^ 31 := by omega
  have hnr : nrd < 2 ^ 31 := by omega
  refine lv_aload_n hx hb dL_law_1008 rfl (lv_at hl 2 rfl) ?_
  refine lv_aload_n hx hb dL_law_1009 rfl (lv_at hl 1 rfl) ?_
  refine lv_iload hx hb dL_law_1010 (lv_at hl 0 rfl) ?_
  refine lv_iconst (v := 1) hx hb dL_law_1012 (by decide) ?_
  refine lv_iadd hx hb dL_law_1013 ?_
  refine va_sld hx hb hX hbl hbA hS (i := ((nI (4 * i)) + 1)) (inS1 hi hL) dL_law_1014 ?_
  refine W.eq (g2 := F0 m 1015 ls [.int a1, .ref om]) (congrArg (fun zz : Int32 => F0 m 1015 ls [.int zz, .ref om]) ea1) ?_
  refine lv_aload_n hx hb dL_law_1015 rfl (lv_at hl 4 rfl) ?_
  refine kSL ⟨hx, hb, hml, hown, hts⟩ (c_L_count l D om Ad ot ou Aw Am Ae xt hou cro Lw nm Lm ne Le yt Nt nsd fogd nrd Ld oq fq a1 _ (by assumption) hl9) (vx_cwSW 3 hts gL_law_L_count rfl rfl rfl (by decide +kernel) ⟨Nat.le_of_ble_eq_true rfl, Nat.le_of_ble_eq_true rfl⟩) hCX hSX hTX hZX hNX hK hN hP hD hS hA (fun z => (Fr.app (Fr.kp Sb.self) (Fr.app (Fr.kp Sb.self) (Fr.app (Fr.kp Sb.self) (Fr.app (Fr.kp Sb.self) (Fr.app (Fr.kp Sb.self) (Fr.app (Fr.kp Sb.self) (Fr.r (Fr.r (Fr.r (Fr.r (Fr.r (Fr.app (Fr.kp Sb.self) (Fr.l frsLar)))))))))))))) (Sb.app Sb.self (Sb.app Sb.self (Sb.app Sb.self (Sb.app Sb.self (Sb.app Sb.self (Sb.app Sb.self (Sb.r (Sb.r (Sb.r (Sb.r (Sb.r (Sb.app Sb.self (Sb.l Sb.self))))))))))))) rfl hl.1 (Nat.le_of_ble_eq_true rfl) ⟨by show _ ≤ 601024; omega, by show _ ≤ 7293034; omega⟩ dL_law_1016 (fun H locs hk9 hP hD hS => ?_) (fun z H locs hk9 hP hD hS => ?_) rfl
  · have hP : va_P D.1 vwCl ((wMob om Ad ot ou) ++ ((wTob ot Ad Aw Am Ae xt hou cro) ++ ((wWays D Aw Lw) ++ ((wMul D Am nm Lm) ++ ((wLet D Ae ne Le) ++ ((wRow D xt yt 60 Nt) ++ ((wTob ou Ad Bw Bm Be xu hou2 cro2) ++ ((wWays D Bw Kw) ++ ((wMul D Bm nm2 Km) ++ ((wLet D Be ne2 Ke) ++ ((wRow D xu yu 60 Nu) ++ ((wLand D Ad nsd fogd nrd Ld) ++ ((wLar D oq fq) ++ (wMod D Ax th nsd fogd nrd nm ne Lx)))))))))))))) H := hP
    have hD : va_D A0 ((wMob om Ad ot ou) ++ ((wTob ot Ad Aw Am Ae xt hou cro) ++ ((wWays D Aw Lw) ++ ((wMul D Am nm Lm) ++ ((wLet D Ae ne Le) ++ ((wRow D xt yt 60 Nt) ++ ((wTob ou Ad Bw Bm Be xu hou2 cro2) ++ ((wWays D Bw Kw) ++ ((wMul D Bm nm2 Km) ++ ((wLet D Be ne2 Ke) ++ ((wRow D xu yu 60 Nu) ++ ((wLand D Ad nsd fogd nrd Ld) ++ ((wLar D oq fq) ++ (wMod D Ax th nsd fogd nrd nm ne Lx)))))))))))))) := hD
    refine lv_istore (lv' := [(5, .int (nI (kCT a1))), (4, .int (nI (4 * i))), (0, .ref b), (1, .ref om), (2, .ref (Ax 0)), (3, .ref oq)]) hx hb dL_law_1019 hl (by decide) rfl (fun ls hl => ?_)
    refine lv_aload_n hx hb dL_law_1021 rfl (lv_at hl 4 rfl) ?_
    refine lv_aload_n hx hb dL_law_1022 rfl (lv_at hl 2 rfl) ?_
    refine lv_iload hx hb dL_law_1023 (lv_at hl 1 rfl) ?_
    refine lv_iconst (v := 1) hx hb dL_law_1025 (by decide) ?_
    refine lv_iadd hx hb dL_law_1026 ?_
    refine va_sld hx hb hX hbl hbA hS (i := ((nI (4 * i)) + 1)) (inS1 hi hL) dL_law_1027 ?_
    refine W.eq (g2 := F0 m 1028 ls [.int a1, .ref (Ax 0)]) (congrArg (fun zz : Int32 => F0 m 1028 ls [.int zz, .ref (Ax 0)]) ea1) ?_
    refine kVw ⟨hx, hb, hml, hown, hts⟩ (c_X7_count l D Ax th nsd fogd nrd nm ne Lx a1 (by assumption) (by assumption) (by assumption) (by assumption)) (cwV 1 hts gL_law_X7_count rfl rfl rfl (by decide +kernel) ⟨Nat.le_of_ble_eq_true rfl, Nat.le_of_ble_eq_true rfl⟩) hK hN hP hD hS (Fr.r (Fr.r (Fr.r (Fr.r (Fr.r (Fr.r (Fr.r (Fr.r (Fr.r (Fr.r (Fr.r (Fr.r (Fr.r frsMod))))))))))))) 7 0 rfl rfl rfl hl.1 (Nat.le_of_ble_eq_true rfl) ⟨by show _ ≤ 601024; omega, by show _ ≤ 7293034; omega⟩ dL_law_1028 (fun H locs hP hD hS => ?_) rfl
    have hP : va_P D.1 vwCl ((wMob om Ad ot ou) ++ ((wTob ot Ad Aw Am Ae xt hou cro) ++ ((wWays D Aw Lw) ++ ((wMul D Am nm Lm) ++ ((wLet D Ae ne Le) ++ ((wRow D xt yt 60 Nt) ++ ((wTob ou Ad Bw Bm Be xu hou2 cro2) ++ ((wWays D Bw Kw) ++ ((wMul D Bm nm2 Km) ++ ((wLet D Be ne2 Ke) ++ ((wRow D xu yu 60 Nu) ++ ((wLand D Ad nsd fogd nrd Ld) ++ ((wLar D oq fq) ++ (wMod D Ax ((ctM Lx nsd nrd nm ne a1).2) nsd fogd nrd nm ne Lx)))))))))))))) H := hP
    have hD : va_D A0 ((wMob om Ad ot ou) ++ ((wTob ot Ad Aw Am Ae xt hou cro) ++ ((wWays D Aw Lw) ++ ((wMul D Am nm Lm) ++ ((wLet D Ae ne Le) ++ ((wRow D xt yt 60 Nt) ++ ((wTob ou Ad Bw Bm Be xu hou2 cro2) ++ ((wWays D Bw Kw) ++ ((wMul D Bm nm2 Km) ++ ((wLet D Be ne2 Ke) ++ ((wRow D xu yu 60 Nu) ++ ((wLand D Ad nsd fogd nrd Ld) ++ ((wLar D oq fq) ++ (wMod D Ax ((ctM Lx nsd nrd nm ne a1).2) nsd fogd nrd nm ne Lx)))))))))))))) := hD
    refine W.eq (g2 := F0 m 1031 ls [.int ((ctM Lx nsd nrd nm ne a1).1)]) rfl ?_
    have r9 := tc_rel (w := a1) hSY
    rw [r9.1] at hP hD
    have hP : va_P D.1 vwCl ((wMob om Ad ot ou) ++ ((wTob ot Ad Aw Am Ae xt hou cro) ++ ((wWays D Aw Lw) ++ ((wMul D Am nm Lm) ++ ((wLet D Ae ne Le) ++ ((wRow D xt yt 60 Nt) ++ ((wTob ou Ad Bw Bm Be xu hou2 cro2) ++ ((wWays D Bw Kw) ++ ((wMul D Bm nm2 Km) ++ ((wLet D Be ne2 Ke) ++ ((wRow D xu yu 60 Nu) ++ ((wLand D Ad nsd fogd nrd Ld) ++ ((wLar D oq fq) ++ (wMod D Ax (nI (kCT a1)) nsd fogd nrd nm ne Lx)))))))))))))) H := hP
    have hD : va_D A0 ((wMob om Ad ot ou) ++ ((wTob ot Ad Aw Am Ae xt hou cro) ++ ((wWays D Aw Lw) ++ ((wMul D Am nm Lm) ++ ((wLet D Ae ne Le) ++ ((wRow D xt yt 60 Nt) ++ ((wTob ou Ad Bw Bm Be xu hou2 cro2) ++ ((wWays D Bw Kw) ++ ((wMul D Bm nm2 Km) ++ ((wLet D Be ne2 Ke) ++ ((wRow D xu yu 60 Nu) ++ ((wLand D Ad nsd fogd nrd Ld) ++ ((wLar D oq fq) ++ (wMod D Ax (nI (kCT a1)) nsd fogd nrd nm ne Lx)))))))))))))) := hD
    refine lv_istore (lv' := [(6, .int ((ctM Lx nsd nrd nm ne a1).1)), (5, .int (nI (kCT a1))), (4, .int (nI (4 * i))), (0, .ref b), (1, .ref om), (2, .ref (Ax 0)), (3, .ref oq)]) hx hb dL_law_1031 hl (by decide) rfl (fun ls hl => ?_)
    refine lv_aload_n hx hb dL_law_1033 rfl (lv_at hl 5 rfl) ?_
    refine kVp ⟨hx, hb, hml, hown, hts⟩ (c_X7_thrown l D Ax (nI (kCT a1)) nsd fogd nrd nm ne Lx) (cwV 0 hts gL_law_X7_thrown rfl rfl rfl (by decide +kernel) ⟨Nat.le_of_ble_eq_true rfl, Nat.le_of_ble_eq_true rfl⟩) hK hN hP hD (Sb.r (Sb.r (Sb.r (Sb.r (Sb.r (Sb.r (Sb.r (Sb.r (Sb.r (Sb.r (Sb.r (Sb.r (Sb.r Sb.self))))))))))))) 7 0 rfl rfl rfl hl.1 (Nat.le_of_ble_eq_true rfl) ⟨by show _ ≤ 601024; omega, by show _ ≤ 7293034; omega⟩ dL_law_1034 ?_ rfl
    refine lv_iload hx hb dL_law_1037 (lv_at hl 1 rfl) ?_
    refine lv_icmp_eq (tgt := 1044) hx hb dL_law_1039 (by decide) (fun c1 => ?_) (fun c1 => ?_)
    · refine lv_iload hx hb dL_law_1044 (lv_at hl 1 rfl) ?_
      refine lv_if_ne (tgt := 1061) hx hb dL_law_1046 (by decide) (fun c2 => ?_) (fun c2 => ?_)
      · refine lv_goto (tgt := 1447) hx hb dL_law_1061 (by decide) ?_
        refine lv_iinc (v := ((nI (4 * i)) + 4)) (lv' := [(4, .int ((nI (4 * i)) + 4)), (6, .int ((ctM Lx nsd nrd nm ne a1).1)), (5, .int (nI (kCT a1))), (0, .ref b), (1, .ref om), (2, .ref (Ax 0)), (3, .ref oq)]) hx hb dL_law_1447 hl (k := 2) rfl rfl (by decide) rfl (fun ls hl => ?_)
        rw [show nI (4 * i) + 4 = nI (4 * (i + 1)) from nI_add (4 * i) 4] at hl
        refine lv_goto (tgt := 23) hx hb dL_law_1450 (by decide) ?_
        refine W.widen (k := 200 + 81 * (i + 1)) (n := 9000 + 11700 * (i + 1)) (by omega) (by omega) ?_
        exact ih Ax hou cro Lw nm Lm ne Le Nt hou2 cro2 Kw nm2 Km ne2 Ke Nu nsd fogd nrd Ld fq (nI (kCT a1)) Lx h hSY (by omega) H locs hP hD hS ls (lv_sub hl [0, 3, 4, 5, 6] rfl)
      · exact (nI_ne0 (Nat.pos_of_ne_zero hk9) (Nat.lt_of_le_of_lt (kCT_b _) (by decide)) c2).elim
    · exact (c1 (by first | rfl | decide)).elim
  · have hP : va_P D.1 vwCl ((wMob om Ad ot ou) ++ ((wTob ot Ad Aw Am Ae xt hou cro) ++ ((wWays D Aw Lw) ++ ((wMul D Am nm Lm) ++ ((wLet D Ae ne Le) ++ ((wRow D xt yt 60 Nt) ++ ((wTob ou Ad Bw Bm Be xu hou2 cro2) ++ ((wWays D Bw Kw) ++ ((wMul D Bm nm2 Km) ++ ((wLet D Be ne2 Ke) ++ ((wRow D xu yu 60 Nu) ++ ((wLand D Ad nsd fogd nrd Ld) ++ ((wLar D oq (vp_updL fq 0 (tcC Le hou cro nsd nrd nm ne a1).toInt64)) ++ (wMod D Ax th nsd fogd nrd nm ne Lx)))))))))))))) H := hP
    have hD : va_D A0 ((wMob om Ad ot ou) ++ ((wTob ot Ad Aw Am Ae xt hou cro) ++ ((wWays D Aw Lw) ++ ((wMul D Am nm Lm) ++ ((wLet D Ae ne Le) ++ ((wRow D xt yt 60 Nt) ++ ((wTob ou Ad Bw Bm Be xu hou2 cro2) ++ ((wWays D Bw Kw) ++ ((wMul D Bm nm2 Km) ++ ((wLet D Be ne2 Ke) ++ ((wRow D xu yu 60 Nu) ++ ((wLand D Ad nsd fogd nrd Ld) ++ ((wLar D oq (vp_updL fq 0 (tcC Le hou cro nsd nrd nm ne a1).toInt64)) ++ (wMod D Ax th nsd fogd nrd nm ne Lx)))))))))))))) := hD
    refine lv_istore (lv' := [(5, .int 0), (4, .int (nI (4 * i))), (0, .ref b), (1, .ref om), (2, .ref (Ax 0)), (3, .ref oq)]) hx hb dL_law_1019 hl (by decide) rfl (fun ls hl => ?_)
    refine lv_aload_n hx hb dL_law_1021 rfl (lv_at hl 4 rfl) ?_
    refine lv_aload_n hx hb dL_law_1022 rfl (lv_at hl 2 rfl) ?_
    refine lv_iload hx hb dL_law_1023 (lv_at hl 1 rfl) ?_
    refine lv_iconst (v := 1) hx hb dL_law_1025 (by decide) ?_
    refine lv_iadd hx hb dL_law_1026 ?_
    refine va_sld hx hb hX hbl hbA hS (i := ((nI (4 * i)) + 1)) (inS1 hi hL) dL_law_1027 ?_
    refine W.eq (g2 := F0 m 1028 ls [.int a1, .ref (Ax 0)]) (congrArg (fun zz : Int32 => F0 m 1028 ls [.int zz, .ref (Ax 0)]) ea1) ?_
    refine kVw ⟨hx, hb, hml, hown, hts⟩ (c_X7_count l D Ax th nsd fogd nrd nm ne Lx a1 (by assumption) (by assumption) (by assumption) (by assumption)) (cwV 1 hts gL_law_X7_count rfl rfl rfl (by decide +kernel) ⟨Nat.le_of_ble_eq_true rfl, Nat.le_of_ble_eq_true rfl⟩) hK hN hP hD hS (Fr.r (Fr.r (Fr.r (Fr.r (Fr.r (Fr.r (Fr.r (Fr.r (Fr.r (Fr.r (Fr.r (Fr.r (Fr.r frsMod))))))))))))) 7 0 rfl rfl rfl hl.1 (Nat.le_of_ble_eq_true rfl) ⟨by show _ ≤ 601024; omega, by show _ ≤ 7293034; omega⟩ dL_law_1028 (fun H locs hP hD hS => ?_) rfl
    have hP : va_P D.1 vwCl ((wMob om Ad ot ou) ++ ((wTob ot Ad Aw Am Ae xt hou cro) ++ ((wWays D Aw Lw) ++ ((wMul D Am nm Lm) ++ ((wLet D Ae ne Le) ++ ((wRow D xt yt 60 Nt) ++ ((wTob ou Ad Bw Bm Be xu hou2 cro2) ++ ((wWays D Bw Kw) ++ ((wMul D Bm nm2 Km) ++ ((wLet D Be ne2 Ke) ++ ((wRow D xu yu 60 Nu) ++ ((wLand D Ad nsd fogd nrd Ld) ++ ((wLar D oq (vp_updL fq 0 (tcC Le hou cro nsd nrd nm ne a1).toInt64)) ++ (wMod D Ax ((ctM Lx nsd nrd nm ne a1).2) nsd fogd nrd nm ne Lx)))))))))))))) H := hP
    have hD : va_D A0 ((wMob om Ad ot ou) ++ ((wTob ot Ad Aw Am Ae xt hou cro) ++ ((wWays D Aw Lw) ++ ((wMul D Am nm Lm) ++ ((wLet D Ae ne Le) ++ ((wRow D xt yt 60 Nt) ++ ((wTob ou Ad Bw Bm Be xu hou2 cro2) ++ ((wWays D Bw Kw) ++ ((wMul D Bm nm2 Km) ++ ((wLet D Be ne2 Ke) ++ ((wRow D xu yu 60 Nu) ++ ((wLand D Ad nsd fogd nrd Ld) ++ ((wLar D oq (vp_updL fq 0 (tcC Le hou cro nsd nrd nm ne a1).toInt64)) ++ (wMod D Ax ((ctM Lx nsd nrd nm ne a1).2) nsd fogd nrd nm ne Lx)))))))))))))) := hD
    refine W.eq (g2 := F0 m 1031 ls [.int ((ctM Lx nsd nrd nm ne a1).1)]) rfl ?_
    have r9 := tc_rel (w := a1) hSY
    rw [r9.1, hk9] at hP hD
    have hP : va_P D.1 vwCl ((wMob om Ad ot ou) ++ ((wTob ot Ad Aw Am Ae xt hou cro) ++ ((wWays D Aw Lw) ++ ((wMul D Am nm Lm) ++ ((wLet D Ae ne Le) ++ ((wRow D xt yt 60 Nt) ++ ((wTob ou Ad Bw Bm Be xu hou2 cro2) ++ ((wWays D Bw Kw) ++ ((wMul D Bm nm2 Km) ++ ((wLet D Be ne2 Ke) ++ ((wRow D xu yu 60 Nu) ++ ((wLand D Ad nsd fogd nrd Ld) ++ ((wLar D oq (vp_updL fq 0 (tcC Le hou cro nsd nrd nm ne a1).toInt64)) ++ (wMod D Ax (nI 0) nsd fogd nrd nm ne Lx)))))))))))))) H := hP
    have hD : va_D A0 ((wMob om Ad ot ou) ++ ((wTob ot Ad Aw Am Ae xt hou cro) ++ ((wWays D Aw Lw) ++ ((wMul D Am nm Lm) ++ ((wLet D Ae ne Le) ++ ((wRow D xt yt 60 Nt) ++ ((wTob ou Ad Bw Bm Be xu hou2 cro2) ++ ((wWays D Bw Kw) ++ ((wMul D Bm nm2 Km) ++ ((wLet D Be ne2 Ke) ++ ((wRow D xu yu 60 Nu) ++ ((wLand D Ad nsd fogd nrd Ld) ++ ((wLar D oq (vp_updL fq 0 (tcC Le hou cro nsd nrd nm ne a1).toInt64)) ++ (wMod D Ax (nI 0) nsd fogd nrd nm ne Lx)))))))))))))) := hD
    refine W.eq (g2 := F0 m 1031 ls [.int (tcC Le hou cro nsd nrd nm ne a1)]) (congrArg (fun zz : Int32 => F0 m 1031 ls [.int zz]) (show (ctM Lx nsd nrd nm ne a1).1 = tcC Le hou cro nsd nrd nm ne a1 from r9.2 hk9)) ?_
    refine lv_istore (lv' := [(6, .int (tcC Le hou cro nsd nrd nm ne a1)), (5, .int 0), (4, .int (nI (4 * i))), (0, .ref b), (1, .ref om), (2, .ref (Ax 0)), (3, .ref oq)]) hx hb dL_law_1031 hl (by decide) rfl (fun ls hl => ?_)
    refine lv_aload_n hx hb dL_law_1033 rfl (lv_at hl 5 rfl) ?_
    refine kVp ⟨hx, hb, hml, hown, hts⟩ (c_X7_thrown l D Ax (nI 0) nsd fogd nrd nm ne Lx) (cwV 0 hts gL_law_X7_thrown rfl rfl rfl (by decide +kernel) ⟨Nat.le_of_ble_eq_true rfl, Nat.le_of_ble_eq_true rfl⟩) hK hN hP hD (Sb.r (Sb.r (Sb.r (Sb.r (Sb.r (Sb.r (Sb.r (Sb.r (Sb.r (Sb.r (Sb.r (Sb.r (Sb.r Sb.self))))))))))))) 7 0 rfl rfl rfl hl.1 (Nat.le_of_ble_eq_true rfl) ⟨by show _ ≤ 601024; omega, by show _ ≤ 7293034; omega⟩ dL_law_1034 ?_ rfl
    refine lv_iload hx hb dL_law_1037 (lv_at hl 1 rfl) ?_
    refine lv_icmp_eq (tgt := 1044) hx hb dL_law_1039 (by decide) (fun c3 => ?_) (fun c3 => ?_)
    · refine lv_iload hx hb dL_law_1044 (lv_at hl 1 rfl) ?_
      refine lv_if_ne (tgt := 1061) hx hb dL_law_1046 (by decide) (fun c4 => ?_) (fun c4 => ?_)
      · exact absurd c4 (by decide)
      · refine lv_aload_n hx hb dL_law_1049 rfl (lv_at hl 6 rfl) ?_
        refine lv_iconst (v := 0) hx hb dL_law_1050 (by decide) ?_
        refine va_lald (D := D.1) hx hb hK hP 96 1 rfl rfl (i := (0 : Int32)) (vpl (by decide)) dL_law_1051 ?_
        refine W.eq (g2 := F0 m 1052 ls [.long ((tcC Le hou cro nsd nrd nm ne a1).toInt64)]) (congrArg (fun zz : Int64 => F0 m 1052 ls [.long zz]) (show (vp_updL fq 0 (tcC Le hou cro nsd nrd nm ne a1).toInt64) ((0 : Int32).toNatClampNeg) = (tcC Le hou cro nsd nrd nm ne a1).toInt64 from pk_uLs)) ?_
        refine lv_iload hx hb dL_law_1052 (lv_at hl 0 rfl) ?_
        refine lv_i2l hx hb dL_law_1054 rfl ?_
        refine W.lcmp hx hb dL_law_1055 ?_
        refine W.eq (g2 := F0 m 1056 ls [.int 0]) (congrArg (fun zz : Int32 => F0 m 1056 ls [.int zz]) (lcmp0 _)) ?_
        refine lv_if_eq (tgt := 1061) hx hb dL_law_1056 (by decide) (fun c5 => ?_) (fun c5 => ?_)
        · refine lv_goto (tgt := 1447) hx hb dL_law_1061 (by decide) ?_
          refine lv_iinc (v := ((nI (4 * i)) + 4)) (lv' := [(4, .int ((nI (4 * i)) + 4)), (6, .int (tcC Le hou cro nsd nrd nm ne a1)), (5, .int 0), (0, .ref b), (1, .ref om), (2, .ref (Ax 0)), (3, .ref oq)]) hx hb dL_law_1447 hl (k := 2) rfl rfl (by decide) rfl (fun ls hl => ?_)
          rw [show nI (4 * i) + 4 = nI (4 * (i + 1)) from nI_add (4 * i) 4] at hl
          refine lv_goto (tgt := 23) hx hb dL_law_1450 (by decide) ?_
          refine W.widen (k := 200 + 81 * (i + 1)) (n := 9000 + 11700 * (i + 1)) (by omega) (by omega) ?_
          exact ih Ax hou cro Lw nm Lm ne Le Nt hou2 cro2 Kw nm2 Km ne2 Ke Nu nsd fogd nrd Ld (vp_updL fq 0 (tcC Le hou cro nsd nrd nm ne a1).toInt64) (nI 0) Lx h hSY (by omega) H locs hP hD hS ls (lv_sub hl [0, 3, 4, 5, 6] rfl)
        · exact absurd c5 (by decide)
    · exact (c3 (by first | rfl | decide)).elim

set_option maxHeartbeats 4000000 in
set_option maxRecDepth 100000 in
theorem law_c13 {p : Program} {l : Launch} {e : Env} {s : State} {m : MethodId} {below : List Frame} {meth : Method} {c : Code} {D : GG} {b L : Nat} {xs : Nat → Int32} {A0 : Nat → Prop} {om ot ou oq xt yt xu yu : Nat} {Ad Aw Am Ae Bw Bm Be : Nat → Nat} (X : LX p l s m meth c D b L xs A0) {i : Nat} (hi : 4 * i + 4 ≤ L) (ih : LG p l e s m below meth c D b L xs A0 om ot ou oq xt yt xu yu Ad Aw Am Ae Bw Bm Be (i + 1)) {a1 a2 a3 : Int32} (ea1 : xs (nI (4 * i) + 1).toNatClampNeg = a1) (ea2 : xs (nI (4 * i) + 2).toNatClampNeg = a2) (ea3 : xs (nI (4 * i) + 3).toNatClampNeg = a3)
    (Ax : Nat → Nat) (hou cro : Int32) (Lw : Fm) (nm : Nat) (Lm : Fm) (ne : Nat) (Le : Fm) (Nt : Rw) (hou2 cro2 : Int32) (Kw : Fm) (nm2 : Nat) (Km : Fm) (ne2 : Nat) (Ke : Fm) (Nu : Rw) (nsd : Nat) (fogd : Int32) (nrd : Nat) (Ld : Fm) (fq : Nat → Int64) (th : Int32) (Lx : Fm) (h : Nat) (hSY : SY Lw Ld Lm Le hou cro Lx nsd nrd nm ne h) (hh : h ≤ 100 * i) (H : Heap) (locs : List Loc) (hP : va_P D.1 vwCl ((wMob om Ad ot ou) ++ ((wTob ot Ad Aw Am Ae xt hou cro) ++ ((wWays D Aw Lw) ++ ((wMul D Am nm Lm) ++ ((wLet D Ae ne Le) ++ ((wRow D xt yt 60 Nt) ++ ((wTob ou Ad Bw Bm Be xu hou2 cro2) ++ ((wWays D Bw Kw) ++ ((wMul D Bm nm2 Km) ++ ((wLet D Be ne2 Ke) ++ ((wRow D xu yu 60 Nu) ++ ((wLand D Ad nsd fogd nrd Ld) ++ ((wLar D oq fq) ++ (wMod D Ax th nsd fogd nrd nm ne Lx)))))))))))))) H) (hD : va_D A0 ((wMob om Ad ot ou) ++ ((wTob ot Ad Aw Am Ae xt hou cro) ++ ((wWays D Aw Lw) ++ ((wMul D Am nm Lm) ++ ((wLet D Ae ne Le) ++ ((wRow D xt yt 60 Nt) ++ ((wTob ou Ad Bw Bm Be xu hou2 cro2) ++ ((wWays D Bw Kw) ++ ((wMul D Bm nm2 Km) ++ ((wLet D Be ne2 Ke) ++ ((wRow D xu yu 60 Nu) ++ ((wLand D Ad nsd fogd nrd Ld) ++ ((wLar D oq fq) ++ (wMod D Ax th nsd fogd nrd nm ne Lx))))))))))))))) (hS : va_S A0 s.heap H locs) (ls : Array Slot) (hl : lv_has ls 9 [(4, .int (nI (4 * i))), (0, .ref b), (1, .ref om), (2, .ref (Ax 0)), (3, .ref oq)]) : W p l e room_1 s m #[Value.ref b] below meth c H locs (200 + 81 * i) (9000 + 11700 * i) (lw_Z below #[Value.ref b] s) (F0 m 1064 ls []) := by
  obtain ⟨hx, hb, hr, hml, hown, hts, hX, hbl, hbA, hlocks, hl9, hCX, hSX, hTX, hZX, hNX, hK, hN, hA, -, hL⟩ := X
  have hS9 : okS Lx nsd nrd nm ne := okS_rel hSY.1
  have b10 : nsd ≤ 10 := hSY.1.1.1
  have b15 : nrd ≤ 15 := hSY.1.1.2.1
  have b12 : nm ≤ 12 := hSY.1.2.2.1.1
  have b60 : ne ≤ 60 := hSY.1.2.2.2.1
  have hrE : rE Le Lx ne := hSY.1.2.2.2.2.2.2.2.2.2.1
  have he : ne < 2 ^ 31 := by omega
  have hm : nm < 2 ^ 31 := by omega
  have hns : nsd < 2 ^ 31 := by omega
  have hnr : nrd < 2 ^ 31 := by omega
  refine lv_aload_n hx hb dL_law_1064 rfl (lv_at hl 2 rfl) ?_
  refine lv_aload_n hx hb dL_law_1065 rfl (lv_at hl 1 rfl) ?_
  refine lv_iload hx hb dL_law_1066 (lv_at hl 0 rfl) ?_
  refine lv_iconst (v := 1) hx hb dL_law_1068 (by decide) ?_
  refine lv_iadd hx hb dL_law_1069 ?_
  refine va_sld hx hb hX hbl hbA hS (i := ((nI (4 * i)) + 1)) (inS1 hi hL) dL_law_1070 ?_
  refine W.eq (g2 := F0 m 1071 ls [.int a1, .ref om]) (congrArg (fun zz : Int32 => F0 m 1071 ls [.int zz, .ref om]) ea1) ?_
  refine lv_aload_n hx hb dL_law_1071 rfl (lv_at hl 1 rfl) ?_
  refine lv_iload hx hb dL_law_1072 (lv_at hl 0 rfl) ?_
  refine lv_iconst (v := 2) hx hb dL_law_1074 (by decide) ?_
  refine lv_iadd hx hb dL_law_1075 ?_
  refine va_sld hx hb hX hbl hbA hS (i := ((nI (4 * i)) + 2)) (inS2 hi hL) dL_law_1076 ?_
  refine W.eq (g2 := F0 m 1077 ls [.int a2, .int a1, .ref om]) (congrArg (fun zz : Int32 => F0 m 1077 ls [.int zz, .int a1, .ref om]) ea2) ?_
  refine lv_aload_n hx hb dL_law_1077 rfl (lv_at hl 1 rfl) ?_
  refine lv_iload hx hb dL_law_1078 (lv_at hl 0 rfl) ?_
  refine lv_iconst (v := 3) hx hb dL_law_1080 (by decide) ?_
  refine lv_iadd hx hb dL_law_1081 ?_
  refine va_sld hx hb hX hbl hbA hS (i := ((nI (4 * i)) + 3)) (inS3 hi hL) dL_law_1082 ?_
  refine W.eq (g2 := F0 m 1083 ls [.int a3, .int a2, .int a1, .ref om]) (congrArg (fun zz : Int32 => F0 m 1083 ls [.int zz, .int a2, .int a1, .ref om]) ea3) ?_
  refine lv_aload_n hx hb dL_law_1083 rfl (lv_at hl 4 rfl) ?_
  refine kSL ⟨hx, hb, hml, hown, hts⟩ (c_L_way l D om Ad ot ou Aw Am Ae xt hou cro Lw nm Lm ne Le yt Nt nsd fogd nrd Ld oq fq a1 a2 a3 _ hl9) (vx_cwSW 5 hts gL_law_L_way rfl rfl rfl (by decide +kernel) ⟨Nat.le_of_ble_eq_true rfl, Nat.le_of_ble_eq_true rfl⟩) hCX hSX hTX hZX hNX hK hN hP hD hS hA (fun z => (Fr.app (Fr.kp Sb.self) (Fr.app (Fr.kp Sb.self) (Fr.app (Fr.kp Sb.self) (Fr.app (Fr.kp Sb.self) (Fr.app (Fr.kp Sb.self) (Fr.app (Fr.kp Sb.self) (Fr.r (Fr.r (Fr.r (Fr.r (Fr.r (Fr.app (Fr.kp Sb.self) (Fr.l frsLar)))))))))))))) (Sb.app Sb.self (Sb.app Sb.self (Sb.app Sb.self (Sb.app Sb.self (Sb.app Sb.self (Sb.app Sb.self (Sb.r (Sb.r (Sb.r (Sb.r (Sb.r (Sb.app Sb.self (Sb.l Sb.self))))))))))))) rfl hl.1 (Nat.le_of_ble_eq_true rfl) ⟨by show _ ≤ 601024; omega, by show _ ≤ 7293034; omega⟩ dL_law_1084 (fun H locs hk9 hP hD hS => ?_) (fun z H locs hk9 hP hD hS => ?_) rfl
  · have hP : va_P D.1 vwCl ((wMob om Ad ot ou) ++ ((wTob ot Ad Aw Am Ae xt hou cro) ++ ((wWays D Aw Lw) ++ ((wMul D Am nm Lm) ++ ((wLet D Ae ne Le) ++ ((wRow D xt yt 60 Nt) ++ ((wTob ou Ad Bw Bm Be xu hou2 cro2) ++ ((wWays D Bw Kw) ++ ((wMul D Bm nm2 Km) ++ ((wLet D Be ne2 Ke) ++ ((wRow D xu yu 60 Nu) ++ ((wLand D Ad nsd fogd nrd Ld) ++ ((wLar D oq fq) ++ (wMod D Ax th nsd fogd nrd nm ne Lx)))))))))))))) H := hP
    have hD : va_D A0 ((wMob om Ad ot ou) ++ ((wTob ot Ad Aw Am Ae xt hou cro) ++ ((wWays D Aw Lw) ++ ((wMul D Am nm Lm) ++ ((wLet D Ae ne Le) ++ ((wRow D xt yt 60 Nt) ++ ((wTob ou Ad Bw Bm Be xu hou2 cro2) ++ ((wWays D Bw Kw) ++ ((wMul D Bm nm2 Km) ++ ((wLet D Be ne2 Ke) ++ ((wRow D xu yu 60 Nu) ++ ((wLand D Ad nsd fogd nrd Ld) ++ ((wLar D oq fq) ++ (wMod D Ax th nsd fogd nrd nm ne Lx)))))))))))))) := hD
    refine lv_istore (lv' := [(5, .int (nI (kWY nsd a1 a2 a3))), (4, .int (nI (4 * i))), (0, .ref b), (1, .ref om), (2, .ref (Ax 0)), (3, .ref oq)]) hx hb dL_law_1087 hl (by decide) rfl (fun ls hl => ?_)
    refine lv_aload_n hx hb dL_law_1089 rfl (lv_at hl 4 rfl) ?_
    refine lv_aload_n hx hb dL_law_1090 rfl (lv_at hl 2 rfl) ?_
    refine lv_iload hx hb dL_law_1091 (lv_at hl 1 rfl) ?_
    refine lv_iconst (v := 1) hx hb dL_law_1093 (by decide) ?_
    refine lv_iadd hx hb dL_law_1094 ?_
    refine va_sld hx hb hX hbl hbA hS (i := ((nI (4 * i)) + 1)) (inS1 hi hL) dL_law_1095 ?_
    refine W.eq (g2 := F0 m 1096 ls [.int a1, .ref (Ax 0)]) (congrArg (fun zz : Int32 => F0 m 1096 ls [.int zz, .ref (Ax 0)]) ea1) ?_
    refine lv_aload_n hx hb dL_law_1096 rfl (lv_at hl 2 rfl) ?_
    refine lv_iload hx hb dL_law_1097 (lv_at hl 1 rfl) ?_
    refine lv_iconst (v := 2) hx hb dL_law_1099 (by decide) ?_
    refine lv_iadd hx hb dL_law_1100 ?_
    refine va_sld hx hb hX hbl hbA hS (i := ((nI (4 * i)) + 2)) (inS2 hi hL) dL_law_1101 ?_
    refine W.eq (g2 := F0 m 1102 ls [.int a2, .int a1, .ref (Ax 0)]) (congrArg (fun zz : Int32 => F0 m 1102 ls [.int zz, .int a1, .ref (Ax 0)]) ea2) ?_
    refine lv_aload_n hx hb dL_law_1102 rfl (lv_at hl 2 rfl) ?_
    refine lv_iload hx hb dL_law_1103 (lv_at hl 1 rfl) ?_
    refine lv_iconst (v := 3) hx hb dL_law_1105 (by decide) ?_
    refine lv_iadd hx hb dL_law_1106 ?_
    refine va_sld hx hb hX hbl hbA hS (i := ((nI (4 * i)) + 3)) (inS3 hi hL) dL_law_1107 ?_
    refine W.eq (g2 := F0 m 1108 ls [.int a3, .int a2, .int a1, .ref (Ax 0)]) (congrArg (fun zz : Int32 => F0 m 1108 ls [.int zz, .int a2, .int a1, .ref (Ax 0)]) ea3) ?_
    refine kVw ⟨hx, hb, hml, hown, hts⟩ (c_X7_way l D Ax th nsd fogd nrd nm ne Lx a1 a2 a3 (by assumption) (by assumption) (by assumption) (by assumption) hS9.1) (cwV 3 hts gL_law_X7_way rfl rfl rfl (by decide +kernel) ⟨Nat.le_of_ble_eq_true rfl, Nat.le_of_ble_eq_true rfl⟩) hK hN hP hD hS (Fr.r (Fr.r (Fr.r (Fr.r (Fr.r (Fr.r (Fr.r (Fr.r (Fr.r (Fr.r (Fr.r (Fr.r (Fr.r frsMod))))))))))))) 7 0 rfl rfl rfl hl.1 (Nat.le_of_ble_eq_true rfl) ⟨by show _ ≤ 601024; omega, by show _ ≤ 7293034; omega⟩ dL_law_1108 (fun H locs hP hD hS => ?_) rfl
    have hP : va_P D.1 vwCl ((wMob om Ad ot ou) ++ ((wTob ot Ad Aw Am Ae xt hou cro) ++ ((wWays D Aw Lw) ++ ((wMul D Am nm Lm) ++ ((wLet D Ae ne Le) ++ ((wRow D xt yt 60 Nt) ++ ((wTob ou Ad Bw Bm Be xu hou2 cro2) ++ ((wWays D Bw Kw) ++ ((wMul D Bm nm2 Km) ++ ((wLet D Be ne2 Ke) ++ ((wRow D xu yu 60 Nu) ++ ((wLand D Ad nsd fogd nrd Ld) ++ ((wLar D oq fq) ++ (wMod D Ax ((pwy Lx nsd nrd nm a1 a2 a3).2.1) nsd fogd nrd nm ne ((pwy Lx nsd nrd nm a1 a2 a3).2.2))))))))))))))) H := hP
    have hD : va_D A0 ((wMob om Ad ot ou) ++ ((wTob ot Ad Aw Am Ae xt hou cro) ++ ((wWays D Aw Lw) ++ ((wMul D Am nm Lm) ++ ((wLet D Ae ne Le) ++ ((wRow D xt yt 60 Nt) ++ ((wTob ou Ad Bw Bm Be xu hou2 cro2) ++ ((wWays D Bw Kw) ++ ((wMul D Bm nm2 Km) ++ ((wLet D Be ne2 Ke) ++ ((wRow D xu yu 60 Nu) ++ ((wLand D Ad nsd fogd nrd Ld) ++ ((wLar D oq fq) ++ (wMod D Ax ((pwy Lx nsd nrd nm a1 a2 a3).2.1) nsd fogd nrd nm ne ((pwy Lx nsd nrd nm a1 a2 a3).2.2))))))))))))))) := hD
    refine W.eq (g2 := F0 m 1111 ls [.int ((pwy Lx nsd nrd nm a1 a2 a3).1)]) rfl ?_
    have r9 := wy_rel (a := a1) (b := a2) (w := a3) hSY
    rw [r9.1, r9.2.1 hk9] at hP hD
    have hP : va_P D.1 vwCl ((wMob om Ad ot ou) ++ ((wTob ot Ad Aw Am Ae xt hou cro) ++ ((wWays D Aw Lw) ++ ((wMul D Am nm Lm) ++ ((wLet D Ae ne Le) ++ ((wRow D xt yt 60 Nt) ++ ((wTob ou Ad Bw Bm Be xu hou2 cro2) ++ ((wWays D Bw Kw) ++ ((wMul D Bm nm2 Km) ++ ((wLet D Be ne2 Ke) ++ ((wRow D xu yu 60 Nu) ++ ((wLand D Ad nsd fogd nrd Ld) ++ ((wLar D oq fq) ++ (wMod D Ax (nI (kWY nsd a1 a2 a3)) nsd fogd nrd nm ne Lx)))))))))))))) H := hP
    have hD : va_D A0 ((wMob om Ad ot ou) ++ ((wTob ot Ad Aw Am Ae xt hou cro) ++ ((wWays D Aw Lw) ++ ((wMul D Am nm Lm) ++ ((wLet D Ae ne Le) ++ ((wRow D xt yt 60 Nt) ++ ((wTob ou Ad Bw Bm Be xu hou2 cro2) ++ ((wWays D Bw Kw) ++ ((wMul D Bm nm2 Km) ++ ((wLet D Be ne2 Ke) ++ ((wRow D xu yu 60 Nu) ++ ((wLand D Ad nsd fogd nrd Ld) ++ ((wLar D oq fq) ++ (wMod D Ax (nI (kWY nsd a1 a2 a3)) nsd fogd nrd nm ne Lx)))))))))))))) := hD
    refine lv_istore (lv' := [(6, .int ((pwy Lx nsd nrd nm a1 a2 a3).1)), (5, .int (nI (kWY nsd a1 a2 a3))), (4, .int (nI (4 * i))), (0, .ref b), (1, .ref om), (2, .ref (Ax 0)), (3, .ref oq)]) hx hb dL_law_1111 hl (by decide) rfl (fun ls hl => ?_)
    refine lv_aload_n hx hb dL_law_1113 rfl (lv_at hl 5 rfl) ?_
    refine kVp ⟨hx, hb, hml, hown, hts⟩ (c_X7_thrown l D Ax (nI (kWY nsd a1 a2 a3)) nsd fogd nrd nm ne Lx) (cwV 0 hts gL_law_X7_thrown rfl rfl rfl (by decide +kernel) ⟨Nat.le_of_ble_eq_true rfl, Nat.le_of_ble_eq_true rfl⟩) hK hN hP hD (Sb.r (Sb.r (Sb.r (Sb.r (Sb.r (Sb.r (Sb.r (Sb.r (Sb.r (Sb.r (Sb.r (Sb.r (Sb.r Sb.self))))))))))))) 7 0 rfl rfl rfl hl.1 (Nat.le_of_ble_eq_true rfl) ⟨by show _ ≤ 601024; omega, by show _ ≤ 7293034; omega⟩ dL_law_1114 ?_ rfl
    refine lv_iload hx hb dL_law_1117 (lv_at hl 1 rfl) ?_
    refine lv_icmp_eq (tgt := 1124) hx hb dL_law_1119 (by decide) (fun c1 => ?_) (fun c1 => ?_)
    · refine lv_iload hx hb dL_law_1124 (lv_at hl 1 rfl) ?_
      refine lv_if_ne (tgt := 1141) hx hb dL_law_1126 (by decide) (fun c2 => ?_) (fun c2 => ?_)
      · refine lv_goto (tgt := 1447) hx hb dL_law_1141 (by decide) ?_
        refine lv_iinc (v := ((nI (4 * i)) + 4)) (lv' := [(4, .int ((nI (4 * i)) + 4)), (6, .int ((pwy Lx nsd nrd nm a1 a2 a3).1)), (5, .int (nI (kWY nsd a1 a2 a3))), (0, .ref b), (1, .ref om), (2, .ref (Ax 0)), (3, .ref oq)]) hx hb dL_law_1447 hl (k := 2) rfl rfl (by decide) rfl (fun ls hl => ?_)
        rw [show nI (4 * i) + 4 = nI (4 * (i + 1)) from nI_add (4 * i) 4] at hl
        refine lv_goto (tgt := 23) hx hb dL_law_1450 (by decide) ?_
        refine W.widen (k := 200 + 81 * (i + 1)) (n := 9000 + 11700 * (i + 1)) (by omega) (by omega) ?_
        exact ih Ax hou cro Lw nm Lm ne Le Nt hou2 cro2 Kw nm2 Km ne2 Ke Nu nsd fogd nrd Ld fq (nI (kWY nsd a1 a2 a3)) Lx h hSY (by omega) H locs hP hD hS ls (lv_sub hl [0, 3, 4, 5, 6] rfl)
      · exact (nI_ne0 (Nat.pos_of_ne_zero hk9) (Nat.lt_of_le_of_lt (kWY_b _ _ _ _) (by decide)) c2).elim
    · exact (c1 (by first | rfl | decide)).elim
  · have hP : va_P D.1 vwCl ((wMob om Ad ot ou) ++ ((wTob ot Ad Aw Am Ae xt hou cro) ++ ((wWays D Aw Lw) ++ ((wMul D Am nm Lm) ++ ((wLet D Ae ne Le) ++ ((wRow D xt yt 60 Nt) ++ ((wTob ou Ad Bw Bm Be xu hou2 cro2) ++ ((wWays D Bw Kw) ++ ((wMul D Bm nm2 Km) ++ ((wLet D Be ne2 Ke) ++ ((wRow D xu yu 60 Nu) ++ ((wLand D Ad nsd fogd nrd Ld) ++ ((wLar D oq (vp_updL fq 0 (wyC Lw a1 a2 a3).toInt64)) ++ (wMod D Ax th nsd fogd nrd nm ne Lx)))))))))))))) H := hP
    have hD : va_D A0 ((wMob om Ad ot ou) ++ ((wTob ot Ad Aw Am Ae xt hou cro) ++ ((wWays D Aw Lw) ++ ((wMul D Am nm Lm) ++ ((wLet D Ae ne Le) ++ ((wRow D xt yt 60 Nt) ++ ((wTob ou Ad Bw Bm Be xu hou2 cro2) ++ ((wWays D Bw Kw) ++ ((wMul D Bm nm2 Km) ++ ((wLet D Be ne2 Ke) ++ ((wRow D xu yu 60 Nu) ++ ((wLand D Ad nsd fogd nrd Ld) ++ ((wLar D oq (vp_updL fq 0 (wyC Lw a1 a2 a3).toInt64)) ++ (wMod D Ax th nsd fogd nrd nm ne Lx)))))))))))))) := hD
    refine lv_istore (lv' := [(5, .int 0), (4, .int (nI (4 * i))), (0, .ref b), (1, .ref om), (2, .ref (Ax 0)), (3, .ref oq)]) hx hb dL_law_1087 hl (by decide) rfl (fun ls hl => ?_)
    refine lv_aload_n hx hb dL_law_1089 rfl (lv_at hl 4 rfl) ?_
    refine lv_aload_n hx hb dL_law_1090 rfl (lv_at hl 2 rfl) ?_
    refine lv_iload hx hb dL_law_1091 (lv_at hl 1 rfl) ?_
    refine lv_iconst (v := 1) hx hb dL_law_1093 (by decide) ?_
    refine lv_iadd hx hb dL_law_1094 ?_
    refine va_sld hx hb hX hbl hbA hS (i := ((nI (4 * i)) + 1)) (inS1 hi hL) dL_law_1095 ?_
    refine W.eq (g2 := F0 m 1096 ls [.int a1, .ref (Ax 0)]) (congrArg (fun zz : Int32 => F0 m 1096 ls [.int zz, .ref (Ax 0)]) ea1) ?_
    refine lv_aload_n hx hb dL_law_1096 rfl (lv_at hl 2 rfl) ?_
    refine lv_iload hx hb dL_law_1097 (lv_at hl 1 rfl) ?_
    refine lv_iconst (v := 2) hx hb dL_law_1099 (by decide) ?_
    refine lv_iadd hx hb dL_law_1100 ?_
    refine va_sld hx hb hX hbl hbA hS (i := ((nI (4 * i)) + 2)) (inS2 hi hL) dL_law_1101 ?_
    refine W.eq (g2 := F0 m 1102 ls [.int a2, .int a1, .ref (Ax 0)]) (congrArg (fun zz : Int32 => F0 m 1102 ls [.int zz, .int a1, .ref (Ax 0)]) ea2) ?_
    refine lv_aload_n hx hb dL_law_1102 rfl (lv_at hl 2 rfl) ?_
    refine lv_iload hx hb dL_law_1103 (lv_at hl 1 rfl) ?_
    refine lv_iconst (v := 3) hx hb dL_law_1105 (by decide) ?_
    refine lv_iadd hx hb dL_law_1106 ?_
    refine va_sld hx hb hX hbl hbA hS (i := ((nI (4 * i)) + 3)) (inS3 hi hL) dL_law_1107 ?_
    refine W.eq (g2 := F0 m 1108 ls [.int a3, .int a2, .int a1, .ref (Ax 0)]) (congrArg (fun zz : Int32 => F0 m 1108 ls [.int zz, .int a2, .int a1, .ref (Ax 0)]) ea3) ?_
    refine kVw ⟨hx, hb, hml, hown, hts⟩ (c_X7_way l D Ax th nsd fogd nrd nm ne Lx a1 a2 a3 (by assumption) (by assumption) (by assumption) (by assumption) hS9.1) (cwV 3 hts gL_law_X7_way rfl rfl rfl (by decide +kernel) ⟨Nat.le_of_ble_eq_true rfl, Nat.le_of_ble_eq_true rfl⟩) hK hN hP hD hS (Fr.r (Fr.r (Fr.r (Fr.r (Fr.r (Fr.r (Fr.r (Fr.r (Fr.r (Fr.r (Fr.r (Fr.r (Fr.r frsMod))))))))))))) 7 0 rfl rfl rfl hl.1 (Nat.le_of_ble_eq_true rfl) ⟨by show _ ≤ 601024; omega, by show _ ≤ 7293034; omega⟩ dL_law_1108 (fun H locs hP hD hS => ?_) rfl
    have hP : va_P D.1 vwCl ((wMob om Ad ot ou) ++ ((wTob ot Ad Aw Am Ae xt hou cro) ++ ((wWays D Aw Lw) ++ ((wMul D Am nm Lm) ++ ((wLet D Ae ne Le) ++ ((wRow D xt yt 60 Nt) ++ ((wTob ou Ad Bw Bm Be xu hou2 cro2) ++ ((wWays D Bw Kw) ++ ((wMul D Bm nm2 Km) ++ ((wLet D Be ne2 Ke) ++ ((wRow D xu yu 60 Nu) ++ ((wLand D Ad nsd fogd nrd Ld) ++ ((wLar D oq (vp_updL fq 0 (wyC Lw a1 a2 a3).toInt64)) ++ (wMod D Ax ((pwy Lx nsd nrd nm a1 a2 a3).2.1) nsd fogd nrd nm ne ((pwy Lx nsd nrd nm a1 a2 a3).2.2))))))))))))))) H := hP
    have hD : va_D A0 ((wMob om Ad ot ou) ++ ((wTob ot Ad Aw Am Ae xt hou cro) ++ ((wWays D Aw Lw) ++ ((wMul D Am nm Lm) ++ ((wLet D Ae ne Le) ++ ((wRow D xt yt 60 Nt) ++ ((wTob ou Ad Bw Bm Be xu hou2 cro2) ++ ((wWays D Bw Kw) ++ ((wMul D Bm nm2 Km) ++ ((wLet D Be ne2 Ke) ++ ((wRow D xu yu 60 Nu) ++ ((wLand D Ad nsd fogd nrd Ld) ++ ((wLar D oq (vp_updL fq 0 (wyC Lw a1 a2 a3).toInt64)) ++ (wMod D Ax ((pwy Lx nsd nrd nm a1 a2 a3).2.1) nsd fogd nrd nm ne ((pwy Lx nsd nrd nm a1 a2 a3).2.2))))))))))))))) := hD
    refine W.eq (g2 := F0 m 1111 ls [.int ((pwy Lx nsd nrd nm a1 a2 a3).1)]) rfl ?_
    have r9 := wy_rel (a := a1) (b := a2) (w := a3) hSY
    rw [r9.1, hk9] at hP hD
    have hP : va_P D.1 vwCl ((wMob om Ad ot ou) ++ ((wTob ot Ad Aw Am Ae xt hou cro) ++ ((wWays D Aw Lw) ++ ((wMul D Am nm Lm) ++ ((wLet D Ae ne Le) ++ ((wRow D xt yt 60 Nt) ++ ((wTob ou Ad Bw Bm Be xu hou2 cro2) ++ ((wWays D Bw Kw) ++ ((wMul D Bm nm2 Km) ++ ((wLet D Be ne2 Ke) ++ ((wRow D xu yu 60 Nu) ++ ((wLand D Ad nsd fogd nrd Ld) ++ ((wLar D oq (vp_updL fq 0 (wyC Lw a1 a2 a3).toInt64)) ++ (wMod D Ax (nI 0) nsd fogd nrd nm ne ((pwy Lx nsd nrd nm a1 a2 a3).2.2))))))))))))))) H := hP
    have hD : va_D A0 ((wMob om Ad ot ou) ++ ((wTob ot Ad Aw Am Ae xt hou cro) ++ ((wWays D Aw Lw) ++ ((wMul D Am nm Lm) ++ ((wLet D Ae ne Le) ++ ((wRow D xt yt 60 Nt) ++ ((wTob ou Ad Bw Bm Be xu hou2 cro2) ++ ((wWays D Bw Kw) ++ ((wMul D Bm nm2 Km) ++ ((wLet D Be ne2 Ke) ++ ((wRow D xu yu 60 Nu) ++ ((wLand D Ad nsd fogd nrd Ld) ++ ((wLar D oq (vp_updL fq 0 (wyC Lw a1 a2 a3).toInt64)) ++ (wMod D Ax (nI 0) nsd fogd nrd nm ne ((pwy Lx nsd nrd nm a1 a2 a3).2.2))))))))))))))) := hD
    refine W.eq (g2 := F0 m 1111 ls [.int (wyC Lw a1 a2 a3)]) (congrArg (fun zz : Int32 => F0 m 1111 ls [.int zz]) (show (pwy Lx nsd nrd nm a1 a2 a3).1 = wyC Lw a1 a2 a3 from (r9.2.2 hk9).1)) ?_
    refine lv_istore (lv' := [(6, .int (wyC Lw a1 a2 a3)), (5, .int 0), (4, .int (nI (4 * i))), (0, .ref b), (1, .ref om), (2, .ref (Ax 0)), (3, .ref oq)]) hx hb dL_law_1111 hl (by decide) rfl (fun ls hl => ?_)
    refine lv_aload_n hx hb dL_law_1113 rfl (lv_at hl 5 rfl) ?_
    refine kVp ⟨hx, hb, hml, hown, hts⟩ (c_X7_thrown l D Ax (nI 0) nsd fogd nrd nm ne ((pwy Lx nsd nrd nm a1 a2 a3).2.2)) (cwV 0 hts gL_law_X7_thrown rfl rfl rfl (by decide +kernel) ⟨Nat.le_of_ble_eq_true rfl, Nat.le_of_ble_eq_true rfl⟩) hK hN hP hD (Sb.r (Sb.r (Sb.r (Sb.r (Sb.r (Sb.r (Sb.r (Sb.r (Sb.r (Sb.r (Sb.r (Sb.r (Sb.r Sb.self))))))))))))) 7 0 rfl rfl rfl hl.1 (Nat.le_of_ble_eq_true rfl) ⟨by show _ ≤ 601024; omega, by show _ ≤ 7293034; omega⟩ dL_law_1114 ?_ rfl
    refine lv_iload hx hb dL_law_1117 (lv_at hl 1 rfl) ?_
    refine lv_icmp_eq (tgt := 1124) hx hb dL_law_1119 (by decide) (fun c3 => ?_) (fun c3 => ?_)
    · refine lv_iload hx hb dL_law_1124 (lv_at hl 1 rfl) ?_
      refine lv_if_ne (tgt := 1141) hx hb dL_law_1126 (by decide) (fun c4 => ?_) (fun c4 => ?_)
      · exact absurd c4 (by decide)
      · refine lv_aload_n hx hb dL_law_1129 rfl (lv_at hl 6 rfl) ?_
        refine lv_iconst (v := 0) hx hb dL_law_1130 (by decide) ?_
        refine va_lald (D := D.1) hx hb hK hP 96 1 rfl rfl (i := (0 : Int32)) (vpl (by decide)) dL_law_1131 ?_
        refine W.eq (g2 := F0 m 1132 ls [.long ((wyC Lw a1 a2 a3).toInt64)]) (congrArg (fun zz : Int64 => F0 m 1132 ls [.long zz]) (show (vp_updL fq 0 (wyC Lw a1 a2 a3).toInt64) ((0 : Int32).toNatClampNeg) = (wyC Lw a1 a2 a3).toInt64 from pk_uLs)) ?_
        refine lv_iload hx hb dL_law_1132 (lv_at hl 0 rfl) ?_
        refine lv_i2l hx hb dL_law_1134 rfl ?_
        refine W.lcmp hx hb dL_law_1135 ?_
        refine W.eq (g2 := F0 m 1136 ls [.int 0]) (congrArg (fun zz : Int32 => F0 m 1136 ls [.int zz]) (lcmp0 _)) ?_
        refine lv_if_eq (tgt := 1141) hx hb dL_law_1136 (by decide) (fun c5 => ?_) (fun c5 => ?_)
        · refine lv_goto (tgt := 1447) hx hb dL_law_1141 (by decide) ?_
          refine lv_iinc (v := ((nI (4 * i)) + 4)) (lv' := [(4, .int ((nI (4 * i)) + 4)), (6, .int (wyC Lw a1 a2 a3)), (5, .int 0), (0, .ref b), (1, .ref om), (2, .ref (Ax 0)), (3, .ref oq)]) hx hb dL_law_1447 hl (k := 2) rfl rfl (by decide) rfl (fun ls hl => ?_)
          rw [show nI (4 * i) + 4 = nI (4 * (i + 1)) from nI_add (4 * i) 4] at hl
          refine lv_goto (tgt := 23) hx hb dL_law_1450 (by decide) ?_
          refine W.widen (k := 200 + 81 * (i + 1)) (n := 9000 + 11700 * (i + 1)) (by omega) (by omega) ?_
          exact ih Ax hou cro Lw nm Lm ne Le Nt hou2 cro2 Kw nm2 Km ne2 Ke Nu nsd fogd nrd Ld (vp_updL fq 0 (wyC Lw a1 a2 a3).toInt64) (nI 0) ((pwy Lx nsd nrd nm a1 a2 a3).2.2) h (r9.2.2 hk9).2 (by omega) H locs hP hD hS ls (lv_sub hl [0, 3, 4, 5, 6] rfl)
        · exact absurd c5 (by decide)
    · exact (c3 (by first | rfl | decide)).elim

set_option maxHeartbeats 4000000 in
set_option maxRecDepth 100000 in
theorem law_c14 {p : Program} {l : Launch} {e : Env} {s : State} {m : MethodId} {below : List Frame} {meth : Method} {c : Code} {D : GG} {b L : Nat} {xs : Nat → Int32} {A0 : Nat → Prop} {om ot ou oq xt yt xu yu : Nat} {Ad Aw Am Ae Bw Bm Be : Nat → Nat} (X : LX p l s m meth c D b L xs A0) {i : Nat} (hi : 4 * i + 4 ≤ L) (ih : LG p l e s m below meth c D b L xs A0 om ot ou oq xt yt xu yu Ad Aw Am Ae Bw Bm Be (i + 1)) {a1 a2 a3 : Int32} (ea1 : xs (nI (4 * i) + 1).toNatClampNeg = a1) (ea2 : xs (nI (4 * i) + 2).toNatClampNeg = a2) (ea3 : xs (nI (4 * i) + 3).toNatClampNeg = a3)
    (Ax : Nat → Nat) (hou cro : Int32) (Lw : Fm) (nm : Nat) (Lm : Fm) (ne : Nat) (Le : Fm) (Nt : Rw) (hou2 cro2 : Int32) (Kw : Fm) (nm2 : Nat) (Km : Fm) (ne2 : Nat) (Ke : Fm) (Nu : Rw) (nsd : Nat) (fogd : Int32) (nrd : Nat) (Ld : Fm) (fq : Nat → Int64) (th : Int32) (Lx : Fm) (h : Nat) (hSY : SY Lw Ld Lm Le hou cro Lx nsd nrd nm ne h) (hh : h ≤ 100 * i) (H : Heap) (locs : List Loc) (hP : va_P D.1 vwCl ((wMob om Ad ot ou) ++ ((wTob ot Ad Aw Am Ae xt hou cro) ++ ((wWays D Aw Lw) ++ ((wMul D Am nm Lm) ++ ((wLet D Ae ne Le) ++ ((wRow D xt yt 60 Nt) ++ ((wTob ou Ad Bw Bm Be xu hou2 cro2) ++ ((wWays D Bw Kw) ++ ((wMul D Bm nm2 Km) ++ ((wLet D Be ne2 Ke) ++ ((wRow D xu yu 60 Nu) ++ ((wLand D Ad nsd fogd nrd Ld) ++ ((wLar D oq fq) ++ (wMod D Ax th nsd fogd nrd nm ne Lx)))))))))))))) H) (hD : va_D A0 ((wMob om Ad ot ou) ++ ((wTob ot Ad Aw Am Ae xt hou cro) ++ ((wWays D Aw Lw) ++ ((wMul D Am nm Lm) ++ ((wLet D Ae ne Le) ++ ((wRow D xt yt 60 Nt) ++ ((wTob ou Ad Bw Bm Be xu hou2 cro2) ++ ((wWays D Bw Kw) ++ ((wMul D Bm nm2 Km) ++ ((wLet D Be ne2 Ke) ++ ((wRow D xu yu 60 Nu) ++ ((wLand D Ad nsd fogd nrd Ld) ++ ((wLar D oq fq) ++ (wMod D Ax th nsd fogd nrd nm ne Lx))))))))))))))) (hS : va_S A0 s.heap H locs) (ls : Array Slot) (hl : lv_has ls 9 [(4, .int (nI (4 * i))), (0, .ref b), (1, .ref om), (2, .ref (Ax 0)), (3, .ref oq)]) : W p l e room_1 s m #[Value.ref b] below meth c H locs (200 + 81 * i) (9000 + 11700 * i) (lw_Z below #[Value.ref b] s) (F0 m 1144 ls []) := by
  obtain ⟨hx, hb, hr, hml, hown, hts, hX, hbl, hbA, hlocks, hl9, hCX, hSX, hTX, hZX, hNX, hK, hN, hA, -, hL⟩ := X
  have hS9 : okS Lx nsd nrd nm ne := okS_rel hSY.1
  have b10 : nsd ≤ 10 := hSY.1.1.1
  have b15 : nrd ≤ 15 := hSY.1.1.2.1
  have b12 : nm ≤ 12 := hSY.1.2.2.1.1
  have b60 : ne ≤ 60 := hSY.1.2.2.2.1
  have hrE : rE Le Lx ne := hSY.1.2.2.2.2.2.2.2.2.2.1
  have he : ne < 2 ^ 31 := by omega
  have hm : nm < 2 ^ 31 := by omega
  have hns : nsd < 2 ^ 31 := by omega
  have hnr : nrd < 2 ^ 31 := by omega
  refine lv_aload_n hx hb dL_law_1144 rfl (lv_at hl 2 rfl) ?_
  refine lv_aload_n hx hb dL_law_1145 rfl (lv_at hl 1 rfl) ?_
  refine lv_iload hx hb dL_law_1146 (lv_at hl 0 rfl) ?_
  refine lv_iconst (v := 1) hx hb dL_law_1148 (by decide) ?_
  refine lv_iadd hx hb dL_law_1149 ?_
  refine va_sld hx hb hX hbl hbA hS (i := ((nI (4 * i)) + 1)) (inS1 hi hL) dL_law_1150 ?_
  refine W.eq (g2 := F0 m 1151 ls [.int a1, .ref om]) (congrArg (fun zz : Int32 => F0 m 1151 ls [.int zz, .ref om]) ea1) ?_
  refine lv_aload_n hx hb dL_law_1151 rfl (lv_at hl 1 rfl) ?_
  refine lv_iload hx hb dL_law_1152 (lv_at hl 0 rfl) ?_
  refine lv_iconst (v := 2) hx hb dL_law_1154 (by decide) ?_
  refine lv_iadd hx hb dL_law_1155 ?_
  refine va_sld hx hb hX hbl hbA hS (i := ((nI (4 * i)) + 2)) (inS2 hi hL) dL_law_1156 ?_
  refine W.eq (g2 := F0 m 1157 ls [.int a2, .int a1, .ref om]) (congrArg (fun zz : Int32 => F0 m 1157 ls [.int zz, .int a1, .ref om]) ea2) ?_
  refine lv_aload_n hx hb dL_law_1157 rfl (lv_at hl 4 rfl) ?_
  refine kSL ⟨hx, hb, hml, hown, hts⟩ (c_L_fire l D om Ad ot ou Aw Am Ae xt hou cro Lw nm Lm ne Le yt Nt nsd fogd nrd Ld oq fq a1 a2 _ (by assumption) hl9) (vx_cwSW 4 hts gL_law_L_fire rfl rfl rfl (by decide +kernel) ⟨Nat.le_of_ble_eq_true rfl, Nat.le_of_ble_eq_true rfl⟩) hCX hSX hTX hZX hNX hK hN hP hD hS hA (fun z => (Fr.app (Fr.kp Sb.self) (Fr.app (Fr.kp Sb.self) (Fr.app (Fr.kp Sb.self) (Fr.app (Fr.kp Sb.self) (Fr.app (Fr.kp Sb.self) (Fr.app (Fr.kp Sb.self) (Fr.r (Fr.r (Fr.r (Fr.r (Fr.r (Fr.app (Fr.kp Sb.self) (Fr.l frsLar)))))))))))))) (Sb.app Sb.self (Sb.app Sb.self (Sb.app Sb.self (Sb.app Sb.self (Sb.app Sb.self (Sb.app Sb.self (Sb.r (Sb.r (Sb.r (Sb.r (Sb.r (Sb.app Sb.self (Sb.l Sb.self))))))))))))) rfl hl.1 (Nat.le_of_ble_eq_true rfl) ⟨by show _ ≤ 601024; omega, by show _ ≤ 7293034; omega⟩ dL_law_1158 (fun H locs hk9 hP hD hS => ?_) (fun z H locs hk9 hP hD hS => ?_) rfl
  · have hP : va_P D.1 vwCl ((wMob om Ad ot ou) ++ ((wTob ot Ad Aw Am Ae xt hou cro) ++ ((wWays D Aw Lw) ++ ((wMul D Am nm Lm) ++ ((wLet D Ae ne Le) ++ ((wRow D xt yt 60 Nt) ++ ((wTob ou Ad Bw Bm Be xu hou2 cro2) ++ ((wWays D Bw Kw) ++ ((wMul D Bm nm2 Km) ++ ((wLet D Be ne2 Ke) ++ ((wRow D xu yu 60 Nu) ++ ((wLand D Ad nsd fogd nrd Ld) ++ ((wLar D oq fq) ++ (wMod D Ax th nsd fogd nrd nm ne Lx)))))))))))))) H := hP
    have hD : va_D A0 ((wMob om Ad ot ou) ++ ((wTob ot Ad Aw Am Ae xt hou cro) ++ ((wWays D Aw Lw) ++ ((wMul D Am nm Lm) ++ ((wLet D Ae ne Le) ++ ((wRow D xt yt 60 Nt) ++ ((wTob ou Ad Bw Bm Be xu hou2 cro2) ++ ((wWays D Bw Kw) ++ ((wMul D Bm nm2 Km) ++ ((wLet D Be ne2 Ke) ++ ((wRow D xu yu 60 Nu) ++ ((wLand D Ad nsd fogd nrd Ld) ++ ((wLar D oq fq) ++ (wMod D Ax th nsd fogd nrd nm ne Lx)))))))))))))) := hD
    refine lv_istore (lv' := [(5, .int (nI (kFI nsd a1 a2))), (4, .int (nI (4 * i))), (0, .ref b), (1, .ref om), (2, .ref (Ax 0)), (3, .ref oq)]) hx hb dL_law_1161 hl (by decide) rfl (fun ls hl => ?_)
    refine lv_aload_n hx hb dL_law_1163 rfl (lv_at hl 4 rfl) ?_
    refine lv_aload_n hx hb dL_law_1164 rfl (lv_at hl 2 rfl) ?_
    refine lv_iload hx hb dL_law_1165 (lv_at hl 1 rfl) ?_
    refine lv_iconst (v := 1) hx hb dL_law_1167 (by decide) ?_
    refine lv_iadd hx hb dL_law_1168 ?_
    refine va_sld hx hb hX hbl hbA hS (i := ((nI (4 * i)) + 1)) (inS1 hi hL) dL_law_1169 ?_
    refine W.eq (g2 := F0 m 1170 ls [.int a1, .ref (Ax 0)]) (congrArg (fun zz : Int32 => F0 m 1170 ls [.int zz, .ref (Ax 0)]) ea1) ?_
    refine lv_aload_n hx hb dL_law_1170 rfl (lv_at hl 2 rfl) ?_
    refine lv_iload hx hb dL_law_1171 (lv_at hl 1 rfl) ?_
    refine lv_iconst (v := 2) hx hb dL_law_1173 (by decide) ?_
    refine lv_iadd hx hb dL_law_1174 ?_
    refine va_sld hx hb hX hbl hbA hS (i := ((nI (4 * i)) + 2)) (inS2 hi hL) dL_law_1175 ?_
    refine W.eq (g2 := F0 m 1176 ls [.int a2, .int a1, .ref (Ax 0)]) (congrArg (fun zz : Int32 => F0 m 1176 ls [.int zz, .int a1, .ref (Ax 0)]) ea2) ?_
    refine kVw ⟨hx, hb, hml, hown, hts⟩ (c_X7_fire l D Ax th nsd fogd nrd nm ne Lx a1 a2 (by assumption) (by assumption) (by assumption) (by assumption)) (cwV 2 hts gL_law_X7_fire rfl rfl rfl (by decide +kernel) ⟨Nat.le_of_ble_eq_true rfl, Nat.le_of_ble_eq_true rfl⟩) hK hN hP hD hS (Fr.r (Fr.r (Fr.r (Fr.r (Fr.r (Fr.r (Fr.r (Fr.r (Fr.r (Fr.r (Fr.r (Fr.r (Fr.r frsMod))))))))))))) 7 0 rfl rfl rfl hl.1 (Nat.le_of_ble_eq_true rfl) ⟨by show _ ≤ 601024; omega, by show _ ≤ 7293034; omega⟩ dL_law_1176 (fun H locs hP hD hS => ?_) rfl
    have hP : va_P D.1 vwCl ((wMob om Ad ot ou) ++ ((wTob ot Ad Aw Am Ae xt hou cro) ++ ((wWays D Aw Lw) ++ ((wMul D Am nm Lm) ++ ((wLet D Ae ne Le) ++ ((wRow D xt yt 60 Nt) ++ ((wTob ou Ad Bw Bm Be xu hou2 cro2) ++ ((wWays D Bw Kw) ++ ((wMul D Bm nm2 Km) ++ ((wLet D Be ne2 Ke) ++ ((wRow D xu yu 60 Nu) ++ ((wLand D Ad nsd fogd nrd Ld) ++ ((wLar D oq fq) ++ (wMod D Ax ((pfi Lx nsd fogd a1 a2).2) nsd fogd nrd nm ne Lx)))))))))))))) H := hP
    have hD : va_D A0 ((wMob om Ad ot ou) ++ ((wTob ot Ad Aw Am Ae xt hou cro) ++ ((wWays D Aw Lw) ++ ((wMul D Am nm Lm) ++ ((wLet D Ae ne Le) ++ ((wRow D xt yt 60 Nt) ++ ((wTob ou Ad Bw Bm Be xu hou2 cro2) ++ ((wWays D Bw Kw) ++ ((wMul D Bm nm2 Km) ++ ((wLet D Be ne2 Ke) ++ ((wRow D xu yu 60 Nu) ++ ((wLand D Ad nsd fogd nrd Ld) ++ ((wLar D oq fq) ++ (wMod D Ax ((pfi Lx nsd fogd a1 a2).2) nsd fogd nrd nm ne Lx)))))))))))))) := hD
    refine W.eq (g2 := F0 m 1179 ls [.int ((pfi Lx nsd fogd a1 a2).1)]) rfl ?_
    have r9 := fi_rel (fog := fogd) (a := a1) (b := a2) hSY
    rw [r9.1] at hP hD
    have hP : va_P D.1 vwCl ((wMob om Ad ot ou) ++ ((wTob ot Ad Aw Am Ae xt hou cro) ++ ((wWays D Aw Lw) ++ ((wMul D Am nm Lm) ++ ((wLet D Ae ne Le) ++ ((wRow D xt yt 60 Nt) ++ ((wTob ou Ad Bw Bm Be xu hou2 cro2) ++ ((wWays D Bw Kw) ++ ((wMul D Bm nm2 Km) ++ ((wLet D Be ne2 Ke) ++ ((wRow D xu yu 60 Nu) ++ ((wLand D Ad nsd fogd nrd Ld) ++ ((wLar D oq fq) ++ (wMod D Ax (nI (kFI nsd a1 a2)) nsd fogd nrd nm ne Lx)))))))))))))) H := hP
    have hD : va_D A0 ((wMob om Ad ot ou) ++ ((wTob ot Ad Aw Am Ae xt hou cro) ++ ((wWays D Aw Lw) ++ ((wMul D Am nm Lm) ++ ((wLet D Ae ne Le) ++ ((wRow D xt yt 60 Nt) ++ ((wTob ou Ad Bw Bm Be xu hou2 cro2) ++ ((wWays D Bw Kw) ++ ((wMul D Bm nm2 Km) ++ ((wLet D Be ne2 Ke) ++ ((wRow D xu yu 60 Nu) ++ ((wLand D Ad nsd fogd nrd Ld) ++ ((wLar D oq fq) ++ (wMod D Ax (nI (kFI nsd a1 a2)) nsd fogd nrd nm ne Lx)))))))))))))) := hD
    refine lv_istore (lv' := [(6, .int ((pfi Lx nsd fogd a1 a2).1)), (5, .int (nI (kFI nsd a1 a2))), (4, .int (nI (4 * i))), (0, .ref b), (1, .ref om), (2, .ref (Ax 0)), (3, .ref oq)]) hx hb dL_law_1179 hl (by decide) rfl (fun ls hl => ?_)
    refine lv_aload_n hx hb dL_law_1181 rfl (lv_at hl 5 rfl) ?_
    refine kVp ⟨hx, hb, hml, hown, hts⟩ (c_X7_thrown l D Ax (nI (kFI nsd a1 a2)) nsd fogd nrd nm ne Lx) (cwV 0 hts gL_law_X7_thrown rfl rfl rfl (by decide +kernel) ⟨Nat.le_of_ble_eq_true rfl, Nat.le_of_ble_eq_true rfl⟩) hK hN hP hD (Sb.r (Sb.r (Sb.r (Sb.r (Sb.r (Sb.r (Sb.r (Sb.r (Sb.r (Sb.r (Sb.r (Sb.r (Sb.r Sb.self))))))))))))) 7 0 rfl rfl rfl hl.1 (Nat.le_of_ble_eq_true rfl) ⟨by show _ ≤ 601024; omega, by show _ ≤ 7293034; omega⟩ dL_law_1182 ?_ rfl
    refine lv_iload hx hb dL_law_1185 (lv_at hl 1 rfl) ?_
    refine lv_icmp_eq (tgt := 1192) hx hb dL_law_1187 (by decide) (fun c1 => ?_) (fun c1 => ?_)
    · refine lv_iload hx hb dL_law_1192 (lv_at hl 1 rfl) ?_
      refine lv_if_ne (tgt := 1209) hx hb dL_law_1194 (by decide) (fun c2 => ?_) (fun c2 => ?_)
      · refine lv_goto (tgt := 1447) hx hb dL_law_1209 (by decide) ?_
        refine lv_iinc (v := ((nI (4 * i)) + 4)) (lv' := [(4, .int ((nI (4 * i)) + 4)), (6, .int ((pfi Lx nsd fogd a1 a2).1)), (5, .int (nI (kFI nsd a1 a2))), (0, .ref b), (1, .ref om), (2, .ref (Ax 0)), (3, .ref oq)]) hx hb dL_law_1447 hl (k := 2) rfl rfl (by decide) rfl (fun ls hl => ?_)
        rw [show nI (4 * i) + 4 = nI (4 * (i + 1)) from nI_add (4 * i) 4] at hl
        refine lv_goto (tgt := 23) hx hb dL_law_1450 (by decide) ?_
        refine W.widen (k := 200 + 81 * (i + 1)) (n := 9000 + 11700 * (i + 1)) (by omega) (by omega) ?_
        exact ih Ax hou cro Lw nm Lm ne Le Nt hou2 cro2 Kw nm2 Km ne2 Ke Nu nsd fogd nrd Ld fq (nI (kFI nsd a1 a2)) Lx h hSY (by omega) H locs hP hD hS ls (lv_sub hl [0, 3, 4, 5, 6] rfl)
      · exact (nI_ne0 (Nat.pos_of_ne_zero hk9) (Nat.lt_of_le_of_lt (kFI_b _ _ _) (by decide)) c2).elim
    · exact (c1 (by first | rfl | decide)).elim
  · have hP : va_P D.1 vwCl ((wMob om Ad ot ou) ++ ((wTob ot Ad Aw Am Ae xt hou cro) ++ ((wWays D Aw Lw) ++ ((wMul D Am nm Lm) ++ ((wLet D Ae ne Le) ++ ((wRow D xt yt 60 Nt) ++ ((wTob ou Ad Bw Bm Be xu hou2 cro2) ++ ((wWays D Bw Kw) ++ ((wMul D Bm nm2 Km) ++ ((wLet D Be ne2 Ke) ++ ((wRow D xu yu 60 Nu) ++ ((wLand D Ad nsd fogd nrd Ld) ++ ((wLar D oq (vp_updL fq 0 (fireL Ld nsd fogd a2 nsd 0 (bW 0 a1)).toInt64)) ++ (wMod D Ax th nsd fogd nrd nm ne Lx)))))))))))))) H := hP
    have hD : va_D A0 ((wMob om Ad ot ou) ++ ((wTob ot Ad Aw Am Ae xt hou cro) ++ ((wWays D Aw Lw) ++ ((wMul D Am nm Lm) ++ ((wLet D Ae ne Le) ++ ((wRow D xt yt 60 Nt) ++ ((wTob ou Ad Bw Bm Be xu hou2 cro2) ++ ((wWays D Bw Kw) ++ ((wMul D Bm nm2 Km) ++ ((wLet D Be ne2 Ke) ++ ((wRow D xu yu 60 Nu) ++ ((wLand D Ad nsd fogd nrd Ld) ++ ((wLar D oq (vp_updL fq 0 (fireL Ld nsd fogd a2 nsd 0 (bW 0 a1)).toInt64)) ++ (wMod D Ax th nsd fogd nrd nm ne Lx)))))))))))))) := hD
    refine lv_istore (lv' := [(5, .int 0), (4, .int (nI (4 * i))), (0, .ref b), (1, .ref om), (2, .ref (Ax 0)), (3, .ref oq)]) hx hb dL_law_1161 hl (by decide) rfl (fun ls hl => ?_)
    refine lv_aload_n hx hb dL_law_1163 rfl (lv_at hl 4 rfl) ?_
    refine lv_aload_n hx hb dL_law_1164 rfl (lv_at hl 2 rfl) ?_
    refine lv_iload hx hb dL_law_1165 (lv_at hl 1 rfl) ?_
    refine lv_iconst (v := 1) hx hb dL_law_1167 (by decide) ?_
    refine lv_iadd hx hb dL_law_1168 ?_
    refine va_sld hx hb hX hbl hbA hS (i := ((nI (4 * i)) + 1)) (inS1 hi hL) dL_law_1169 ?_
    refine W.eq (g2 := F0 m 1170 ls [.int a1, .ref (Ax 0)]) (congrArg (fun zz : Int32 => F0 m 1170 ls [.int zz, .ref (Ax 0)]) ea1) ?_
    refine lv_aload_n hx hb dL_law_1170 rfl (lv_at hl 2 rfl) ?_
    refine lv_iload hx hb dL_law_1171 (lv_at hl 1 rfl) ?_
    refine lv_iconst (v := 2) hx hb dL_law_1173 (by decide) ?_
    refine lv_iadd hx hb dL_law_1174 ?_
    refine va_sld hx hb hX hbl hbA hS (i := ((nI (4 * i)) + 2)) (inS2 hi hL) dL_law_1175 ?_
    refine W.eq (g2 := F0 m 1176 ls [.int a2, .int a1, .ref (Ax 0)]) (congrArg (fun zz : Int32 => F0 m 1176 ls [.int zz, .int a1, .ref (Ax 0)]) ea2) ?_
    refine kVw ⟨hx, hb, hml, hown, hts⟩ (c_X7_fire l D Ax th nsd fogd nrd nm ne Lx a1 a2 (by assumption) (by assumption) (by assumption) (by assumption)) (cwV 2 hts gL_law_X7_fire rfl rfl rfl (by decide +kernel) ⟨Nat.le_of_ble_eq_true rfl, Nat.le_of_ble_eq_true rfl⟩) hK hN hP hD hS (Fr.r (Fr.r (Fr.r (Fr.r (Fr.r (Fr.r (Fr.r (Fr.r (Fr.r (Fr.r (Fr.r (Fr.r (Fr.r frsMod))))))))))))) 7 0 rfl rfl rfl hl.1 (Nat.le_of_ble_eq_true rfl) ⟨by show _ ≤ 601024; omega, by show _ ≤ 7293034; omega⟩ dL_law_1176 (fun H locs hP hD hS => ?_) rfl
    have hP : va_P D.1 vwCl ((wMob om Ad ot ou) ++ ((wTob ot Ad Aw Am Ae xt hou cro) ++ ((wWays D Aw Lw) ++ ((wMul D Am nm Lm) ++ ((wLet D Ae ne Le) ++ ((wRow D xt yt 60 Nt) ++ ((wTob ou Ad Bw Bm Be xu hou2 cro2) ++ ((wWays D Bw Kw) ++ ((wMul D Bm nm2 Km) ++ ((wLet D Be ne2 Ke) ++ ((wRow D xu yu 60 Nu) ++ ((wLand D Ad nsd fogd nrd Ld) ++ ((wLar D oq (vp_updL fq 0 (fireL Ld nsd fogd a2 nsd 0 (bW 0 a1)).toInt64)) ++ (wMod D Ax ((pfi Lx nsd fogd a1 a2).2) nsd fogd nrd nm ne Lx)))))))))))))) H := hP
    have hD : va_D A0 ((wMob om Ad ot ou) ++ ((wTob ot Ad Aw Am Ae xt hou cro) ++ ((wWays D Aw Lw) ++ ((wMul D Am nm Lm) ++ ((wLet D Ae ne Le) ++ ((wRow D xt yt 60 Nt) ++ ((wTob ou Ad Bw Bm Be xu hou2 cro2) ++ ((wWays D Bw Kw) ++ ((wMul D Bm nm2 Km) ++ ((wLet D Be ne2 Ke) ++ ((wRow D xu yu 60 Nu) ++ ((wLand D Ad nsd fogd nrd Ld) ++ ((wLar D oq (vp_updL fq 0 (fireL Ld nsd fogd a2 nsd 0 (bW 0 a1)).toInt64)) ++ (wMod D Ax ((pfi Lx nsd fogd a1 a2).2) nsd fogd nrd nm ne Lx)))))))))))))) := hD
    refine W.eq (g2 := F0 m 1179 ls [.int ((pfi Lx nsd fogd a1 a2).1)]) rfl ?_
    have r9 := fi_rel (fog := fogd) (a := a1) (b := a2) hSY
    rw [r9.1, hk9] at hP hD
    have hP : va_P D.1 vwCl ((wMob om Ad ot ou) ++ ((wTob ot Ad Aw Am Ae xt hou cro) ++ ((wWays D Aw Lw) ++ ((wMul D Am nm Lm) ++ ((wLet D Ae ne Le) ++ ((wRow D xt yt 60 Nt) ++ ((wTob ou Ad Bw Bm Be xu hou2 cro2) ++ ((wWays D Bw Kw) ++ ((wMul D Bm nm2 Km) ++ ((wLet D Be ne2 Ke) ++ ((wRow D xu yu 60 Nu) ++ ((wLand D Ad nsd fogd nrd Ld) ++ ((wLar D oq (vp_updL fq 0 (fireL Ld nsd fogd a2 nsd 0 (bW 0 a1)).toInt64)) ++ (wMod D Ax (nI 0) nsd fogd nrd nm ne Lx)))))))))))))) H := hP
    have hD : va_D A0 ((wMob om Ad ot ou) ++ ((wTob ot Ad Aw Am Ae xt hou cro) ++ ((wWays D Aw Lw) ++ ((wMul D Am nm Lm) ++ ((wLet D Ae ne Le) ++ ((wRow D xt yt 60 Nt) ++ ((wTob ou Ad Bw Bm Be xu hou2 cro2) ++ ((wWays D Bw Kw) ++ ((wMul D Bm nm2 Km) ++ ((wLet D Be ne2 Ke) ++ ((wRow D xu yu 60 Nu) ++ ((wLand D Ad nsd fogd nrd Ld) ++ ((wLar D oq (vp_updL fq 0 (fireL Ld nsd fogd a2 nsd 0 (bW 0 a1)).toInt64)) ++ (wMod D Ax (nI 0) nsd fogd nrd nm ne Lx)))))))))))))) := hD
    refine W.eq (g2 := F0 m 1179 ls [.int (fireL Ld nsd fogd a2 nsd 0 (bW 0 a1))]) (congrArg (fun zz : Int32 => F0 m 1179 ls [.int zz]) (show (pfi Lx nsd fogd a1 a2).1 = fireL Ld nsd fogd a2 nsd 0 (bW 0 a1) from r9.2 hk9)) ?_
    refine lv_istore (lv' := [(6, .int (fireL Ld nsd fogd a2 nsd 0 (bW 0 a1))), (5, .int 0), (4, .int (nI (4 * i))), (0, .ref b), (1, .ref om), (2, .ref (Ax 0)), (3, .ref oq)]) hx hb dL_law_1179 hl (by decide) rfl (fun ls hl => ?_)
    refine lv_aload_n hx hb dL_law_1181 rfl (lv_at hl 5 rfl) ?_
    refine kVp ⟨hx, hb, hml, hown, hts⟩ (c_X7_thrown l D Ax (nI 0) nsd fogd nrd nm ne Lx) (cwV 0 hts gL_law_X7_thrown rfl rfl rfl (by decide +kernel) ⟨Nat.le_of_ble_eq_true rfl, Nat.le_of_ble_eq_true rfl⟩) hK hN hP hD (Sb.r (Sb.r (Sb.r (Sb.r (Sb.r (Sb.r (Sb.r (Sb.r (Sb.r (Sb.r (Sb.r (Sb.r (Sb.r Sb.self))))))))))))) 7 0 rfl rfl rfl hl.1 (Nat.le_of_ble_eq_true rfl) ⟨by show _ ≤ 601024; omega, by show _ ≤ 7293034; omega⟩ dL_law_1182 ?_ rfl
    refine lv_iload hx hb dL_law_1185 (lv_at hl 1 rfl) ?_
    refine lv_icmp_eq (tgt := 1192) hx hb dL_law_1187 (by decide) (fun c3 => ?_) (fun c3 => ?_)
    · refine lv_iload hx hb dL_law_1192 (lv_at hl 1 rfl) ?_
      refine lv_if_ne (tgt := 1209) hx hb dL_law_1194 (by decide) (fun c4 => ?_) (fun c4 => ?_)
      · exact absurd c4 (by decide)
      · refine lv_aload_n hx hb dL_law_1197 rfl (lv_at hl 6 rfl) ?_
        refine lv_iconst (v := 0) hx hb dL_law_1198 (by decide) ?_
        refine va_lald (D := D.1) hx hb hK hP 96 1 rfl rfl (i := (0 : Int32)) (vpl (by decide)) dL_law_1199 ?_
        refine W.eq (g2 := F0 m 1200 ls [.long ((fireL Ld nsd fogd a2 nsd 0 (bW 0 a1)).toInt64)]) (congrArg (fun zz : Int64 => F0 m 1200 ls [.long zz]) (show (vp_updL fq 0 (fireL Ld nsd fogd a2 nsd 0 (bW 0 a1)).toInt64) ((0 : Int32).toNatClampNeg) = (fireL Ld nsd fogd a2 nsd 0 (bW 0 a1)).toInt64 from pk_uLs)) ?_
        refine lv_iload hx hb dL_law_1200 (lv_at hl 0 rfl) ?_
        refine lv_i2l hx hb dL_law_1202 rfl ?_
        refine W.lcmp hx hb dL_law_1203 ?_
        refine W.eq (g2 := F0 m 1204 ls [.int 0]) (congrArg (fun zz : Int32 => F0 m 1204 ls [.int zz]) (lcmp0 _)) ?_
        refine lv_if_eq (tgt := 1209) hx hb dL_law_1204 (by decide) (fun c5 => ?_) (fun c5 => ?_)
        · refine lv_goto (tgt := 1447) hx hb dL_law_1209 (by decide) ?_
          refine lv_iinc (v := ((nI (4 * i)) + 4)) (lv' := [(4, .int ((nI (4 * i)) + 4)), (6, .int (fireL Ld nsd fogd a2 nsd 0 (bW 0 a1))), (5, .int 0), (0, .ref b), (1, .ref om), (2, .ref (Ax 0)), (3, .ref oq)]) hx hb dL_law_1447 hl (k := 2) rfl rfl (by decide) rfl (fun ls hl => ?_)
          rw [show nI (4 * i) + 4 = nI (4 * (i + 1)) from nI_add (4 * i) 4] at hl
          refine lv_goto (tgt := 23) hx hb dL_law_1450 (by decide) ?_
          refine W.widen (k := 200 + 81 * (i + 1)) (n := 9000 + 11700 * (i + 1)) (by omega) (by omega) ?_
          exact ih Ax hou cro Lw nm Lm ne Le Nt hou2 cro2 Kw nm2 Km ne2 Ke Nu nsd fogd nrd Ld (vp_updL fq 0 (fireL Ld nsd fogd a2 nsd 0 (bW 0 a1)).toInt64) (nI 0) Lx h hSY (by omega) H locs hP hD hS ls (lv_sub hl [0, 3, 4, 5, 6] rfl)
        · exact absurd c5 (by decide)
    · exact (c3 (by first | rfl | decide)).elim
