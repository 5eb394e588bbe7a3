set_option maxHeartbeats 4000000 in
set_option maxRecDepth 100000 in
theorem law_c0 {p : Program} {l : Launch} {e : Env} {s : State} {m : MethodId} {below : List Frame} {meth : Method} {c : Code} {D : GG} {b L : Nat} {xs : Nat → Int32} {A0 : Nat → Prop} {om ot ou oq xt yt xu yu : Nat} {Ad Aw Am Ae Bw Bm Be : Nat → Nat} (X : LX p l s m meth c D b L xs A0) {i : Nat} (hi : 4 * i + 4 ≤ L) (ih : LG p l e s m below meth c D b L xs A0 om ot ou oq xt yt xu yu Ad Aw Am Ae Bw Bm Be (i + 1)) {a1 a2 a3 : Int32} (ea1 : xs (nI (4 * i) + 1).toNatClampNeg = a1) (ea2 : xs (nI (4 * i) + 2).toNatClampNeg = a2) (ea3 : xs (nI (4 * i) + 3).toNatClampNeg = a3)
    (Ax : Nat → Nat) (hou cro : Int32) (Lw : Fm) (nm : Nat) (Lm : Fm) (ne : Nat) (Le : Fm) (Nt : Rw) (hou2 cro2 : Int32) (Kw : Fm) (nm2 : Nat) (Km : Fm) (ne2 : Nat) (Ke : Fm) (Nu : Rw) (nsd : Nat) (fogd : Int32) (nrd : Nat) (Ld : Fm) (fq : Nat → Int64) (th : Int32) (Lx : Fm) (h : Nat) (hSY : SY Lw Ld Lm Le hou cro Lx nsd nrd nm ne h) (hh : h ≤ 100 * i) (H : Heap) (locs : List Loc) (hP : va_P D.1 vwCl ((wMob om Ad ot ou) ++ ((wTob ot Ad Aw Am Ae xt hou cro) ++ ((wWays D Aw Lw) ++ ((wMul D Am nm Lm) ++ ((wLet D Ae ne Le) ++ ((wRow D xt yt 60 Nt) ++ ((wTob ou Ad Bw Bm Be xu hou2 cro2) ++ ((wWays D Bw Kw) ++ ((wMul D Bm nm2 Km) ++ ((wLet D Be ne2 Ke) ++ ((wRow D xu yu 60 Nu) ++ ((wLand D Ad nsd fogd nrd Ld) ++ ((wLar D oq fq) ++ (wMod D Ax th nsd fogd nrd nm ne Lx)))))))))))))) H) (hD : va_D A0 ((wMob om Ad ot ou) ++ ((wTob ot Ad Aw Am Ae xt hou cro) ++ ((wWays D Aw Lw) ++ ((wMul D Am nm Lm) ++ ((wLet D Ae ne Le) ++ ((wRow D xt yt 60 Nt) ++ ((wTob ou Ad Bw Bm Be xu hou2 cro2) ++ ((wWays D Bw Kw) ++ ((wMul D Bm nm2 Km) ++ ((wLet D Be ne2 Ke) ++ ((wRow D xu yu 60 Nu) ++ ((wLand D Ad nsd fogd nrd Ld) ++ ((wLar D oq fq) ++ (wMod D Ax th nsd fogd nrd nm ne Lx))))))))))))))) (hS : va_S A0 s.heap H locs) (ls : Array Slot) (hl : lv_has ls 9 [(4, .int (nI (4 * i))), (0, .ref b), (1, .ref om), (2, .ref (Ax 0)), (3, .ref oq)]) : W p l e room_1 s m #[Value.ref b] below meth c H locs (200 + 81 * i) (9000 + 11700 * i) (lw_Z below #[Value.ref b] s) (F0 m 132 ls []) := by
  obtain ⟨hx, hb, hr, hml, hown, hts, hX, hbl, hbA, hlocks, hl9, hCX, hSX, hTX, hZX, hNX, hK, hN, hA, -, hL⟩ := X
  have hS9 : okS Lx nsd nrd nm ne := okS_rel hSY.1
  have b10 : nsd ≤ 10 := hSY.1.1.1
  have b15 : nrd ≤ 15 := hSY.1.1.2.1
  have b12 : nm ≤ 12 := hSY.1.2.2.1.1
  have b60 : ne ≤ 60 := hSY.1.2.2.2.1
  have hrE : rE Le Lx ne := hSY.1.2.2.2.2.2.2.2.2.2.1
  have he : ne < 2 ^ 31 := by omega
  have hm : nm < 2 ^ 31 := by omega
  have hns : nsd < 2 ^ 31 := by omega
  have hnr : nrd < 2 ^ 31 := by omega
  refine lv_aload_n hx hb dL_law_132 rfl (lv_at hl 2 rfl) ?_
  refine lv_aload_n hx hb dL_law_133 rfl (lv_at hl 1 rfl) ?_
  refine lv_iload hx hb dL_law_134 (lv_at hl 0 rfl) ?_
  refine lv_iconst (v := 1) hx hb dL_law_136 (by decide) ?_
  refine lv_iadd hx hb dL_law_137 ?_
  refine va_sld hx hb hX hbl hbA hS (i := ((nI (4 * i)) + 1)) (inS1 hi hL) dL_law_138 ?_
  refine W.eq (g2 := F0 m 139 ls [.int a1, .ref om]) (congrArg (fun zz : Int32 => F0 m 139 ls [.int zz, .ref om]) ea1) ?_
  refine lv_aload_n hx hb dL_law_139 rfl (lv_at hl 4 rfl) ?_
  refine kSL ⟨hx, hb, hml, hown, hts⟩ (c_L_addStation l D om Ad ot ou Aw Am Ae xt hou cro Lw nm Lm ne Le yt Nt nsd fogd nrd Ld oq fq a1 _ hl9) (vx_cwSW 3 hts gL_law_L_addStation rfl rfl rfl (by decide +kernel) ⟨Nat.le_of_ble_eq_true rfl, Nat.le_of_ble_eq_true rfl⟩) hCX hSX hTX hZX hNX hK hN hP hD hS hA (fun z => (Fr.app (Fr.kp Sb.self) (Fr.app (Fr.kp Sb.self) (Fr.app (Fr.kp Sb.self) (Fr.app (Fr.kp Sb.self) (Fr.app (Fr.kp Sb.self) (Fr.app (Fr.kp Sb.self) (Fr.r (Fr.r (Fr.r (Fr.r (Fr.r (Fr.app frsLand (Fr.l frsLar)))))))))))))) (Sb.app Sb.self (Sb.app Sb.self (Sb.app Sb.self (Sb.app Sb.self (Sb.app Sb.self (Sb.app Sb.self (Sb.r (Sb.r (Sb.r (Sb.r (Sb.r (Sb.app Sb.self (Sb.l Sb.self))))))))))))) rfl hl.1 (Nat.le_of_ble_eq_true rfl) ⟨by show _ ≤ 601024; omega, by show _ ≤ 7293034; omega⟩ dL_law_140 (fun H locs hk9 hP hD hS => ?_) (fun z H locs hk9 hP hD hS => ?_) rfl
  · have hP : va_P D.1 vwCl ((wMob om Ad ot ou) ++ ((wTob ot Ad Aw Am Ae xt hou cro) ++ ((wWays D Aw Lw) ++ ((wMul D Am nm Lm) ++ ((wLet D Ae ne Le) ++ ((wRow D xt yt 60 Nt) ++ ((wTob ou Ad Bw Bm Be xu hou2 cro2) ++ ((wWays D Bw Kw) ++ ((wMul D Bm nm2 Km) ++ ((wLet D Be ne2 Ke) ++ ((wRow D xu yu 60 Nu) ++ ((wLand D Ad nsd fogd nrd Ld) ++ ((wLar D oq fq) ++ (wMod D Ax th nsd fogd nrd nm ne Lx)))))))))))))) H := hP
    have hD : va_D A0 ((wMob om Ad ot ou) ++ ((wTob ot Ad Aw Am Ae xt hou cro) ++ ((wWays D Aw Lw) ++ ((wMul D Am nm Lm) ++ ((wLet D Ae ne Le) ++ ((wRow D xt yt 60 Nt) ++ ((wTob ou Ad Bw Bm Be xu hou2 cro2) ++ ((wWays D Bw Kw) ++ ((wMul D Bm nm2 Km) ++ ((wLet D Be ne2 Ke) ++ ((wRow D xu yu 60 Nu) ++ ((wLand D Ad nsd fogd nrd Ld) ++ ((wLar D oq fq) ++ (wMod D Ax th nsd fogd nrd nm ne Lx)))))))))))))) := hD
    refine lv_istore (lv' := [(5, .int (nI (kAS nsd a1))), (4, .int (nI (4 * i))), (0, .ref b), (1, .ref om), (2, .ref (Ax 0)), (3, .ref oq)]) hx hb dL_law_143 hl (by decide) rfl (fun ls hl => ?_)
    refine lv_aload_n hx hb dL_law_145 rfl (lv_at hl 4 rfl) ?_
    refine lv_aload_n hx hb dL_law_146 rfl (lv_at hl 2 rfl) ?_
    refine lv_iload hx hb dL_law_147 (lv_at hl 1 rfl) ?_
    refine lv_iconst (v := 1) hx hb dL_law_149 (by decide) ?_
    refine lv_iadd hx hb dL_law_150 ?_
    refine va_sld hx hb hX hbl hbA hS (i := ((nI (4 * i)) + 1)) (inS1 hi hL) dL_law_151 ?_
    refine W.eq (g2 := F0 m 152 ls [.int a1, .ref (Ax 0)]) (congrArg (fun zz : Int32 => F0 m 152 ls [.int zz, .ref (Ax 0)]) ea1) ?_
    refine kVw ⟨hx, hb, hml, hown, hts⟩ (c_X7_addStation l D Ax th nsd fogd nrd nm ne Lx a1 (by assumption) (by assumption) (by assumption) (by assumption)) (cwV 1 hts gL_law_X7_addStation rfl rfl rfl (by decide +kernel) ⟨Nat.le_of_ble_eq_true rfl, Nat.le_of_ble_eq_true rfl⟩) hK hN hP hD hS (Fr.r (Fr.r (Fr.r (Fr.r (Fr.r (Fr.r (Fr.r (Fr.r (Fr.r (Fr.r (Fr.r (Fr.r (Fr.r frsMod))))))))))))) 7 0 rfl rfl rfl hl.1 (Nat.le_of_ble_eq_true rfl) ⟨by show _ ≤ 601024; omega, by show _ ≤ 7293034; omega⟩ dL_law_152 (fun H locs hP hD hS => ?_) rfl
    have hP : va_P D.1 vwCl ((wMob om Ad ot ou) ++ ((wTob ot Ad Aw Am Ae xt hou cro) ++ ((wWays D Aw Lw) ++ ((wMul D Am nm Lm) ++ ((wLet D Ae ne Le) ++ ((wRow D xt yt 60 Nt) ++ ((wTob ou Ad Bw Bm Be xu hou2 cro2) ++ ((wWays D Bw Kw) ++ ((wMul D Bm nm2 Km) ++ ((wLet D Be ne2 Ke) ++ ((wRow D xu yu 60 Nu) ++ ((wLand D Ad nsd fogd nrd Ld) ++ ((wLar D oq fq) ++ (wMod D Ax ((pas Lx nsd a1).2.1) ((pas Lx nsd a1).2.2.1) fogd nrd nm ne ((pas Lx nsd a1).2.2.2))))))))))))))) H := hP
    have hD : va_D A0 ((wMob om Ad ot ou) ++ ((wTob ot Ad Aw Am Ae xt hou cro) ++ ((wWays D Aw Lw) ++ ((wMul D Am nm Lm) ++ ((wLet D Ae ne Le) ++ ((wRow D xt yt 60 Nt) ++ ((wTob ou Ad Bw Bm Be xu hou2 cro2) ++ ((wWays D Bw Kw) ++ ((wMul D Bm nm2 Km) ++ ((wLet D Be ne2 Ke) ++ ((wRow D xu yu 60 Nu) ++ ((wLand D Ad nsd fogd nrd Ld) ++ ((wLar D oq fq) ++ (wMod D Ax ((pas Lx nsd a1).2.1) ((pas Lx nsd a1).2.2.1) fogd nrd nm ne ((pas Lx nsd a1).2.2.2))))))))))))))) := hD
    refine W.eq (g2 := F0 m 155 ls [.int ((pas Lx nsd a1).1)]) rfl ?_
    have r9 := as_rel (p := a1) hSY
    rw [r9.1, r9.2.1 hk9] at hP hD
    have hP : va_P D.1 vwCl ((wMob om Ad ot ou) ++ ((wTob ot Ad Aw Am Ae xt hou cro) ++ ((wWays D Aw Lw) ++ ((wMul D Am nm Lm) ++ ((wLet D Ae ne Le) ++ ((wRow D xt yt 60 Nt) ++ ((wTob ou Ad Bw Bm Be xu hou2 cro2) ++ ((wWays D Bw Kw) ++ ((wMul D Bm nm2 Km) ++ ((wLet D Be ne2 Ke) ++ ((wRow D xu yu 60 Nu) ++ ((wLand D Ad nsd fogd nrd Ld) ++ ((wLar D oq fq) ++ (wMod D Ax (nI (kAS nsd a1)) nsd fogd nrd nm ne Lx)))))))))))))) H := hP
    have hD : va_D A0 ((wMob om Ad ot ou) ++ ((wTob ot Ad Aw Am Ae xt hou cro) ++ ((wWays D Aw Lw) ++ ((wMul D Am nm Lm) ++ ((wLet D Ae ne Le) ++ ((wRow D xt yt 60 Nt) ++ ((wTob ou Ad Bw Bm Be xu hou2 cro2) ++ ((wWays D Bw Kw) ++ ((wMul D Bm nm2 Km) ++ ((wLet D Be ne2 Ke) ++ ((wRow D xu yu 60 Nu) ++ ((wLand D Ad nsd fogd nrd Ld) ++ ((wLar D oq fq) ++ (wMod D Ax (nI (kAS nsd a1)) nsd fogd nrd nm ne Lx)))))))))))))) := hD
    refine lv_istore (lv' := [(6, .int ((pas Lx nsd a1).1)), (5, .int (nI (kAS nsd a1))), (4, .int (nI (4 * i))), (0, .ref b), (1, .ref om), (2, .ref (Ax 0)), (3, .ref oq)]) hx hb dL_law_155 hl (by decide) rfl (fun ls hl => ?_)
    refine lv_aload_n hx hb dL_law_157 rfl (lv_at hl 5 rfl) ?_
    refine kVp ⟨hx, hb, hml, hown, hts⟩ (c_X7_thrown l D Ax (nI (kAS nsd a1)) nsd fogd nrd nm ne Lx) (cwV 0 hts gL_law_X7_thrown rfl rfl rfl (by decide +kernel) ⟨Nat.le_of_ble_eq_true rfl, Nat.le_of_ble_eq_true rfl⟩) hK hN hP hD (Sb.r (Sb.r (Sb.r (Sb.r (Sb.r (Sb.r (Sb.r (Sb.r (Sb.r (Sb.r (Sb.r (Sb.r (Sb.r Sb.self))))))))))))) 7 0 rfl rfl rfl hl.1 (Nat.le_of_ble_eq_true rfl) ⟨by show _ ≤ 601024; omega, by show _ ≤ 7293034; omega⟩ dL_law_158 ?_ rfl
    refine lv_iload hx hb dL_law_161 (lv_at hl 1 rfl) ?_
    refine lv_icmp_eq (tgt := 168) hx hb dL_law_163 (by decide) (fun c1 => ?_) (fun c1 => ?_)
    · refine lv_iload hx hb dL_law_168 (lv_at hl 1 rfl) ?_
      refine lv_if_ne (tgt := 185) hx hb dL_law_170 (by decide) (fun c2 => ?_) (fun c2 => ?_)
      · refine lv_goto (tgt := 1447) hx hb dL_law_185 (by decide) ?_
        refine lv_iinc (v := ((nI (4 * i)) + 4)) (lv' := [(4, .int ((nI (4 * i)) + 4)), (6, .int ((pas Lx nsd a1).1)), (5, .int (nI (kAS nsd a1))), (0, .ref b), (1, .ref om), (2, .ref (Ax 0)), (3, .ref oq)]) hx hb dL_law_1447 hl (k := 2) rfl rfl (by decide) rfl (fun ls hl => ?_)
        rw [show nI (4 * i) + 4 = nI (4 * (i + 1)) from nI_add (4 * i) 4] at hl
        refine lv_goto (tgt := 23) hx hb dL_law_1450 (by decide) ?_
        refine W.widen (k := 200 + 81 * (i + 1)) (n := 9000 + 11700 * (i + 1)) (by omega) (by omega) ?_
        exact ih Ax hou cro Lw nm Lm ne Le Nt hou2 cro2 Kw nm2 Km ne2 Ke Nu nsd fogd nrd Ld fq (nI (kAS nsd a1)) Lx h hSY (by omega) H locs hP hD hS ls (lv_sub hl [0, 3, 4, 5, 6] rfl)
      · exact (nI_ne0 (Nat.pos_of_ne_zero hk9) (Nat.lt_of_le_of_lt (kAS_b _ _) (by decide)) c2).elim
    · exact (c1 (by first | rfl | decide)).elim
  · have hP : va_P D.1 vwCl ((wMob om Ad ot ou) ++ ((wTob ot Ad Aw Am Ae xt hou cro) ++ ((wWays D Aw Lw) ++ ((wMul D Am nm Lm) ++ ((wLet D Ae ne Le) ++ ((wRow D xt yt 60 Nt) ++ ((wTob ou Ad Bw Bm Be xu hou2 cro2) ++ ((wWays D Bw Kw) ++ ((wMul D Bm nm2 Km) ++ ((wLet D Be ne2 Ke) ++ ((wRow D xu yu 60 Nu) ++ ((wLand D Ad (nsd + 1) fogd nrd (sr Ld 0 (rs 10 (Ld 0) (nI nsd) a1))) ++ ((wLar D oq (vp_updL fq 0 (nI nsd).toInt64)) ++ (wMod D Ax th nsd fogd nrd nm ne Lx)))))))))))))) H := hP
    have hD : va_D A0 ((wMob om Ad ot ou) ++ ((wTob ot Ad Aw Am Ae xt hou cro) ++ ((wWays D Aw Lw) ++ ((wMul D Am nm Lm) ++ ((wLet D Ae ne Le) ++ ((wRow D xt yt 60 Nt) ++ ((wTob ou Ad Bw Bm Be xu hou2 cro2) ++ ((wWays D Bw Kw) ++ ((wMul D Bm nm2 Km) ++ ((wLet D Be ne2 Ke) ++ ((wRow D xu yu 60 Nu) ++ ((wLand D Ad (nsd + 1) fogd nrd (sr Ld 0 (rs 10 (Ld 0) (nI nsd) a1))) ++ ((wLar D oq (vp_updL fq 0 (nI nsd).toInt64)) ++ (wMod D Ax th nsd fogd nrd nm ne Lx)))))))))))))) := hD
    refine lv_istore (lv' := [(5, .int 0), (4, .int (nI (4 * i))), (0, .ref b), (1, .ref om), (2, .ref (Ax 0)), (3, .ref oq)]) hx hb dL_law_143 hl (by decide) rfl (fun ls hl => ?_)
    refine lv_aload_n hx hb dL_law_145 rfl (lv_at hl 4 rfl) ?_
    refine lv_aload_n hx hb dL_law_146 rfl (lv_at hl 2 rfl) ?_
    refine lv_iload hx hb dL_law_147 (lv_at hl 1 rfl) ?_
    refine lv_iconst (v := 1) hx hb dL_law_149 (by decide) ?_
    refine lv_iadd hx hb dL_law_150 ?_
    refine va_sld hx hb hX hbl hbA hS (i := ((nI (4 * i)) + 1)) (inS1 hi hL) dL_law_151 ?_
    refine W.eq (g2 := F0 m 152 ls [.int a1, .ref (Ax 0)]) (congrArg (fun zz : Int32 => F0 m 152 ls [.int zz, .ref (Ax 0)]) ea1) ?_
    refine kVw ⟨hx, hb, hml, hown, hts⟩ (c_X7_addStation l D Ax th nsd fogd nrd nm ne Lx a1 (by assumption) (by assumption) (by assumption) (by assumption)) (cwV 1 hts gL_law_X7_addStation rfl rfl rfl (by decide +kernel) ⟨Nat.le_of_ble_eq_true rfl, Nat.le_of_ble_eq_true rfl⟩) hK hN hP hD hS (Fr.r (Fr.r (Fr.r (Fr.r (Fr.r (Fr.r (Fr.r (Fr.r (Fr.r (Fr.r (Fr.r (Fr.r (Fr.r frsMod))))))))))))) 7 0 rfl rfl rfl hl.1 (Nat.le_of_ble_eq_true rfl) ⟨by show _ ≤ 601024; omega, by show _ ≤ 7293034; omega⟩ dL_law_152 (fun H locs hP hD hS => ?_) rfl
    have hP : va_P D.1 vwCl ((wMob om Ad ot ou) ++ ((wTob ot Ad Aw Am Ae xt hou cro) ++ ((wWays D Aw Lw) ++ ((wMul D Am nm Lm) ++ ((wLet D Ae ne Le) ++ ((wRow D xt yt 60 Nt) ++ ((wTob ou Ad Bw Bm Be xu hou2 cro2) ++ ((wWays D Bw Kw) ++ ((wMul D Bm nm2 Km) ++ ((wLet D Be ne2 Ke) ++ ((wRow D xu yu 60 Nu) ++ ((wLand D Ad (nsd + 1) fogd nrd (sr Ld 0 (rs 10 (Ld 0) (nI nsd) a1))) ++ ((wLar D oq (vp_updL fq 0 (nI nsd).toInt64)) ++ (wMod D Ax ((pas Lx nsd a1).2.1) ((pas Lx nsd a1).2.2.1) fogd nrd nm ne ((pas Lx nsd a1).2.2.2))))))))))))))) H := hP
    have hD : va_D A0 ((wMob om Ad ot ou) ++ ((wTob ot Ad Aw Am Ae xt hou cro) ++ ((wWays D Aw Lw) ++ ((wMul D Am nm Lm) ++ ((wLet D Ae ne Le) ++ ((wRow D xt yt 60 Nt) ++ ((wTob ou Ad Bw Bm Be xu hou2 cro2) ++ ((wWays D Bw Kw) ++ ((wMul D Bm nm2 Km) ++ ((wLet D Be ne2 Ke) ++ ((wRow D xu yu 60 Nu) ++ ((wLand D Ad (nsd + 1) fogd nrd (sr Ld 0 (rs 10 (Ld 0) (nI nsd) a1))) ++ ((wLar D oq (vp_updL fq 0 (nI nsd).toInt64)) ++ (wMod D Ax ((pas Lx nsd a1).2.1) ((pas Lx nsd a1).2.2.1) fogd nrd nm ne ((pas Lx nsd a1).2.2.2))))))))))))))) := hD
    refine W.eq (g2 := F0 m 155 ls [.int ((pas Lx nsd a1).1)]) rfl ?_
    have r9 := as_rel (p := a1) hSY
    rw [r9.1, hk9, (r9.2.2 hk9).2.1] at hP hD
    have hP : va_P D.1 vwCl ((wMob om Ad ot ou) ++ ((wTob ot Ad Aw Am Ae xt hou cro) ++ ((wWays D Aw Lw) ++ ((wMul D Am nm Lm) ++ ((wLet D Ae ne Le) ++ ((wRow D xt yt 60 Nt) ++ ((wTob ou Ad Bw Bm Be xu hou2 cro2) ++ ((wWays D Bw Kw) ++ ((wMul D Bm nm2 Km) ++ ((wLet D Be ne2 Ke) ++ ((wRow D xu yu 60 Nu) ++ ((wLand D Ad (nsd + 1) fogd nrd (sr Ld 0 (rs 10 (Ld 0) (nI nsd) a1))) ++ ((wLar D oq (vp_updL fq 0 (nI nsd).toInt64)) ++ (wMod D Ax (nI 0) (nsd + 1) fogd nrd nm ne ((pas Lx nsd a1).2.2.2))))))))))))))) H := hP
    have hD : va_D A0 ((wMob om Ad ot ou) ++ ((wTob ot Ad Aw Am Ae xt hou cro) ++ ((wWays D Aw Lw) ++ ((wMul D Am nm Lm) ++ ((wLet D Ae ne Le) ++ ((wRow D xt yt 60 Nt) ++ ((wTob ou Ad Bw Bm Be xu hou2 cro2) ++ ((wWays D Bw Kw) ++ ((wMul D Bm nm2 Km) ++ ((wLet D Be ne2 Ke) ++ ((wRow D xu yu 60 Nu) ++ ((wLand D Ad (nsd + 1) fogd nrd (sr Ld 0 (rs 10 (Ld 0) (nI nsd) a1))) ++ ((wLar D oq (vp_updL fq 0 (nI nsd).toInt64)) ++ (wMod D Ax (nI 0) (nsd + 1) fogd nrd nm ne ((pas Lx nsd a1).2.2.2))))))))))))))) := hD
    refine W.eq (g2 := F0 m 155 ls [.int (nI nsd)]) (congrArg (fun zz : Int32 => F0 m 155 ls [.int zz]) (show (pas Lx nsd a1).1 = nI nsd from (r9.2.2 hk9).1)) ?_
    refine lv_istore (lv' := [(6, .int (nI nsd)), (5, .int 0), (4, .int (nI (4 * i))), (0, .ref b), (1, .ref om), (2, .ref (Ax 0)), (3, .ref oq)]) hx hb dL_law_155 hl (by decide) rfl (fun ls hl => ?_)
    refine lv_aload_n hx hb dL_law_157 rfl (lv_at hl 5 rfl) ?_
    refine kVp ⟨hx, hb, hml, hown, hts⟩ (c_X7_thrown l D Ax (nI 0) (nsd + 1) fogd nrd nm ne ((pas Lx nsd a1).2.2.2)) (cwV 0 hts gL_law_X7_thrown rfl rfl rfl (by decide +kernel) ⟨Nat.le_of_ble_eq_true rfl, Nat.le_of_ble_eq_true rfl⟩) hK hN hP hD (Sb.r (Sb.r (Sb.r (Sb.r (Sb.r (Sb.r (Sb.r (Sb.r (Sb.r (Sb.r (Sb.r (Sb.r (Sb.r Sb.self))))))))))))) 7 0 rfl rfl rfl hl.1 (Nat.le_of_ble_eq_true rfl) ⟨by show _ ≤ 601024; omega, by show _ ≤ 7293034; omega⟩ dL_law_158 ?_ rfl
    refine lv_iload hx hb dL_law_161 (lv_at hl 1 rfl) ?_
    refine lv_icmp_eq (tgt := 168) hx hb dL_law_163 (by decide) (fun c3 => ?_) (fun c3 => ?_)
    · refine lv_iload hx hb dL_law_168 (lv_at hl 1 rfl) ?_
      refine lv_if_ne (tgt := 185) hx hb dL_law_170 (by decide) (fun c4 => ?_) (fun c4 => ?_)
      · exact absurd c4 (by decide)
      · refine lv_aload_n hx hb dL_law_173 rfl (lv_at hl 6 rfl) ?_
        refine lv_iconst (v := 0) hx hb dL_law_174 (by decide) ?_
        refine va_lald (D := D.1) hx hb hK hP 96 1 rfl rfl (i := (0 : Int32)) (vpl (by decide)) dL_law_175 ?_
        refine W.eq (g2 := F0 m 176 ls [.long ((nI nsd).toInt64)]) (congrArg (fun zz : Int64 => F0 m 176 ls [.long zz]) (show (vp_updL fq 0 (nI nsd).toInt64) ((0 : Int32).toNatClampNeg) = (nI nsd).toInt64 from pk_uLs)) ?_
        refine lv_iload hx hb dL_law_176 (lv_at hl 0 rfl) ?_
        refine lv_i2l hx hb dL_law_178 rfl ?_
        refine W.lcmp hx hb dL_law_179 ?_
        refine W.eq (g2 := F0 m 180 ls [.int 0]) (congrArg (fun zz : Int32 => F0 m 180 ls [.int zz]) (lcmp0 _)) ?_
        refine lv_if_eq (tgt := 185) hx hb dL_law_180 (by decide) (fun c5 => ?_) (fun c5 => ?_)
        · refine lv_goto (tgt := 1447) hx hb dL_law_185 (by decide) ?_
          refine lv_iinc (v := ((nI (4 * i)) + 4)) (lv' := [(4, .int ((nI (4 * i)) + 4)), (6, .int (nI nsd)), (5, .int 0), (0, .ref b), (1, .ref om), (2, .ref (Ax 0)), (3, .ref oq)]) hx hb dL_law_1447 hl (k := 2) rfl rfl (by decide) rfl (fun ls hl => ?_)
          rw [show nI (4 * i) + 4 = nI (4 * (i + 1)) from nI_add (4 * i) 4] at hl
          refine lv_goto (tgt := 23) hx hb dL_law_1450 (by decide) ?_
          refine W.widen (k := 200 + 81 * (i + 1)) (n := 9000 + 11700 * (i + 1)) (by omega) (by omega) ?_
          exact ih Ax hou cro Lw nm Lm ne Le Nt hou2 cro2 Kw nm2 Km ne2 Ke Nu (nsd + 1) fogd nrd (sr Ld 0 (rs 10 (Ld 0) (nI nsd) a1)) (vp_updL fq 0 (nI nsd).toInt64) (nI 0) ((pas Lx nsd a1).2.2.2) h (r9.2.2 hk9).2.2 (by omega) H locs hP hD hS ls (lv_sub hl [0, 3, 4, 5, 6] rfl)
        · exact absurd c5 (by decide)
    · exact (c3 (by first | rfl | decide)).elim

set_option maxHeartbeats 4000000 in
set_option maxRecDepth 100000 in
theorem law_c15 {p : Program} {l : Launch} {e : Env} {s : State} {m : MethodId} {below : List Frame} {meth : Method} {c : Code} {D : GG} {b L : Nat} {xs : Nat → Int32} {A0 : Nat → Prop} {om ot ou oq xt yt xu yu : Nat} {Ad Aw Am Ae Bw Bm Be : Nat → Nat} (X : LX p l s m meth c D b L xs A0) {i : Nat} (hi : 4 * i + 4 ≤ L) (ih : LG p l e s m below meth c D b L xs A0 om ot ou oq xt yt xu yu Ad Aw Am Ae Bw Bm Be (i + 1)) {a1 a2 a3 : Int32} (ea1 : xs (nI (4 * i) + 1).toNatClampNeg = a1) (ea2 : xs (nI (4 * i) + 2).toNatClampNeg = a2) (ea3 : xs (nI (4 * i) + 3).toNatClampNeg = a3)
    (Ax : Nat → Nat) (hou cro : Int32) (Lw : Fm) (nm : Nat) (Lm : Fm) (ne : Nat) (Le : Fm) (Nt : Rw) (hou2 cro2 : Int32) (Kw : Fm) (nm2 : Nat) (Km : Fm) (ne2 : Nat) (Ke : Fm) (Nu : Rw) (nsd : Nat) (fogd : Int32) (nrd : Nat) (Ld : Fm) (fq : Nat → Int64) (th : Int32) (Lx : Fm) (h : Nat) (hSY : SY Lw Ld Lm Le hou cro Lx nsd nrd nm ne h) (hh : h ≤ 100 * i) (H : Heap) (locs : List Loc) (hP : va_P D.1 vwCl ((wMob om Ad ot ou) ++ ((wTob ot Ad Aw Am Ae xt hou cro) ++ ((wWays D Aw Lw) ++ ((wMul D Am nm Lm) ++ ((wLet D Ae ne Le) ++ ((wRow D xt yt 60 Nt) ++ ((wTob ou Ad Bw Bm Be xu hou2 cro2) ++ ((wWays D Bw Kw) ++ ((wMul D Bm nm2 Km) ++ ((wLet D Be ne2 Ke) ++ ((wRow D xu yu 60 Nu) ++ ((wLand D Ad nsd fogd nrd Ld) ++ ((wLar D oq fq) ++ (wMod D Ax th nsd fogd nrd nm ne Lx)))))))))))))) H) (hD : va_D A0 ((wMob om Ad ot ou) ++ ((wTob ot Ad Aw Am Ae xt hou cro) ++ ((wWays D Aw Lw) ++ ((wMul D Am nm Lm) ++ ((wLet D Ae ne Le) ++ ((wRow D xt yt 60 Nt) ++ ((wTob ou Ad Bw Bm Be xu hou2 cro2) ++ ((wWays D Bw Kw) ++ ((wMul D Bm nm2 Km) ++ ((wLet D Be ne2 Ke) ++ ((wRow D xu yu 60 Nu) ++ ((wLand D Ad nsd fogd nrd Ld) ++ ((wLar D oq fq) ++ (wMod D Ax th nsd fogd nrd nm ne Lx))))))))))))))) (hS : va_S A0 s.heap H locs) (ls : Array Slot) (hl : lv_has ls 9 [(4, .int (nI (4 * i))), (0, .ref b), (1, .ref om), (2, .ref (Ax 0)), (3, .ref oq)]) : W p l e room_1 s m #[Value.ref b] below meth c H locs (200 + 81 * i) (9000 + 11700 * i) (lw_Z below #[Value.ref b] s) (F0 m 1212 ls []) := by
  obtain ⟨hx, hb, hr, hml, hown, hts, hX, hbl, hbA, hlocks, hl9, hCX, hSX, hTX, hZX, hNX, hK, hN, hA, -, hL⟩ := X
  have hS9 : okS Lx nsd nrd nm ne := okS_rel hSY.1
  have b10 : nsd ≤ 10 := hSY.1.1.1
  have b15 : nrd ≤ 15 := hSY.1.1.2.1
  have b12 : nm ≤ 12 := hSY.1.2.2.1.1
  have b60 : ne ≤ 60 := hSY.1.2.2.2.1
  have hrE : rE Le Lx ne := hSY.1.2.2.2.2.2.2.2.2.2.1
  have he : ne < 2 ^ 31 := by omega
  have hm : nm < 2 ^ 31 := by omega
  have hns : nsd < 2 ^ 31 := by omega
  have hnr : nrd < 2 ^ 31 := by omega
  refine lv_aload_n hx hb dL_law_1212 rfl (lv_at hl 2 rfl) ?_
  refine lv_aload_n hx hb dL_law_1213 rfl (lv_at hl 1 rfl) ?_
  refine lv_iload hx hb dL_law_1214 (lv_at hl 0 rfl) ?_
  refine lv_iconst (v := 1) hx hb dL_law_1216 (by decide) ?_
  refine lv_iadd hx hb dL_law_1217 ?_
  refine va_sld hx hb hX hbl hbA hS (i := ((nI (4 * i)) + 1)) (inS1 hi hL) dL_law_1218 ?_
  refine W.eq (g2 := F0 m 1219 ls [.int a1, .ref om]) (congrArg (fun zz : Int32 => F0 m 1219 ls [.int zz, .ref om]) ea1) ?_
  refine lv_aload_n hx hb dL_law_1219 rfl (lv_at hl 1 rfl) ?_
  refine lv_iload hx hb dL_law_1220 (lv_at hl 0 rfl) ?_
  refine lv_iconst (v := 2) hx hb dL_law_1222 (by decide) ?_
  refine lv_iadd hx hb dL_law_1223 ?_
  refine va_sld hx hb hX hbl hbA hS (i := ((nI (4 * i)) + 2)) (inS2 hi hL) dL_law_1224 ?_
  refine W.eq (g2 := F0 m 1225 ls [.int a2, .int a1, .ref om]) (congrArg (fun zz : Int32 => F0 m 1225 ls [.int zz, .int a1, .ref om]) ea2) ?_
  refine lv_aload_n hx hb dL_law_1225 rfl (lv_at hl 4 rfl) ?_
  refine kSL ⟨hx, hb, hml, hown, hts⟩ (c_L_foresee l D om Ad ot ou Aw Am Ae xt hou cro Lw nm Lm ne Le yt Nt Bw Bm Be xu hou2 cro2 Kw nm2 Km ne2 Ke yu Nu nsd fogd nrd Ld oq fq a1 a2 _ (by assumption) (by assumption) (by assumption) hl9) (vx_cwSW 4 hts gL_law_L_foresee rfl rfl rfl (by decide +kernel) ⟨Nat.le_of_ble_eq_true rfl, Nat.le_of_ble_eq_true rfl⟩) hCX hSX hTX hZX hNX hK hN hP hD hS hA (fun z => (Fr.app (Fr.kp Sb.self) (Fr.app (Fr.kp Sb.self) (Fr.app (Fr.kp Sb.self) (Fr.app (Fr.kp Sb.self) (Fr.app (Fr.kp Sb.self) (Fr.app (Fr.kp Sb.self) (Fr.app frsTob (Fr.app frsWays (Fr.app frsMul (Fr.app frsLet (Fr.app frsRow (Fr.app (Fr.kp Sb.self) (Fr.l frsLar)))))))))))))) (Sb.app Sb.self (Sb.app Sb.self (Sb.app Sb.self (Sb.app Sb.self (Sb.app Sb.self (Sb.app Sb.self (Sb.app Sb.self (Sb.app Sb.self (Sb.app Sb.self (Sb.app Sb.self (Sb.app Sb.self (Sb.app Sb.self (Sb.l Sb.self))))))))))))) rfl hl.1 (Nat.le_of_ble_eq_true rfl) ⟨by show _ ≤ 601024; omega, by show _ ≤ 7293034; omega⟩ dL_law_1226 (fun H locs hk9 hP hD hS => ?_) (fun z H locs hk9 hP hD hS => ?_) rfl
  · have hP : va_P D.1 vwCl ((wMob om Ad ot ou) ++ ((wTob ot Ad Aw Am Ae xt hou cro) ++ ((wWays D Aw Lw) ++ ((wMul D Am nm Lm) ++ ((wLet D Ae ne Le) ++ ((wRow D xt yt 60 Nt) ++ ((wTob ou Ad Bw Bm Be xu hou2 cro2) ++ ((wWays D Bw Kw) ++ ((wMul D Bm nm2 Km) ++ ((wLet D Be ne2 Ke) ++ ((wRow D xu yu 60 Nu) ++ ((wLand D Ad nsd fogd nrd Ld) ++ ((wLar D oq fq) ++ (wMod D Ax th nsd fogd nrd nm ne Lx)))))))))))))) H := hP
    have hD : va_D A0 ((wMob om Ad ot ou) ++ ((wTob ot Ad Aw Am Ae xt hou cro) ++ ((wWays D Aw Lw) ++ ((wMul D Am nm Lm) ++ ((wLet D Ae ne Le) ++ ((wRow D xt yt 60 Nt) ++ ((wTob ou Ad Bw Bm Be xu hou2 cro2) ++ ((wWays D Bw Kw) ++ ((wMul D Bm nm2 Km) ++ ((wLet D Be ne2 Ke) ++ ((wRow D xu yu 60 Nu) ++ ((wLand D Ad nsd fogd nrd Ld) ++ ((wLar D oq fq) ++ (wMod D Ax th nsd fogd nrd nm ne Lx)))))))))))))) := hD
    refine lv_istore (lv' := [(5, .int (nI (kFO ne a1 a2))), (4, .int (nI (4 * i))), (0, .ref b), (1, .ref om), (2, .ref (Ax 0)), (3, .ref oq)]) hx hb dL_law_1229 hl (by decide) rfl (fun ls hl => ?_)
    refine lv_aload_n hx hb dL_law_1231 rfl (lv_at hl 4 rfl) ?_
    refine lv_aload_n hx hb dL_law_1232 rfl (lv_at hl 2 rfl) ?_
    refine lv_iload hx hb dL_law_1233 (lv_at hl 1 rfl) ?_
    refine lv_iconst (v := 1) hx hb dL_law_1235 (by decide) ?_
    refine lv_iadd hx hb dL_law_1236 ?_
    refine va_sld hx hb hX hbl hbA hS (i := ((nI (4 * i)) + 1)) (inS1 hi hL) dL_law_1237 ?_
    refine W.eq (g2 := F0 m 1238 ls [.int a1, .ref (Ax 0)]) (congrArg (fun zz : Int32 => F0 m 1238 ls [.int zz, .ref (Ax 0)]) ea1) ?_
    refine lv_aload_n hx hb dL_law_1238 rfl (lv_at hl 2 rfl) ?_
    refine lv_iload hx hb dL_law_1239 (lv_at hl 1 rfl) ?_
    refine lv_iconst (v := 2) hx hb dL_law_1241 (by decide) ?_
    refine lv_iadd hx hb dL_law_1242 ?_
    refine va_sld hx hb hX hbl hbA hS (i := ((nI (4 * i)) + 2)) (inS2 hi hL) dL_law_1243 ?_
    refine W.eq (g2 := F0 m 1244 ls [.int a2, .int a1, .ref (Ax 0)]) (congrArg (fun zz : Int32 => F0 m 1244 ls [.int zz, .int a1, .ref (Ax 0)]) ea2) ?_
    refine kVx ⟨hx, hb, hml, hown, hts⟩ (c_X7_foresee l D Ax th nsd fogd nrd nm ne Lx a1 a2 _ (by assumption) (by assumption) (by assumption) (by assumption) hS9) (cwV 2 hts gL_law_X7_foresee rfl rfl rfl (by decide +kernel) ⟨Nat.le_of_ble_eq_true rfl, Nat.le_of_ble_eq_true rfl⟩) (preVX hNX hK hN hP hD (Sb.r (Sb.r (Sb.r (Sb.r (Sb.r (Sb.r (Sb.r (Sb.r (Sb.r (Sb.r (Sb.r (Sb.r (Sb.r Sb.self))))))))))))) 7 0 rfl rfl) hP hD hS hA (wr := ((wMob om Ad ot ou) ++ ((wTob ot Ad Aw Am Ae xt hou cro) ++ ((wWays D Aw Lw) ++ ((wMul D Am nm Lm) ++ ((wLet D Ae ne Le) ++ ((wRow D xt yt 60 Nt) ++ ((wTob ou Ad Bw Bm Be xu hou2 cro2) ++ ((wWays D Bw Kw) ++ ((wMul D Bm nm2 Km) ++ ((wLet D Be ne2 Ke) ++ ((wRow D xu yu 60 Nu) ++ ((wLand D Ad nsd fogd nrd Ld) ++ (wLar D oq fq)))))))))))))) (fun _ h => h) rfl rfl hl.1 (Nat.le_of_ble_eq_true rfl) ⟨by show _ ≤ 601024; omega, by show _ ≤ 7293034; omega⟩ dL_law_1244 (fun g1 H locs hP hD hS => ?_) rfl
    have hP : va_P D.1 vwCl ((wMob om Ad ot ou) ++ ((wTob ot Ad Aw Am Ae xt hou cro) ++ ((wWays D Aw Lw) ++ ((wMul D Am nm Lm) ++ ((wLet D Ae ne Le) ++ ((wRow D xt yt 60 Nt) ++ ((wTob ou Ad Bw Bm Be xu hou2 cro2) ++ ((wWays D Bw Kw) ++ ((wMul D Bm nm2 Km) ++ ((wLet D Be ne2 Ke) ++ ((wRow D xu yu 60 Nu) ++ ((wLand D Ad nsd fogd nrd Ld) ++ ((wLar D oq fq) ++ (wMod D (bA Ax (g1 0) (g1 1) (g1 2)) ((pfo Lx nsd fogd nrd nm ne a1 a2).2.1) nsd fogd nrd nm ne ((pfo Lx nsd fogd nrd nm ne a1 a2).2.2))))))))))))))) H := hP
    have hD : va_D A0 ((wMob om Ad ot ou) ++ ((wTob ot Ad Aw Am Ae xt hou cro) ++ ((wWays D Aw Lw) ++ ((wMul D Am nm Lm) ++ ((wLet D Ae ne Le) ++ ((wRow D xt yt 60 Nt) ++ ((wTob ou Ad Bw Bm Be xu hou2 cro2) ++ ((wWays D Bw Kw) ++ ((wMul D Bm nm2 Km) ++ ((wLet D Be ne2 Ke) ++ ((wRow D xu yu 60 Nu) ++ ((wLand D Ad nsd fogd nrd Ld) ++ ((wLar D oq fq) ++ (wMod D (bA Ax (g1 0) (g1 1) (g1 2)) ((pfo Lx nsd fogd nrd nm ne a1 a2).2.1) nsd fogd nrd nm ne ((pfo Lx nsd fogd nrd nm ne a1 a2).2.2))))))))))))))) := hD
    refine W.eq (g2 := F0 m 1247 ls [.int ((pfo Lx nsd fogd nrd nm ne a1 a2).1)]) rfl ?_
    have r9 := fo_rel (fog := fogd) (N := Nu) (a := a1) (p := a2) hSY (by omega)
    rw [r9.1, r9.2.1 hk9] at hP hD
    have hP : va_P D.1 vwCl ((wMob om Ad ot ou) ++ ((wTob ot Ad Aw Am Ae xt hou cro) ++ ((wWays D Aw Lw) ++ ((wMul D Am nm Lm) ++ ((wLet D Ae ne Le) ++ ((wRow D xt yt 60 Nt) ++ ((wTob ou Ad Bw Bm Be xu hou2 cro2) ++ ((wWays D Bw Kw) ++ ((wMul D Bm nm2 Km) ++ ((wLet D Be ne2 Ke) ++ ((wRow D xu yu 60 Nu) ++ ((wLand D Ad nsd fogd nrd Ld) ++ ((wLar D oq fq) ++ (wMod D (bA Ax (g1 0) (g1 1) (g1 2)) (nI (kFO ne a1 a2)) nsd fogd nrd nm ne Lx)))))))))))))) H := hP
    have hD : va_D A0 ((wMob om Ad ot ou) ++ ((wTob ot Ad Aw Am Ae xt hou cro) ++ ((wWays D Aw Lw) ++ ((wMul D Am nm Lm) ++ ((wLet D Ae ne Le) ++ ((wRow D xt yt 60 Nt) ++ ((wTob ou Ad Bw Bm Be xu hou2 cro2) ++ ((wWays D Bw Kw) ++ ((wMul D Bm nm2 Km) ++ ((wLet D Be ne2 Ke) ++ ((wRow D xu yu 60 Nu) ++ ((wLand D Ad nsd fogd nrd Ld) ++ ((wLar D oq fq) ++ (wMod D (bA Ax (g1 0) (g1 1) (g1 2)) (nI (kFO ne a1 a2)) nsd fogd nrd nm ne Lx)))))))))))))) := hD
    refine lv_istore (lv' := [(6, .int ((pfo Lx nsd fogd nrd nm ne a1 a2).1)), (5, .int (nI (kFO ne a1 a2))), (4, .int (nI (4 * i))), (0, .ref b), (1, .ref om), (2, .ref (Ax 0)), (3, .ref oq)]) hx hb dL_law_1247 hl (by decide) rfl (fun ls hl => ?_)
    refine lv_aload_n hx hb dL_law_1249 rfl (lv_at hl 5 rfl) ?_
    refine kVp ⟨hx, hb, hml, hown, hts⟩ (c_X7_thrown l D (bA Ax (g1 0) (g1 1) (g1 2)) (nI (kFO ne a1 a2)) nsd fogd nrd nm ne Lx) (cwV 0 hts gL_law_X7_thrown rfl rfl rfl (by decide +kernel) ⟨Nat.le_of_ble_eq_true rfl, Nat.le_of_ble_eq_true rfl⟩) hK hN hP hD (Sb.r (Sb.r (Sb.r (Sb.r (Sb.r (Sb.r (Sb.r (Sb.r (Sb.r (Sb.r (Sb.r (Sb.r (Sb.r Sb.self))))))))))))) 7 0 rfl rfl rfl hl.1 (Nat.le_of_ble_eq_true rfl) ⟨by show _ ≤ 601024; omega, by show _ ≤ 7293034; omega⟩ dL_law_1250 ?_ rfl
    refine lv_iload hx hb dL_law_1253 (lv_at hl 1 rfl) ?_
    refine lv_icmp_eq (tgt := 1260) hx hb dL_law_1255 (by decide) (fun c2 => ?_) (fun c2 => ?_)
    · refine lv_iload hx hb dL_law_1260 (lv_at hl 1 rfl) ?_
      refine lv_if_ne (tgt := 1277) hx hb dL_law_1262 (by decide) (fun c3 => ?_) (fun c3 => ?_)
      · refine lv_goto (tgt := 1447) hx hb dL_law_1277 (by decide) ?_
        refine lv_iinc (v := ((nI (4 * i)) + 4)) (lv' := [(4, .int ((nI (4 * i)) + 4)), (6, .int ((pfo Lx nsd fogd nrd nm ne a1 a2).1)), (5, .int (nI (kFO ne a1 a2))), (0, .ref b), (1, .ref om), (2, .ref (Ax 0)), (3, .ref oq)]) hx hb dL_law_1447 hl (k := 2) rfl rfl (by decide) rfl (fun ls hl => ?_)
        rw [show nI (4 * i) + 4 = nI (4 * (i + 1)) from nI_add (4 * i) 4] at hl
        refine lv_goto (tgt := 23) hx hb dL_law_1450 (by decide) ?_
        refine W.widen (k := 200 + 81 * (i + 1)) (n := 9000 + 11700 * (i + 1)) (by omega) (by omega) ?_
        exact ih (bA Ax (g1 0) (g1 1) (g1 2)) hou cro Lw nm Lm ne Le Nt hou2 cro2 Kw nm2 Km ne2 Ke Nu nsd fogd nrd Ld fq (nI (kFO ne a1 a2)) Lx h hSY (by omega) H locs hP hD hS ls (lv_sub hl [0, 3, 4, 5, 6] rfl)
      · exact (nI_ne0 (Nat.pos_of_ne_zero hk9) (Nat.lt_of_le_of_lt (kFO_b _ _ _) (by decide)) c3).elim
    · exact (c2 (by first | rfl | decide)).elim
  · have hP : va_P D.1 vwCl ((wMob om Ad ot ou) ++ ((wTob ot Ad Aw Am Ae xt hou cro) ++ ((wWays D Aw Lw) ++ ((wMul D Am nm Lm) ++ ((wLet D Ae ne Le) ++ ((wRow D xt yt 60 Nt) ++ ((wTob ou Ad Bw Bm Be xu z.2.2.2.2.2.1 z.2.2.2.2.2.2.1) ++ ((wWays D Bw (z.1)) ++ ((wMul D Bm z.2.1 (z.2.2.1)) ++ ((wLet D Be z.2.2.2.1 (z.2.2.2.2.1)) ++ ((wRow D xu yu 60 (z.2.2.2.2.2.2.2)) ++ ((wLand D Ad nsd fogd nrd Ld) ++ ((wLar D oq (vp_updL fq 0 (rg 60 ((hgF Lw Ld nsd fogd nm ne (Lm, Le, hou, cro, Nu, true) a2.toNatClampNeg).2.1 3) a1).toInt64)) ++ (wMod D Ax th nsd fogd nrd nm ne Lx)))))))))))))) H := hP
    have hD : va_D A0 ((wMob om Ad ot ou) ++ ((wTob ot Ad Aw Am Ae xt hou cro) ++ ((wWays D Aw Lw) ++ ((wMul D Am nm Lm) ++ ((wLet D Ae ne Le) ++ ((wRow D xt yt 60 Nt) ++ ((wTob ou Ad Bw Bm Be xu z.2.2.2.2.2.1 z.2.2.2.2.2.2.1) ++ ((wWays D Bw (z.1)) ++ ((wMul D Bm z.2.1 (z.2.2.1)) ++ ((wLet D Be z.2.2.2.1 (z.2.2.2.2.1)) ++ ((wRow D xu yu 60 (z.2.2.2.2.2.2.2)) ++ ((wLand D Ad nsd fogd nrd Ld) ++ ((wLar D oq (vp_updL fq 0 (rg 60 ((hgF Lw Ld nsd fogd nm ne (Lm, Le, hou, cro, Nu, true) a2.toNatClampNeg).2.1 3) a1).toInt64)) ++ (wMod D Ax th nsd fogd nrd nm ne Lx)))))))))))))) := hD
    refine lv_istore (lv' := [(5, .int 0), (4, .int (nI (4 * i))), (0, .ref b), (1, .ref om), (2, .ref (Ax 0)), (3, .ref oq)]) hx hb dL_law_1229 hl (by decide) rfl (fun ls hl => ?_)
    refine lv_aload_n hx hb dL_law_1231 rfl (lv_at hl 4 rfl) ?_
    refine lv_aload_n hx hb dL_law_1232 rfl (lv_at hl 2 rfl) ?_
    refine lv_iload hx hb dL_law_1233 (lv_at hl 1 rfl) ?_
    refine lv_iconst (v := 1) hx hb dL_law_1235 (by decide) ?_
    refine lv_iadd hx hb dL_law_1236 ?_
    refine va_sld hx hb hX hbl hbA hS (i := ((nI (4 * i)) + 1)) (inS1 hi hL) dL_law_1237 ?_
    refine W.eq (g2 := F0 m 1238 ls [.int a1, .ref (Ax 0)]) (congrArg (fun zz : Int32 => F0 m 1238 ls [.int zz, .ref (Ax 0)]) ea1) ?_
    refine lv_aload_n hx hb dL_law_1238 rfl (lv_at hl 2 rfl) ?_
    refine lv_iload hx hb dL_law_1239 (lv_at hl 1 rfl) ?_
    refine lv_iconst (v := 2) hx hb dL_law_1241 (by decide) ?_
    refine lv_iadd hx hb dL_law_1242 ?_
    refine va_sld hx hb hX hbl hbA hS (i := ((nI (4 * i)) + 2)) (inS2 hi hL) dL_law_1243 ?_
    refine W.eq (g2 := F0 m 1244 ls [.int a2, .int a1, .ref (Ax 0)]) (congrArg (fun zz : Int32 => F0 m 1244 ls [.int zz, .int a1, .ref (Ax 0)]) ea2) ?_
    refine kVx ⟨hx, hb, hml, hown, hts⟩ (c_X7_foresee l D Ax th nsd fogd nrd nm ne Lx a1 a2 _ (by assumption) (by assumption) (by assumption) (by assumption) hS9) (cwV 2 hts gL_law_X7_foresee rfl rfl rfl (by decide +kernel) ⟨Nat.le_of_ble_eq_true rfl, Nat.le_of_ble_eq_true rfl⟩) (preVX hNX hK hN hP hD (Sb.r (Sb.r (Sb.r (Sb.r (Sb.r (Sb.r (Sb.r (Sb.r (Sb.r (Sb.r (Sb.r (Sb.r (Sb.r Sb.self))))))))))))) 7 0 rfl rfl) hP hD hS hA (wr := ((wMob om Ad ot ou) ++ ((wTob ot Ad Aw Am Ae xt hou cro) ++ ((wWays D Aw Lw) ++ ((wMul D Am nm Lm) ++ ((wLet D Ae ne Le) ++ ((wRow D xt yt 60 Nt) ++ ((wTob ou Ad Bw Bm Be xu z.2.2.2.2.2.1 z.2.2.2.2.2.2.1) ++ ((wWays D Bw (z.1)) ++ ((wMul D Bm z.2.1 (z.2.2.1)) ++ ((wLet D Be z.2.2.2.1 (z.2.2.2.2.1)) ++ ((wRow D xu yu 60 (z.2.2.2.2.2.2.2)) ++ ((wLand D Ad nsd fogd nrd Ld) ++ (wLar D oq (vp_updL fq 0 (rg 60 ((hgF Lw Ld nsd fogd nm ne (Lm, Le, hou, cro, Nu, true) a2.toNatClampNeg).2.1 3) a1).toInt64))))))))))))))) (fun _ h => h) rfl rfl hl.1 (Nat.le_of_ble_eq_true rfl) ⟨by show _ ≤ 601024; omega, by show _ ≤ 7293034; omega⟩ dL_law_1244 (fun g4 H locs hP hD hS => ?_) rfl
    have hP : va_P D.1 vwCl ((wMob om Ad ot ou) ++ ((wTob ot Ad Aw Am Ae xt hou cro) ++ ((wWays D Aw Lw) ++ ((wMul D Am nm Lm) ++ ((wLet D Ae ne Le) ++ ((wRow D xt yt 60 Nt) ++ ((wTob ou Ad Bw Bm Be xu z.2.2.2.2.2.1 z.2.2.2.2.2.2.1) ++ ((wWays D Bw (z.1)) ++ ((wMul D Bm z.2.1 (z.2.2.1)) ++ ((wLet D Be z.2.2.2.1 (z.2.2.2.2.1)) ++ ((wRow D xu yu 60 (z.2.2.2.2.2.2.2)) ++ ((wLand D Ad nsd fogd nrd Ld) ++ ((wLar D oq (vp_updL fq 0 (rg 60 ((hgF Lw Ld nsd fogd nm ne (Lm, Le, hou, cro, Nu, true) a2.toNatClampNeg).2.1 3) a1).toInt64)) ++ (wMod D (bA Ax (g4 0) (g4 1) (g4 2)) ((pfo Lx nsd fogd nrd nm ne a1 a2).2.1) nsd fogd nrd nm ne ((pfo Lx nsd fogd nrd nm ne a1 a2).2.2))))))))))))))) H := hP
    have hD : va_D A0 ((wMob om Ad ot ou) ++ ((wTob ot Ad Aw Am Ae xt hou cro) ++ ((wWays D Aw Lw) ++ ((wMul D Am nm Lm) ++ ((wLet D Ae ne Le) ++ ((wRow D xt yt 60 Nt) ++ ((wTob ou Ad Bw Bm Be xu z.2.2.2.2.2.1 z.2.2.2.2.2.2.1) ++ ((wWays D Bw (z.1)) ++ ((wMul D Bm z.2.1 (z.2.2.1)) ++ ((wLet D Be z.2.2.2.1 (z.2.2.2.2.1)) ++ ((wRow D xu yu 60 (z.2.2.2.2.2.2.2)) ++ ((wLand D Ad nsd fogd nrd Ld) ++ ((wLar D oq (vp_updL fq 0 (rg 60 ((hgF Lw Ld nsd fogd nm ne (Lm, Le, hou, cro, Nu, true) a2.toNatClampNeg).2.1 3) a1).toInt64)) ++ (wMod D (bA Ax (g4 0) (g4 1) (g4 2)) ((pfo Lx nsd fogd nrd nm ne a1 a2).2.1) nsd fogd nrd nm ne ((pfo Lx nsd fogd nrd nm ne a1 a2).2.2))))))))))))))) := hD
    refine W.eq (g2 := F0 m 1247 ls [.int ((pfo Lx nsd fogd nrd nm ne a1 a2).1)]) rfl ?_
    have r9 := fo_rel (fog := fogd) (N := Nu) (a := a1) (p := a2) hSY (by omega)
    rw [r9.1, hk9] at hP hD
    have hP : va_P D.1 vwCl ((wMob om Ad ot ou) ++ ((wTob ot Ad Aw Am Ae xt hou cro) ++ ((wWays D Aw Lw) ++ ((wMul D Am nm Lm) ++ ((wLet D Ae ne Le) ++ ((wRow D xt yt 60 Nt) ++ ((wTob ou Ad Bw Bm Be xu z.2.2.2.2.2.1 z.2.2.2.2.2.2.1) ++ ((wWays D Bw (z.1)) ++ ((wMul D Bm z.2.1 (z.2.2.1)) ++ ((wLet D Be z.2.2.2.1 (z.2.2.2.2.1)) ++ ((wRow D xu yu 60 (z.2.2.2.2.2.2.2)) ++ ((wLand D Ad nsd fogd nrd Ld) ++ ((wLar D oq (vp_updL fq 0 (rg 60 ((hgF Lw Ld nsd fogd nm ne (Lm, Le, hou, cro, Nu, true) a2.toNatClampNeg).2.1 3) a1).toInt64)) ++ (wMod D (bA Ax (g4 0) (g4 1) (g4 2)) (nI 0) nsd fogd nrd nm ne ((pfo Lx nsd fogd nrd nm ne a1 a2).2.2))))))))))))))) H := hP
    have hD : va_D A0 ((wMob om Ad ot ou) ++ ((wTob ot Ad Aw Am Ae xt hou cro) ++ ((wWays D Aw Lw) ++ ((wMul D Am nm Lm) ++ ((wLet D Ae ne Le) ++ ((wRow D xt yt 60 Nt) ++ ((wTob ou Ad Bw Bm Be xu z.2.2.2.2.2.1 z.2.2.2.2.2.2.1) ++ ((wWays D Bw (z.1)) ++ ((wMul D Bm z.2.1 (z.2.2.1)) ++ ((wLet D Be z.2.2.2.1 (z.2.2.2.2.1)) ++ ((wRow D xu yu 60 (z.2.2.2.2.2.2.2)) ++ ((wLand D Ad nsd fogd nrd Ld) ++ ((wLar D oq (vp_updL fq 0 (rg 60 ((hgF Lw Ld nsd fogd nm ne (Lm, Le, hou, cro, Nu, true) a2.toNatClampNeg).2.1 3) a1).toInt64)) ++ (wMod D (bA Ax (g4 0) (g4 1) (g4 2)) (nI 0) nsd fogd nrd nm ne ((pfo Lx nsd fogd nrd nm ne a1 a2).2.2))))))))))))))) := hD
    refine W.eq (g2 := F0 m 1247 ls [.int (rg 60 ((hgF Lw Ld nsd fogd nm ne (Lm, Le, hou, cro, Nu, true) a2.toNatClampNeg).2.1 3) a1)]) (congrArg (fun zz : Int32 => F0 m 1247 ls [.int zz]) (show (pfo Lx nsd fogd nrd nm ne a1 a2).1 = rg 60 ((hgF Lw Ld nsd fogd nm ne (Lm, Le, hou, cro, Nu, true) a2.toNatClampNeg).2.1 3) a1 from (r9.2.2 hk9).1)) ?_
    refine lv_istore (lv' := [(6, .int (rg 60 ((hgF Lw Ld nsd fogd nm ne (Lm, Le, hou, cro, Nu, true) a2.toNatClampNeg).2.1 3) a1)), (5, .int 0), (4, .int (nI (4 * i))), (0, .ref b), (1, .ref om), (2, .ref (Ax 0)), (3, .ref oq)]) hx hb dL_law_1247 hl (by decide) rfl (fun ls hl => ?_)
    refine lv_aload_n hx hb dL_law_1249 rfl (lv_at hl 5 rfl) ?_
    refine kVp ⟨hx, hb, hml, hown, hts⟩ (c_X7_thrown l D (bA Ax (g4 0) (g4 1) (g4 2)) (nI 0) nsd fogd nrd nm ne ((pfo Lx nsd fogd nrd nm ne a1 a2).2.2)) (cwV 0 hts gL_law_X7_thrown rfl rfl rfl (by decide +kernel) ⟨Nat.le_of_ble_eq_true rfl, Nat.le_of_ble_eq_true rfl⟩) hK hN hP hD (Sb.r (Sb.r (Sb.r (Sb.r (Sb.r (Sb.r (Sb.r (Sb.r (Sb.r (Sb.r (Sb.r (Sb.r (Sb.r Sb.self))))))))))))) 7 0 rfl rfl rfl hl.1 (Nat.le_of_ble_eq_true rfl) ⟨by show _ ≤ 601024; omega, by show _ ≤ 7293034; omega⟩ dL_law_1250 ?_ rfl
    refine lv_iload hx hb dL_law_1253 (lv_at hl 1 rfl) ?_
    refine lv_icmp_eq (tgt := 1260) hx hb dL_law_1255 (by decide) (fun c5 => ?_) (fun c5 => ?_)
    · refine lv_iload hx hb dL_law_1260 (lv_at hl 1 rfl) ?_
      refine lv_if_ne (tgt := 1277) hx hb dL_law_1262 (by decide) (fun c6 => ?_) (fun c6 => ?_)
      · exact absurd c6 (by decide)
      · refine lv_aload_n hx hb dL_law_1265 rfl (lv_at hl 6 rfl) ?_
        refine lv_iconst (v := 0) hx hb dL_law_1266 (by decide) ?_
        refine va_lald (D := D.1) hx hb hK hP 96 1 rfl rfl (i := (0 : Int32)) (vpl (by decide)) dL_law_1267 ?_
        refine W.eq (g2 := F0 m 1268 ls [.long ((rg 60 ((hgF Lw Ld nsd fogd nm ne (Lm, Le, hou, cro, Nu, true) a2.toNatClampNeg).2.1 3) a1).toInt64)]) (congrArg (fun zz : Int64 => F0 m 1268 ls [.long zz]) (show (vp_updL fq 0 (rg 60 ((hgF Lw Ld nsd fogd nm ne (Lm, Le, hou, cro, Nu, true) a2.toNatClampNeg).2.1 3) a1).toInt64) ((0 : Int32).toNatClampNeg) = (rg 60 ((hgF Lw Ld nsd fogd nm ne (Lm, Le, hou, cro, Nu, true) a2.toNatClampNeg).2.1 3) a1).toInt64 from pk_uLs)) ?_
        refine lv_iload hx hb dL_law_1268 (lv_at hl 0 rfl) ?_
        refine lv_i2l hx hb dL_law_1270 rfl ?_
        refine W.lcmp hx hb dL_law_1271 ?_
        refine W.eq (g2 := F0 m 1272 ls [.int 0]) (congrArg (fun zz : Int32 => F0 m 1272 ls [.int zz]) (lcmp0 _)) ?_
        refine lv_if_eq (tgt := 1277) hx hb dL_law_1272 (by decide) (fun c7 => ?_) (fun c7 => ?_)
        · refine lv_goto (tgt := 1447) hx hb dL_law_1277 (by decide) ?_
          refine lv_iinc (v := ((nI (4 * i)) + 4)) (lv' := [(4, .int ((nI (4 * i)) + 4)), (6, .int (rg 60 ((hgF Lw Ld nsd fogd nm ne (Lm, Le, hou, cro, Nu, true) a2.toNatClampNeg).2.1 3) a1)), (5, .int 0), (0, .ref b), (1, .ref om), (2, .ref (Ax 0)), (3, .ref oq)]) hx hb dL_law_1447 hl (k := 2) rfl rfl (by decide) rfl (fun ls hl => ?_)
          rw [show nI (4 * i) + 4 = nI (4 * (i + 1)) from nI_add (4 * i) 4] at hl
          refine lv_goto (tgt := 23) hx hb dL_law_1450 (by decide) ?_
          refine W.widen (k := 200 + 81 * (i + 1)) (n := 9000 + 11700 * (i + 1)) (by omega) (by omega) ?_
          exact ih (bA Ax (g4 0) (g4 1) (g4 2)) hou cro Lw nm Lm ne Le Nt z.2.2.2.2.2.1 z.2.2.2.2.2.2.1 (z.1) z.2.1 (z.2.2.1) z.2.2.2.1 (z.2.2.2.2.1) (z.2.2.2.2.2.2.2) nsd fogd nrd Ld (vp_updL fq 0 (rg 60 ((hgF Lw Ld nsd fogd nm ne (Lm, Le, hou, cro, Nu, true) a2.toNatClampNeg).2.1 3) a1).toInt64) (nI 0) ((pfo Lx nsd fogd nrd nm ne a1 a2).2.2) h (r9.2.2 hk9).2 (by omega) H locs hP hD hS ls (lv_sub hl [0, 3, 4, 5, 6] rfl)
        · exact absurd c7 (by decide)
    · exact (c5 (by first | rfl | decide)).elim
