set_option maxHeartbeats 4000000 in
set_option maxRecDepth 100000 in
theorem law_c1 {p : Program} {l : Launch} {e : Env} {s : State} {m : MethodId} {below : List Frame} {meth : Method} {c : Code} {D : GG} {b L : Nat} {xs : Nat → Int32} {A0 : Nat → Prop} {om ot ou oq xt yt xu yu : Nat} {Ad Aw Am Ae Bw Bm Be : Nat → Nat} (X : LX p l s m meth c D b L xs A0) {i : Nat} (hi : 4 * i + 4 ≤ L) (ih : LG p l e s m below meth c D b L xs A0 om ot ou oq xt yt xu yu Ad Aw Am Ae Bw Bm Be (i + 1)) {a1 a2 a3 : Int32} (ea1 : xs (nI (4 * i) + 1).toNatClampNeg = a1) (ea2 : xs (nI (4 * i) + 2).toNatClampNeg = a2) (ea3 : xs (nI (4 * i) + 3).toNatClampNeg = a3)
    (Ax : Nat → Nat) (hou cro : Int32) (Lw : Fm) (nm : Nat) (Lm : Fm) (ne : Nat) (Le : Fm) (Nt : Rw) (hou2 cro2 : Int32) (Kw : Fm) (nm2 : Nat) (Km : Fm) (ne2 : Nat) (Ke : Fm) (Nu : Rw) (nsd : Nat) (fogd : Int32) (nrd : Nat) (Ld : Fm) (fq : Nat → Int64) (th : Int32) (Lx : Fm) (h : Nat) (hSY : SY Lw Ld Lm Le hou cro Lx nsd nrd nm ne h) (hh : h ≤ 100 * i) (H : Heap) (locs : List Loc) (hP : va_P D.1 vwCl ((wMob om Ad ot ou) ++ ((wTob ot Ad Aw Am Ae xt hou cro) ++ ((wWays D Aw Lw) ++ ((wMul D Am nm Lm) ++ ((wLet D Ae ne Le) ++ ((wRow D xt yt 60 Nt) ++ ((wTob ou Ad Bw Bm Be xu hou2 cro2) ++ ((wWays D Bw Kw) ++ ((wMul D Bm nm2 Km) ++ ((wLet D Be ne2 Ke) ++ ((wRow D xu yu 60 Nu) ++ ((wLand D Ad nsd fogd nrd Ld) ++ ((wLar D oq fq) ++ (wMod D Ax th nsd fogd nrd nm ne Lx)))))))))))))) H) (hD : va_D A0 ((wMob om Ad ot ou) ++ ((wTob ot Ad Aw Am Ae xt hou cro) ++ ((wWays D Aw Lw) ++ ((wMul D Am nm Lm) ++ ((wLet D Ae ne Le) ++ ((wRow D xt yt 60 Nt) ++ ((wTob ou Ad Bw Bm Be xu hou2 cro2) ++ ((wWays D Bw Kw) ++ ((wMul D Bm nm2 Km) ++ ((wLet D Be ne2 Ke) ++ ((wRow D xu yu 60 Nu) ++ ((wLand D Ad nsd fogd nrd Ld) ++ ((wLar D oq fq) ++ (wMod D Ax th nsd fogd nrd nm ne Lx))))))))))))))) (hS : va_S A0 s.heap H locs) (ls : Array Slot) (hl : lv_has ls 9 [(4, .int (nI (4 * i))), (0, .ref b), (1, .ref om), (2, .ref (Ax 0)), (3, .ref oq)]) : W p l e room_1 s m #[Value.ref b] below meth c H locs (200 + 81 * i) (9000 + 11700 * i) (lw_Z below #[Value.ref b] s) (F0 m 188 ls []) := by
  obtain ⟨hx, hb, hr, hml, hown, hts, hX, hbl, hbA, hlocks, hl9, hCX, hSX, hTX, hZX, hNX, hK, hN, hA, -, hL⟩ := X
  have hS9 : okS Lx nsd nrd nm ne := okS_rel hSY.1
  have b10 : nsd ≤ 10 := hSY.1.1.1
  have b15 : nrd ≤ 15 := hSY.1.1.2.1
  have b12 : nm ≤ 12 := hSY.1.2.2.1.1
  have b60 : ne ≤ 60 := hSY.1.2.2.2.1
  have hrE : rE Le Lx ne := hSY.1.2.2.2.2.2.2.2.2.2.1
  have he : ne < 2 ^ 31 := by omega
  have hm : nm < 2 ^ 31 := by omega
  have hns : nsd < 2 ^ 31 := by omega
  have hnr : nrd < 2 ^ 31 := by omega
  refine lv_aload_n hx hb dL_law_188 rfl (lv_at hl 2 rfl) ?_
  refine lv_aload_n hx hb dL_law_189 rfl (lv_at hl 1 rfl) ?_
  refine lv_iload hx hb dL_law_190 (lv_at hl 0 rfl) ?_
  refine lv_iconst (v := 1) hx hb dL_law_192 (by decide) ?_
  refine lv_iadd hx hb dL_law_193 ?_
  refine va_sld hx hb hX hbl hbA hS (i := ((nI (4 * i)) + 1)) (inS1 hi hL) dL_law_194 ?_
  refine W.eq (g2 := F0 m 195 ls [.int a1, .ref om]) (congrArg (fun zz : Int32 => F0 m 195 ls [.int zz, .ref om]) ea1) ?_
  refine lv_aload_n hx hb dL_law_195 rfl (lv_at hl 1 rfl) ?_
  refine lv_iload hx hb dL_law_196 (lv_at hl 0 rfl) ?_
  refine lv_iconst (v := 2) hx hb dL_law_198 (by decide) ?_
  refine lv_iadd hx hb dL_law_199 ?_
  refine va_sld hx hb hX hbl hbA hS (i := ((nI (4 * i)) + 2)) (inS2 hi hL) dL_law_200 ?_
  refine W.eq (g2 := F0 m 201 ls [.int a2, .int a1, .ref om]) (congrArg (fun zz : Int32 => F0 m 201 ls [.int zz, .int a1, .ref om]) ea2) ?_
  refine lv_aload_n hx hb dL_law_201 rfl (lv_at hl 1 rfl) ?_
  refine lv_iload hx hb dL_law_202 (lv_at hl 0 rfl) ?_
  refine lv_iconst (v := 3) hx hb dL_law_204 (by decide) ?_
  refine lv_iadd hx hb dL_law_205 ?_
  refine va_sld hx hb hX hbl hbA hS (i := ((nI (4 * i)) + 3)) (inS3 hi hL) dL_law_206 ?_
  refine W.eq (g2 := F0 m 207 ls [.int a3, .int a2, .int a1, .ref om]) (congrArg (fun zz : Int32 => F0 m 207 ls [.int zz, .int a2, .int a1, .ref om]) ea3) ?_
  refine lv_if_eq (tgt := 214) hx hb dL_law_207 (by decide) (fun c1 => ?_) (fun c1 => ?_)
  · refine lv_iconst (v := 0) hx hb dL_law_214 (by decide) ?_
    refine lv_aload_n hx hb dL_law_215 rfl (lv_at hl 4 rfl) ?_
    refine kSL ⟨hx, hb, hml, hown, hts⟩ (c_L_setSight l D om Ad ot ou Aw Am Ae xt hou cro Lw nm Lm ne Le yt Nt nsd fogd nrd Ld oq fq a1 a2 (0 : Int32) _ hl9) (vx_cwSW 5 hts gL_law_L_setSight rfl rfl rfl (by decide +kernel) ⟨Nat.le_of_ble_eq_true rfl, Nat.le_of_ble_eq_true rfl⟩) hCX hSX hTX hZX hNX hK hN hP hD hS hA (fun z => (Fr.app (Fr.kp Sb.self) (Fr.app (Fr.kp Sb.self) (Fr.app (Fr.kp Sb.self) (Fr.app (Fr.kp Sb.self) (Fr.app (Fr.kp Sb.self) (Fr.app (Fr.kp Sb.self) (Fr.r (Fr.r (Fr.r (Fr.r (Fr.r (Fr.app frsLand (Fr.l frsLar)))))))))))))) (Sb.app Sb.self (Sb.app Sb.self (Sb.app Sb.self (Sb.app Sb.self (Sb.app Sb.self (Sb.app Sb.self (Sb.r (Sb.r (Sb.r (Sb.r (Sb.r (Sb.app Sb.self (Sb.l Sb.self))))))))))))) rfl hl.1 (Nat.le_of_ble_eq_true rfl) ⟨by show _ ≤ 601024; omega, by show _ ≤ 7293034; omega⟩ dL_law_216 (fun H locs hk9 hP hD hS => ?_) (fun z H locs hk9 hP hD hS => ?_) rfl
    · have hP : va_P D.1 vwCl ((wMob om Ad ot ou) ++ ((wTob ot Ad Aw Am Ae xt hou cro) ++ ((wWays D Aw Lw) ++ ((wMul D Am nm Lm) ++ ((wLet D Ae ne Le) ++ ((wRow D xt yt 60 Nt) ++ ((wTob ou Ad Bw Bm Be xu hou2 cro2) ++ ((wWays D Bw Kw) ++ ((wMul D Bm nm2 Km) ++ ((wLet D Be ne2 Ke) ++ ((wRow D xu yu 60 Nu) ++ ((wLand D Ad nsd fogd nrd Ld) ++ ((wLar D oq fq) ++ (wMod D Ax th nsd fogd nrd nm ne Lx)))))))))))))) H := hP
      have hD : va_D A0 ((wMob om Ad ot ou) ++ ((wTob ot Ad Aw Am Ae xt hou cro) ++ ((wWays D Aw Lw) ++ ((wMul D Am nm Lm) ++ ((wLet D Ae ne Le) ++ ((wRow D xt yt 60 Nt) ++ ((wTob ou Ad Bw Bm Be xu hou2 cro2) ++ ((wWays D Bw Kw) ++ ((wMul D Bm nm2 Km) ++ ((wLet D Be ne2 Ke) ++ ((wRow D xu yu 60 Nu) ++ ((wLand D Ad nsd fogd nrd Ld) ++ ((wLar D oq fq) ++ (wMod D Ax th nsd fogd nrd nm ne Lx)))))))))))))) := hD
      refine lv_istore (lv' := [(5, .int (nI (kSS nsd a1 a2))), (4, .int (nI (4 * i))), (0, .ref b), (1, .ref om), (2, .ref (Ax 0)), (3, .ref oq)]) hx hb dL_law_219 hl (by decide) rfl (fun ls hl => ?_)
      refine lv_aload_n hx hb dL_law_221 rfl (lv_at hl 4 rfl) ?_
      refine lv_aload_n hx hb dL_law_222 rfl (lv_at hl 2 rfl) ?_
      refine lv_iload hx hb dL_law_223 (lv_at hl 1 rfl) ?_
      refine lv_iconst (v := 1) hx hb dL_law_225 (by decide) ?_
      refine lv_iadd hx hb dL_law_226 ?_
      refine va_sld hx hb hX hbl hbA hS (i := ((nI (4 * i)) + 1)) (inS1 hi hL) dL_law_227 ?_
      refine W.eq (g2 := F0 m 228 ls [.int a1, .ref (Ax 0)]) (congrArg (fun zz : Int32 => F0 m 228 ls [.int zz, .ref (Ax 0)]) ea1) ?_
      refine lv_aload_n hx hb dL_law_228 rfl (lv_at hl 2 rfl) ?_
      refine lv_iload hx hb dL_law_229 (lv_at hl 1 rfl) ?_
      refine lv_iconst (v := 2) hx hb dL_law_231 (by decide) ?_
      refine lv_iadd hx hb dL_law_232 ?_
      refine va_sld hx hb hX hbl hbA hS (i := ((nI (4 * i)) + 2)) (inS2 hi hL) dL_law_233 ?_
      refine W.eq (g2 := F0 m 234 ls [.int a2, .int a1, .ref (Ax 0)]) (congrArg (fun zz : Int32 => F0 m 234 ls [.int zz, .int a1, .ref (Ax 0)]) ea2) ?_
      refine lv_aload_n hx hb dL_law_234 rfl (lv_at hl 2 rfl) ?_
      refine lv_iload hx hb dL_law_235 (lv_at hl 1 rfl) ?_
      refine lv_iconst (v := 3) hx hb dL_law_237 (by decide) ?_
      refine lv_iadd hx hb dL_law_238 ?_
      refine va_sld hx hb hX hbl hbA hS (i := ((nI (4 * i)) + 3)) (inS3 hi hL) dL_law_239 ?_
      refine W.eq (g2 := F0 m 240 ls [.int a3, .int a2, .int a1, .ref (Ax 0)]) (congrArg (fun zz : Int32 => F0 m 240 ls [.int zz, .int a2, .int a1, .ref (Ax 0)]) ea3) ?_
      refine lv_if_eq (tgt := 247) hx hb dL_law_240 (by decide) (fun c2 => ?_) (fun c2 => ?_)
      · refine lv_iconst (v := 0) hx hb dL_law_247 (by decide) ?_
        refine kVw ⟨hx, hb, hml, hown, hts⟩ (c_X7_setSight l D Ax th nsd fogd nrd nm ne Lx a1 a2 (0 : Int32) (by assumption) (by assumption) (by assumption) (by assumption)) (cwV 3 hts gL_law_X7_setSight rfl rfl rfl (by decide +kernel) ⟨Nat.le_of_ble_eq_true rfl, Nat.le_of_ble_eq_true rfl⟩) hK hN hP hD hS (Fr.r (Fr.r (Fr.r (Fr.r (Fr.r (Fr.r (Fr.r (Fr.r (Fr.r (Fr.r (Fr.r (Fr.r (Fr.r frsMod))))))))))))) 7 0 rfl rfl rfl hl.1 (Nat.le_of_ble_eq_true rfl) ⟨by show _ ≤ 601024; omega, by show _ ≤ 7293034; omega⟩ dL_law_248 (fun H locs hP hD hS => ?_) rfl
        have hP : va_P D.1 vwCl ((wMob om Ad ot ou) ++ ((wTob ot Ad Aw Am Ae xt hou cro) ++ ((wWays D Aw Lw) ++ ((wMul D Am nm Lm) ++ ((wLet D Ae ne Le) ++ ((wRow D xt yt 60 Nt) ++ ((wTob ou Ad Bw Bm Be xu hou2 cro2) ++ ((wWays D Bw Kw) ++ ((wMul D Bm nm2 Km) ++ ((wLet D Be ne2 Ke) ++ ((wRow D xu yu 60 Nu) ++ ((wLand D Ad nsd fogd nrd Ld) ++ ((wLar D oq fq) ++ (wMod D Ax ((pss Lx nsd a1 a2 (0 : Int32)).2.1) nsd fogd nrd nm ne ((pss Lx nsd a1 a2 (0 : Int32)).2.2))))))))))))))) H := hP
        have hD : va_D A0 ((wMob om Ad ot ou) ++ ((wTob ot Ad Aw Am Ae xt hou cro) ++ ((wWays D Aw Lw) ++ ((wMul D Am nm Lm) ++ ((wLet D Ae ne Le) ++ ((wRow D xt yt 60 Nt) ++ ((wTob ou Ad Bw Bm Be xu hou2 cro2) ++ ((wWays D Bw Kw) ++ ((wMul D Bm nm2 Km) ++ ((wLet D Be ne2 Ke) ++ ((wRow D xu yu 60 Nu) ++ ((wLand D Ad nsd fogd nrd Ld) ++ ((wLar D oq fq) ++ (wMod D Ax ((pss Lx nsd a1 a2 (0 : Int32)).2.1) nsd fogd nrd nm ne ((pss Lx nsd a1 a2 (0 : Int32)).2.2))))))))))))))) := hD
        refine W.eq (g2 := F0 m 251 ls [.int ((pss Lx nsd a1 a2 (0 : Int32)).1)]) rfl ?_
        have r9 := ss_rel (a := a1) (b := a2) (v := (0 : Int32)) hSY
        rw [r9.1, r9.2.1 hk9] at hP hD
        have hP : va_P D.1 vwCl ((wMob om Ad ot ou) ++ ((wTob ot Ad Aw Am Ae xt hou cro) ++ ((wWays D Aw Lw) ++ ((wMul D Am nm Lm) ++ ((wLet D Ae ne Le) ++ ((wRow D xt yt 60 Nt) ++ ((wTob ou Ad Bw Bm Be xu hou2 cro2) ++ ((wWays D Bw Kw) ++ ((wMul D Bm nm2 Km) ++ ((wLet D Be ne2 Ke) ++ ((wRow D xu yu 60 Nu) ++ ((wLand D Ad nsd fogd nrd Ld) ++ ((wLar D oq fq) ++ (wMod D Ax (nI (kSS nsd a1 a2)) nsd fogd nrd nm ne Lx)))))))))))))) H := hP
        have hD : va_D A0 ((wMob om Ad ot ou) ++ ((wTob ot Ad Aw Am Ae xt hou cro) ++ ((wWays D Aw Lw) ++ ((wMul D Am nm Lm) ++ ((wLet D Ae ne Le) ++ ((wRow D xt yt 60 Nt) ++ ((wTob ou Ad Bw Bm Be xu hou2 cro2) ++ ((wWays D Bw Kw) ++ ((wMul D Bm nm2 Km) ++ ((wLet D Be ne2 Ke) ++ ((wRow D xu yu 60 Nu) ++ ((wLand D Ad nsd fogd nrd Ld) ++ ((wLar D oq fq) ++ (wMod D Ax (nI (kSS nsd a1 a2)) nsd fogd nrd nm ne Lx)))))))))))))) := hD
        refine lv_istore (lv' := [(6, .int ((pss Lx nsd a1 a2 (0 : Int32)).1)), (5, .int (nI (kSS nsd a1 a2))), (4, .int (nI (4 * i))), (0, .ref b), (1, .ref om), (2, .ref (Ax 0)), (3, .ref oq)]) hx hb dL_law_251 hl (by decide) rfl (fun ls hl => ?_)
        refine lv_aload_n hx hb dL_law_253 rfl (lv_at hl 5 rfl) ?_
        refine kVp ⟨hx, hb, hml, hown, hts⟩ (c_X7_thrown l D Ax (nI (kSS nsd a1 a2)) nsd fogd nrd nm ne Lx) (cwV 0 hts gL_law_X7_thrown rfl rfl rfl (by decide +kernel) ⟨Nat.le_of_ble_eq_true rfl, Nat.le_of_ble_eq_true rfl⟩) hK hN hP hD (Sb.r (Sb.r (Sb.r (Sb.r (Sb.r (Sb.r (Sb.r (Sb.r (Sb.r (Sb.r (Sb.r (Sb.r (Sb.r Sb.self))))))))))))) 7 0 rfl rfl rfl hl.1 (Nat.le_of_ble_eq_true rfl) ⟨by show _ ≤ 601024; omega, by show _ ≤ 7293034; omega⟩ dL_law_254 ?_ rfl
        refine lv_iload hx hb dL_law_257 (lv_at hl 1 rfl) ?_
        refine lv_icmp_eq (tgt := 264) hx hb dL_law_259 (by decide) (fun c3 => ?_) (fun c3 => ?_)
        · refine lv_iload hx hb dL_law_264 (lv_at hl 1 rfl) ?_
          refine lv_if_ne (tgt := 281) hx hb dL_law_266 (by decide) (fun c4 => ?_) (fun c4 => ?_)
          · refine lv_goto (tgt := 1447) hx hb dL_law_281 (by decide) ?_
            refine lv_iinc (v := ((nI (4 * i)) + 4)) (lv' := [(4, .int ((nI (4 * i)) + 4)), (6, .int ((pss Lx nsd a1 a2 (0 : Int32)).1)), (5, .int (nI (kSS nsd a1 a2))), (0, .ref b), (1, .ref om), (2, .ref (Ax 0)), (3, .ref oq)]) hx hb dL_law_1447 hl (k := 2) rfl rfl (by decide) rfl (fun ls hl => ?_)
            rw [show nI (4 * i) + 4 = nI (4 * (i + 1)) from nI_add (4 * i) 4] at hl
            refine lv_goto (tgt := 23) hx hb dL_law_1450 (by decide) ?_
            refine W.widen (k := 200 + 81 * (i + 1)) (n := 9000 + 11700 * (i + 1)) (by omega) (by omega) ?_
            exact ih Ax hou cro Lw nm Lm ne Le Nt hou2 cro2 Kw nm2 Km ne2 Ke Nu nsd fogd nrd Ld fq (nI (kSS nsd a1 a2)) Lx h hSY (by omega) H locs hP hD hS ls (lv_sub hl [0, 3, 4, 5, 6] rfl)
          · exact (nI_ne0 (Nat.pos_of_ne_zero hk9) (Nat.lt_of_le_of_lt (kSS_b _ _ _) (by decide)) c4).elim
        · exact (c3 (by first | rfl | decide)).elim
      · exact absurd c1 c2
    · have hP : va_P D.1 vwCl ((wMob om Ad ot ou) ++ ((wTob ot Ad Aw Am Ae xt hou cro) ++ ((wWays D Aw Lw) ++ ((wMul D Am nm Lm) ++ ((wLet D Ae ne Le) ++ ((wRow D xt yt 60 Nt) ++ ((wTob ou Ad Bw Bm Be xu hou2 cro2) ++ ((wWays D Bw Kw) ++ ((wMul D Bm nm2 Km) ++ ((wLet D Be ne2 Ke) ++ ((wRow D xu yu 60 Nu) ++ ((wLand D Ad nsd fogd nrd (psC (psC Ld a1 a2 (0 : Int32)) a2 a1 (0 : Int32))) ++ ((wLar D oq (vp_updL fq 0 (bitC (rg 10 (psC (psC Ld a1 a2 (0 : Int32)) a2 a1 (0 : Int32) 1) a1)).toInt64)) ++ (wMod D Ax th nsd fogd nrd nm ne Lx)))))))))))))) H := hP
      have hD : va_D A0 ((wMob om Ad ot ou) ++ ((wTob ot Ad Aw Am Ae xt hou cro) ++ ((wWays D Aw Lw) ++ ((wMul D Am nm Lm) ++ ((wLet D Ae ne Le) ++ ((wRow D xt yt 60 Nt) ++ ((wTob ou Ad Bw Bm Be xu hou2 cro2) ++ ((wWays D Bw Kw) ++ ((wMul D Bm nm2 Km) ++ ((wLet D Be ne2 Ke) ++ ((wRow D xu yu 60 Nu) ++ ((wLand D Ad nsd fogd nrd (psC (psC Ld a1 a2 (0 : Int32)) a2 a1 (0 : Int32))) ++ ((wLar D oq (vp_updL fq 0 (bitC (rg 10 (psC (psC Ld a1 a2 (0 : Int32)) a2 a1 (0 : Int32) 1) a1)).toInt64)) ++ (wMod D Ax th nsd fogd nrd nm ne Lx)))))))))))))) := hD
      refine lv_istore (lv' := [(5, .int 0), (4, .int (nI (4 * i))), (0, .ref b), (1, .ref om), (2, .ref (Ax 0)), (3, .ref oq)]) hx hb dL_law_219 hl (by decide) rfl (fun ls hl => ?_)
      refine lv_aload_n hx hb dL_law_221 rfl (lv_at hl 4 rfl) ?_
      refine lv_aload_n hx hb dL_law_222 rfl (lv_at hl 2 rfl) ?_
      refine lv_iload hx hb dL_law_223 (lv_at hl 1 rfl) ?_
      refine lv_iconst (v := 1) hx hb dL_law_225 (by decide) ?_
      refine lv_iadd hx hb dL_law_226 ?_
      refine va_sld hx hb hX hbl hbA hS (i := ((nI (4 * i)) + 1)) (inS1 hi hL) dL_law_227 ?_
      refine W.eq (g2 := F0 m 228 ls [.int a1, .ref (Ax 0)]) (congrArg (fun zz : Int32 => F0 m 228 ls [.int zz, .ref (Ax 0)]) ea1) ?_
      refine lv_aload_n hx hb dL_law_228 rfl (lv_at hl 2 rfl) ?_
      refine lv_iload hx hb dL_law_229 (lv_at hl 1 rfl) ?_
      refine lv_iconst (v := 2) hx hb dL_law_231 (by decide) ?_
      refine lv_iadd hx hb dL_law_232 ?_
      refine va_sld hx hb hX hbl hbA hS (i := ((nI (4 * i)) + 2)) (inS2 hi hL) dL_law_233 ?_
      refine W.eq (g2 := F0 m 234 ls [.int a2, .int a1, .ref (Ax 0)]) (congrArg (fun zz : Int32 => F0 m 234 ls [.int zz, .int a1, .ref (Ax 0)]) ea2) ?_
      refine lv_aload_n hx hb dL_law_234 rfl (lv_at hl 2 rfl) ?_
      refine lv_iload hx hb dL_law_235 (lv_at hl 1 rfl) ?_
      refine lv_iconst (v := 3) hx hb dL_law_237 (by decide) ?_
      refine lv_iadd hx hb dL_law_238 ?_
      refine va_sld hx hb hX hbl hbA hS (i := ((nI (4 * i)) + 3)) (inS3 hi hL) dL_law_239 ?_
      refine W.eq (g2 := F0 m 240 ls [.int a3, .int a2, .int a1, .ref (Ax 0)]) (congrArg (fun zz : Int32 => F0 m 240 ls [.int zz, .int a2, .int a1, .ref (Ax 0)]) ea3) ?_
      refine lv_if_eq (tgt := 247) hx hb dL_law_240 (by decide) (fun c5 => ?_) (fun c5 => ?_)
      · refine lv_iconst (v := 0) hx hb dL_law_247 (by decide) ?_
        refine kVw ⟨hx, hb, hml, hown, hts⟩ (c_X7_setSight l D Ax th nsd fogd nrd nm ne Lx a1 a2 (0 : Int32) (by assumption) (by assumption) (by assumption) (by assumption)) (cwV 3 hts gL_law_X7_setSight rfl rfl rfl (by decide +kernel) ⟨Nat.le_of_ble_eq_true rfl, Nat.le_of_ble_eq_true rfl⟩) hK hN hP hD hS (Fr.r (Fr.r (Fr.r (Fr.r (Fr.r (Fr.r (Fr.r (Fr.r (Fr.r (Fr.r (Fr.r (Fr.r (Fr.r frsMod))))))))))))) 7 0 rfl rfl rfl hl.1 (Nat.le_of_ble_eq_true rfl) ⟨by show _ ≤ 601024; omega, by show _ ≤ 7293034; omega⟩ dL_law_248 (fun H locs hP hD hS => ?_) rfl
        have hP : va_P D.1 vwCl ((wMob om Ad ot ou) ++ ((wTob ot Ad Aw Am Ae xt hou cro) ++ ((wWays D Aw Lw) ++ ((wMul D Am nm Lm) ++ ((wLet D Ae ne Le) ++ ((wRow D xt yt 60 Nt) ++ ((wTob ou Ad Bw Bm Be xu hou2 cro2) ++ ((wWays D Bw Kw) ++ ((wMul D Bm nm2 Km) ++ ((wLet D Be ne2 Ke) ++ ((wRow D xu yu 60 Nu) ++ ((wLand D Ad nsd fogd nrd (psC (psC Ld a1 a2 (0 : Int32)) a2 a1 (0 : Int32))) ++ ((wLar D oq (vp_updL fq 0 (bitC (rg 10 (psC (psC Ld a1 a2 (0 : Int32)) a2 a1 (0 : Int32) 1) a1)).toInt64)) ++ (wMod D Ax ((pss Lx nsd a1 a2 (0 : Int32)).2.1) nsd fogd nrd nm ne ((pss Lx nsd a1 a2 (0 : Int32)).2.2))))))))))))))) H := hP
        have hD : va_D A0 ((wMob om Ad ot ou) ++ ((wTob ot Ad Aw Am Ae xt hou cro) ++ ((wWays D Aw Lw) ++ ((wMul D Am nm Lm) ++ ((wLet D Ae ne Le) ++ ((wRow D xt yt 60 Nt) ++ ((wTob ou Ad Bw Bm Be xu hou2 cro2) ++ ((wWays D Bw Kw) ++ ((wMul D Bm nm2 Km) ++ ((wLet D Be ne2 Ke) ++ ((wRow D xu yu 60 Nu) ++ ((wLand D Ad nsd fogd nrd (psC (psC Ld a1 a2 (0 : Int32)) a2 a1 (0 : Int32))) ++ ((wLar D oq (vp_updL fq 0 (bitC (rg 10 (psC (psC Ld a1 a2 (0 : Int32)) a2 a1 (0 : Int32) 1) a1)).toInt64)) ++ (wMod D Ax ((pss Lx nsd a1 a2 (0 : Int32)).2.1) nsd fogd nrd nm ne ((pss Lx nsd a1 a2 (0 : Int32)).2.2))))))))))))))) := hD
        refine W.eq (g2 := F0 m 251 ls [.int ((pss Lx nsd a1 a2 (0 : Int32)).1)]) rfl ?_
        have r9 := ss_rel (a := a1) (b := a2) (v := (0 : Int32)) hSY
        rw [r9.1, hk9] at hP hD
        have hP : va_P D.1 vwCl ((wMob om Ad ot ou) ++ ((wTob ot Ad Aw Am Ae xt hou cro) ++ ((wWays D Aw Lw) ++ ((wMul D Am nm Lm) ++ ((wLet D Ae ne Le) ++ ((wRow D xt yt 60 Nt) ++ ((wTob ou Ad Bw Bm Be xu hou2 cro2) ++ ((wWays D Bw Kw) ++ ((wMul D Bm nm2 Km) ++ ((wLet D Be ne2 Ke) ++ ((wRow D xu yu 60 Nu) ++ ((wLand D Ad nsd fogd nrd (psC (psC Ld a1 a2 (0 : Int32)) a2 a1 (0 : Int32))) ++ ((wLar D oq (vp_updL fq 0 (bitC (rg 10 (psC (psC Ld a1 a2 (0 : Int32)) a2 a1 (0 : Int32) 1) a1)).toInt64)) ++ (wMod D Ax (nI 0) nsd fogd nrd nm ne ((pss Lx nsd a1 a2 (0 : Int32)).2.2))))))))))))))) H := hP
        have hD : va_D A0 ((wMob om Ad ot ou) ++ ((wTob ot Ad Aw Am Ae xt hou cro) ++ ((wWays D Aw Lw) ++ ((wMul D Am nm Lm) ++ ((wLet D Ae ne Le) ++ ((wRow D xt yt 60 Nt) ++ ((wTob ou Ad Bw Bm Be xu hou2 cro2) ++ ((wWays D Bw Kw) ++ ((wMul D Bm nm2 Km) ++ ((wLet D Be ne2 Ke) ++ ((wRow D xu yu 60 Nu) ++ ((wLand D Ad nsd fogd nrd (psC (psC Ld a1 a2 (0 : Int32)) a2 a1 (0 : Int32))) ++ ((wLar D oq (vp_updL fq 0 (bitC (rg 10 (psC (psC Ld a1 a2 (0 : Int32)) a2 a1 (0 : Int32) 1) a1)).toInt64)) ++ (wMod D Ax (nI 0) nsd fogd nrd nm ne ((pss Lx nsd a1 a2 (0 : Int32)).2.2))))))))))))))) := hD
        refine W.eq (g2 := F0 m 251 ls [.int (bitC (rg 10 (psC (psC Ld a1 a2 (0 : Int32)) a2 a1 (0 : Int32) 1) a1))]) (congrArg (fun zz : Int32 => F0 m 251 ls [.int zz]) (show (pss Lx nsd a1 a2 (0 : Int32)).1 = bitC (rg 10 (psC (psC Ld a1 a2 (0 : Int32)) a2 a1 (0 : Int32) 1) a1) from (r9.2.2 hk9).1)) ?_
        refine lv_istore (lv' := [(6, .int (bitC (rg 10 (psC (psC Ld a1 a2 (0 : Int32)) a2 a1 (0 : Int32) 1) a1))), (5, .int 0), (4, .int (nI (4 * i))), (0, .ref b), (1, .ref om), (2, .ref (Ax 0)), (3, .ref oq)]) hx hb dL_law_251 hl (by decide) rfl (fun ls hl => ?_)
        refine lv_aload_n hx hb dL_law_253 rfl (lv_at hl 5 rfl) ?_
        refine kVp ⟨hx, hb, hml, hown, hts⟩ (c_X7_thrown l D Ax (nI 0) nsd fogd nrd nm ne ((pss Lx nsd a1 a2 (0 : Int32)).2.2)) (cwV 0 hts gL_law_X7_thrown rfl rfl rfl (by decide +kernel) ⟨Nat.le_of_ble_eq_true rfl, Nat.le_of_ble_eq_true rfl⟩) hK hN hP hD (Sb.r (Sb.r (Sb.r (Sb.r (Sb.r (Sb.r (Sb.r (Sb.r (Sb.r (Sb.r (Sb.r (Sb.r (Sb.r Sb.self))))))))))))) 7 0 rfl rfl rfl hl.1 (Nat.le_of_ble_eq_true rfl) ⟨by show _ ≤ 601024; omega, by show _ ≤ 7293034; omega⟩ dL_law_254 ?_ rfl
        refine lv_iload hx hb dL_law_257 (lv_at hl 1 rfl) ?_
        refine lv_icmp_eq (tgt := 264) hx hb dL_law_259 (by decide) (fun c6 => ?_) (fun c6 => ?_)
        · refine lv_iload hx hb dL_law_264 (lv_at hl 1 rfl) ?_
          refine lv_if_ne (tgt := 281) hx hb dL_law_266 (by decide) (fun c7 => ?_) (fun c7 => ?_)
          · exact absurd c7 (by decide)
          · refine lv_aload_n hx hb dL_law_269 rfl (lv_at hl 6 rfl) ?_
            refine lv_iconst (v := 0) hx hb dL_law_270 (by decide) ?_
            refine va_lald (D := D.1) hx hb hK hP 96 1 rfl rfl (i := (0 : Int32)) (vpl (by decide)) dL_law_271 ?_
            refine W.eq (g2 := F0 m 272 ls [.long ((bitC (rg 10 (psC (psC Ld a1 a2 (0 : Int32)) a2 a1 (0 : Int32) 1) a1)).toInt64)]) (congrArg (fun zz : Int64 => F0 m 272 ls [.long zz]) (show (vp_updL fq 0 (bitC (rg 10 (psC (psC Ld a1 a2 (0 : Int32)) a2 a1 (0 : Int32) 1) a1)).toInt64) ((0 : Int32).toNatClampNeg) = (bitC (rg 10 (psC (psC Ld a1 a2 (0 : Int32)) a2 a1 (0 : Int32) 1) a1)).toInt64 from pk_uLs)) ?_
            refine lv_iload hx hb dL_law_272 (lv_at hl 0 rfl) ?_
            refine lv_i2l hx hb dL_law_274 rfl ?_
            refine W.lcmp hx hb dL_law_275 ?_
            refine W.eq (g2 := F0 m 276 ls [.int 0]) (congrArg (fun zz : Int32 => F0 m 276 ls [.int zz]) (lcmp0 _)) ?_
            refine lv_if_eq (tgt := 281) hx hb dL_law_276 (by decide) (fun c8 => ?_) (fun c8 => ?_)
            · refine lv_goto (tgt := 1447) hx hb dL_law_281 (by decide) ?_
              refine lv_iinc (v := ((nI (4 * i)) + 4)) (lv' := [(4, .int ((nI (4 * i)) + 4)), (6, .int (bitC (rg 10 (psC (psC Ld a1 a2 (0 : Int32)) a2 a1 (0 : Int32) 1) a1))), (5, .int 0), (0, .ref b), (1, .ref om), (2, .ref (Ax 0)), (3, .ref oq)]) hx hb dL_law_1447 hl (k := 2) rfl rfl (by decide) rfl (fun ls hl => ?_)
              rw [show nI (4 * i) + 4 = nI (4 * (i + 1)) from nI_add (4 * i) 4] at hl
              refine lv_goto (tgt := 23) hx hb dL_law_1450 (by decide) ?_
              refine W.widen (k := 200 + 81 * (i + 1)) (n := 9000 + 11700 * (i + 1)) (by omega) (by omega) ?_
              exact ih Ax hou cro Lw nm Lm ne Le Nt hou2 cro2 Kw nm2 Km ne2 Ke Nu nsd fogd nrd (psC (psC Ld a1 a2 (0 : Int32)) a2 a1 (0 : Int32)) (vp_updL fq 0 (bitC (rg 10 (psC (psC Ld a1 a2 (0 : Int32)) a2 a1 (0 : Int32) 1) a1)).toInt64) (nI 0) ((pss Lx nsd a1 a2 (0 : Int32)).2.2) h (r9.2.2 hk9).2 (by omega) H locs hP hD hS ls (lv_sub hl [0, 3, 4, 5, 6] rfl)
            · exact absurd c8 (by decide)
        · exact (c6 (by first | rfl | decide)).elim
      · exact absurd c1 c5
  · refine lv_iconst (v := 1) hx hb dL_law_210 (by decide) ?_
    refine lv_goto (tgt := 215) hx hb dL_law_211 (by decide) ?_
    refine lv_aload_n hx hb dL_law_215 rfl (lv_at hl 4 rfl) ?_
    refine kSL ⟨hx, hb, hml, hown, hts⟩ (c_L_setSight l D om Ad ot ou Aw Am Ae xt hou cro Lw nm Lm ne Le yt Nt nsd fogd nrd Ld oq fq a1 a2 (1 : Int32) _ hl9) (vx_cwSW 5 hts gL_law_L_setSight rfl rfl rfl (by decide +kernel) ⟨Nat.le_of_ble_eq_true rfl, Nat.le_of_ble_eq_true rfl⟩) hCX hSX hTX hZX hNX hK hN hP hD hS hA (fun z => (Fr.app (Fr.kp Sb.self) (Fr.app (Fr.kp Sb.self) (Fr.app (Fr.kp Sb.self) (Fr.app (Fr.kp Sb.self) (Fr.app (Fr.kp Sb.self) (Fr.app (Fr.kp Sb.self) (Fr.r (Fr.r (Fr.r (Fr.r (Fr.r (Fr.app frsLand (Fr.l frsLar)))))))))))))) (Sb.app Sb.self (Sb.app Sb.self (Sb.app Sb.self (Sb.app Sb.self (Sb.app Sb.self (Sb.app Sb.self (Sb.r (Sb.r (Sb.r (Sb.r (Sb.r (Sb.app Sb.self (Sb.l Sb.self))))))))))))) rfl hl.1 (Nat.le_of_ble_eq_true rfl) ⟨by show _ ≤ 601024; omega, by show _ ≤ 7293034; omega⟩ dL_law_216 (fun H locs hk9 hP hD hS => ?_) (fun z H locs hk9 hP hD hS => ?_) rfl
    · have hP : va_P D.1 vwCl ((wMob om Ad ot ou) ++ ((wTob ot Ad Aw Am Ae xt hou cro) ++ ((wWays D Aw Lw) ++ ((wMul D Am nm Lm) ++ ((wLet D Ae ne Le) ++ ((wRow D xt yt 60 Nt) ++ ((wTob ou Ad Bw Bm Be xu hou2 cro2) ++ ((wWays D Bw Kw) ++ ((wMul D Bm nm2 Km) ++ ((wLet D Be ne2 Ke) ++ ((wRow D xu yu 60 Nu) ++ ((wLand D Ad nsd fogd nrd Ld) ++ ((wLar D oq fq) ++ (wMod D Ax th nsd fogd nrd nm ne Lx)))))))))))))) H := hP
      have hD : va_D A0 ((wMob om Ad ot ou) ++ ((wTob ot Ad Aw Am Ae xt hou cro) ++ ((wWays D Aw Lw) ++ ((wMul D Am nm Lm) ++ ((wLet D Ae ne Le) ++ ((wRow D xt yt 60 Nt) ++ ((wTob ou Ad Bw Bm Be xu hou2 cro2) ++ ((wWays D Bw Kw) ++ ((wMul D Bm nm2 Km) ++ ((wLet D Be ne2 Ke) ++ ((wRow D xu yu 60 Nu) ++ ((wLand D Ad nsd fogd nrd Ld) ++ ((wLar D oq fq) ++ (wMod D Ax th nsd fogd nrd nm ne Lx)))))))))))))) := hD
      refine lv_istore (lv' := [(5, .int (nI (kSS nsd a1 a2))), (4, .int (nI (4 * i))), (0, .ref b), (1, .ref om), (2, .ref (Ax 0)), (3, .ref oq)]) hx hb dL_law_219 hl (by decide) rfl (fun ls hl => ?_)
      refine lv_aload_n hx hb dL_law_221 rfl (lv_at hl 4 rfl) ?_
      refine lv_aload_n hx hb dL_law_222 rfl (lv_at hl 2 rfl) ?_
      refine lv_iload hx hb dL_law_223 (lv_at hl 1 rfl) ?_
      refine lv_iconst (v := 1) hx hb dL_law_225 (by decide) ?_
      refine lv_iadd hx hb dL_law_226 ?_
      refine va_sld hx hb hX hbl hbA hS (i := ((nI (4 * i)) + 1)) (inS1 hi hL) dL_law_227 ?_
      refine W.eq (g2 := F0 m 228 ls [.int a1, .ref (Ax 0)]) (congrArg (fun zz : Int32 => F0 m 228 ls [.int zz, .ref (Ax 0)]) ea1) ?_
      refine lv_aload_n hx hb dL_law_228 rfl (lv_at hl 2 rfl) ?_
      refine lv_iload hx hb dL_law_229 (lv_at hl 1 rfl) ?_
      refine lv_iconst (v := 2) hx hb dL_law_231 (by decide) ?_
      refine lv_iadd hx hb dL_law_232 ?_
      refine va_sld hx hb hX hbl hbA hS (i := ((nI (4 * i)) + 2)) (inS2 hi hL) dL_law_233 ?_
      refine W.eq (g2 := F0 m 234 ls [.int a2, .int a1, .ref (Ax 0)]) (congrArg (fun zz : Int32 => F0 m 234 ls [.int zz, .int a1, .ref (Ax 0)]) ea2) ?_
      refine lv_aload_n hx hb dL_law_234 rfl (lv_at hl 2 rfl) ?_
      refine lv_iload hx hb dL_law_235 (lv_at hl 1 rfl) ?_
      refine lv_iconst (v := 3) hx hb dL_law_237 (by decide) ?_
      refine lv_iadd hx hb dL_law_238 ?_
      refine va_sld hx hb hX hbl hbA hS (i := ((nI (4 * i)) + 3)) (inS3 hi hL) dL_law_239 ?_
      refine W.eq (g2 := F0 m 240 ls [.int a3, .int a2, .int a1, .ref (Ax 0)]) (congrArg (fun zz : Int32 => F0 m 240 ls [.int zz, .int a2, .int a1, .ref (Ax 0)]) ea3) ?_
      refine lv_if_eq (tgt := 247) hx hb dL_law_240 (by decide) (fun c9 => ?_) (fun c9 => ?_)
      · exact absurd c9 c1
      · refine lv_iconst (v := 1) hx hb dL_law_243 (by decide) ?_
        refine lv_goto (tgt := 248) hx hb dL_law_244 (by decide) ?_
        refine kVw ⟨hx, hb, hml, hown, hts⟩ (c_X7_setSight l D Ax th nsd fogd nrd nm ne Lx a1 a2 (1 : Int32) (by assumption) (by assumption) (by assumption) (by assumption)) (cwV 3 hts gL_law_X7_setSight rfl rfl rfl (by decide +kernel) ⟨Nat.le_of_ble_eq_true rfl, Nat.le_of_ble_eq_true rfl⟩) hK hN hP hD hS (Fr.r (Fr.r (Fr.r (Fr.r (Fr.r (Fr.r (Fr.r (Fr.r (Fr.r (Fr.r (Fr.r (Fr.r (Fr.r frsMod))))))))))))) 7 0 rfl rfl rfl hl.1 (Nat.le_of_ble_eq_true rfl) ⟨by show _ ≤ 601024; omega, by show _ ≤ 7293034; omega⟩ dL_law_248 (fun H locs hP hD hS => ?_) rfl
        have hP : va_P D.1 vwCl ((wMob om Ad ot ou) ++ ((wTob ot Ad Aw Am Ae xt hou cro) ++ ((wWays D Aw Lw) ++ ((wMul D Am nm Lm) ++ ((wLet D Ae ne Le) ++ ((wRow D xt yt 60 Nt) ++ ((wTob ou Ad Bw Bm Be xu hou2 cro2) ++ ((wWays D Bw Kw) ++ ((wMul D Bm nm2 Km) ++ ((wLet D Be ne2 Ke) ++ ((wRow D xu yu 60 Nu) ++ ((wLand D Ad nsd fogd nrd Ld) ++ ((wLar D oq fq) ++ (wMod D Ax ((pss Lx nsd a1 a2 (1 : Int32)).2.1) nsd fogd nrd nm ne ((pss Lx nsd a1 a2 (1 : Int32)).2.2))))))))))))))) H := hP
        have hD : va_D A0 ((wMob om Ad ot ou) ++ ((wTob ot Ad Aw Am Ae xt hou cro) ++ ((wWays D Aw Lw) ++ ((wMul D Am nm Lm) ++ ((wLet D Ae ne Le) ++ ((wRow D xt yt 60 Nt) ++ ((wTob ou Ad Bw Bm Be xu hou2 cro2) ++ ((wWays D Bw Kw) ++ ((wMul D Bm nm2 Km) ++ ((wLet D Be ne2 Ke) ++ ((wRow D xu yu 60 Nu) ++ ((wLand D Ad nsd fogd nrd Ld) ++ ((wLar D oq fq) ++ (wMod D Ax ((pss Lx nsd a1 a2 (1 : Int32)).2.1) nsd fogd nrd nm ne ((pss Lx nsd a1 a2 (1 : Int32)).2.2))))))))))))))) := hD
        refine W.eq (g2 := F0 m 251 ls [.int ((pss Lx nsd a1 a2 (1 : Int32)).1)]) rfl ?_
        have r9 := ss_rel (a := a1) (b := a2) (v := (1 : Int32)) hSY
        rw [r9.1, r9.2.1 hk9] at hP hD
        have hP : va_P D.1 vwCl ((wMob om Ad ot ou) ++ ((wTob ot Ad Aw Am Ae xt hou cro) ++ ((wWays D Aw Lw) ++ ((wMul D Am nm Lm) ++ ((wLet D Ae ne Le) ++ ((wRow D xt yt 60 Nt) ++ ((wTob ou Ad Bw Bm Be xu hou2 cro2) ++ ((wWays D Bw Kw) ++ ((wMul D Bm nm2 Km) ++ ((wLet D Be ne2 Ke) ++ ((wRow D xu yu 60 Nu) ++ ((wLand D Ad nsd fogd nrd Ld) ++ ((wLar D oq fq) ++ (wMod D Ax (nI (kSS nsd a1 a2)) nsd fogd nrd nm ne Lx)))))))))))))) H := hP
        have hD : va_D A0 ((wMob om Ad ot ou) ++ ((wTob ot Ad Aw Am Ae xt hou cro) ++ ((wWays D Aw Lw) ++ ((wMul D Am nm Lm) ++ ((wLet D Ae ne Le) ++ ((wRow D xt yt 60 Nt) ++ ((wTob ou Ad Bw Bm Be xu hou2 cro2) ++ ((wWays D Bw Kw) ++ ((wMul D Bm nm2 Km) ++ ((wLet D Be ne2 Ke) ++ ((wRow D xu yu 60 Nu) ++ ((wLand D Ad nsd fogd nrd Ld) ++ ((wLar D oq fq) ++ (wMod D Ax (nI (kSS nsd a1 a2)) nsd fogd nrd nm ne Lx)))))))))))))) := hD
        refine lv_istore (lv' := [(6, .int ((pss Lx nsd a1 a2 (1 : Int32)).1)), (5, .int (nI (kSS nsd a1 a2))), (4, .int (nI (4 * i))), (0, .ref b), (1, .ref om), (2, .ref (Ax 0)), (3, .ref oq)]) hx hb dL_law_251 hl (by decide) rfl (fun ls hl => ?_)
        refine lv_aload_n hx hb dL_law_253 rfl (lv_at hl 5 rfl) ?_
        refine kVp ⟨hx, hb, hml, hown, hts⟩ (c_X7_thrown l D Ax (nI (kSS nsd a1 a2)) nsd fogd nrd nm ne Lx) (cwV 0 hts gL_law_X7_thrown rfl rfl rfl (by decide +kernel) ⟨Nat.le_of_ble_eq_true rfl, Nat.le_of_ble_eq_true rfl⟩) hK hN hP hD (Sb.r (Sb.r (Sb.r (Sb.r (Sb.r (Sb.r (Sb.r (Sb.r (Sb.r (Sb.r (Sb.r (Sb.r (Sb.r Sb.self))))))))))))) 7 0 rfl rfl rfl hl.1 (Nat.le_of_ble_eq_true rfl) ⟨by show _ ≤ 601024; omega, by show _ ≤ 7293034; omega⟩ dL_law_254 ?_ rfl
        refine lv_iload hx hb dL_law_257 (lv_at hl 1 rfl) ?_
        refine lv_icmp_eq (tgt := 264) hx hb dL_law_259 (by decide) (fun c10 => ?_) (fun c10 => ?_)
        · refine lv_iload hx hb dL_law_264 (lv_at hl 1 rfl) ?_
          refine lv_if_ne (tgt := 281) hx hb dL_law_266 (by decide) (fun c11 => ?_) (fun c11 => ?_)
          · refine lv_goto (tgt := 1447) hx hb dL_law_281 (by decide) ?_
            refine lv_iinc (v := ((nI (4 * i)) + 4)) (lv' := [(4, .int ((nI (4 * i)) + 4)), (6, .int ((pss Lx nsd a1 a2 (1 : Int32)).1)), (5, .int (nI (kSS nsd a1 a2))), (0, .ref b), (1, .ref om), (2, .ref (Ax 0)), (3, .ref oq)]) hx hb dL_law_1447 hl (k := 2) rfl rfl (by decide) rfl (fun ls hl => ?_)
            rw [show nI (4 * i) + 4 = nI (4 * (i + 1)) from nI_add (4 * i) 4] at hl
            refine lv_goto (tgt := 23) hx hb dL_law_1450 (by decide) ?_
            refine W.widen (k := 200 + 81 * (i + 1)) (n := 9000 + 11700 * (i + 1)) (by omega) (by omega) ?_
            exact ih Ax hou cro Lw nm Lm ne Le Nt hou2 cro2 Kw nm2 Km ne2 Ke Nu nsd fogd nrd Ld fq (nI (kSS nsd a1 a2)) Lx h hSY (by omega) H locs hP hD hS ls (lv_sub hl [0, 3, 4, 5, 6] rfl)
          · exact (nI_ne0 (Nat.pos_of_ne_zero hk9) (Nat.lt_of_le_of_lt (kSS_b _ _ _) (by decide)) c11).elim
        · exact (c10 (by first | rfl | decide)).elim
    · have hP : va_P D.1 vwCl ((wMob om Ad ot ou) ++ ((wTob ot Ad Aw Am Ae xt hou cro) ++ ((wWays D Aw Lw) ++ ((wMul D Am nm Lm) ++ ((wLet D Ae ne Le) ++ ((wRow D xt yt 60 Nt) ++ ((wTob ou Ad Bw Bm Be xu hou2 cro2) ++ ((wWays D Bw Kw) ++ ((wMul D Bm nm2 Km) ++ ((wLet D Be ne2 Ke) ++ ((wRow D xu yu 60 Nu) ++ ((wLand D Ad nsd fogd nrd (psC (psC Ld a1 a2 (1 : Int32)) a2 a1 (1 : Int32))) ++ ((wLar D oq (vp_updL fq 0 (bitC (rg 10 (psC (psC Ld a1 a2 (1 : Int32)) a2 a1 (1 : Int32) 1) a1)).toInt64)) ++ (wMod D Ax th nsd fogd nrd nm ne Lx)))))))))))))) H := hP
      have hD : va_D A0 ((wMob om Ad ot ou) ++ ((wTob ot Ad Aw Am Ae xt hou cro) ++ ((wWays D Aw Lw) ++ ((wMul D Am nm Lm) ++ ((wLet D Ae ne Le) ++ ((wRow D xt yt 60 Nt) ++ ((wTob ou Ad Bw Bm Be xu hou2 cro2) ++ ((wWays D Bw Kw) ++ ((wMul D Bm nm2 Km) ++ ((wLet D Be ne2 Ke) ++ ((wRow D xu yu 60 Nu) ++ ((wLand D Ad nsd fogd nrd (psC (psC Ld a1 a2 (1 : Int32)) a2 a1 (1 : Int32))) ++ ((wLar D oq (vp_updL fq 0 (bitC (rg 10 (psC (psC Ld a1 a2 (1 : Int32)) a2 a1 (1 : Int32) 1) a1)).toInt64)) ++ (wMod D Ax th nsd fogd nrd nm ne Lx)))))))))))))) := hD
      refine lv_istore (lv' := [(5, .int 0), (4, .int (nI (4 * i))), (0, .ref b), (1, .ref om), (2, .ref (Ax 0)), (3, .ref oq)]) hx hb dL_law_219 hl (by decide) rfl (fun ls hl => ?_)
      refine lv_aload_n hx hb dL_law_221 rfl (lv_at hl 4 rfl) ?_
      refine lv_aload_n hx hb dL_law_222 rfl (lv_at hl 2 rfl) ?_
      refine lv_iload hx hb dL_law_223 (lv_at hl 1 rfl) ?_
      refine lv_iconst (v := 1) hx hb dL_law_225 (by decide) ?_
      refine lv_iadd hx hb dL_law_226 ?_
      refine va_sld hx hb hX hbl hbA hS (i := ((nI (4 * i)) + 1)) (inS1 hi hL) dL_law_227 ?_
      refine W.eq (g2 := F0 m 228 ls [.int a1, .ref (Ax 0)]) (congrArg (fun zz : Int32 => F0 m 228 ls [.int zz, .ref (Ax 0)]) ea1) ?_
      refine lv_aload_n hx hb dL_law_228 rfl (lv_at hl 2 rfl) ?_
      refine lv_iload hx hb dL_law_229 (lv_at hl 1 rfl) ?_
      refine lv_iconst (v := 2) hx hb dL_law_231 (by decide) ?_
      refine lv_iadd hx hb dL_law_232 ?_
      refine va_sld hx hb hX hbl hbA hS (i := ((nI (4 * i)) + 2)) (inS2 hi hL) dL_law_233 ?_
      refine W.eq (g2 := F0 m 234 ls [.int a2, .int a1, .ref (Ax 0)]) (congrArg (fun zz : Int32 => F0 m 234 ls [.int zz, .int a1, .ref (Ax 0)]) ea2) ?_
      refine lv_aload_n hx hb dL_law_234 rfl (lv_at hl 2 rfl) ?_
      refine lv_iload hx hb dL_law_235 (lv_at hl 1 rfl) ?_
      refine lv_iconst (v := 3) hx hb dL_law_237 (by decide) ?_
      refine lv_iadd hx hb dL_law_238 ?_
      refine va_sld hx hb hX hbl hbA hS (i := ((nI (4 * i)) + 3)) (inS3 hi hL) dL_law_239 ?_
      refine W.eq (g2 := F0 m 240 ls [.int a3, .int a2, .int a1, .ref (Ax 0)]) (congrArg (fun zz : Int32 => F0 m 240 ls [.int zz, .int a2, .int a1, .ref (Ax 0)]) ea3) ?_
      refine lv_if_eq (tgt := 247) hx hb dL_law_240 (by decide) (fun c12 => ?_) (fun c12 => ?_)
      · exact absurd c12 c1
      · refine lv_iconst (v := 1) hx hb dL_law_243 (by decide) ?_
        refine lv_goto (tgt := 248) hx hb dL_law_244 (by decide) ?_
        refine kVw ⟨hx, hb, hml, hown, hts⟩ (c_X7_setSight l D Ax th nsd fogd nrd nm ne Lx a1 a2 (1 : Int32) (by assumption) (by assumption) (by assumption) (by assumption)) (cwV 3 hts gL_law_X7_setSight rfl rfl rfl (by decide +kernel) ⟨Nat.le_of_ble_eq_true rfl, Nat.le_of_ble_eq_true rfl⟩) hK hN hP hD hS (Fr.r (Fr.r (Fr.r (Fr.r (Fr.r (Fr.r (Fr.r (Fr.r (Fr.r (Fr.r (Fr.r (Fr.r (Fr.r frsMod))))))))))))) 7 0 rfl rfl rfl hl.1 (Nat.le_of_ble_eq_true rfl) ⟨by show _ ≤ 601024; omega, by show _ ≤ 7293034; omega⟩ dL_law_248 (fun H locs hP hD hS => ?_) rfl
        have hP : va_P D.1 vwCl ((wMob om Ad ot ou) ++ ((wTob ot Ad Aw Am Ae xt hou cro) ++ ((wWays D Aw Lw) ++ ((wMul D Am nm Lm) ++ ((wLet D Ae ne Le) ++ ((wRow D xt yt 60 Nt) ++ ((wTob ou Ad Bw Bm Be xu hou2 cro2) ++ ((wWays D Bw Kw) ++ ((wMul D Bm nm2 Km) ++ ((wLet D Be ne2 Ke) ++ ((wRow D xu yu 60 Nu) ++ ((wLand D Ad nsd fogd nrd (psC (psC Ld a1 a2 (1 : Int32)) a2 a1 (1 : Int32))) ++ ((wLar D oq (vp_updL fq 0 (bitC (rg 10 (psC (psC Ld a1 a2 (1 : Int32)) a2 a1 (1 : Int32) 1) a1)).toInt64)) ++ (wMod D Ax ((pss Lx nsd a1 a2 (1 : Int32)).2.1) nsd fogd nrd nm ne ((pss Lx nsd a1 a2 (1 : Int32)).2.2))))))))))))))) H := hP
        have hD : va_D A0 ((wMob om Ad ot ou) ++ ((wTob ot Ad Aw Am Ae xt hou cro) ++ ((wWays D Aw Lw) ++ ((wMul D Am nm Lm) ++ ((wLet D Ae ne Le) ++ ((wRow D xt yt 60 Nt) ++ ((wTob ou Ad Bw Bm Be xu hou2 cro2) ++ ((wWays D Bw Kw) ++ ((wMul D Bm nm2 Km) ++ ((wLet D Be ne2 Ke) ++ ((wRow D xu yu 60 Nu) ++ ((wLand D Ad nsd fogd nrd (psC (psC Ld a1 a2 (1 : Int32)) a2 a1 (1 : Int32))) ++ ((wLar D oq (vp_updL fq 0 (bitC (rg 10 (psC (psC Ld a1 a2 (1 : Int32)) a2 a1 (1 : Int32) 1) a1)).toInt64)) ++ (wMod D Ax ((pss Lx nsd a1 a2 (1 : Int32)).2.1) nsd fogd nrd nm ne ((pss Lx nsd a1 a2 (1 : Int32)).2.2))))))))))))))) := hD
        refine W.eq (g2 := F0 m 251 ls [.int ((pss Lx nsd a1 a2 (1 : Int32)).1)]) rfl ?_
        have r9 := ss_rel (a := a1) (b := a2) (v := (1 : Int32)) hSY
        rw [r9.1, hk9] at hP hD
        have hP : va_P D.1 vwCl ((wMob om Ad ot ou) ++ ((wTob ot Ad Aw Am Ae xt hou cro) ++ ((wWays D Aw Lw) ++ ((wMul D Am nm Lm) ++ ((wLet D Ae ne Le) ++ ((wRow D xt yt 60 Nt) ++ ((wTob ou Ad Bw Bm Be xu hou2 cro2) ++ ((wWays D Bw Kw) ++ ((wMul D Bm nm2 Km) ++ ((wLet D Be ne2 Ke) ++ ((wRow D xu yu 60 Nu) ++ ((wLand D Ad nsd fogd nrd (psC (psC Ld a1 a2 (1 : Int32)) a2 a1 (1 : Int32))) ++ ((wLar D oq (vp_updL fq 0 (bitC (rg 10 (psC (psC Ld a1 a2 (1 : Int32)) a2 a1 (1 : Int32) 1) a1)).toInt64)) ++ (wMod D Ax (nI 0) nsd fogd nrd nm ne ((pss Lx nsd a1 a2 (1 : Int32)).2.2))))))))))))))) H := hP
        have hD : va_D A0 ((wMob om Ad ot ou) ++ ((wTob ot Ad Aw Am Ae xt hou cro) ++ ((wWays D Aw Lw) ++ ((wMul D Am nm Lm) ++ ((wLet D Ae ne Le) ++ ((wRow D xt yt 60 Nt) ++ ((wTob ou Ad Bw Bm Be xu hou2 cro2) ++ ((wWays D Bw Kw) ++ ((wMul D Bm nm2 Km) ++ ((wLet D Be ne2 Ke) ++ ((wRow D xu yu 60 Nu) ++ ((wLand D Ad nsd fogd nrd (psC (psC Ld a1 a2 (1 : Int32)) a2 a1 (1 : Int32))) ++ ((wLar D oq (vp_updL fq 0 (bitC (rg 10 (psC (psC Ld a1 a2 (1 : Int32)) a2 a1 (1 : Int32) 1) a1)).toInt64)) ++ (wMod D Ax (nI 0) nsd fogd nrd nm ne ((pss Lx nsd a1 a2 (1 : Int32)).2.2))))))))))))))) := hD
        refine W.eq (g2 := F0 m 251 ls [.int (bitC (rg 10 (psC (psC Ld a1 a2 (1 : Int32)) a2 a1 (1 : Int32) 1) a1))]) (congrArg (fun zz : Int32 => F0 m 251 ls [.int zz]) (show (pss Lx nsd a1 a2 (1 : Int32)).1 = bitC (rg 10 (psC (psC Ld a1 a2 (1 : Int32)) a2 a1 (1 : Int32) 1) a1) from (r9.2.2 hk9).1)) ?_
        refine lv_istore (lv' := [(6, .int (bitC (rg 10 (psC (psC Ld a1 a2 (1 : Int32)) a2 a1 (1 : Int32) 1) a1))), (5, .int 0), (4, .int (nI (4 * i))), (0, .ref b), (1, .ref om), (2, .ref (Ax 0)), (3, .ref oq)]) hx hb dL_law_251 hl (by decide) rfl (fun ls hl => ?_)
        refine lv_aload_n hx hb dL_law_253 rfl (lv_at hl 5 rfl) ?_
        refine kVp ⟨hx, hb, hml, hown, hts⟩ (c_X7_thrown l D Ax (nI 0) nsd fogd nrd nm ne ((pss Lx nsd a1 a2 (1 : Int32)).2.2)) (cwV 0 hts gL_law_X7_thrown rfl rfl rfl (by decide +kernel) ⟨Nat.le_of_ble_eq_true rfl, Nat.le_of_ble_eq_true rfl⟩) hK hN hP hD (Sb.r (Sb.r (Sb.r (Sb.r (Sb.r (Sb.r (Sb.r (Sb.r (Sb.r (Sb.r (Sb.r (Sb.r (Sb.r Sb.self))))))))))))) 7 0 rfl rfl rfl hl.1 (Nat.le_of_ble_eq_true rfl) ⟨by show _ ≤ 601024; omega, by show _ ≤ 7293034; omega⟩ dL_law_254 ?_ rfl
        refine lv_iload hx hb dL_law_257 (lv_at hl 1 rfl) ?_
        refine lv_icmp_eq (tgt := 264) hx hb dL_law_259 (by decide) (fun c13 => ?_) (fun c13 => ?_)
        · refine lv_iload hx hb dL_law_264 (lv_at hl 1 rfl) ?_
          refine lv_if_ne (tgt := 281) hx hb dL_law_266 (by decide) (fun c14 => ?_) (fun c14 => ?_)
          · exact absurd c14 (by decide)
          · refine lv_aload_n hx hb dL_law_269 rfl (lv_at hl 6 rfl) ?_
            refine lv_iconst (v := 0) hx hb dL_law_270 (by decide) ?_
            refine va_lald (D := D.1) hx hb hK hP 96 1 rfl rfl (i := (0 : Int32)) (vpl (by decide)) dL_law_271 ?_
            refine W.eq (g2 := F0 m 272 ls [.long ((bitC (rg 10 (psC (psC Ld a1 a2 (1 : Int32)) a2 a1 (1 : Int32) 1) a1)).toInt64)]) (congrArg (fun zz : Int64 => F0 m 272 ls [.long zz]) (show (vp_updL fq 0 (bitC (rg 10 (psC (psC Ld a1 a2 (1 : Int32)) a2 a1 (1 : Int32) 1) a1)).toInt64) ((0 : Int32).toNatClampNeg) = (bitC (rg 10 (psC (psC Ld a1 a2 (1 : Int32)) a2 a1 (1 : Int32) 1) a1)).toInt64 from pk_uLs)) ?_
            refine lv_iload hx hb dL_law_272 (lv_at hl 0 rfl) ?_
            refine lv_i2l hx hb dL_law_274 rfl ?_
            refine W.lcmp hx hb dL_law_275 ?_
            refine W.eq (g2 := F0 m 276 ls [.int 0]) (congrArg (fun zz : Int32 => F0 m 276 ls [.int zz]) (lcmp0 _)) ?_
            refine lv_if_eq (tgt := 281) hx hb dL_law_276 (by decide) (fun c15 => ?_) (fun c15 => ?_)
            · refine lv_goto (tgt := 1447) hx hb dL_law_281 (by decide) ?_
              refine lv_iinc (v := ((nI (4 * i)) + 4)) (lv' := [(4, .int ((nI (4 * i)) + 4)), (6, .int (bitC (rg 10 (psC (psC Ld a1 a2 (1 : Int32)) a2 a1 (1 : Int32) 1) a1))), (5, .int 0), (0, .ref b), (1, .ref om), (2, .ref (Ax 0)), (3, .ref oq)]) hx hb dL_law_1447 hl (k := 2) rfl rfl (by decide) rfl (fun ls hl => ?_)
              rw [show nI (4 * i) + 4 = nI (4 * (i + 1)) from nI_add (4 * i) 4] at hl
              refine lv_goto (tgt := 23) hx hb dL_law_1450 (by decide) ?_
              refine W.widen (k := 200 + 81 * (i + 1)) (n := 9000 + 11700 * (i + 1)) (by omega) (by omega) ?_
              exact ih Ax hou cro Lw nm Lm ne Le Nt hou2 cro2 Kw nm2 Km ne2 Ke Nu nsd fogd nrd (psC (psC Ld a1 a2 (1 : Int32)) a2 a1 (1 : Int32)) (vp_updL fq 0 (bitC (rg 10 (psC (psC Ld a1 a2 (1 : Int32)) a2 a1 (1 : Int32) 1) a1)).toInt64) (nI 0) ((pss Lx nsd a1 a2 (1 : Int32)).2.2) h (r9.2.2 hk9).2 (by omega) H locs hP hD hS ls (lv_sub hl [0, 3, 4, 5, 6] rfl)
            · exact absurd c15 (by decide)
        · exact (c13 (by first | rfl | decide)).elim

set_option maxHeartbeats 4000000 in
set_option maxRecDepth 100000 in
theorem law_c2 {p : Program} {l : Launch} {e : Env} {s : State} {m : MethodId} {below : List Frame} {meth : Method} {c : Code} {D : GG} {b L : Nat} {xs : Nat → Int32} {A0 : Nat → Prop} {om ot ou oq xt yt xu yu : Nat} {Ad Aw Am Ae Bw Bm Be : Nat → Nat} (X : LX p l s m meth c D b L xs A0) {i : Nat} (hi : 4 * i + 4 ≤ L) (ih : LG p l e s m below meth c D b L xs A0 om ot ou oq xt yt xu yu Ad Aw Am Ae Bw Bm Be (i + 1)) {a1 a2 a3 : Int32} (ea1 : xs (nI (4 * i) + 1).toNatClampNeg = a1) (ea2 : xs (nI (4 * i) + 2).toNatClampNeg = a2) (ea3 : xs (nI (4 * i) + 3).toNatClampNeg = a3)
    (Ax : Nat → Nat) (hou cro : Int32) (Lw : Fm) (nm : Nat) (Lm : Fm) (ne : Nat) (Le : Fm) (Nt : Rw) (hou2 cro2 : Int32) (Kw : Fm) (nm2 : Nat) (Km : Fm) (ne2 : Nat) (Ke : Fm) (Nu : Rw) (nsd : Nat) (fogd : Int32) (nrd : Nat) (Ld : Fm) (fq : Nat → Int64) (th : Int32) (Lx : Fm) (h : Nat) (hSY : SY Lw Ld Lm Le hou cro Lx nsd nrd nm ne h) (hh : h ≤ 100 * i) (H : Heap) (locs : List Loc) (hP : va_P D.1 vwCl ((wMob om Ad ot ou) ++ ((wTob ot Ad Aw Am Ae xt hou cro) ++ ((wWays D Aw Lw) ++ ((wMul D Am nm Lm) ++ ((wLet D Ae ne Le) ++ ((wRow D xt yt 60 Nt) ++ ((wTob ou Ad Bw Bm Be xu hou2 cro2) ++ ((wWays D Bw Kw) ++ ((wMul D Bm nm2 Km) ++ ((wLet D Be ne2 Ke) ++ ((wRow D xu yu 60 Nu) ++ ((wLand D Ad nsd fogd nrd Ld) ++ ((wLar D oq fq) ++ (wMod D Ax th nsd fogd nrd nm ne Lx)))))))))))))) H) (hD : va_D A0 ((wMob om Ad ot ou) ++ ((wTob ot Ad Aw Am Ae xt hou cro) ++ ((wWays D Aw Lw) ++ ((wMul D Am nm Lm) ++ ((wLet D Ae ne Le) ++ ((wRow D xt yt 60 Nt) ++ ((wTob ou Ad Bw Bm Be xu hou2 cro2) ++ ((wWays D Bw Kw) ++ ((wMul D Bm nm2 Km) ++ ((wLet D Be ne2 Ke) ++ ((wRow D xu yu 60 Nu) ++ ((wLand D Ad nsd fogd nrd Ld) ++ ((wLar D oq fq) ++ (wMod D Ax th nsd fogd nrd nm ne Lx))))))))))))))) (hS : va_S A0 s.heap H locs) (ls : Array Slot) (hl : lv_has ls 9 [(4, .int (nI (4 * i))), (0, .ref b), (1, .ref om), (2, .ref (Ax 0)), (3, .ref oq)]) : W p l e room_1 s m #[Value.ref b] below meth c H locs (200 + 81 * i) (9000 + 11700 * i) (lw_Z below #[Value.ref b] s) (F0 m 284 ls []) := by
  obtain ⟨hx, hb, hr, hml, hown, hts, hX, hbl, hbA, hlocks, hl9, hCX, hSX, hTX, hZX, hNX, hK, hN, hA, -, hL⟩ := X
  have hS9 : okS Lx nsd nrd nm ne := okS_rel hSY.1
  have b10 : nsd ≤ 10 := hSY.1.1.1
  have b15 : nrd ≤ 15 := hSY.1.1.2.1
  have b12 : nm ≤ 12 := hSY.1.2.2.1.1
  have b60 : ne ≤ 60 := hSY.1.2.2.2.1
  have hrE : rE Le Lx ne := hSY.1.2.2.2.2.2.2.2.2.2.1
  have he : ne < 2 ^ 31 := by omega
  have hm : nm < 2 ^ 31 := by omega
  have hns : nsd < 2 ^ 31 := by omega
  have hnr : nrd < 2 ^ 31 := by omega
  refine lv_aload_n hx hb dL_law_284 rfl (lv_at hl 2 rfl) ?_
  refine lv_aload_n hx hb dL_law_285 rfl (lv_at hl 1 rfl) ?_
  refine lv_iload hx hb dL_law_286 (lv_at hl 0 rfl) ?_
  refine lv_iconst (v := 1) hx hb dL_law_288 (by decide) ?_
  refine lv_iadd hx hb dL_law_289 ?_
  refine va_sld hx hb hX hbl hbA hS (i := ((nI (4 * i)) + 1)) (inS1 hi hL) dL_law_290 ?_
  refine W.eq (g2 := F0 m 291 ls [.int a1, .ref om]) (congrArg (fun zz : Int32 => F0 m 291 ls [.int zz, .ref om]) ea1) ?_
  refine lv_aload_n hx hb dL_law_291 rfl (lv_at hl 1 rfl) ?_
  refine lv_iload hx hb dL_law_292 (lv_at hl 0 rfl) ?_
  refine lv_iconst (v := 2) hx hb dL_law_294 (by decide) ?_
  refine lv_iadd hx hb dL_law_295 ?_
  refine va_sld hx hb hX hbl hbA hS (i := ((nI (4 * i)) + 2)) (inS2 hi hL) dL_law_296 ?_
  refine W.eq (g2 := F0 m 297 ls [.int a2, .int a1, .ref om]) (congrArg (fun zz : Int32 => F0 m 297 ls [.int zz, .int a1, .ref om]) ea2) ?_
  refine lv_if_eq (tgt := 304) hx hb dL_law_297 (by decide) (fun c1 => ?_) (fun c1 => ?_)
  · refine lv_iconst (v := 0) hx hb dL_law_304 (by decide) ?_
    refine lv_aload_n hx hb dL_law_305 rfl (lv_at hl 4 rfl) ?_
    refine kSL ⟨hx, hb, hml, hown, hts⟩ (c_L_setFog l D om Ad ot ou Aw Am Ae xt hou cro Lw nm Lm ne Le yt Nt nsd fogd nrd Ld oq fq a1 (0 : Int32) _ hl9) (vx_cwSW 4 hts gL_law_L_setFog rfl rfl rfl (by decide +kernel) ⟨Nat.le_of_ble_eq_true rfl, Nat.le_of_ble_eq_true rfl⟩) hCX hSX hTX hZX hNX hK hN hP hD hS hA (fun z => (Fr.app (Fr.kp Sb.self) (Fr.app (Fr.kp Sb.self) (Fr.app (Fr.kp Sb.self) (Fr.app (Fr.kp Sb.self) (Fr.app (Fr.kp Sb.self) (Fr.app (Fr.kp Sb.self) (Fr.r (Fr.r (Fr.r (Fr.r (Fr.r (Fr.app frsLand (Fr.l frsLar)))))))))))))) (Sb.app Sb.self (Sb.app Sb.self (Sb.app Sb.self (Sb.app Sb.self (Sb.app Sb.self (Sb.app Sb.self (Sb.r (Sb.r (Sb.r (Sb.r (Sb.r (Sb.app Sb.self (Sb.l Sb.self))))))))))))) rfl hl.1 (Nat.le_of_ble_eq_true rfl) ⟨by show _ ≤ 601024; omega, by show _ ≤ 7293034; omega⟩ dL_law_306 (fun H locs hk9 hP hD hS => ?_) (fun z H locs hk9 hP hD hS => ?_) rfl
    · have hP : va_P D.1 vwCl ((wMob om Ad ot ou) ++ ((wTob ot Ad Aw Am Ae xt hou cro) ++ ((wWays D Aw Lw) ++ ((wMul D Am nm Lm) ++ ((wLet D Ae ne Le) ++ ((wRow D xt yt 60 Nt) ++ ((wTob ou Ad Bw Bm Be xu hou2 cro2) ++ ((wWays D Bw Kw) ++ ((wMul D Bm nm2 Km) ++ ((wLet D Be ne2 Ke) ++ ((wRow D xu yu 60 Nu) ++ ((wLand D Ad nsd fogd nrd Ld) ++ ((wLar D oq fq) ++ (wMod D Ax th nsd fogd nrd nm ne Lx)))))))))))))) H := hP
      have hD : va_D A0 ((wMob om Ad ot ou) ++ ((wTob ot Ad Aw Am Ae xt hou cro) ++ ((wWays D Aw Lw) ++ ((wMul D Am nm Lm) ++ ((wLet D Ae ne Le) ++ ((wRow D xt yt 60 Nt) ++ ((wTob ou Ad Bw Bm Be xu hou2 cro2) ++ ((wWays D Bw Kw) ++ ((wMul D Bm nm2 Km) ++ ((wLet D Be ne2 Ke) ++ ((wRow D xu yu 60 Nu) ++ ((wLand D Ad nsd fogd nrd Ld) ++ ((wLar D oq fq) ++ (wMod D Ax th nsd fogd nrd nm ne Lx)))))))))))))) := hD
      refine lv_istore (lv' := [(5, .int (nI (kSF nsd a1))), (4, .int (nI (4 * i))), (0, .ref b), (1, .ref om), (2, .ref (Ax 0)), (3, .ref oq)]) hx hb dL_law_309 hl (by decide) rfl (fun ls hl => ?_)
      refine lv_aload_n hx hb dL_law_311 rfl (lv_at hl 4 rfl) ?_
      refine lv_aload_n hx hb dL_law_312 rfl (lv_at hl 2 rfl) ?_
      refine lv_iload hx hb dL_law_313 (lv_at hl 1 rfl) ?_
      refine lv_iconst (v := 1) hx hb dL_law_315 (by decide) ?_
      refine lv_iadd hx hb dL_law_316 ?_
      refine va_sld hx hb hX hbl hbA hS (i := ((nI (4 * i)) + 1)) (inS1 hi hL) dL_law_317 ?_
      refine W.eq (g2 := F0 m 318 ls [.int a1, .ref (Ax 0)]) (congrArg (fun zz : Int32 => F0 m 318 ls [.int zz, .ref (Ax 0)]) ea1) ?_
      refine lv_aload_n hx hb dL_law_318 rfl (lv_at hl 2 rfl) ?_
      refine lv_iload hx hb dL_law_319 (lv_at hl 1 rfl) ?_
      refine lv_iconst (v := 2) hx hb dL_law_321 (by decide) ?_
      refine lv_iadd hx hb dL_law_322 ?_
      refine va_sld hx hb hX hbl hbA hS (i := ((nI (4 * i)) + 2)) (inS2 hi hL) dL_law_323 ?_
      refine W.eq (g2 := F0 m 324 ls [.int a2, .int a1, .ref (Ax 0)]) (congrArg (fun zz : Int32 => F0 m 324 ls [.int zz, .int a1, .ref (Ax 0)]) ea2) ?_
      refine lv_if_eq (tgt := 331) hx hb dL_law_324 (by decide) (fun c2 => ?_) (fun c2 => ?_)
      · refine lv_iconst (v := 0) hx hb dL_law_331 (by decide) ?_
        refine kVw ⟨hx, hb, hml, hown, hts⟩ (c_X7_setFog l D Ax th nsd fogd nrd nm ne Lx a1 (0 : Int32) (by assumption) (by assumption) (by assumption) (by assumption)) (cwV 2 hts gL_law_X7_setFog rfl rfl rfl (by decide +kernel) ⟨Nat.le_of_ble_eq_true rfl, Nat.le_of_ble_eq_true rfl⟩) hK hN hP hD hS (Fr.r (Fr.r (Fr.r (Fr.r (Fr.r (Fr.r (Fr.r (Fr.r (Fr.r (Fr.r (Fr.r (Fr.r (Fr.r frsMod))))))))))))) 7 0 rfl rfl rfl hl.1 (Nat.le_of_ble_eq_true rfl) ⟨by show _ ≤ 601024; omega, by show _ ≤ 7293034; omega⟩ dL_law_332 (fun H locs hP hD hS => ?_) rfl
        have hP : va_P D.1 vwCl ((wMob om Ad ot ou) ++ ((wTob ot Ad Aw Am Ae xt hou cro) ++ ((wWays D Aw Lw) ++ ((wMul D Am nm Lm) ++ ((wLet D Ae ne Le) ++ ((wRow D xt yt 60 Nt) ++ ((wTob ou Ad Bw Bm Be xu hou2 cro2) ++ ((wWays D Bw Kw) ++ ((wMul D Bm nm2 Km) ++ ((wLet D Be ne2 Ke) ++ ((wRow D xu yu 60 Nu) ++ ((wLand D Ad nsd fogd nrd Ld) ++ ((wLar D oq fq) ++ (wMod D Ax ((psf fogd nsd a1 (0 : Int32)).2.1) nsd ((psf fogd nsd a1 (0 : Int32)).2.2) nrd nm ne Lx)))))))))))))) H := hP
        have hD : va_D A0 ((wMob om Ad ot ou) ++ ((wTob ot Ad Aw Am Ae xt hou cro) ++ ((wWays D Aw Lw) ++ ((wMul D Am nm Lm) ++ ((wLet D Ae ne Le) ++ ((wRow D xt yt 60 Nt) ++ ((wTob ou Ad Bw Bm Be xu hou2 cro2) ++ ((wWays D Bw Kw) ++ ((wMul D Bm nm2 Km) ++ ((wLet D Be ne2 Ke) ++ ((wRow D xu yu 60 Nu) ++ ((wLand D Ad nsd fogd nrd Ld) ++ ((wLar D oq fq) ++ (wMod D Ax ((psf fogd nsd a1 (0 : Int32)).2.1) nsd ((psf fogd nsd a1 (0 : Int32)).2.2) nrd nm ne Lx)))))))))))))) := hD
        refine W.eq (g2 := F0 m 335 ls [.int ((psf fogd nsd a1 (0 : Int32)).1)]) rfl ?_
        have r9 := sf_rel (fog := fogd) (a := a1) (v := (0 : Int32)) b10
        rw [r9.1, r9.2.1 hk9] at hP hD
        have hP : va_P D.1 vwCl ((wMob om Ad ot ou) ++ ((wTob ot Ad Aw Am Ae xt hou cro) ++ ((wWays D Aw Lw) ++ ((wMul D Am nm Lm) ++ ((wLet D Ae ne Le) ++ ((wRow D xt yt 60 Nt) ++ ((wTob ou Ad Bw Bm Be xu hou2 cro2) ++ ((wWays D Bw Kw) ++ ((wMul D Bm nm2 Km) ++ ((wLet D Be ne2 Ke) ++ ((wRow D xu yu 60 Nu) ++ ((wLand D Ad nsd fogd nrd Ld) ++ ((wLar D oq fq) ++ (wMod D Ax (nI (kSF nsd a1)) nsd fogd nrd nm ne Lx)))))))))))))) H := hP
        have hD : va_D A0 ((wMob om Ad ot ou) ++ ((wTob ot Ad Aw Am Ae xt hou cro) ++ ((wWays D Aw Lw) ++ ((wMul D Am nm Lm) ++ ((wLet D Ae ne Le) ++ ((wRow D xt yt 60 Nt) ++ ((wTob ou Ad Bw Bm Be xu hou2 cro2) ++ ((wWays D Bw Kw) ++ ((wMul D Bm nm2 Km) ++ ((wLet D Be ne2 Ke) ++ ((wRow D xu yu 60 Nu) ++ ((wLand D Ad nsd fogd nrd Ld) ++ ((wLar D oq fq) ++ (wMod D Ax (nI (kSF nsd a1)) nsd fogd nrd nm ne Lx)))))))))))))) := hD
        refine lv_istore (lv' := [(6, .int ((psf fogd nsd a1 (0 : Int32)).1)), (5, .int (nI (kSF nsd a1))), (4, .int (nI (4 * i))), (0, .ref b), (1, .ref om), (2, .ref (Ax 0)), (3, .ref oq)]) hx hb dL_law_335 hl (by decide) rfl (fun ls hl => ?_)
        refine lv_aload_n hx hb dL_law_337 rfl (lv_at hl 5 rfl) ?_
        refine kVp ⟨hx, hb, hml, hown, hts⟩ (c_X7_thrown l D Ax (nI (kSF nsd a1)) nsd fogd nrd nm ne Lx) (cwV 0 hts gL_law_X7_thrown rfl rfl rfl (by decide +kernel) ⟨Nat.le_of_ble_eq_true rfl, Nat.le_of_ble_eq_true rfl⟩) hK hN hP hD (Sb.r (Sb.r (Sb.r (Sb.r (Sb.r (Sb.r (Sb.r (Sb.r (Sb.r (Sb.r (Sb.r (Sb.r (Sb.r Sb.self))))))))))))) 7 0 rfl rfl rfl hl.1 (Nat.le_of_ble_eq_true rfl) ⟨by show _ ≤ 601024; omega, by show _ ≤ 7293034; omega⟩ dL_law_338 ?_ rfl
        refine lv_iload hx hb dL_law_341 (lv_at hl 1 rfl) ?_
        refine lv_icmp_eq (tgt := 348) hx hb dL_law_343 (by decide) (fun c3 => ?_) (fun c3 => ?_)
        · refine lv_iload hx hb dL_law_348 (lv_at hl 1 rfl) ?_
          refine lv_if_ne (tgt := 365) hx hb dL_law_350 (by decide) (fun c4 => ?_) (fun c4 => ?_)
          · refine lv_goto (tgt := 1447) hx hb dL_law_365 (by decide) ?_
            refine lv_iinc (v := ((nI (4 * i)) + 4)) (lv' := [(4, .int ((nI (4 * i)) + 4)), (6, .int ((psf fogd nsd a1 (0 : Int32)).1)), (5, .int (nI (kSF nsd a1))), (0, .ref b), (1, .ref om), (2, .ref (Ax 0)), (3, .ref oq)]) hx hb dL_law_1447 hl (k := 2) rfl rfl (by decide) rfl (fun ls hl => ?_)
            rw [show nI (4 * i) + 4 = nI (4 * (i + 1)) from nI_add (4 * i) 4] at hl
            refine lv_goto (tgt := 23) hx hb dL_law_1450 (by decide) ?_
            refine W.widen (k := 200 + 81 * (i + 1)) (n := 9000 + 11700 * (i + 1)) (by omega) (by omega) ?_
            exact ih Ax hou cro Lw nm Lm ne Le Nt hou2 cro2 Kw nm2 Km ne2 Ke Nu nsd fogd nrd Ld fq (nI (kSF nsd a1)) Lx h hSY (by omega) H locs hP hD hS ls (lv_sub hl [0, 3, 4, 5, 6] rfl)
          · exact (nI_ne0 (Nat.pos_of_ne_zero hk9) (Nat.lt_of_le_of_lt (kSF_b _ _) (by decide)) c4).elim
        · exact (c3 (by first | rfl | decide)).elim
      · exact absurd c1 c2
    · have hP : va_P D.1 vwCl ((wMob om Ad ot ou) ++ ((wTob ot Ad Aw Am Ae xt hou cro) ++ ((wWays D Aw Lw) ++ ((wMul D Am nm Lm) ++ ((wLet D Ae ne Le) ++ ((wRow D xt yt 60 Nt) ++ ((wTob ou Ad Bw Bm Be xu hou2 cro2) ++ ((wWays D Bw Kw) ++ ((wMul D Bm nm2 Km) ++ ((wLet D Be ne2 Ke) ++ ((wRow D xu yu 60 Nu) ++ ((wLand D Ad nsd (if (0 : Int32) = 0 then bN fogd a1 else bW fogd a1) nrd Ld) ++ ((wLar D oq (vp_updL fq 0 (bitC (if (0 : Int32) = 0 then bN fogd a1 else bW fogd a1)).toInt64)) ++ (wMod D Ax th nsd fogd nrd nm ne Lx)))))))))))))) H := hP
      have hD : va_D A0 ((wMob om Ad ot ou) ++ ((wTob ot Ad Aw Am Ae xt hou cro) ++ ((wWays D Aw Lw) ++ ((wMul D Am nm Lm) ++ ((wLet D Ae ne Le) ++ ((wRow D xt yt 60 Nt) ++ ((wTob ou Ad Bw Bm Be xu hou2 cro2) ++ ((wWays D Bw Kw) ++ ((wMul D Bm nm2 Km) ++ ((wLet D Be ne2 Ke) ++ ((wRow D xu yu 60 Nu) ++ ((wLand D Ad nsd (if (0 : Int32) = 0 then bN fogd a1 else bW fogd a1) nrd Ld) ++ ((wLar D oq (vp_updL fq 0 (bitC (if (0 : Int32) = 0 then bN fogd a1 else bW fogd a1)).toInt64)) ++ (wMod D Ax th nsd fogd nrd nm ne Lx)))))))))))))) := hD
      refine lv_istore (lv' := [(5, .int 0), (4, .int (nI (4 * i))), (0, .ref b), (1, .ref om), (2, .ref (Ax 0)), (3, .ref oq)]) hx hb dL_law_309 hl (by decide) rfl (fun ls hl => ?_)
      refine lv_aload_n hx hb dL_law_311 rfl (lv_at hl 4 rfl) ?_
      refine lv_aload_n hx hb dL_law_312 rfl (lv_at hl 2 rfl) ?_
      refine lv_iload hx hb dL_law_313 (lv_at hl 1 rfl) ?_
      refine lv_iconst (v := 1) hx hb dL_law_315 (by decide) ?_
      refine lv_iadd hx hb dL_law_316 ?_
      refine va_sld hx hb hX hbl hbA hS (i := ((nI (4 * i)) + 1)) (inS1 hi hL) dL_law_317 ?_
      refine W.eq (g2 := F0 m 318 ls [.int a1, .ref (Ax 0)]) (congrArg (fun zz : Int32 => F0 m 318 ls [.int zz, .ref (Ax 0)]) ea1) ?_
      refine lv_aload_n hx hb dL_law_318 rfl (lv_at hl 2 rfl) ?_
      refine lv_iload hx hb dL_law_319 (lv_at hl 1 rfl) ?_
      refine lv_iconst (v := 2) hx hb dL_law_321 (by decide) ?_
      refine lv_iadd hx hb dL_law_322 ?_
      refine va_sld hx hb hX hbl hbA hS (i := ((nI (4 * i)) + 2)) (inS2 hi hL) dL_law_323 ?_
      refine W.eq (g2 := F0 m 324 ls [.int a2, .int a1, .ref (Ax 0)]) (congrArg (fun zz : Int32 => F0 m 324 ls [.int zz, .int a1, .ref (Ax 0)]) ea2) ?_
      refine lv_if_eq (tgt := 331) hx hb dL_law_324 (by decide) (fun c5 => ?_) (fun c5 => ?_)
      · refine lv_iconst (v := 0) hx hb dL_law_331 (by decide) ?_
        refine kVw ⟨hx, hb, hml, hown, hts⟩ (c_X7_setFog l D Ax th nsd fogd nrd nm ne Lx a1 (0 : Int32) (by assumption) (by assumption) (by assumption) (by assumption)) (cwV 2 hts gL_law_X7_setFog rfl rfl rfl (by decide +kernel) ⟨Nat.le_of_ble_eq_true rfl, Nat.le_of_ble_eq_true rfl⟩) hK hN hP hD hS (Fr.r (Fr.r (Fr.r (Fr.r (Fr.r (Fr.r (Fr.r (Fr.r (Fr.r (Fr.r (Fr.r (Fr.r (Fr.r frsMod))))))))))))) 7 0 rfl rfl rfl hl.1 (Nat.le_of_ble_eq_true rfl) ⟨by show _ ≤ 601024; omega, by show _ ≤ 7293034; omega⟩ dL_law_332 (fun H locs hP hD hS => ?_) rfl
        have hP : va_P D.1 vwCl ((wMob om Ad ot ou) ++ ((wTob ot Ad Aw Am Ae xt hou cro) ++ ((wWays D Aw Lw) ++ ((wMul D Am nm Lm) ++ ((wLet D Ae ne Le) ++ ((wRow D xt yt 60 Nt) ++ ((wTob ou Ad Bw Bm Be xu hou2 cro2) ++ ((wWays D Bw Kw) ++ ((wMul D Bm nm2 Km) ++ ((wLet D Be ne2 Ke) ++ ((wRow D xu yu 60 Nu) ++ ((wLand D Ad nsd (if (0 : Int32) = 0 then bN fogd a1 else bW fogd a1) nrd Ld) ++ ((wLar D oq (vp_updL fq 0 (bitC (if (0 : Int32) = 0 then bN fogd a1 else bW fogd a1)).toInt64)) ++ (wMod D Ax ((psf fogd nsd a1 (0 : Int32)).2.1) nsd ((psf fogd nsd a1 (0 : Int32)).2.2) nrd nm ne Lx)))))))))))))) H := hP
        have hD : va_D A0 ((wMob om Ad ot ou) ++ ((wTob ot Ad Aw Am Ae xt hou cro) ++ ((wWays D Aw Lw) ++ ((wMul D Am nm Lm) ++ ((wLet D Ae ne Le) ++ ((wRow D xt yt 60 Nt) ++ ((wTob ou Ad Bw Bm Be xu hou2 cro2) ++ ((wWays D Bw Kw) ++ ((wMul D Bm nm2 Km) ++ ((wLet D Be ne2 Ke) ++ ((wRow D xu yu 60 Nu) ++ ((wLand D Ad nsd (if (0 : Int32) = 0 then bN fogd a1 else bW fogd a1) nrd Ld) ++ ((wLar D oq (vp_updL fq 0 (bitC (if (0 : Int32) = 0 then bN fogd a1 else bW fogd a1)).toInt64)) ++ (wMod D Ax ((psf fogd nsd a1 (0 : Int32)).2.1) nsd ((psf fogd nsd a1 (0 : Int32)).2.2) nrd nm ne Lx)))))))))))))) := hD
        refine W.eq (g2 := F0 m 335 ls [.int ((psf fogd nsd a1 (0 : Int32)).1)]) rfl ?_
        have r9 := sf_rel (fog := fogd) (a := a1) (v := (0 : Int32)) b10
        rw [r9.1, hk9, (r9.2.2 hk9).2] at hP hD
        have hP : va_P D.1 vwCl ((wMob om Ad ot ou) ++ ((wTob ot Ad Aw Am Ae xt hou cro) ++ ((wWays D Aw Lw) ++ ((wMul D Am nm Lm) ++ ((wLet D Ae ne Le) ++ ((wRow D xt yt 60 Nt) ++ ((wTob ou Ad Bw Bm Be xu hou2 cro2) ++ ((wWays D Bw Kw) ++ ((wMul D Bm nm2 Km) ++ ((wLet D Be ne2 Ke) ++ ((wRow D xu yu 60 Nu) ++ ((wLand D Ad nsd (if (0 : Int32) = 0 then bN fogd a1 else bW fogd a1) nrd Ld) ++ ((wLar D oq (vp_updL fq 0 (bitC (if (0 : Int32) = 0 then bN fogd a1 else bW fogd a1)).toInt64)) ++ (wMod D Ax (nI 0) nsd (if (0 : Int32) = 0 then bN fogd a1 else bW fogd a1) nrd nm ne Lx)))))))))))))) H := hP
        have hD : va_D A0 ((wMob om Ad ot ou) ++ ((wTob ot Ad Aw Am Ae xt hou cro) ++ ((wWays D Aw Lw) ++ ((wMul D Am nm Lm) ++ ((wLet D Ae ne Le) ++ ((wRow D xt yt 60 Nt) ++ ((wTob ou Ad Bw Bm Be xu hou2 cro2) ++ ((wWays D Bw Kw) ++ ((wMul D Bm nm2 Km) ++ ((wLet D Be ne2 Ke) ++ ((wRow D xu yu 60 Nu) ++ ((wLand D Ad nsd (if (0 : Int32) = 0 then bN fogd a1 else bW fogd a1) nrd Ld) ++ ((wLar D oq (vp_updL fq 0 (bitC (if (0 : Int32) = 0 then bN fogd a1 else bW fogd a1)).toInt64)) ++ (wMod D Ax (nI 0) nsd (if (0 : Int32) = 0 then bN fogd a1 else bW fogd a1) nrd nm ne Lx)))))))))))))) := hD
        refine W.eq (g2 := F0 m 335 ls [.int (bitC (if (0 : Int32) = 0 then bN fogd a1 else bW fogd a1))]) (congrArg (fun zz : Int32 => F0 m 335 ls [.int zz]) (show (psf fogd nsd a1 (0 : Int32)).1 = bitC (if (0 : Int32) = 0 then bN fogd a1 else bW fogd a1) from (r9.2.2 hk9).1)) ?_
        refine lv_istore (lv' := [(6, .int (bitC (if (0 : Int32) = 0 then bN fogd a1 else bW fogd a1))), (5, .int 0), (4, .int (nI (4 * i))), (0, .ref b), (1, .ref om), (2, .ref (Ax 0)), (3, .ref oq)]) hx hb dL_law_335 hl (by decide) rfl (fun ls hl => ?_)
        refine lv_aload_n hx hb dL_law_337 rfl (lv_at hl 5 rfl) ?_
        refine kVp ⟨hx, hb, hml, hown, hts⟩ (c_X7_thrown l D Ax (nI 0) nsd (if (0 : Int32) = 0 then bN fogd a1 else bW fogd a1) nrd nm ne Lx) (cwV 0 hts gL_law_X7_thrown rfl rfl rfl (by decide +kernel) ⟨Nat.le_of_ble_eq_true rfl, Nat.le_of_ble_eq_true rfl⟩) hK hN hP hD (Sb.r (Sb.r (Sb.r (Sb.r (Sb.r (Sb.r (Sb.r (Sb.r (Sb.r (Sb.r (Sb.r (Sb.r (Sb.r Sb.self))))))))))))) 7 0 rfl rfl rfl hl.1 (Nat.le_of_ble_eq_true rfl) ⟨by show _ ≤ 601024; omega, by show _ ≤ 7293034; omega⟩ dL_law_338 ?_ rfl
        refine lv_iload hx hb dL_law_341 (lv_at hl 1 rfl) ?_
        refine lv_icmp_eq (tgt := 348) hx hb dL_law_343 (by decide) (fun c6 => ?_) (fun c6 => ?_)
        · refine lv_iload hx hb dL_law_348 (lv_at hl 1 rfl) ?_
          refine lv_if_ne (tgt := 365) hx hb dL_law_350 (by decide) (fun c7 => ?_) (fun c7 => ?_)
          · exact absurd c7 (by decide)
          · refine lv_aload_n hx hb dL_law_353 rfl (lv_at hl 6 rfl) ?_
            refine lv_iconst (v := 0) hx hb dL_law_354 (by decide) ?_
            refine va_lald (D := D.1) hx hb hK hP 96 1 rfl rfl (i := (0 : Int32)) (vpl (by decide)) dL_law_355 ?_
            refine W.eq (g2 := F0 m 356 ls [.long ((bitC (if (0 : Int32) = 0 then bN fogd a1 else bW fogd a1)).toInt64)]) (congrArg (fun zz : Int64 => F0 m 356 ls [.long zz]) (show (vp_updL fq 0 (bitC (if (0 : Int32) = 0 then bN fogd a1 else bW fogd a1)).toInt64) ((0 : Int32).toNatClampNeg) = (bitC (if (0 : Int32) = 0 then bN fogd a1 else bW fogd a1)).toInt64 from pk_uLs)) ?_
            refine lv_iload hx hb dL_law_356 (lv_at hl 0 rfl) ?_
            refine lv_i2l hx hb dL_law_358 rfl ?_
            refine W.lcmp hx hb dL_law_359 ?_
            refine W.eq (g2 := F0 m 360 ls [.int 0]) (congrArg (fun zz : Int32 => F0 m 360 ls [.int zz]) (lcmp0 _)) ?_
            refine lv_if_eq (tgt := 365) hx hb dL_law_360 (by decide) (fun c8 => ?_) (fun c8 => ?_)
            · refine lv_goto (tgt := 1447) hx hb dL_law_365 (by decide) ?_
              refine lv_iinc (v := ((nI (4 * i)) + 4)) (lv' := [(4, .int ((nI (4 * i)) + 4)), (6, .int (bitC (if (0 : Int32) = 0 then bN fogd a1 else bW fogd a1))), (5, .int 0), (0, .ref b), (1, .ref om), (2, .ref (Ax 0)), (3, .ref oq)]) hx hb dL_law_1447 hl (k := 2) rfl rfl (by decide) rfl (fun ls hl => ?_)
              rw [show nI (4 * i) + 4 = nI (4 * (i + 1)) from nI_add (4 * i) 4] at hl
              refine lv_goto (tgt := 23) hx hb dL_law_1450 (by decide) ?_
              refine W.widen (k := 200 + 81 * (i + 1)) (n := 9000 + 11700 * (i + 1)) (by omega) (by omega) ?_
              exact ih Ax hou cro Lw nm Lm ne Le Nt hou2 cro2 Kw nm2 Km ne2 Ke Nu nsd (if (0 : Int32) = 0 then bN fogd a1 else bW fogd a1) nrd Ld (vp_updL fq 0 (bitC (if (0 : Int32) = 0 then bN fogd a1 else bW fogd a1)).toInt64) (nI 0) Lx h hSY (by omega) H locs hP hD hS ls (lv_sub hl [0, 3, 4, 5, 6] rfl)
            · exact absurd c8 (by decide)
        · exact (c6 (by first | rfl | decide)).elim
      · exact absurd c1 c5
  · refine lv_iconst (v := 1) hx hb dL_law_300 (by decide) ?_
    refine lv_goto (tgt := 305) hx hb dL_law_301 (by decide) ?_
    refine lv_aload_n hx hb dL_law_305 rfl (lv_at hl 4 rfl) ?_
    refine kSL ⟨hx, hb, hml, hown, hts⟩ (c_L_setFog l D om Ad ot ou Aw Am Ae xt hou cro Lw nm Lm ne Le yt Nt nsd fogd nrd Ld oq fq a1 (1 : Int32) _ hl9) (vx_cwSW 4 hts gL_law_L_setFog rfl rfl rfl (by decide +kernel) ⟨Nat.le_of_ble_eq_true rfl, Nat.le_of_ble_eq_true rfl⟩) hCX hSX hTX hZX hNX hK hN hP hD hS hA (fun z => (Fr.app (Fr.kp Sb.self) (Fr.app (Fr.kp Sb.self) (Fr.app (Fr.kp Sb.self) (Fr.app (Fr.kp Sb.self) (Fr.app (Fr.kp Sb.self) (Fr.app (Fr.kp Sb.self) (Fr.r (Fr.r (Fr.r (Fr.r (Fr.r (Fr.app frsLand (Fr.l frsLar)))))))))))))) (Sb.app Sb.self (Sb.app Sb.self (Sb.app Sb.self (Sb.app Sb.self (Sb.app Sb.self (Sb.app Sb.self (Sb.r (Sb.r (Sb.r (Sb.r (Sb.r (Sb.app Sb.self (Sb.l Sb.self))))))))))))) rfl hl.1 (Nat.le_of_ble_eq_true rfl) ⟨by show _ ≤ 601024; omega, by show _ ≤ 7293034; omega⟩ dL_law_306 (fun H locs hk9 hP hD hS => ?_) (fun z H locs hk9 hP hD hS => ?_) rfl
    · have hP : va_P D.1 vwCl ((wMob om Ad ot ou) ++ ((wTob ot Ad Aw Am Ae xt hou cro) ++ ((wWays D Aw Lw) ++ ((wMul D Am nm Lm) ++ ((wLet D Ae ne Le) ++ ((wRow D xt yt 60 Nt) ++ ((wTob ou Ad Bw Bm Be xu hou2 cro2) ++ ((wWays D Bw Kw) ++ ((wMul D Bm nm2 Km) ++ ((wLet D Be ne2 Ke) ++ ((wRow D xu yu 60 Nu) ++ ((wLand D Ad nsd fogd nrd Ld) ++ ((wLar D oq fq) ++ (wMod D Ax th nsd fogd nrd nm ne Lx)))))))))))))) H := hP
      have hD : va_D A0 ((wMob om Ad ot ou) ++ ((wTob ot Ad Aw Am Ae xt hou cro) ++ ((wWays D Aw Lw) ++ ((wMul D Am nm Lm) ++ ((wLet D Ae ne Le) ++ ((wRow D xt yt 60 Nt) ++ ((wTob ou Ad Bw Bm Be xu hou2 cro2) ++ ((wWays D Bw Kw) ++ ((wMul D Bm nm2 Km) ++ ((wLet D Be ne2 Ke) ++ ((wRow D xu yu 60 Nu) ++ ((wLand D Ad nsd fogd nrd Ld) ++ ((wLar D oq fq) ++ (wMod D Ax th nsd fogd nrd nm ne Lx)))))))))))))) := hD
      refine lv_istore (lv' := [(5, .int (nI (kSF nsd a1))), (4, .int (nI (4 * i))), (0, .ref b), (1, .ref om), (2, .ref (Ax 0)), (3, .ref oq)]) hx hb dL_law_309 hl (by decide) rfl (fun ls hl => ?_)
      refine lv_aload_n hx hb dL_law_311 rfl (lv_at hl 4 rfl) ?_
      refine lv_aload_n hx hb dL_law_312 rfl (lv_at hl 2 rfl) ?_
      refine lv_iload hx hb dL_law_313 (lv_at hl 1 rfl) ?_
      refine lv_iconst (v := 1) hx hb dL_law_315 (by decide) ?_
      refine lv_iadd hx hb dL_law_316 ?_
      refine va_sld hx hb hX hbl hbA hS (i := ((nI (4 * i)) + 1)) (inS1 hi hL) dL_law_317 ?_
      refine W.eq (g2 := F0 m 318 ls [.int a1, .ref (Ax 0)]) (congrArg (fun zz : Int32 => F0 m 318 ls [.int zz, .ref (Ax 0)]) ea1) ?_
      refine lv_aload_n hx hb dL_law_318 rfl (lv_at hl 2 rfl) ?_
      refine lv_iload hx hb dL_law_319 (lv_at hl 1 rfl) ?_
      refine lv_iconst (v := 2) hx hb dL_law_321 (by decide) ?_
      refine lv_iadd hx hb dL_law_322 ?_
      refine va_sld hx hb hX hbl hbA hS (i := ((nI (4 * i)) + 2)) (inS2 hi hL) dL_law_323 ?_
      refine W.eq (g2 := F0 m 324 ls [.int a2, .int a1, .ref (Ax 0)]) (congrArg (fun zz : Int32 => F0 m 324 ls [.int zz, .int a1, .ref (Ax 0)]) ea2) ?_
      refine lv_if_eq (tgt := 331) hx hb dL_law_324 (by decide) (fun c9 => ?_) (fun c9 => ?_)
      · exact absurd c9 c1
      · refine lv_iconst (v := 1) hx hb dL_law_327 (by decide) ?_
        refine lv_goto (tgt := 332) hx hb dL_law_328 (by decide) ?_
        refine kVw ⟨hx, hb, hml, hown, hts⟩ (c_X7_setFog l D Ax th nsd fogd nrd nm ne Lx a1 (1 : Int32) (by assumption) (by assumption) (by assumption) (by assumption)) (cwV 2 hts gL_law_X7_setFog rfl rfl rfl (by decide +kernel) ⟨Nat.le_of_ble_eq_true rfl, Nat.le_of_ble_eq_true rfl⟩) hK hN hP hD hS (Fr.r (Fr.r (Fr.r (Fr.r (Fr.r (Fr.r (Fr.r (Fr.r (Fr.r (Fr.r (Fr.r (Fr.r (Fr.r frsMod))))))))))))) 7 0 rfl rfl rfl hl.1 (Nat.le_of_ble_eq_true rfl) ⟨by show _ ≤ 601024; omega, by show _ ≤ 7293034; omega⟩ dL_law_332 (fun H locs hP hD hS => ?_) rfl
        have hP : va_P D.1 vwCl ((wMob om Ad ot ou) ++ ((wTob ot Ad Aw Am Ae xt hou cro) ++ ((wWays D Aw Lw) ++ ((wMul D Am nm Lm) ++ ((wLet D Ae ne Le) ++ ((wRow D xt yt 60 Nt) ++ ((wTob ou Ad Bw Bm Be xu hou2 cro2) ++ ((wWays D Bw Kw) ++ ((wMul D Bm nm2 Km) ++ ((wLet D Be ne2 Ke) ++ ((wRow D xu yu 60 Nu) ++ ((wLand D Ad nsd fogd nrd Ld) ++ ((wLar D oq fq) ++ (wMod D Ax ((psf fogd nsd a1 (1 : Int32)).2.1) nsd ((psf fogd nsd a1 (1 : Int32)).2.2) nrd nm ne Lx)))))))))))))) H := hP
        have hD : va_D A0 ((wMob om Ad ot ou) ++ ((wTob ot Ad Aw Am Ae xt hou cro) ++ ((wWays D Aw Lw) ++ ((wMul D Am nm Lm) ++ ((wLet D Ae ne Le) ++ ((wRow D xt yt 60 Nt) ++ ((wTob ou Ad Bw Bm Be xu hou2 cro2) ++ ((wWays D Bw Kw) ++ ((wMul D Bm nm2 Km) ++ ((wLet D Be ne2 Ke) ++ ((wRow D xu yu 60 Nu) ++ ((wLand D Ad nsd fogd nrd Ld) ++ ((wLar D oq fq) ++ (wMod D Ax ((psf fogd nsd a1 (1 : Int32)).2.1) nsd ((psf fogd nsd a1 (1 : Int32)).2.2) nrd nm ne Lx)))))))))))))) := hD
        refine W.eq (g2 := F0 m 335 ls [.int ((psf fogd nsd a1 (1 : Int32)).1)]) rfl ?_
        have r9 := sf_rel (fog := fogd) (a := a1) (v := (1 : Int32)) b10
        rw [r9.1, r9.2.1 hk9] at hP hD
        have hP : va_P D.1 vwCl ((wMob om Ad ot ou) ++ ((wTob ot Ad Aw Am Ae xt hou cro) ++ ((wWays D Aw Lw) ++ ((wMul D Am nm Lm) ++ ((wLet D Ae ne Le) ++ ((wRow D xt yt 60 Nt) ++ ((wTob ou Ad Bw Bm Be xu hou2 cro2) ++ ((wWays D Bw Kw) ++ ((wMul D Bm nm2 Km) ++ ((wLet D Be ne2 Ke) ++ ((wRow D xu yu 60 Nu) ++ ((wLand D Ad nsd fogd nrd Ld) ++ ((wLar D oq fq) ++ (wMod D Ax (nI (kSF nsd a1)) nsd fogd nrd nm ne Lx)))))))))))))) H := hP
        have hD : va_D A0 ((wMob om Ad ot ou) ++ ((wTob ot Ad Aw Am Ae xt hou cro) ++ ((wWays D Aw Lw) ++ ((wMul D Am nm Lm) ++ ((wLet D Ae ne Le) ++ ((wRow D xt yt 60 Nt) ++ ((wTob ou Ad Bw Bm Be xu hou2 cro2) ++ ((wWays D Bw Kw) ++ ((wMul D Bm nm2 Km) ++ ((wLet D Be ne2 Ke) ++ ((wRow D xu yu 60 Nu) ++ ((wLand D Ad nsd fogd nrd Ld) ++ ((wLar D oq fq) ++ (wMod D Ax (nI (kSF nsd a1)) nsd fogd nrd nm ne Lx)))))))))))))) := hD
        refine lv_istore (lv' := [(6, .int ((psf fogd nsd a1 (1 : Int32)).1)), (5, .int (nI (kSF nsd a1))), (4, .int (nI (4 * i))), (0, .ref b), (1, .ref om), (2, .ref (Ax 0)), (3, .ref oq)]) hx hb dL_law_335 hl (by decide) rfl (fun ls hl => ?_)
        refine lv_aload_n hx hb dL_law_337 rfl (lv_at hl 5 rfl) ?_
        refine kVp ⟨hx, hb, hml, hown, hts⟩ (c_X7_thrown l D Ax (nI (kSF nsd a1)) nsd fogd nrd nm ne Lx) (cwV 0 hts gL_law_X7_thrown rfl rfl rfl (by decide +kernel) ⟨Nat.le_of_ble_eq_true rfl, Nat.le_of_ble_eq_true rfl⟩) hK hN hP hD (Sb.r (Sb.r (Sb.r (Sb.r (Sb.r (Sb.r (Sb.r (Sb.r (Sb.r (Sb.r (Sb.r (Sb.r (Sb.r Sb.self))))))))))))) 7 0 rfl rfl rfl hl.1 (Nat.le_of_ble_eq_true rfl) ⟨by show _ ≤ 601024; omega, by show _ ≤ 7293034; omega⟩ dL_law_338 ?_ rfl
        refine lv_iload hx hb dL_law_341 (lv_at hl 1 rfl) ?_
        refine lv_icmp_eq (tgt := 348) hx hb dL_law_343 (by decide) (fun c10 => ?_) (fun c10 => ?_)
        · refine lv_iload hx hb dL_law_348 (lv_at hl 1 rfl) ?_
          refine lv_if_ne (tgt := 365) hx hb dL_law_350 (by decide) (fun c11 => ?_) (fun c11 => ?_)
          · refine lv_goto (tgt := 1447) hx hb dL_law_365 (by decide) ?_
            refine lv_iinc (v := ((nI (4 * i)) + 4)) (lv' := [(4, .int ((nI (4 * i)) + 4)), (6, .int ((psf fogd nsd a1 (1 : Int32)).1)), (5, .int (nI (kSF nsd a1))), (0, .ref b), (1, .ref om), (2, .ref (Ax 0)), (3, .ref oq)]) hx hb dL_law_1447 hl (k := 2) rfl rfl (by decide) rfl (fun ls hl => ?_)
            rw [show nI (4 * i) + 4 = nI (4 * (i + 1)) from nI_add (4 * i) 4] at hl
            refine lv_goto (tgt := 23) hx hb dL_law_1450 (by decide) ?_
            refine W.widen (k := 200 + 81 * (i + 1)) (n := 9000 + 11700 * (i + 1)) (by omega) (by omega) ?_
            exact ih Ax hou cro Lw nm Lm ne Le Nt hou2 cro2 Kw nm2 Km ne2 Ke Nu nsd fogd nrd Ld fq (nI (kSF nsd a1)) Lx h hSY (by omega) H locs hP hD hS ls (lv_sub hl [0, 3, 4, 5, 6] rfl)
          · exact (nI_ne0 (Nat.pos_of_ne_zero hk9) (Nat.lt_of_le_of_lt (kSF_b _ _) (by decide)) c11).elim
        · exact (c10 (by first | rfl | decide)).elim
    · have hP : va_P D.1 vwCl ((wMob om Ad ot ou) ++ ((wTob ot Ad Aw Am Ae xt hou cro) ++ ((wWays D Aw Lw) ++ ((wMul D Am nm Lm) ++ ((wLet D Ae ne Le) ++ ((wRow D xt yt 60 Nt) ++ ((wTob ou Ad Bw Bm Be xu hou2 cro2) ++ ((wWays D Bw Kw) ++ ((wMul D Bm nm2 Km) ++ ((wLet D Be ne2 Ke) ++ ((wRow D xu yu 60 Nu) ++ ((wLand D Ad nsd (if (1 : Int32) = 0 then bN fogd a1 else bW fogd a1) nrd Ld) ++ ((wLar D oq (vp_updL fq 0 (bitC (if (1 : Int32) = 0 then bN fogd a1 else bW fogd a1)).toInt64)) ++ (wMod D Ax th nsd fogd nrd nm ne Lx)))))))))))))) H := hP
      have hD : va_D A0 ((wMob om Ad ot ou) ++ ((wTob ot Ad Aw Am Ae xt hou cro) ++ ((wWays D Aw Lw) ++ ((wMul D Am nm Lm) ++ ((wLet D Ae ne Le) ++ ((wRow D xt yt 60 Nt) ++ ((wTob ou Ad Bw Bm Be xu hou2 cro2) ++ ((wWays D Bw Kw) ++ ((wMul D Bm nm2 Km) ++ ((wLet D Be ne2 Ke) ++ ((wRow D xu yu 60 Nu) ++ ((wLand D Ad nsd (if (1 : Int32) = 0 then bN fogd a1 else bW fogd a1) nrd Ld) ++ ((wLar D oq (vp_updL fq 0 (bitC (if (1 : Int32) = 0 then bN fogd a1 else bW fogd a1)).toInt64)) ++ (wMod D Ax th nsd fogd nrd nm ne Lx)))))))))))))) := hD
      refine lv_istore (lv' := [(5, .int 0), (4, .int (nI (4 * i))), (0, .ref b), (1, .ref om), (2, .ref (Ax 0)), (3, .ref oq)]) hx hb dL_law_309 hl (by decide) rfl (fun ls hl => ?_)
      refine lv_aload_n hx hb dL_law_311 rfl (lv_at hl 4 rfl) ?_
      refine lv_aload_n hx hb dL_law_312 rfl (lv_at hl 2 rfl) ?_
      refine lv_iload hx hb dL_law_313 (lv_at hl 1 rfl) ?_
      refine lv_iconst (v := 1) hx hb dL_law_315 (by decide) ?_
      refine lv_iadd hx hb dL_law_316 ?_
      refine va_sld hx hb hX hbl hbA hS (i := ((nI (4 * i)) + 1)) (inS1 hi hL) dL_law_317 ?_
      refine W.eq (g2 := F0 m 318 ls [.int a1, .ref (Ax 0)]) (congrArg (fun zz : Int32 => F0 m 318 ls [.int zz, .ref (Ax 0)]) ea1) ?_
      refine lv_aload_n hx hb dL_law_318 rfl (lv_at hl 2 rfl) ?_
      refine lv_iload hx hb dL_law_319 (lv_at hl 1 rfl) ?_
      refine lv_iconst (v := 2) hx hb dL_law_321 (by decide) ?_
      refine lv_iadd hx hb dL_law_322 ?_
      refine va_sld hx hb hX hbl hbA hS (i := ((nI (4 * i)) + 2)) (inS2 hi hL) dL_law_323 ?_
      refine W.eq (g2 := F0 m 324 ls [.int a2, .int a1, .ref (Ax 0)]) (congrArg (fun zz : Int32 => F0 m 324 ls [.int zz, .int a1, .ref (Ax 0)]) ea2) ?_
      refine lv_if_eq (tgt := 331) hx hb dL_law_324 (by decide) (fun c12 => ?_) (fun c12 => ?_)
      · exact absurd c12 c1
      · refine lv_iconst (v := 1) hx hb dL_law_327 (by decide) ?_
        refine lv_goto (tgt := 332) hx hb dL_law_328 (by decide) ?_
        refine kVw ⟨hx, hb, hml, hown, hts⟩ (c_X7_setFog l D Ax th nsd fogd nrd nm ne Lx a1 (1 : Int32) (by assumption) (by assumption) (by assumption) (by assumption)) (cwV 2 hts gL_law_X7_setFog rfl rfl rfl (by decide +kernel) ⟨Nat.le_of_ble_eq_true rfl, Nat.le_of_ble_eq_true rfl⟩) hK hN hP hD hS (Fr.r (Fr.r (Fr.r (Fr.r (Fr.r (Fr.r (Fr.r (Fr.r (Fr.r (Fr.r (Fr.r (Fr.r (Fr.r frsMod))))))))))))) 7 0 rfl rfl rfl hl.1 (Nat.le_of_ble_eq_true rfl) ⟨by show _ ≤ 601024; omega, by show _ ≤ 7293034; omega⟩ dL_law_332 (fun H locs hP hD hS => ?_) rfl
        have hP : va_P D.1 vwCl ((wMob om Ad ot ou) ++ ((wTob ot Ad Aw Am Ae xt hou cro) ++ ((wWays D Aw Lw) ++ ((wMul D Am nm Lm) ++ ((wLet D Ae ne Le) ++ ((wRow D xt yt 60 Nt) ++ ((wTob ou Ad Bw Bm Be xu hou2 cro2) ++ ((wWays D Bw Kw) ++ ((wMul D Bm nm2 Km) ++ ((wLet D Be ne2 Ke) ++ ((wRow D xu yu 60 Nu) ++ ((wLand D Ad nsd (if (1 : Int32) = 0 then bN fogd a1 else bW fogd a1) nrd Ld) ++ ((wLar D oq (vp_updL fq 0 (bitC (if (1 : Int32) = 0 then bN fogd a1 else bW fogd a1)).toInt64)) ++ (wMod D Ax ((psf fogd nsd a1 (1 : Int32)).2.1) nsd ((psf fogd nsd a1 (1 : Int32)).2.2) nrd nm ne Lx)))))))))))))) H := hP
        have hD : va_D A0 ((wMob om Ad ot ou) ++ ((wTob ot Ad Aw Am Ae xt hou cro) ++ ((wWays D Aw Lw) ++ ((wMul D Am nm Lm) ++ ((wLet D Ae ne Le) ++ ((wRow D xt yt 60 Nt) ++ ((wTob ou Ad Bw Bm Be xu hou2 cro2) ++ ((wWays D Bw Kw) ++ ((wMul D Bm nm2 Km) ++ ((wLet D Be ne2 Ke) ++ ((wRow D xu yu 60 Nu) ++ ((wLand D Ad nsd (if (1 : Int32) = 0 then bN fogd a1 else bW fogd a1) nrd Ld) ++ ((wLar D oq (vp_updL fq 0 (bitC (if (1 : Int32) = 0 then bN fogd a1 else bW fogd a1)).toInt64)) ++ (wMod D Ax ((psf fogd nsd a1 (1 : Int32)).2.1) nsd ((psf fogd nsd a1 (1 : Int32)).2.2) nrd nm ne Lx)))))))))))))) := hD
        refine W.eq (g2 := F0 m 335 ls [.int ((psf fogd nsd a1 (1 : Int32)).1)]) rfl ?_
        have r9 := sf_rel (fog := fogd) (a := a1) (v := (1 : Int32)) b10
        rw [r9.1, hk9, (r9.2.2 hk9).2] at hP hD
        have hP : va_P D.1 vwCl ((wMob om Ad ot ou) ++ ((wTob ot Ad Aw Am Ae xt hou cro) ++ ((wWays D Aw Lw) ++ ((wMul D Am nm Lm) ++ ((wLet D Ae ne Le) ++ ((wRow D xt yt 60 Nt) ++ ((wTob ou Ad Bw Bm Be xu hou2 cro2) ++ ((wWays D Bw Kw) ++ ((wMul D Bm nm2 Km) ++ ((wLet D Be ne2 Ke) ++ ((wRow D xu yu 60 Nu) ++ ((wLand D Ad nsd (if (1 : Int32) = 0 then bN fogd a1 else bW fogd a1) nrd Ld) ++ ((wLar D oq (vp_updL fq 0 (bitC (if (1 : Int32) = 0 then bN fogd a1 else bW fogd a1)).toInt64)) ++ (wMod D Ax (nI 0) nsd (if (1 : Int32) = 0 then bN fogd a1 else bW fogd a1) nrd nm ne Lx)))))))))))))) H := hP
        have hD : va_D A0 ((wMob om Ad ot ou) ++ ((wTob ot Ad Aw Am Ae xt hou cro) ++ ((wWays D Aw Lw) ++ ((wMul D Am nm Lm) ++ ((wLet D Ae ne Le) ++ ((wRow D xt yt 60 Nt) ++ ((wTob ou Ad Bw Bm Be xu hou2 cro2) ++ ((wWays D Bw Kw) ++ ((wMul D Bm nm2 Km) ++ ((wLet D Be ne2 Ke) ++ ((wRow D xu yu 60 Nu) ++ ((wLand D Ad nsd (if (1 : Int32) = 0 then bN fogd a1 else bW fogd a1) nrd Ld) ++ ((wLar D oq (vp_updL fq 0 (bitC (if (1 : Int32) = 0 then bN fogd a1 else bW fogd a1)).toInt64)) ++ (wMod D Ax (nI 0) nsd (if (1 : Int32) = 0 then bN fogd a1 else bW fogd a1) nrd nm ne Lx)))))))))))))) := hD
        refine W.eq (g2 := F0 m 335 ls [.int (bitC (if (1 : Int32) = 0 then bN fogd a1 else bW fogd a1))]) (congrArg (fun zz : Int32 => F0 m 335 ls [.int zz]) (show (psf fogd nsd a1 (1 : Int32)).1 = bitC (if (1 : Int32) = 0 then bN fogd a1 else bW fogd a1) from (r9.2.2 hk9).1)) ?_
        refine lv_istore (lv' := [(6, .int (bitC (if (1 : Int32) = 0 then bN fogd a1 else bW fogd a1))), (5, .int 0), (4, .int (nI (4 * i))), (0, .ref b), (1, .ref om), (2, .ref (Ax 0)), (3, .ref oq)]) hx hb dL_law_335 hl (by decide) rfl (fun ls hl => ?_)
        refine lv_aload_n hx hb dL_law_337 rfl (lv_at hl 5 rfl) ?_
        refine kVp ⟨hx, hb, hml, hown, hts⟩ (c_X7_thrown l D Ax (nI 0) nsd (if (1 : Int32) = 0 then bN fogd a1 else bW fogd a1) nrd nm ne Lx) (cwV 0 hts gL_law_X7_thrown rfl rfl rfl (by decide +kernel) ⟨Nat.le_of_ble_eq_true rfl, Nat.le_of_ble_eq_true rfl⟩) hK hN hP hD (Sb.r (Sb.r (Sb.r (Sb.r (Sb.r (Sb.r (Sb.r (Sb.r (Sb.r (Sb.r (Sb.r (Sb.r (Sb.r Sb.self))))))))))))) 7 0 rfl rfl rfl hl.1 (Nat.le_of_ble_eq_true rfl) ⟨by show _ ≤ 601024; omega, by show _ ≤ 7293034; omega⟩ dL_law_338 ?_ rfl
        refine lv_iload hx hb dL_law_341 (lv_at hl 1 rfl) ?_
        refine lv_icmp_eq (tgt := 348) hx hb dL_law_343 (by decide) (fun c13 => ?_) (fun c13 => ?_)
        · refine lv_iload hx hb dL_law_348 (lv_at hl 1 rfl) ?_
          refine lv_if_ne (tgt := 365) hx hb dL_law_350 (by decide) (fun c14 => ?_) (fun c14 => ?_)
          · exact absurd c14 (by decide)
          · refine lv_aload_n hx hb dL_law_353 rfl (lv_at hl 6 rfl) ?_
            refine lv_iconst (v := 0) hx hb dL_law_354 (by decide) ?_
            refine va_lald (D := D.1) hx hb hK hP 96 1 rfl rfl (i := (0 : Int32)) (vpl (by decide)) dL_law_355 ?_
            refine W.eq (g2 := F0 m 356 ls [.long ((bitC (if (1 : Int32) = 0 then bN fogd a1 else bW fogd a1)).toInt64)]) (congrArg (fun zz : Int64 => F0 m 356 ls [.long zz]) (show (vp_updL fq 0 (bitC (if (1 : Int32) = 0 then bN fogd a1 else bW fogd a1)).toInt64) ((0 : Int32).toNatClampNeg) = (bitC (if (1 : Int32) = 0 then bN fogd a1 else bW fogd a1)).toInt64 from pk_uLs)) ?_
            refine lv_iload hx hb dL_law_356 (lv_at hl 0 rfl) ?_
            refine lv_i2l hx hb dL_law_358 rfl ?_
            refine W.lcmp hx hb dL_law_359 ?_
            refine W.eq (g2 := F0 m 360 ls [.int 0]) (congrArg (fun zz : Int32 => F0 m 360 ls [.int zz]) (lcmp0 _)) ?_
            refine lv_if_eq (tgt := 365) hx hb dL_law_360 (by decide) (fun c15 => ?_) (fun c15 => ?_)
            · refine lv_goto (tgt := 1447) hx hb dL_law_365 (by decide) ?_
              refine lv_iinc (v := ((nI (4 * i)) + 4)) (lv' := [(4, .int ((nI (4 * i)) + 4)), (6, .int (bitC (if (1 : Int32) = 0 then bN fogd a1 else bW fogd a1))), (5, .int 0), (0, .ref b), (1, .ref om), (2, .ref (Ax 0)), (3, .ref oq)]) hx hb dL_law_1447 hl (k := 2) rfl rfl (by decide) rfl (fun ls hl => ?_)
              rw [show nI (4 * i) + 4 = nI (4 * (i + 1)) from nI_add (4 * i) 4] at hl
              refine lv_goto (tgt := 23) hx hb dL_law_1450 (by decide) ?_
              refine W.widen (k := 200 + 81 * (i + 1)) (n := 9000 + 11700 * (i + 1)) (by omega) (by omega) ?_
              exact ih Ax hou cro Lw nm Lm ne Le Nt hou2 cro2 Kw nm2 Km ne2 Ke Nu nsd (if (1 : Int32) = 0 then bN fogd a1 else bW fogd a1) nrd Ld (vp_updL fq 0 (bitC (if (1 : Int32) = 0 then bN fogd a1 else bW fogd a1)).toInt64) (nI 0) Lx h hSY (by omega) H locs hP hD hS ls (lv_sub hl [0, 3, 4, 5, 6] rfl)
            · exact absurd c15 (by decide)
        · exact (c13 (by first | rfl | decide)).elim

set_option maxHeartbeats 4000000 in
set_option maxRecDepth 100000 in
theorem law_c3 {p : Program} {l : Launch} {e : Env} {s : State} {m : MethodId} {below : List Frame} {meth : Method} {c : Code} {D : GG} {b L : Nat} {xs : Nat → Int32} {A0 : Nat → Prop} {om ot ou oq xt yt xu yu : Nat} {Ad Aw Am Ae Bw Bm Be : Nat → Nat} (X : LX p l s m meth c D b L xs A0) {i : Nat} (hi : 4 * i + 4 ≤ L) (ih : LG p l e s m below meth c D b L xs A0 om ot ou oq xt yt xu yu Ad Aw Am Ae Bw Bm Be (i + 1)) {a1 a2 a3 : Int32} (ea1 : xs (nI (4 * i) + 1).toNatClampNeg = a1) (ea2 : xs (nI (4 * i) + 2).toNatClampNeg = a2) (ea3 : xs (nI (4 * i) + 3).toNatClampNeg = a3)
    (Ax : Nat → Nat) (hou cro : Int32) (Lw : Fm) (nm : Nat) (Lm : Fm) (ne : Nat) (Le : Fm) (Nt : Rw) (hou2 cro2 : Int32) (Kw : Fm) (nm2 : Nat) (Km : Fm) (ne2 : Nat) (Ke : Fm) (Nu : Rw) (nsd : Nat) (fogd : Int32) (nrd : Nat) (Ld : Fm) (fq : Nat → Int64) (th : Int32) (Lx : Fm) (h : Nat) (hSY : SY Lw Ld Lm Le hou cro Lx nsd nrd nm ne h) (hh : h ≤ 100 * i) (H : Heap) (locs : List Loc) (hP : va_P D.1 vwCl ((wMob om Ad ot ou) ++ ((wTob ot Ad Aw Am Ae xt hou cro) ++ ((wWays D Aw Lw) ++ ((wMul D Am nm Lm) ++ ((wLet D Ae ne Le) ++ ((wRow D xt yt 60 Nt) ++ ((wTob ou Ad Bw Bm Be xu hou2 cro2) ++ ((wWays D Bw Kw) ++ ((wMul D Bm nm2 Km) ++ ((wLet D Be ne2 Ke) ++ ((wRow D xu yu 60 Nu) ++ ((wLand D Ad nsd fogd nrd Ld) ++ ((wLar D oq fq) ++ (wMod D Ax th nsd fogd nrd nm ne Lx)))))))))))))) H) (hD : va_D A0 ((wMob om Ad ot ou) ++ ((wTob ot Ad Aw Am Ae xt hou cro) ++ ((wWays D Aw Lw) ++ ((wMul D Am nm Lm) ++ ((wLet D Ae ne Le) ++ ((wRow D xt yt 60 Nt) ++ ((wTob ou Ad Bw Bm Be xu hou2 cro2) ++ ((wWays D Bw Kw) ++ ((wMul D Bm nm2 Km) ++ ((wLet D Be ne2 Ke) ++ ((wRow D xu yu 60 Nu) ++ ((wLand D Ad nsd fogd nrd Ld) ++ ((wLar D oq fq) ++ (wMod D Ax th nsd fogd nrd nm ne Lx))))))))))))))) (hS : va_S A0 s.heap H locs) (ls : Array Slot) (hl : lv_has ls 9 [(4, .int (nI (4 * i))), (0, .ref b), (1, .ref om), (2, .ref (Ax 0)), (3, .ref oq)]) : W p l e room_1 s m #[Value.ref b] below meth c H locs (200 + 81 * i) (9000 + 11700 * i) (lw_Z below #[Value.ref b] s) (F0 m 368 ls []) := by
  obtain ⟨hx, hb, hr, hml, hown, hts, hX, hbl, hbA, hlocks, hl9, hCX, hSX, hTX, hZX, hNX, hK, hN, hA, -, hL⟩ := X
  have hS9 : okS Lx nsd nrd nm ne := okS_rel hSY.1
  have b10 : nsd ≤ 10 := hSY.1.1.1
  have b15 : nrd ≤ 15 := hSY.1.1.2.1
  have b12 : nm ≤ 12 := hSY.1.2.2.1.1
  have b60 : ne ≤ 60 := hSY.1.2.2.2.1
  have hrE : rE Le Lx ne := hSY.1.2.2.2.2.2.2.2.2.2.1
  have he : ne < 2 ^ 31 := by omega
  have hm : nm < 2 ^ 31 := by omega
  have hns : nsd < 2 ^ 31 := by omega
  have hnr : nrd < 2 ^ 31 := by omega
  refine lv_aload_n hx hb dL_law_368 rfl (lv_at hl 2 rfl) ?_
  refine lv_aload_n hx hb dL_law_369 rfl (lv_at hl 1 rfl) ?_
  refine lv_iload hx hb dL_law_370 (lv_at hl 0 rfl) ?_
  refine lv_iconst (v := 1) hx hb dL_law_372 (by decide) ?_
  refine lv_iadd hx hb dL_law_373 ?_
  refine va_sld hx hb hX hbl hbA hS (i := ((nI (4 * i)) + 1)) (inS1 hi hL) dL_law_374 ?_
  refine W.eq (g2 := F0 m 375 ls [.int a1, .ref om]) (congrArg (fun zz : Int32 => F0 m 375 ls [.int zz, .ref om]) ea1) ?_
  refine lv_aload_n hx hb dL_law_375 rfl (lv_at hl 1 rfl) ?_
  refine lv_iload hx hb dL_law_376 (lv_at hl 0 rfl) ?_
  refine lv_iconst (v := 2) hx hb dL_law_378 (by decide) ?_
  refine lv_iadd hx hb dL_law_379 ?_
  refine va_sld hx hb hX hbl hbA hS (i := ((nI (4 * i)) + 2)) (inS2 hi hL) dL_law_380 ?_
  refine W.eq (g2 := F0 m 381 ls [.int a2, .int a1, .ref om]) (congrArg (fun zz : Int32 => F0 m 381 ls [.int zz, .int a1, .ref om]) ea2) ?_
  refine lv_aload_n hx hb dL_law_381 rfl (lv_at hl 1 rfl) ?_
  refine lv_iload hx hb dL_law_382 (lv_at hl 0 rfl) ?_
  refine lv_iconst (v := 3) hx hb dL_law_384 (by decide) ?_
  refine lv_iadd hx hb dL_law_385 ?_
  refine va_sld hx hb hX hbl hbA hS (i := ((nI (4 * i)) + 3)) (inS3 hi hL) dL_law_386 ?_
  refine W.eq (g2 := F0 m 387 ls [.int a3, .int a2, .int a1, .ref om]) (congrArg (fun zz : Int32 => F0 m 387 ls [.int zz, .int a2, .int a1, .ref om]) ea3) ?_
  refine lv_aload_n hx hb dL_law_387 rfl (lv_at hl 4 rfl) ?_
  refine kSL ⟨hx, hb, hml, hown, hts⟩ (c_L_build l D om Ad ot ou Aw Am Ae xt hou cro Lw nm Lm ne Le yt Nt nsd fogd nrd Ld oq fq a1 a2 a3 _ hl9) (vx_cwSW 5 hts gL_law_L_build rfl rfl rfl (by decide +kernel) ⟨Nat.le_of_ble_eq_true rfl, Nat.le_of_ble_eq_true rfl⟩) hCX hSX hTX hZX hNX hK hN hP hD hS hA (fun z => (Fr.app (Fr.kp Sb.self) (Fr.app (Fr.kp Sb.self) (Fr.app (Fr.kp Sb.self) (Fr.app (Fr.kp Sb.self) (Fr.app (Fr.kp Sb.self) (Fr.app (Fr.kp Sb.self) (Fr.r (Fr.r (Fr.r (Fr.r (Fr.r (Fr.app frsLand (Fr.l frsLar)))))))))))))) (Sb.app Sb.self (Sb.app Sb.self (Sb.app Sb.self (Sb.app Sb.self (Sb.app Sb.self (Sb.app Sb.self (Sb.r (Sb.r (Sb.r (Sb.r (Sb.r (Sb.app Sb.self (Sb.l Sb.self))))))))))))) rfl hl.1 (Nat.le_of_ble_eq_true rfl) ⟨by show _ ≤ 601024; omega, by show _ ≤ 7293034; omega⟩ dL_law_388 (fun H locs hk9 hP hD hS => ?_) (fun z H locs hk9 hP hD hS => ?_) rfl
  · have hP : va_P D.1 vwCl ((wMob om Ad ot ou) ++ ((wTob ot Ad Aw Am Ae xt hou cro) ++ ((wWays D Aw Lw) ++ ((wMul D Am nm Lm) ++ ((wLet D Ae ne Le) ++ ((wRow D xt yt 60 Nt) ++ ((wTob ou Ad Bw Bm Be xu hou2 cro2) ++ ((wWays D Bw Kw) ++ ((wMul D Bm nm2 Km) ++ ((wLet D Be ne2 Ke) ++ ((wRow D xu yu 60 Nu) ++ ((wLand D Ad nsd fogd nrd Ld) ++ ((wLar D oq fq) ++ (wMod D Ax th nsd fogd nrd nm ne Lx)))))))))))))) H := hP
    have hD : va_D A0 ((wMob om Ad ot ou) ++ ((wTob ot Ad Aw Am Ae xt hou cro) ++ ((wWays D Aw Lw) ++ ((wMul D Am nm Lm) ++ ((wLet D Ae ne Le) ++ ((wRow D xt yt 60 Nt) ++ ((wTob ou Ad Bw Bm Be xu hou2 cro2) ++ ((wWays D Bw Kw) ++ ((wMul D Bm nm2 Km) ++ ((wLet D Be ne2 Ke) ++ ((wRow D xu yu 60 Nu) ++ ((wLand D Ad nsd fogd nrd Ld) ++ ((wLar D oq fq) ++ (wMod D Ax th nsd fogd nrd nm ne Lx)))))))))))))) := hD
    refine lv_istore (lv' := [(5, .int (nI (kBD nsd nrd a1 a2 a3))), (4, .int (nI (4 * i))), (0, .ref b), (1, .ref om), (2, .ref (Ax 0)), (3, .ref oq)]) hx hb dL_law_391 hl (by decide) rfl (fun ls hl => ?_)
    refine lv_aload_n hx hb dL_law_393 rfl (lv_at hl 4 rfl) ?_
    refine lv_aload_n hx hb dL_law_394 rfl (lv_at hl 2 rfl) ?_
    refine lv_iload hx hb dL_law_395 (lv_at hl 1 rfl) ?_
    refine lv_iconst (v := 1) hx hb dL_law_397 (by decide) ?_
    refine lv_iadd hx hb dL_law_398 ?_
    refine va_sld hx hb hX hbl hbA hS (i := ((nI (4 * i)) + 1)) (inS1 hi hL) dL_law_399 ?_
    refine W.eq (g2 := F0 m 400 ls [.int a1, .ref (Ax 0)]) (congrArg (fun zz : Int32 => F0 m 400 ls [.int zz, .ref (Ax 0)]) ea1) ?_
    refine lv_aload_n hx hb dL_law_400 rfl (lv_at hl 2 rfl) ?_
    refine lv_iload hx hb dL_law_401 (lv_at hl 1 rfl) ?_
    refine lv_iconst (v := 2) hx hb dL_law_403 (by decide) ?_
    refine lv_iadd hx hb dL_law_404 ?_
    refine va_sld hx hb hX hbl hbA hS (i := ((nI (4 * i)) + 2)) (inS2 hi hL) dL_law_405 ?_
    refine W.eq (g2 := F0 m 406 ls [.int a2, .int a1, .ref (Ax 0)]) (congrArg (fun zz : Int32 => F0 m 406 ls [.int zz, .int a1, .ref (Ax 0)]) ea2) ?_
    refine lv_aload_n hx hb dL_law_406 rfl (lv_at hl 2 rfl) ?_
    refine lv_iload hx hb dL_law_407 (lv_at hl 1 rfl) ?_
    refine lv_iconst (v := 3) hx hb dL_law_409 (by decide) ?_
    refine lv_iadd hx hb dL_law_410 ?_
    refine va_sld hx hb hX hbl hbA hS (i := ((nI (4 * i)) + 3)) (inS3 hi hL) dL_law_411 ?_
    refine W.eq (g2 := F0 m 412 ls [.int a3, .int a2, .int a1, .ref (Ax 0)]) (congrArg (fun zz : Int32 => F0 m 412 ls [.int zz, .int a2, .int a1, .ref (Ax 0)]) ea3) ?_
    refine kVa ⟨hx, hb, hml, hown, hts⟩ (c_X7_build l D Ax th nsd fogd nrd nm ne Lx a1 a2 a3 _ (by assumption) (by assumption) (by assumption) (by assumption)) (cwV 3 hts gL_law_X7_build rfl rfl rfl (by decide +kernel) ⟨Nat.le_of_ble_eq_true rfl, Nat.le_of_ble_eq_true rfl⟩) hK hN hP hD hS hA (Fr.r (Fr.r (Fr.r (Fr.r (Fr.r (Fr.r (Fr.r (Fr.r (Fr.r (Fr.r (Fr.r (Fr.r (Fr.r frsMod))))))))))))) 7 0 rfl rfl rfl hl.1 (Nat.le_of_ble_eq_true rfl) ⟨by show _ ≤ 601024; omega, by show _ ≤ 7293034; omega⟩ dL_law_412 (fun H locs hP hD hS => ?_) rfl
    have hP : va_P D.1 vwCl ((wMob om Ad ot ou) ++ ((wTob ot Ad Aw Am Ae xt hou cro) ++ ((wWays D Aw Lw) ++ ((wMul D Am nm Lm) ++ ((wLet D Ae ne Le) ++ ((wRow D xt yt 60 Nt) ++ ((wTob ou Ad Bw Bm Be xu hou2 cro2) ++ ((wWays D Bw Kw) ++ ((wMul D Bm nm2 Km) ++ ((wLet D Be ne2 Ke) ++ ((wRow D xu yu 60 Nu) ++ ((wLand D Ad nsd fogd nrd Ld) ++ ((wLar D oq fq) ++ (wMod D Ax ((pbd Lx nsd nrd a1 a2 a3).2.1) nsd fogd ((pbd Lx nsd nrd a1 a2 a3).2.2.1) nm ne ((pbd Lx nsd nrd a1 a2 a3).2.2.2))))))))))))))) H := hP
    have hD : va_D A0 ((wMob om Ad ot ou) ++ ((wTob ot Ad Aw Am Ae xt hou cro) ++ ((wWays D Aw Lw) ++ ((wMul D Am nm Lm) ++ ((wLet D Ae ne Le) ++ ((wRow D xt yt 60 Nt) ++ ((wTob ou Ad Bw Bm Be xu hou2 cro2) ++ ((wWays D Bw Kw) ++ ((wMul D Bm nm2 Km) ++ ((wLet D Be ne2 Ke) ++ ((wRow D xu yu 60 Nu) ++ ((wLand D Ad nsd fogd nrd Ld) ++ ((wLar D oq fq) ++ (wMod D Ax ((pbd Lx nsd nrd a1 a2 a3).2.1) nsd fogd ((pbd Lx nsd nrd a1 a2 a3).2.2.1) nm ne ((pbd Lx nsd nrd a1 a2 a3).2.2.2))))))))))))))) := hD
    refine W.eq (g2 := F0 m 415 ls [.int ((pbd Lx nsd nrd a1 a2 a3).1)]) rfl ?_
    have r9 := bd_rel (a := a1) (b := a2) (c := a3) hSY
    rw [r9.1, r9.2.1 hk9] at hP hD
    have hP : va_P D.1 vwCl ((wMob om Ad ot ou) ++ ((wTob ot Ad Aw Am Ae xt hou cro) ++ ((wWays D Aw Lw) ++ ((wMul D Am nm Lm) ++ ((wLet D Ae ne Le) ++ ((wRow D xt yt 60 Nt) ++ ((wTob ou Ad Bw Bm Be xu hou2 cro2) ++ ((wWays D Bw Kw) ++ ((wMul D Bm nm2 Km) ++ ((wLet D Be ne2 Ke) ++ ((wRow D xu yu 60 Nu) ++ ((wLand D Ad nsd fogd nrd Ld) ++ ((wLar D oq fq) ++ (wMod D Ax (nI (kBD nsd nrd a1 a2 a3)) nsd fogd nrd nm ne Lx)))))))))))))) H := hP
    have hD : va_D A0 ((wMob om Ad ot ou) ++ ((wTob ot Ad Aw Am Ae xt hou cro) ++ ((wWays D Aw Lw) ++ ((wMul D Am nm Lm) ++ ((wLet D Ae ne Le) ++ ((wRow D xt yt 60 Nt) ++ ((wTob ou Ad Bw Bm Be xu hou2 cro2) ++ ((wWays D Bw Kw) ++ ((wMul D Bm nm2 Km) ++ ((wLet D Be ne2 Ke) ++ ((wRow D xu yu 60 Nu) ++ ((wLand D Ad nsd fogd nrd Ld) ++ ((wLar D oq fq) ++ (wMod D Ax (nI (kBD nsd nrd a1 a2 a3)) nsd fogd nrd nm ne Lx)))))))))))))) := hD
    refine lv_istore (lv' := [(6, .int ((pbd Lx nsd nrd a1 a2 a3).1)), (5, .int (nI (kBD nsd nrd a1 a2 a3))), (4, .int (nI (4 * i))), (0, .ref b), (1, .ref om), (2, .ref (Ax 0)), (3, .ref oq)]) hx hb dL_law_415 hl (by decide) rfl (fun ls hl => ?_)
    refine lv_aload_n hx hb dL_law_417 rfl (lv_at hl 5 rfl) ?_
    refine kVp ⟨hx, hb, hml, hown, hts⟩ (c_X7_thrown l D Ax (nI (kBD nsd nrd a1 a2 a3)) nsd fogd nrd nm ne Lx) (cwV 0 hts gL_law_X7_thrown rfl rfl rfl (by decide +kernel) ⟨Nat.le_of_ble_eq_true rfl, Nat.le_of_ble_eq_true rfl⟩) hK hN hP hD (Sb.r (Sb.r (Sb.r (Sb.r (Sb.r (Sb.r (Sb.r (Sb.r (Sb.r (Sb.r (Sb.r (Sb.r (Sb.r Sb.self))))))))))))) 7 0 rfl rfl rfl hl.1 (Nat.le_of_ble_eq_true rfl) ⟨by show _ ≤ 601024; omega, by show _ ≤ 7293034; omega⟩ dL_law_418 ?_ rfl
    refine lv_iload hx hb dL_law_421 (lv_at hl 1 rfl) ?_
    refine lv_icmp_eq (tgt := 428) hx hb dL_law_423 (by decide) (fun c1 => ?_) (fun c1 => ?_)
    · refine lv_iload hx hb dL_law_428 (lv_at hl 1 rfl) ?_
      refine lv_if_ne (tgt := 445) hx hb dL_law_430 (by decide) (fun c2 => ?_) (fun c2 => ?_)
      · refine lv_goto (tgt := 1447) hx hb dL_law_445 (by decide) ?_
        refine lv_iinc (v := ((nI (4 * i)) + 4)) (lv' := [(4, .int ((nI (4 * i)) + 4)), (6, .int ((pbd Lx nsd nrd a1 a2 a3).1)), (5, .int (nI (kBD nsd nrd a1 a2 a3))), (0, .ref b), (1, .ref om), (2, .ref (Ax 0)), (3, .ref oq)]) hx hb dL_law_1447 hl (k := 2) rfl rfl (by decide) rfl (fun ls hl => ?_)
        rw [show nI (4 * i) + 4 = nI (4 * (i + 1)) from nI_add (4 * i) 4] at hl
        refine lv_goto (tgt := 23) hx hb dL_law_1450 (by decide) ?_
        refine W.widen (k := 200 + 81 * (i + 1)) (n := 9000 + 11700 * (i + 1)) (by omega) (by omega) ?_
        exact ih Ax hou cro Lw nm Lm ne Le Nt hou2 cro2 Kw nm2 Km ne2 Ke Nu nsd fogd nrd Ld fq (nI (kBD nsd nrd a1 a2 a3)) Lx h hSY (by omega) H locs hP hD hS ls (lv_sub hl [0, 3, 4, 5, 6] rfl)
      · exact (nI_ne0 (Nat.pos_of_ne_zero hk9) (Nat.lt_of_le_of_lt (kBD_b _ _ _ _ _) (by decide)) c2).elim
    · exact (c1 (by first | rfl | decide)).elim
  · have hP : va_P D.1 vwCl ((wMob om Ad ot ou) ++ ((wTob ot Ad Aw Am Ae xt hou cro) ++ ((wWays D Aw Lw) ++ ((wMul D Am nm Lm) ++ ((wLet D Ae ne Le) ++ ((wRow D xt yt 60 Nt) ++ ((wTob ou Ad Bw Bm Be xu hou2 cro2) ++ ((wWays D Bw Kw) ++ ((wMul D Bm nm2 Km) ++ ((wLet D Be ne2 Ke) ++ ((wRow D xu yu 60 Nu) ++ ((wLand D Ad nsd fogd (nrd + 1) (sr (sr (sr Ld 2 (rs 15 (Ld 2) (nI nrd) a1)) 3 (rs 15 (Ld 3) (nI nrd) a2)) 4 (rs 15 (Ld 4) (nI nrd) a3))) ++ ((wLar D oq (vp_updL fq 0 (nI nrd).toInt64)) ++ (wMod D Ax th nsd fogd nrd nm ne Lx)))))))))))))) H := hP
    have hD : va_D A0 ((wMob om Ad ot ou) ++ ((wTob ot Ad Aw Am Ae xt hou cro) ++ ((wWays D Aw Lw) ++ ((wMul D Am nm Lm) ++ ((wLet D Ae ne Le) ++ ((wRow D xt yt 60 Nt) ++ ((wTob ou Ad Bw Bm Be xu hou2 cro2) ++ ((wWays D Bw Kw) ++ ((wMul D Bm nm2 Km) ++ ((wLet D Be ne2 Ke) ++ ((wRow D xu yu 60 Nu) ++ ((wLand D Ad nsd fogd (nrd + 1) (sr (sr (sr Ld 2 (rs 15 (Ld 2) (nI nrd) a1)) 3 (rs 15 (Ld 3) (nI nrd) a2)) 4 (rs 15 (Ld 4) (nI nrd) a3))) ++ ((wLar D oq (vp_updL fq 0 (nI nrd).toInt64)) ++ (wMod D Ax th nsd fogd nrd nm ne Lx)))))))))))))) := hD
    refine lv_istore (lv' := [(5, .int 0), (4, .int (nI (4 * i))), (0, .ref b), (1, .ref om), (2, .ref (Ax 0)), (3, .ref oq)]) hx hb dL_law_391 hl (by decide) rfl (fun ls hl => ?_)
    refine lv_aload_n hx hb dL_law_393 rfl (lv_at hl 4 rfl) ?_
    refine lv_aload_n hx hb dL_law_394 rfl (lv_at hl 2 rfl) ?_
    refine lv_iload hx hb dL_law_395 (lv_at hl 1 rfl) ?_
    refine lv_iconst (v := 1) hx hb dL_law_397 (by decide) ?_
    refine lv_iadd hx hb dL_law_398 ?_
    refine va_sld hx hb hX hbl hbA hS (i := ((nI (4 * i)) + 1)) (inS1 hi hL) dL_law_399 ?_
    refine W.eq (g2 := F0 m 400 ls [.int a1, .ref (Ax 0)]) (congrArg (fun zz : Int32 => F0 m 400 ls [.int zz, .ref (Ax 0)]) ea1) ?_
    refine lv_aload_n hx hb dL_law_400 rfl (lv_at hl 2 rfl) ?_
    refine lv_iload hx hb dL_law_401 (lv_at hl 1 rfl) ?_
    refine lv_iconst (v := 2) hx hb dL_law_403 (by decide) ?_
    refine lv_iadd hx hb dL_law_404 ?_
    refine va_sld hx hb hX hbl hbA hS (i := ((nI (4 * i)) + 2)) (inS2 hi hL) dL_law_405 ?_
    refine W.eq (g2 := F0 m 406 ls [.int a2, .int a1, .ref (Ax 0)]) (congrArg (fun zz : Int32 => F0 m 406 ls [.int zz, .int a1, .ref (Ax 0)]) ea2) ?_
    refine lv_aload_n hx hb dL_law_406 rfl (lv_at hl 2 rfl) ?_
    refine lv_iload hx hb dL_law_407 (lv_at hl 1 rfl) ?_
    refine lv_iconst (v := 3) hx hb dL_law_409 (by decide) ?_
    refine lv_iadd hx hb dL_law_410 ?_
    refine va_sld hx hb hX hbl hbA hS (i := ((nI (4 * i)) + 3)) (inS3 hi hL) dL_law_411 ?_
    refine W.eq (g2 := F0 m 412 ls [.int a3, .int a2, .int a1, .ref (Ax 0)]) (congrArg (fun zz : Int32 => F0 m 412 ls [.int zz, .int a2, .int a1, .ref (Ax 0)]) ea3) ?_
    refine kVa ⟨hx, hb, hml, hown, hts⟩ (c_X7_build l D Ax th nsd fogd nrd nm ne Lx a1 a2 a3 _ (by assumption) (by assumption) (by assumption) (by assumption)) (cwV 3 hts gL_law_X7_build rfl rfl rfl (by decide +kernel) ⟨Nat.le_of_ble_eq_true rfl, Nat.le_of_ble_eq_true rfl⟩) hK hN hP hD hS hA (Fr.r (Fr.r (Fr.r (Fr.r (Fr.r (Fr.r (Fr.r (Fr.r (Fr.r (Fr.r (Fr.r (Fr.r (Fr.r frsMod))))))))))))) 7 0 rfl rfl rfl hl.1 (Nat.le_of_ble_eq_true rfl) ⟨by show _ ≤ 601024; omega, by show _ ≤ 7293034; omega⟩ dL_law_412 (fun H locs hP hD hS => ?_) rfl
    have hP : va_P D.1 vwCl ((wMob om Ad ot ou) ++ ((wTob ot Ad Aw Am Ae xt hou cro) ++ ((wWays D Aw Lw) ++ ((wMul D Am nm Lm) ++ ((wLet D Ae ne Le) ++ ((wRow D xt yt 60 Nt) ++ ((wTob ou Ad Bw Bm Be xu hou2 cro2) ++ ((wWays D Bw Kw) ++ ((wMul D Bm nm2 Km) ++ ((wLet D Be ne2 Ke) ++ ((wRow D xu yu 60 Nu) ++ ((wLand D Ad nsd fogd (nrd + 1) (sr (sr (sr Ld 2 (rs 15 (Ld 2) (nI nrd) a1)) 3 (rs 15 (Ld 3) (nI nrd) a2)) 4 (rs 15 (Ld 4) (nI nrd) a3))) ++ ((wLar D oq (vp_updL fq 0 (nI nrd).toInt64)) ++ (wMod D Ax ((pbd Lx nsd nrd a1 a2 a3).2.1) nsd fogd ((pbd Lx nsd nrd a1 a2 a3).2.2.1) nm ne ((pbd Lx nsd nrd a1 a2 a3).2.2.2))))))))))))))) H := hP
    have hD : va_D A0 ((wMob om Ad ot ou) ++ ((wTob ot Ad Aw Am Ae xt hou cro) ++ ((wWays D Aw Lw) ++ ((wMul D Am nm Lm) ++ ((wLet D Ae ne Le) ++ ((wRow D xt yt 60 Nt) ++ ((wTob ou Ad Bw Bm Be xu hou2 cro2) ++ ((wWays D Bw Kw) ++ ((wMul D Bm nm2 Km) ++ ((wLet D Be ne2 Ke) ++ ((wRow D xu yu 60 Nu) ++ ((wLand D Ad nsd fogd (nrd + 1) (sr (sr (sr Ld 2 (rs 15 (Ld 2) (nI nrd) a1)) 3 (rs 15 (Ld 3) (nI nrd) a2)) 4 (rs 15 (Ld 4) (nI nrd) a3))) ++ ((wLar D oq (vp_updL fq 0 (nI nrd).toInt64)) ++ (wMod D Ax ((pbd Lx nsd nrd a1 a2 a3).2.1) nsd fogd ((pbd Lx nsd nrd a1 a2 a3).2.2.1) nm ne ((pbd Lx nsd nrd a1 a2 a3).2.2.2))))))))))))))) := hD
    refine W.eq (g2 := F0 m 415 ls [.int ((pbd Lx nsd nrd a1 a2 a3).1)]) rfl ?_
    have r9 := bd_rel (a := a1) (b := a2) (c := a3) hSY
    rw [r9.1, hk9, (r9.2.2 hk9).2.1] at hP hD
    have hP : va_P D.1 vwCl ((wMob om Ad ot ou) ++ ((wTob ot Ad Aw Am Ae xt hou cro) ++ ((wWays D Aw Lw) ++ ((wMul D Am nm Lm) ++ ((wLet D Ae ne Le) ++ ((wRow D xt yt 60 Nt) ++ ((wTob ou Ad Bw Bm Be xu hou2 cro2) ++ ((wWays D Bw Kw) ++ ((wMul D Bm nm2 Km) ++ ((wLet D Be ne2 Ke) ++ ((wRow D xu yu 60 Nu) ++ ((wLand D Ad nsd fogd (nrd + 1) (sr (sr (sr Ld 2 (rs 15 (Ld 2) (nI nrd) a1)) 3 (rs 15 (Ld 3) (nI nrd) a2)) 4 (rs 15 (Ld 4) (nI nrd) a3))) ++ ((wLar D oq (vp_updL fq 0 (nI nrd).toInt64)) ++ (wMod D Ax (nI 0) nsd fogd (nrd + 1) nm ne ((pbd Lx nsd nrd a1 a2 a3).2.2.2))))))))))))))) H := hP
    have hD : va_D A0 ((wMob om Ad ot ou) ++ ((wTob ot Ad Aw Am Ae xt hou cro) ++ ((wWays D Aw Lw) ++ ((wMul D Am nm Lm) ++ ((wLet D Ae ne Le) ++ ((wRow D xt yt 60 Nt) ++ ((wTob ou Ad Bw Bm Be xu hou2 cro2) ++ ((wWays D Bw Kw) ++ ((wMul D Bm nm2 Km) ++ ((wLet D Be ne2 Ke) ++ ((wRow D xu yu 60 Nu) ++ ((wLand D Ad nsd fogd (nrd + 1) (sr (sr (sr Ld 2 (rs 15 (Ld 2) (nI nrd) a1)) 3 (rs 15 (Ld 3) (nI nrd) a2)) 4 (rs 15 (Ld 4) (nI nrd) a3))) ++ ((wLar D oq (vp_updL fq 0 (nI nrd).toInt64)) ++ (wMod D Ax (nI 0) nsd fogd (nrd + 1) nm ne ((pbd Lx nsd nrd a1 a2 a3).2.2.2))))))))))))))) := hD
    refine W.eq (g2 := F0 m 415 ls [.int (nI nrd)]) (congrArg (fun zz : Int32 => F0 m 415 ls [.int zz]) (show (pbd Lx nsd nrd a1 a2 a3).1 = nI nrd from (r9.2.2 hk9).1)) ?_
    refine lv_istore (lv' := [(6, .int (nI nrd)), (5, .int 0), (4, .int (nI (4 * i))), (0, .ref b), (1, .ref om), (2, .ref (Ax 0)), (3, .ref oq)]) hx hb dL_law_415 hl (by decide) rfl (fun ls hl => ?_)
    refine lv_aload_n hx hb dL_law_417 rfl (lv_at hl 5 rfl) ?_
    refine kVp ⟨hx, hb, hml, hown, hts⟩ (c_X7_thrown l D Ax (nI 0) nsd fogd (nrd + 1) nm ne ((pbd Lx nsd nrd a1 a2 a3).2.2.2)) (cwV 0 hts gL_law_X7_thrown rfl rfl rfl (by decide +kernel) ⟨Nat.le_of_ble_eq_true rfl, Nat.le_of_ble_eq_true rfl⟩) hK hN hP hD (Sb.r (Sb.r (Sb.r (Sb.r (Sb.r (Sb.r (Sb.r (Sb.r (Sb.r (Sb.r (Sb.r (Sb.r (Sb.r Sb.self))))))))))))) 7 0 rfl rfl rfl hl.1 (Nat.le_of_ble_eq_true rfl) ⟨by show _ ≤ 601024; omega, by show _ ≤ 7293034; omega⟩ dL_law_418 ?_ rfl
    refine lv_iload hx hb dL_law_421 (lv_at hl 1 rfl) ?_
    refine lv_icmp_eq (tgt := 428) hx hb dL_law_423 (by decide) (fun c3 => ?_) (fun c3 => ?_)
    · refine lv_iload hx hb dL_law_428 (lv_at hl 1 rfl) ?_
      refine lv_if_ne (tgt := 445) hx hb dL_law_430 (by decide) (fun c4 => ?_) (fun c4 => ?_)
      · exact absurd c4 (by decide)
      · refine lv_aload_n hx hb dL_law_433 rfl (lv_at hl 6 rfl) ?_
        refine lv_iconst (v := 0) hx hb dL_law_434 (by decide) ?_
        refine va_lald (D := D.1) hx hb hK hP 96 1 rfl rfl (i := (0 : Int32)) (vpl (by decide)) dL_law_435 ?_
        refine W.eq (g2 := F0 m 436 ls [.long ((nI nrd).toInt64)]) (congrArg (fun zz : Int64 => F0 m 436 ls [.long zz]) (show (vp_updL fq 0 (nI nrd).toInt64) ((0 : Int32).toNatClampNeg) = (nI nrd).toInt64 from pk_uLs)) ?_
        refine lv_iload hx hb dL_law_436 (lv_at hl 0 rfl) ?_
        refine lv_i2l hx hb dL_law_438 rfl ?_
        refine W.lcmp hx hb dL_law_439 ?_
        refine W.eq (g2 := F0 m 440 ls [.int 0]) (congrArg (fun zz : Int32 => F0 m 440 ls [.int zz]) (lcmp0 _)) ?_
        refine lv_if_eq (tgt := 445) hx hb dL_law_440 (by decide) (fun c5 => ?_) (fun c5 => ?_)
        · refine lv_goto (tgt := 1447) hx hb dL_law_445 (by decide) ?_
          refine lv_iinc (v := ((nI (4 * i)) + 4)) (lv' := [(4, .int ((nI (4 * i)) + 4)), (6, .int (nI nrd)), (5, .int 0), (0, .ref b), (1, .ref om), (2, .ref (Ax 0)), (3, .ref oq)]) hx hb dL_law_1447 hl (k := 2) rfl rfl (by decide) rfl (fun ls hl => ?_)
          rw [show nI (4 * i) + 4 = nI (4 * (i + 1)) from nI_add (4 * i) 4] at hl
          refine lv_goto (tgt := 23) hx hb dL_law_1450 (by decide) ?_
          refine W.widen (k := 200 + 81 * (i + 1)) (n := 9000 + 11700 * (i + 1)) (by omega) (by omega) ?_
          exact ih Ax hou cro Lw nm Lm ne Le Nt hou2 cro2 Kw nm2 Km ne2 Ke Nu nsd fogd (nrd + 1) (sr (sr (sr Ld 2 (rs 15 (Ld 2) (nI nrd) a1)) 3 (rs 15 (Ld 3) (nI nrd) a2)) 4 (rs 15 (Ld 4) (nI nrd) a3)) (vp_updL fq 0 (nI nrd).toInt64) (nI 0) ((pbd Lx nsd nrd a1 a2 a3).2.2.2) h (r9.2.2 hk9).2.2 (by omega) H locs hP hD hS ls (lv_sub hl [0, 3, 4, 5, 6] rfl)
        · exact absurd c5 (by decide)
    · exact (c3 (by first | rfl | decide)).elim

set_option maxHeartbeats 4000000 in
set_option maxRecDepth 100000 in
theorem law_c4 {p : Program} {l : Launch} {e : Env} {s : State} {m : MethodId} {below : List Frame} {meth : Method} {c : Code} {D : GG} {b L : Nat} {xs : Nat → Int32} {A0 : Nat → Prop} {om ot ou oq xt yt xu yu : Nat} {Ad Aw Am Ae Bw Bm Be : Nat → Nat} (X : LX p l s m meth c D b L xs A0) {i : Nat} (hi : 4 * i + 4 ≤ L) (ih : LG p l e s m below meth c D b L xs A0 om ot ou oq xt yt xu yu Ad Aw Am Ae Bw Bm Be (i + 1)) {a1 a2 a3 : Int32} (ea1 : xs (nI (4 * i) + 1).toNatClampNeg = a1) (ea2 : xs (nI (4 * i) + 2).toNatClampNeg = a2) (ea3 : xs (nI (4 * i) + 3).toNatClampNeg = a3)
    (Ax : Nat → Nat) (hou cro : Int32) (Lw : Fm) (nm : Nat) (Lm : Fm) (ne : Nat) (Le : Fm) (Nt : Rw) (hou2 cro2 : Int32) (Kw : Fm) (nm2 : Nat) (Km : Fm) (ne2 : Nat) (Ke : Fm) (Nu : Rw) (nsd : Nat) (fogd : Int32) (nrd : Nat) (Ld : Fm) (fq : Nat → Int64) (th : Int32) (Lx : Fm) (h : Nat) (hSY : SY Lw Ld Lm Le hou cro Lx nsd nrd nm ne h) (hh : h ≤ 100 * i) (H : Heap) (locs : List Loc) (hP : va_P D.1 vwCl ((wMob om Ad ot ou) ++ ((wTob ot Ad Aw Am Ae xt hou cro) ++ ((wWays D Aw Lw) ++ ((wMul D Am nm Lm) ++ ((wLet D Ae ne Le) ++ ((wRow D xt yt 60 Nt) ++ ((wTob ou Ad Bw Bm Be xu hou2 cro2) ++ ((wWays D Bw Kw) ++ ((wMul D Bm nm2 Km) ++ ((wLet D Be ne2 Ke) ++ ((wRow D xu yu 60 Nu) ++ ((wLand D Ad nsd fogd nrd Ld) ++ ((wLar D oq fq) ++ (wMod D Ax th nsd fogd nrd nm ne Lx)))))))))))))) H) (hD : va_D A0 ((wMob om Ad ot ou) ++ ((wTob ot Ad Aw Am Ae xt hou cro) ++ ((wWays D Aw Lw) ++ ((wMul D Am nm Lm) ++ ((wLet D Ae ne Le) ++ ((wRow D xt yt 60 Nt) ++ ((wTob ou Ad Bw Bm Be xu hou2 cro2) ++ ((wWays D Bw Kw) ++ ((wMul D Bm nm2 Km) ++ ((wLet D Be ne2 Ke) ++ ((wRow D xu yu 60 Nu) ++ ((wLand D Ad nsd fogd nrd Ld) ++ ((wLar D oq fq) ++ (wMod D Ax th nsd fogd nrd nm ne Lx))))))))))))))) (hS : va_S A0 s.heap H locs) (ls : Array Slot) (hl : lv_has ls 9 [(4, .int (nI (4 * i))), (0, .ref b), (1, .ref om), (2, .ref (Ax 0)), (3, .ref oq)]) : W p l e room_1 s m #[Value.ref b] below meth c H locs (200 + 81 * i) (9000 + 11700 * i) (lw_Z below #[Value.ref b] s) (F0 m 448 ls []) := by
  obtain ⟨hx, hb, hr, hml, hown, hts, hX, hbl, hbA, hlocks, hl9, hCX, hSX, hTX, hZX, hNX, hK, hN, hA, -, hL⟩ := X
  have hS9 : okS Lx nsd nrd nm ne := okS_rel hSY.1
  have b10 : nsd ≤ 10 := hSY.1.1.1
  have b15 : nrd ≤ 15 := hSY.1.1.2.1
  have b12 : nm ≤ 12 := hSY.1.2.2.1.1
  have b60 : ne ≤ 60 := hSY.1.2.2.2.1
  have hrE : rE Le Lx ne := hSY.1.2.2.2.2.2.2.2.2.2.1
  have he : ne < 2 ^ 31 := by omega
  have hm : nm < 2 ^ 31 := by omega
  have hns : nsd < 2 ^ 31 := by omega
  have hnr : nrd < 2 ^ 31 := by omega
  refine lv_aload_n hx hb dL_law_448 rfl (lv_at hl 2 rfl) ?_
  refine lv_aload_n hx hb dL_law_449 rfl (lv_at hl 1 rfl) ?_
  refine lv_iload hx hb dL_law_450 (lv_at hl 0 rfl) ?_
  refine lv_iconst (v := 1) hx hb dL_law_452 (by decide) ?_
  refine lv_iadd hx hb dL_law_453 ?_
  refine va_sld hx hb hX hbl hbA hS (i := ((nI (4 * i)) + 1)) (inS1 hi hL) dL_law_454 ?_
  refine W.eq (g2 := F0 m 455 ls [.int a1, .ref om]) (congrArg (fun zz : Int32 => F0 m 455 ls [.int zz, .ref om]) ea1) ?_
  refine lv_aload_n hx hb dL_law_455 rfl (lv_at hl 1 rfl) ?_
  refine lv_iload hx hb dL_law_456 (lv_at hl 0 rfl) ?_
  refine lv_iconst (v := 2) hx hb dL_law_458 (by decide) ?_
  refine lv_iadd hx hb dL_law_459 ?_
  refine va_sld hx hb hX hbl hbA hS (i := ((nI (4 * i)) + 2)) (inS2 hi hL) dL_law_460 ?_
  refine W.eq (g2 := F0 m 461 ls [.int a2, .int a1, .ref om]) (congrArg (fun zz : Int32 => F0 m 461 ls [.int zz, .int a1, .ref om]) ea2) ?_
  refine lv_aload_n hx hb dL_law_461 rfl (lv_at hl 1 rfl) ?_
  refine lv_iload hx hb dL_law_462 (lv_at hl 0 rfl) ?_
  refine lv_iconst (v := 3) hx hb dL_law_464 (by decide) ?_
  refine lv_iadd hx hb dL_law_465 ?_
  refine va_sld hx hb hX hbl hbA hS (i := ((nI (4 * i)) + 3)) (inS3 hi hL) dL_law_466 ?_
  refine W.eq (g2 := F0 m 467 ls [.int a3, .int a2, .int a1, .ref om]) (congrArg (fun zz : Int32 => F0 m 467 ls [.int zz, .int a2, .int a1, .ref om]) ea3) ?_
  refine lv_if_eq (tgt := 474) hx hb dL_law_467 (by decide) (fun c1 => ?_) (fun c1 => ?_)
  · refine lv_iconst (v := 0) hx hb dL_law_474 (by decide) ?_
    refine lv_aload_n hx hb dL_law_475 rfl (lv_at hl 4 rfl) ?_
    refine kSL ⟨hx, hb, hml, hown, hts⟩ (c_L_addMule l D om Ad ot ou Aw Am Ae xt hou cro Lw nm Lm ne Le yt Nt nsd fogd nrd Ld oq fq a1 a2 (0 : Int32) _ (by assumption) (by assumption) (by assumption) hl9) (vx_cwSW 5 hts gL_law_L_addMule rfl rfl rfl (by decide +kernel) ⟨Nat.le_of_ble_eq_true rfl, Nat.le_of_ble_eq_true rfl⟩) hCX hSX hTX hZX hNX hK hN hP hD hS hA (fun z => (Fr.app (Fr.kp Sb.self) (Fr.app (Fr.kp Sb.self) (Fr.app frsWays (Fr.app frsMul (Fr.app (Fr.kp Sb.self) (Fr.app (Fr.kp Sb.self) (Fr.r (Fr.r (Fr.r (Fr.r (Fr.r (Fr.app (Fr.kp Sb.self) (Fr.l frsLar)))))))))))))) (Sb.app Sb.self (Sb.app Sb.self (Sb.app Sb.self (Sb.app Sb.self (Sb.app Sb.self (Sb.app Sb.self (Sb.r (Sb.r (Sb.r (Sb.r (Sb.r (Sb.app Sb.self (Sb.l Sb.self))))))))))))) rfl hl.1 (Nat.le_of_ble_eq_true rfl) ⟨by show _ ≤ 601024; omega, by show _ ≤ 7293034; omega⟩ dL_law_476 (fun H locs hk9 hP hD hS => ?_) (fun z H locs hk9 hP hD hS => ?_) rfl
    · have hP : va_P D.1 vwCl ((wMob om Ad ot ou) ++ ((wTob ot Ad Aw Am Ae xt hou cro) ++ ((wWays D Aw Lw) ++ ((wMul D Am nm Lm) ++ ((wLet D Ae ne Le) ++ ((wRow D xt yt 60 Nt) ++ ((wTob ou Ad Bw Bm Be xu hou2 cro2) ++ ((wWays D Bw Kw) ++ ((wMul D Bm nm2 Km) ++ ((wLet D Be ne2 Ke) ++ ((wRow D xu yu 60 Nu) ++ ((wLand D Ad nsd fogd nrd Ld) ++ ((wLar D oq fq) ++ (wMod D Ax th nsd fogd nrd nm ne Lx)))))))))))))) H := hP
      have hD : va_D A0 ((wMob om Ad ot ou) ++ ((wTob ot Ad Aw Am Ae xt hou cro) ++ ((wWays D Aw Lw) ++ ((wMul D Am nm Lm) ++ ((wLet D Ae ne Le) ++ ((wRow D xt yt 60 Nt) ++ ((wTob ou Ad Bw Bm Be xu hou2 cro2) ++ ((wWays D Bw Kw) ++ ((wMul D Bm nm2 Km) ++ ((wLet D Be ne2 Ke) ++ ((wRow D xu yu 60 Nu) ++ ((wLand D Ad nsd fogd nrd Ld) ++ ((wLar D oq fq) ++ (wMod D Ax th nsd fogd nrd nm ne Lx)))))))))))))) := hD
      refine lv_istore (lv' := [(5, .int (nI (kAM nrd nm a1 a2))), (4, .int (nI (4 * i))), (0, .ref b), (1, .ref om), (2, .ref (Ax 0)), (3, .ref oq)]) hx hb dL_law_479 hl (by decide) rfl (fun ls hl => ?_)
      refine lv_aload_n hx hb dL_law_481 rfl (lv_at hl 4 rfl) ?_
      refine lv_aload_n hx hb dL_law_482 rfl (lv_at hl 2 rfl) ?_
      refine lv_iload hx hb dL_law_483 (lv_at hl 1 rfl) ?_
      refine lv_iconst (v := 1) hx hb dL_law_485 (by decide) ?_
      refine lv_iadd hx hb dL_law_486 ?_
      refine va_sld hx hb hX hbl hbA hS (i := ((nI (4 * i)) + 1)) (inS1 hi hL) dL_law_487 ?_
      refine W.eq (g2 := F0 m 488 ls [.int a1, .ref (Ax 0)]) (congrArg (fun zz : Int32 => F0 m 488 ls [.int zz, .ref (Ax 0)]) ea1) ?_
      refine lv_aload_n hx hb dL_law_488 rfl (lv_at hl 2 rfl) ?_
      refine lv_iload hx hb dL_law_489 (lv_at hl 1 rfl) ?_
      refine lv_iconst (v := 2) hx hb dL_law_491 (by decide) ?_
      refine lv_iadd hx hb dL_law_492 ?_
      refine va_sld hx hb hX hbl hbA hS (i := ((nI (4 * i)) + 2)) (inS2 hi hL) dL_law_493 ?_
      refine W.eq (g2 := F0 m 494 ls [.int a2, .int a1, .ref (Ax 0)]) (congrArg (fun zz : Int32 => F0 m 494 ls [.int zz, .int a1, .ref (Ax 0)]) ea2) ?_
      refine lv_aload_n hx hb dL_law_494 rfl (lv_at hl 2 rfl) ?_
      refine lv_iload hx hb dL_law_495 (lv_at hl 1 rfl) ?_
      refine lv_iconst (v := 3) hx hb dL_law_497 (by decide) ?_
      refine lv_iadd hx hb dL_law_498 ?_
      refine va_sld hx hb hX hbl hbA hS (i := ((nI (4 * i)) + 3)) (inS3 hi hL) dL_law_499 ?_
      refine W.eq (g2 := F0 m 500 ls [.int a3, .int a2, .int a1, .ref (Ax 0)]) (congrArg (fun zz : Int32 => F0 m 500 ls [.int zz, .int a2, .int a1, .ref (Ax 0)]) ea3) ?_
      refine lv_if_eq (tgt := 507) hx hb dL_law_500 (by decide) (fun c2 => ?_) (fun c2 => ?_)
      · refine lv_iconst (v := 0) hx hb dL_law_507 (by decide) ?_
        refine kVa ⟨hx, hb, hml, hown, hts⟩ (c_X7_addMule l D Ax th nsd fogd nrd nm ne Lx a1 a2 (0 : Int32) _ (by assumption) (by assumption) (by assumption) (by assumption)) (cwV 3 hts gL_law_X7_addMule rfl rfl rfl (by decide +kernel) ⟨Nat.le_of_ble_eq_true rfl, Nat.le_of_ble_eq_true rfl⟩) hK hN hP hD hS hA (Fr.r (Fr.r (Fr.r (Fr.r (Fr.r (Fr.r (Fr.r (Fr.r (Fr.r (Fr.r (Fr.r (Fr.r (Fr.r frsMod))))))))))))) 7 0 rfl rfl rfl hl.1 (Nat.le_of_ble_eq_true rfl) ⟨by show _ ≤ 601024; omega, by show _ ≤ 7293034; omega⟩ dL_law_508 (fun H locs hP hD hS => ?_) rfl
        have hP : va_P D.1 vwCl ((wMob om Ad ot ou) ++ ((wTob ot Ad Aw Am Ae xt hou cro) ++ ((wWays D Aw Lw) ++ ((wMul D Am nm Lm) ++ ((wLet D Ae ne Le) ++ ((wRow D xt yt 60 Nt) ++ ((wTob ou Ad Bw Bm Be xu hou2 cro2) ++ ((wWays D Bw Kw) ++ ((wMul D Bm nm2 Km) ++ ((wLet D Be ne2 Ke) ++ ((wRow D xu yu 60 Nu) ++ ((wLand D Ad nsd fogd nrd Ld) ++ ((wLar D oq fq) ++ (wMod D Ax ((pam Lx nrd nm a1 a2 (0 : Int32)).2.1) nsd fogd nrd ((pam Lx nrd nm a1 a2 (0 : Int32)).2.2.1) ne ((pam Lx nrd nm a1 a2 (0 : Int32)).2.2.2))))))))))))))) H := hP
        have hD : va_D A0 ((wMob om Ad ot ou) ++ ((wTob ot Ad Aw Am Ae xt hou cro) ++ ((wWays D Aw Lw) ++ ((wMul D Am nm Lm) ++ ((wLet D Ae ne Le) ++ ((wRow D xt yt 60 Nt) ++ ((wTob ou Ad Bw Bm Be xu hou2 cro2) ++ ((wWays D Bw Kw) ++ ((wMul D Bm nm2 Km) ++ ((wLet D Be ne2 Ke) ++ ((wRow D xu yu 60 Nu) ++ ((wLand D Ad nsd fogd nrd Ld) ++ ((wLar D oq fq) ++ (wMod D Ax ((pam Lx nrd nm a1 a2 (0 : Int32)).2.1) nsd fogd nrd ((pam Lx nrd nm a1 a2 (0 : Int32)).2.2.1) ne ((pam Lx nrd nm a1 a2 (0 : Int32)).2.2.2))))))))))))))) := hD
        refine W.eq (g2 := F0 m 511 ls [.int ((pam Lx nrd nm a1 a2 (0 : Int32)).1)]) rfl ?_
        have r9 := am_rel (a := a1) (b := a2) (c := (0 : Int32)) hSY
        rw [r9.1, r9.2.1 hk9] at hP hD
        have hP : va_P D.1 vwCl ((wMob om Ad ot ou) ++ ((wTob ot Ad Aw Am Ae xt hou cro) ++ ((wWays D Aw Lw) ++ ((wMul D Am nm Lm) ++ ((wLet D Ae ne Le) ++ ((wRow D xt yt 60 Nt) ++ ((wTob ou Ad Bw Bm Be xu hou2 cro2) ++ ((wWays D Bw Kw) ++ ((wMul D Bm nm2 Km) ++ ((wLet D Be ne2 Ke) ++ ((wRow D xu yu 60 Nu) ++ ((wLand D Ad nsd fogd nrd Ld) ++ ((wLar D oq fq) ++ (wMod D Ax (nI (kAM nrd nm a1 a2)) nsd fogd nrd nm ne Lx)))))))))))))) H := hP
        have hD : va_D A0 ((wMob om Ad ot ou) ++ ((wTob ot Ad Aw Am Ae xt hou cro) ++ ((wWays D Aw Lw) ++ ((wMul D Am nm Lm) ++ ((wLet D Ae ne Le) ++ ((wRow D xt yt 60 Nt) ++ ((wTob ou Ad Bw Bm Be xu hou2 cro2) ++ ((wWays D Bw Kw) ++ ((wMul D Bm nm2 Km) ++ ((wLet D Be ne2 Ke) ++ ((wRow D xu yu 60 Nu) ++ ((wLand D Ad nsd fogd nrd Ld) ++ ((wLar D oq fq) ++ (wMod D Ax (nI (kAM nrd nm a1 a2)) nsd fogd nrd nm ne Lx)))))))))))))) := hD
        refine lv_istore (lv' := [(6, .int ((pam Lx nrd nm a1 a2 (0 : Int32)).1)), (5, .int (nI (kAM nrd nm a1 a2))), (4, .int (nI (4 * i))), (0, .ref b), (1, .ref om), (2, .ref (Ax 0)), (3, .ref oq)]) hx hb dL_law_511 hl (by decide) rfl (fun ls hl => ?_)
        refine lv_aload_n hx hb dL_law_513 rfl (lv_at hl 5 rfl) ?_
        refine kVp ⟨hx, hb, hml, hown, hts⟩ (c_X7_thrown l D Ax (nI (kAM nrd nm a1 a2)) nsd fogd nrd nm ne Lx) (cwV 0 hts gL_law_X7_thrown rfl rfl rfl (by decide +kernel) ⟨Nat.le_of_ble_eq_true rfl, Nat.le_of_ble_eq_true rfl⟩) hK hN hP hD (Sb.r (Sb.r (Sb.r (Sb.r (Sb.r (Sb.r (Sb.r (Sb.r (Sb.r (Sb.r (Sb.r (Sb.r (Sb.r Sb.self))))))))))))) 7 0 rfl rfl rfl hl.1 (Nat.le_of_ble_eq_true rfl) ⟨by show _ ≤ 601024; omega, by show _ ≤ 7293034; omega⟩ dL_law_514 ?_ rfl
        refine lv_iload hx hb dL_law_517 (lv_at hl 1 rfl) ?_
        refine lv_icmp_eq (tgt := 524) hx hb dL_law_519 (by decide) (fun c3 => ?_) (fun c3 => ?_)
        · refine lv_iload hx hb dL_law_524 (lv_at hl 1 rfl) ?_
          refine lv_if_ne (tgt := 541) hx hb dL_law_526 (by decide) (fun c4 => ?_) (fun c4 => ?_)
          · refine lv_goto (tgt := 1447) hx hb dL_law_541 (by decide) ?_
            refine lv_iinc (v := ((nI (4 * i)) + 4)) (lv' := [(4, .int ((nI (4 * i)) + 4)), (6, .int ((pam Lx nrd nm a1 a2 (0 : Int32)).1)), (5, .int (nI (kAM nrd nm a1 a2))), (0, .ref b), (1, .ref om), (2, .ref (Ax 0)), (3, .ref oq)]) hx hb dL_law_1447 hl (k := 2) rfl rfl (by decide) rfl (fun ls hl => ?_)
            rw [show nI (4 * i) + 4 = nI (4 * (i + 1)) from nI_add (4 * i) 4] at hl
            refine lv_goto (tgt := 23) hx hb dL_law_1450 (by decide) ?_
            refine W.widen (k := 200 + 81 * (i + 1)) (n := 9000 + 11700 * (i + 1)) (by omega) (by omega) ?_
            exact ih Ax hou cro Lw nm Lm ne Le Nt hou2 cro2 Kw nm2 Km ne2 Ke Nu nsd fogd nrd Ld fq (nI (kAM nrd nm a1 a2)) Lx h hSY (by omega) H locs hP hD hS ls (lv_sub hl [0, 3, 4, 5, 6] rfl)
          · exact (nI_ne0 (Nat.pos_of_ne_zero hk9) (Nat.lt_of_le_of_lt (kAM_b _ _ _ _) (by decide)) c4).elim
        · exact (c3 (by first | rfl | decide)).elim
      · exact absurd c1 c2
    · have hP : va_P D.1 vwCl ((wMob om Ad ot ou) ++ ((wTob ot Ad Aw Am Ae xt hou cro) ++ ((wWays D Aw (fwC Lw Ld (pmC Lm nm a1 a2 (if (0 : Int32) = 0 then rg 15 (Ld 2) a1 else rg 15 (Ld 3) a1)) nsd nrd (nm + 1) a1)) ++ ((wMul D Am (nm + 1) (pmC Lm nm a1 a2 (if (0 : Int32) = 0 then rg 15 (Ld 2) a1 else rg 15 (Ld 3) a1))) ++ ((wLet D Ae ne Le) ++ ((wRow D xt yt 60 Nt) ++ ((wTob ou Ad Bw Bm Be xu hou2 cro2) ++ ((wWays D Bw Kw) ++ ((wMul D Bm nm2 Km) ++ ((wLet D Be ne2 Ke) ++ ((wRow D xu yu 60 Nu) ++ ((wLand D Ad nsd fogd nrd Ld) ++ ((wLar D oq (vp_updL fq 0 (nI nm).toInt64)) ++ (wMod D Ax th nsd fogd nrd nm ne Lx)))))))))))))) H := hP
      have hD : va_D A0 ((wMob om Ad ot ou) ++ ((wTob ot Ad Aw Am Ae xt hou cro) ++ ((wWays D Aw (fwC Lw Ld (pmC Lm nm a1 a2 (if (0 : Int32) = 0 then rg 15 (Ld 2) a1 else rg 15 (Ld 3) a1)) nsd nrd (nm + 1) a1)) ++ ((wMul D Am (nm + 1) (pmC Lm nm a1 a2 (if (0 : Int32) = 0 then rg 15 (Ld 2) a1 else rg 15 (Ld 3) a1))) ++ ((wLet D Ae ne Le) ++ ((wRow D xt yt 60 Nt) ++ ((wTob ou Ad Bw Bm Be xu hou2 cro2) ++ ((wWays D Bw Kw) ++ ((wMul D Bm nm2 Km) ++ ((wLet D Be ne2 Ke) ++ ((wRow D xu yu 60 Nu) ++ ((wLand D Ad nsd fogd nrd Ld) ++ ((wLar D oq (vp_updL fq 0 (nI nm).toInt64)) ++ (wMod D Ax th nsd fogd nrd nm ne Lx)))))))))))))) := hD
      refine lv_istore (lv' := [(5, .int 0), (4, .int (nI (4 * i))), (0, .ref b), (1, .ref om), (2, .ref (Ax 0)), (3, .ref oq)]) hx hb dL_law_479 hl (by decide) rfl (fun ls hl => ?_)
      refine lv_aload_n hx hb dL_law_481 rfl (lv_at hl 4 rfl) ?_
      refine lv_aload_n hx hb dL_law_482 rfl (lv_at hl 2 rfl) ?_
      refine lv_iload hx hb dL_law_483 (lv_at hl 1 rfl) ?_
      refine lv_iconst (v := 1) hx hb dL_law_485 (by decide) ?_
      refine lv_iadd hx hb dL_law_486 ?_
      refine va_sld hx hb hX hbl hbA hS (i := ((nI (4 * i)) + 1)) (inS1 hi hL) dL_law_487 ?_
      refine W.eq (g2 := F0 m 488 ls [.int a1, .ref (Ax 0)]) (congrArg (fun zz : Int32 => F0 m 488 ls [.int zz, .ref (Ax 0)]) ea1) ?_
      refine lv_aload_n hx hb dL_law_488 rfl (lv_at hl 2 rfl) ?_
      refine lv_iload hx hb dL_law_489 (lv_at hl 1 rfl) ?_
      refine lv_iconst (v := 2) hx hb dL_law_491 (by decide) ?_
      refine lv_iadd hx hb dL_law_492 ?_
      refine va_sld hx hb hX hbl hbA hS (i := ((nI (4 * i)) + 2)) (inS2 hi hL) dL_law_493 ?_
      refine W.eq (g2 := F0 m 494 ls [.int a2, .int a1, .ref (Ax 0)]) (congrArg (fun zz : Int32 => F0 m 494 ls [.int zz, .int a1, .ref (Ax 0)]) ea2) ?_
      refine lv_aload_n hx hb dL_law_494 rfl (lv_at hl 2 rfl) ?_
      refine lv_iload hx hb dL_law_495 (lv_at hl 1 rfl) ?_
      refine lv_iconst (v := 3) hx hb dL_law_497 (by decide) ?_
      refine lv_iadd hx hb dL_law_498 ?_
      refine va_sld hx hb hX hbl hbA hS (i := ((nI (4 * i)) + 3)) (inS3 hi hL) dL_law_499 ?_
      refine W.eq (g2 := F0 m 500 ls [.int a3, .int a2, .int a1, .ref (Ax 0)]) (congrArg (fun zz : Int32 => F0 m 500 ls [.int zz, .int a2, .int a1, .ref (Ax 0)]) ea3) ?_
      refine lv_if_eq (tgt := 507) hx hb dL_law_500 (by decide) (fun c5 => ?_) (fun c5 => ?_)
      · refine lv_iconst (v := 0) hx hb dL_law_507 (by decide) ?_
        refine kVa ⟨hx, hb, hml, hown, hts⟩ (c_X7_addMule l D Ax th nsd fogd nrd nm ne Lx a1 a2 (0 : Int32) _ (by assumption) (by assumption) (by assumption) (by assumption)) (cwV 3 hts gL_law_X7_addMule rfl rfl rfl (by decide +kernel) ⟨Nat.le_of_ble_eq_true rfl, Nat.le_of_ble_eq_true rfl⟩) hK hN hP hD hS hA (Fr.r (Fr.r (Fr.r (Fr.r (Fr.r (Fr.r (Fr.r (Fr.r (Fr.r (Fr.r (Fr.r (Fr.r (Fr.r frsMod))))))))))))) 7 0 rfl rfl rfl hl.1 (Nat.le_of_ble_eq_true rfl) ⟨by show _ ≤ 601024; omega, by show _ ≤ 7293034; omega⟩ dL_law_508 (fun H locs hP hD hS => ?_) rfl
        have hP : va_P D.1 vwCl ((wMob om Ad ot ou) ++ ((wTob ot Ad Aw Am Ae xt hou cro) ++ ((wWays D Aw (fwC Lw Ld (pmC Lm nm a1 a2 (if (0 : Int32) = 0 then rg 15 (Ld 2) a1 else rg 15 (Ld 3) a1)) nsd nrd (nm + 1) a1)) ++ ((wMul D Am (nm + 1) (pmC Lm nm a1 a2 (if (0 : Int32) = 0 then rg 15 (Ld 2) a1 else rg 15 (Ld 3) a1))) ++ ((wLet D Ae ne Le) ++ ((wRow D xt yt 60 Nt) ++ ((wTob ou Ad Bw Bm Be xu hou2 cro2) ++ ((wWays D Bw Kw) ++ ((wMul D Bm nm2 Km) ++ ((wLet D Be ne2 Ke) ++ ((wRow D xu yu 60 Nu) ++ ((wLand D Ad nsd fogd nrd Ld) ++ ((wLar D oq (vp_updL fq 0 (nI nm).toInt64)) ++ (wMod D Ax ((pam Lx nrd nm a1 a2 (0 : Int32)).2.1) nsd fogd nrd ((pam Lx nrd nm a1 a2 (0 : Int32)).2.2.1) ne ((pam Lx nrd nm a1 a2 (0 : Int32)).2.2.2))))))))))))))) H := hP
        have hD : va_D A0 ((wMob om Ad ot ou) ++ ((wTob ot Ad Aw Am Ae xt hou cro) ++ ((wWays D Aw (fwC Lw Ld (pmC Lm nm a1 a2 (if (0 : Int32) = 0 then rg 15 (Ld 2) a1 else rg 15 (Ld 3) a1)) nsd nrd (nm + 1) a1)) ++ ((wMul D Am (nm + 1) (pmC Lm nm a1 a2 (if (0 : Int32) = 0 then rg 15 (Ld 2) a1 else rg 15 (Ld 3) a1))) ++ ((wLet D Ae ne Le) ++ ((wRow D xt yt 60 Nt) ++ ((wTob ou Ad Bw Bm Be xu hou2 cro2) ++ ((wWays D Bw Kw) ++ ((wMul D Bm nm2 Km) ++ ((wLet D Be ne2 Ke) ++ ((wRow D xu yu 60 Nu) ++ ((wLand D Ad nsd fogd nrd Ld) ++ ((wLar D oq (vp_updL fq 0 (nI nm).toInt64)) ++ (wMod D Ax ((pam Lx nrd nm a1 a2 (0 : Int32)).2.1) nsd fogd nrd ((pam Lx nrd nm a1 a2 (0 : Int32)).2.2.1) ne ((pam Lx nrd nm a1 a2 (0 : Int32)).2.2.2))))))))))))))) := hD
        refine W.eq (g2 := F0 m 511 ls [.int ((pam Lx nrd nm a1 a2 (0 : Int32)).1)]) rfl ?_
        have r9 := am_rel (a := a1) (b := a2) (c := (0 : Int32)) hSY
        rw [r9.1, hk9, (r9.2.2 hk9).2.1] at hP hD
        have hP : va_P D.1 vwCl ((wMob om Ad ot ou) ++ ((wTob ot Ad Aw Am Ae xt hou cro) ++ ((wWays D Aw (fwC Lw Ld (pmC Lm nm a1 a2 (if (0 : Int32) = 0 then rg 15 (Ld 2) a1 else rg 15 (Ld 3) a1)) nsd nrd (nm + 1) a1)) ++ ((wMul D Am (nm + 1) (pmC Lm nm a1 a2 (if (0 : Int32) = 0 then rg 15 (Ld 2) a1 else rg 15 (Ld 3) a1))) ++ ((wLet D Ae ne Le) ++ ((wRow D xt yt 60 Nt) ++ ((wTob ou Ad Bw Bm Be xu hou2 cro2) ++ ((wWays D Bw Kw) ++ ((wMul D Bm nm2 Km) ++ ((wLet D Be ne2 Ke) ++ ((wRow D xu yu 60 Nu) ++ ((wLand D Ad nsd fogd nrd Ld) ++ ((wLar D oq (vp_updL fq 0 (nI nm).toInt64)) ++ (wMod D Ax (nI 0) nsd fogd nrd (nm + 1) ne ((pam Lx nrd nm a1 a2 (0 : Int32)).2.2.2))))))))))))))) H := hP
        have hD : va_D A0 ((wMob om Ad ot ou) ++ ((wTob ot Ad Aw Am Ae xt hou cro) ++ ((wWays D Aw (fwC Lw Ld (pmC Lm nm a1 a2 (if (0 : Int32) = 0 then rg 15 (Ld 2) a1 else rg 15 (Ld 3) a1)) nsd nrd (nm + 1) a1)) ++ ((wMul D Am (nm + 1) (pmC Lm nm a1 a2 (if (0 : Int32) = 0 then rg 15 (Ld 2) a1 else rg 15 (Ld 3) a1))) ++ ((wLet D Ae ne Le) ++ ((wRow D xt yt 60 Nt) ++ ((wTob ou Ad Bw Bm Be xu hou2 cro2) ++ ((wWays D Bw Kw) ++ ((wMul D Bm nm2 Km) ++ ((wLet D Be ne2 Ke) ++ ((wRow D xu yu 60 Nu) ++ ((wLand D Ad nsd fogd nrd Ld) ++ ((wLar D oq (vp_updL fq 0 (nI nm).toInt64)) ++ (wMod D Ax (nI 0) nsd fogd nrd (nm + 1) ne ((pam Lx nrd nm a1 a2 (0 : Int32)).2.2.2))))))))))))))) := hD
        refine W.eq (g2 := F0 m 511 ls [.int (nI nm)]) (congrArg (fun zz : Int32 => F0 m 511 ls [.int zz]) (show (pam Lx nrd nm a1 a2 (0 : Int32)).1 = nI nm from (r9.2.2 hk9).1)) ?_
        refine lv_istore (lv' := [(6, .int (nI nm)), (5, .int 0), (4, .int (nI (4 * i))), (0, .ref b), (1, .ref om), (2, .ref (Ax 0)), (3, .ref oq)]) hx hb dL_law_511 hl (by decide) rfl (fun ls hl => ?_)
        refine lv_aload_n hx hb dL_law_513 rfl (lv_at hl 5 rfl) ?_
        refine kVp ⟨hx, hb, hml, hown, hts⟩ (c_X7_thrown l D Ax (nI 0) nsd fogd nrd (nm + 1) ne ((pam Lx nrd nm a1 a2 (0 : Int32)).2.2.2)) (cwV 0 hts gL_law_X7_thrown rfl rfl rfl (by decide +kernel) ⟨Nat.le_of_ble_eq_true rfl, Nat.le_of_ble_eq_true rfl⟩) hK hN hP hD (Sb.r (Sb.r (Sb.r (Sb.r (Sb.r (Sb.r (Sb.r (Sb.r (Sb.r (Sb.r (Sb.r (Sb.r (Sb.r Sb.self))))))))))))) 7 0 rfl rfl rfl hl.1 (Nat.le_of_ble_eq_true rfl) ⟨by show _ ≤ 601024; omega, by show _ ≤ 7293034; omega⟩ dL_law_514 ?_ rfl
        refine lv_iload hx hb dL_law_517 (lv_at hl 1 rfl) ?_
        refine lv_icmp_eq (tgt := 524) hx hb dL_law_519 (by decide) (fun c6 => ?_) (fun c6 => ?_)
        · refine lv_iload hx hb dL_law_524 (lv_at hl 1 rfl) ?_
          refine lv_if_ne (tgt := 541) hx hb dL_law_526 (by decide) (fun c7 => ?_) (fun c7 => ?_)
          · exact absurd c7 (by decide)
          · refine lv_aload_n hx hb dL_law_529 rfl (lv_at hl 6 rfl) ?_
            refine lv_iconst (v := 0) hx hb dL_law_530 (by decide) ?_
            refine va_lald (D := D.1) hx hb hK hP 96 1 rfl rfl (i := (0 : Int32)) (vpl (by decide)) dL_law_531 ?_
            refine W.eq (g2 := F0 m 532 ls [.long ((nI nm).toInt64)]) (congrArg (fun zz : Int64 => F0 m 532 ls [.long zz]) (show (vp_updL fq 0 (nI nm).toInt64) ((0 : Int32).toNatClampNeg) = (nI nm).toInt64 from pk_uLs)) ?_
            refine lv_iload hx hb dL_law_532 (lv_at hl 0 rfl) ?_
            refine lv_i2l hx hb dL_law_534 rfl ?_
            refine W.lcmp hx hb dL_law_535 ?_
            refine W.eq (g2 := F0 m 536 ls [.int 0]) (congrArg (fun zz : Int32 => F0 m 536 ls [.int zz]) (lcmp0 _)) ?_
            refine lv_if_eq (tgt := 541) hx hb dL_law_536 (by decide) (fun c8 => ?_) (fun c8 => ?_)
            · refine lv_goto (tgt := 1447) hx hb dL_law_541 (by decide) ?_
              refine lv_iinc (v := ((nI (4 * i)) + 4)) (lv' := [(4, .int ((nI (4 * i)) + 4)), (6, .int (nI nm)), (5, .int 0), (0, .ref b), (1, .ref om), (2, .ref (Ax 0)), (3, .ref oq)]) hx hb dL_law_1447 hl (k := 2) rfl rfl (by decide) rfl (fun ls hl => ?_)
              rw [show nI (4 * i) + 4 = nI (4 * (i + 1)) from nI_add (4 * i) 4] at hl
              refine lv_goto (tgt := 23) hx hb dL_law_1450 (by decide) ?_
              refine W.widen (k := 200 + 81 * (i + 1)) (n := 9000 + 11700 * (i + 1)) (by omega) (by omega) ?_
              exact ih Ax hou cro (fwC Lw Ld (pmC Lm nm a1 a2 (if (0 : Int32) = 0 then rg 15 (Ld 2) a1 else rg 15 (Ld 3) a1)) nsd nrd (nm + 1) a1) (nm + 1) (pmC Lm nm a1 a2 (if (0 : Int32) = 0 then rg 15 (Ld 2) a1 else rg 15 (Ld 3) a1)) ne Le Nt hou2 cro2 Kw nm2 Km ne2 Ke Nu nsd fogd nrd Ld (vp_updL fq 0 (nI nm).toInt64) (nI 0) ((pam Lx nrd nm a1 a2 (0 : Int32)).2.2.2) h (r9.2.2 hk9).2.2 (by omega) H locs hP hD hS ls (lv_sub hl [0, 3, 4, 5, 6] rfl)
            · exact absurd c8 (by decide)
        · exact (c6 (by first | rfl | decide)).elim
      · exact absurd c1 c5
  · refine lv_iconst (v := 1) hx hb dL_law_470 (by decide) ?_
    refine lv_goto (tgt := 475) hx hb dL_law_471 (by decide) ?_
    refine lv_aload_n hx hb dL_law_475 rfl (lv_at hl 4 rfl) ?_
    refine kSL ⟨hx, hb, hml, hown, hts⟩ (c_L_addMule l D om Ad ot ou Aw Am Ae xt hou cro Lw nm Lm ne Le yt Nt nsd fogd nrd Ld oq fq a1 a2 (1 : Int32) _ (by assumption) (by assumption) (by assumption) hl9) (vx_cwSW 5 hts gL_law_L_addMule rfl rfl rfl (by decide +kernel) ⟨Nat.le_of_ble_eq_true rfl, Nat.le_of_ble_eq_true rfl⟩) hCX hSX hTX hZX hNX hK hN hP hD hS hA (fun z => (Fr.app (Fr.kp Sb.self) (Fr.app (Fr.kp Sb.self) (Fr.app frsWays (Fr.app frsMul (Fr.app (Fr.kp Sb.self) (Fr.app (Fr.kp Sb.self) (Fr.r (Fr.r (Fr.r (Fr.r (Fr.r (Fr.app (Fr.kp Sb.self) (Fr.l frsLar)))))))))))))) (Sb.app Sb.self (Sb.app Sb.self (Sb.app Sb.self (Sb.app Sb.self (Sb.app Sb.self (Sb.app Sb.self (Sb.r (Sb.r (Sb.r (Sb.r (Sb.r (Sb.app Sb.self (Sb.l Sb.self))))))))))))) rfl hl.1 (Nat.le_of_ble_eq_true rfl) ⟨by show _ ≤ 601024; omega, by show _ ≤ 7293034; omega⟩ dL_law_476 (fun H locs hk9 hP hD hS => ?_) (fun z H locs hk9 hP hD hS => ?_) rfl
    · have hP : va_P D.1 vwCl ((wMob om Ad ot ou) ++ ((wTob ot Ad Aw Am Ae xt hou cro) ++ ((wWays D Aw Lw) ++ ((wMul D Am nm Lm) ++ ((wLet D Ae ne Le) ++ ((wRow D xt yt 60 Nt) ++ ((wTob ou Ad Bw Bm Be xu hou2 cro2) ++ ((wWays D Bw Kw) ++ ((wMul D Bm nm2 Km) ++ ((wLet D Be ne2 Ke) ++ ((wRow D xu yu 60 Nu) ++ ((wLand D Ad nsd fogd nrd Ld) ++ ((wLar D oq fq) ++ (wMod D Ax th nsd fogd nrd nm ne Lx)))))))))))))) H := hP
      have hD : va_D A0 ((wMob om Ad ot ou) ++ ((wTob ot Ad Aw Am Ae xt hou cro) ++ ((wWays D Aw Lw) ++ ((wMul D Am nm Lm) ++ ((wLet D Ae ne Le) ++ ((wRow D xt yt 60 Nt) ++ ((wTob ou Ad Bw Bm Be xu hou2 cro2) ++ ((wWays D Bw Kw) ++ ((wMul D Bm nm2 Km) ++ ((wLet D Be ne2 Ke) ++ ((wRow D xu yu 60 Nu) ++ ((wLand D Ad nsd fogd nrd Ld) ++ ((wLar D oq fq) ++ (wMod D Ax th nsd fogd nrd nm ne Lx)))))))))))))) := hD
      refine lv_istore (lv' := [(5, .int (nI (kAM nrd nm a1 a2))), (4, .int (nI (4 * i))), (0, .ref b), (1, .ref om), (2, .ref (Ax 0)), (3, .ref oq)]) hx hb dL_law_479 hl (by decide) rfl (fun ls hl => ?_)
      refine lv_aload_n hx hb dL_law_481 rfl (lv_at hl 4 rfl) ?_
      refine lv_aload_n hx hb dL_law_482 rfl (lv_at hl 2 rfl) ?_
      refine lv_iload hx hb dL_law_483 (lv_at hl 1 rfl) ?_
      refine lv_iconst (v := 1) hx hb dL_law_485 (by decide) ?_
      refine lv_iadd hx hb dL_law_486 ?_
      refine va_sld hx hb hX hbl hbA hS (i := ((nI (4 * i)) + 1)) (inS1 hi hL) dL_law_487 ?_
      refine W.eq (g2 := F0 m 488 ls [.int a1, .ref (Ax 0)]) (congrArg (fun zz : Int32 => F0 m 488 ls [.int zz, .ref (Ax 0)]) ea1) ?_
      refine lv_aload_n hx hb dL_law_488 rfl (lv_at hl 2 rfl) ?_
      refine lv_iload hx hb dL_law_489 (lv_at hl 1 rfl) ?_
      refine lv_iconst (v := 2) hx hb dL_law_491 (by decide) ?_
      refine lv_iadd hx hb dL_law_492 ?_
      refine va_sld hx hb hX hbl hbA hS (i := ((nI (4 * i)) + 2)) (inS2 hi hL) dL_law_493 ?_
      refine W.eq (g2 := F0 m 494 ls [.int a2, .int a1, .ref (Ax 0)]) (congrArg (fun zz : Int32 => F0 m 494 ls [.int zz, .int a1, .ref (Ax 0)]) ea2) ?_
      refine lv_aload_n hx hb dL_law_494 rfl (lv_at hl 2 rfl) ?_
      refine lv_iload hx hb dL_law_495 (lv_at hl 1 rfl) ?_
      refine lv_iconst (v := 3) hx hb dL_law_497 (by decide) ?_
      refine lv_iadd hx hb dL_law_498 ?_
      refine va_sld hx hb hX hbl hbA hS (i := ((nI (4 * i)) + 3)) (inS3 hi hL) dL_law_499 ?_
      refine W.eq (g2 := F0 m 500 ls [.int a3, .int a2, .int a1, .ref (Ax 0)]) (congrArg (fun zz : Int32 => F0 m 500 ls [.int zz, .int a2, .int a1, .ref (Ax 0)]) ea3) ?_
      refine lv_if_eq (tgt := 507) hx hb dL_law_500 (by decide) (fun c9 => ?_) (fun c9 => ?_)
      · exact absurd c9 c1
      · refine lv_iconst (v := 1) hx hb dL_law_503 (by decide) ?_
        refine lv_goto (tgt := 508) hx hb dL_law_504 (by decide) ?_
        refine kVa ⟨hx, hb, hml, hown, hts⟩ (c_X7_addMule l D Ax th nsd fogd nrd nm ne Lx a1 a2 (1 : Int32) _ (by assumption) (by assumption) (by assumption) (by assumption)) (cwV 3 hts gL_law_X7_addMule rfl rfl rfl (by decide +kernel) ⟨Nat.le_of_ble_eq_true rfl, Nat.le_of_ble_eq_true rfl⟩) hK hN hP hD hS hA (Fr.r (Fr.r (Fr.r (Fr.r (Fr.r (Fr.r (Fr.r (Fr.r (Fr.r (Fr.r (Fr.r (Fr.r (Fr.r frsMod))))))))))))) 7 0 rfl rfl rfl hl.1 (Nat.le_of_ble_eq_true rfl) ⟨by show _ ≤ 601024; omega, by show _ ≤ 7293034; omega⟩ dL_law_508 (fun H locs hP hD hS => ?_) rfl
        have hP : va_P D.1 vwCl ((wMob om Ad ot ou) ++ ((wTob ot Ad Aw Am Ae xt hou cro) ++ ((wWays D Aw Lw) ++ ((wMul D Am nm Lm) ++ ((wLet D Ae ne Le) ++ ((wRow D xt yt 60 Nt) ++ ((wTob ou Ad Bw Bm Be xu hou2 cro2) ++ ((wWays D Bw Kw) ++ ((wMul D Bm nm2 Km) ++ ((wLet D Be ne2 Ke) ++ ((wRow D xu yu 60 Nu) ++ ((wLand D Ad nsd fogd nrd Ld) ++ ((wLar D oq fq) ++ (wMod D Ax ((pam Lx nrd nm a1 a2 (1 : Int32)).2.1) nsd fogd nrd ((pam Lx nrd nm a1 a2 (1 : Int32)).2.2.1) ne ((pam Lx nrd nm a1 a2 (1 : Int32)).2.2.2))))))))))))))) H := hP
        have hD : va_D A0 ((wMob om Ad ot ou) ++ ((wTob ot Ad Aw Am Ae xt hou cro) ++ ((wWays D Aw Lw) ++ ((wMul D Am nm Lm) ++ ((wLet D Ae ne Le) ++ ((wRow D xt yt 60 Nt) ++ ((wTob ou Ad Bw Bm Be xu hou2 cro2) ++ ((wWays D Bw Kw) ++ ((wMul D Bm nm2 Km) ++ ((wLet D Be ne2 Ke) ++ ((wRow D xu yu 60 Nu) ++ ((wLand D Ad nsd fogd nrd Ld) ++ ((wLar D oq fq) ++ (wMod D Ax ((pam Lx nrd nm a1 a2 (1 : Int32)).2.1) nsd fogd nrd ((pam Lx nrd nm a1 a2 (1 : Int32)).2.2.1) ne ((pam Lx nrd nm a1 a2 (1 : Int32)).2.2.2))))))))))))))) := hD
        refine W.eq (g2 := F0 m 511 ls [.int ((pam Lx nrd nm a1 a2 (1 : Int32)).1)]) rfl ?_
        have r9 := am_rel (a := a1) (b := a2) (c := (1 : Int32)) hSY
        rw [r9.1, r9.2.1 hk9] at hP hD
        have hP : va_P D.1 vwCl ((wMob om Ad ot ou) ++ ((wTob ot Ad Aw Am Ae xt hou cro) ++ ((wWays D Aw Lw) ++ ((wMul D Am nm Lm) ++ ((wLet D Ae ne Le) ++ ((wRow D xt yt 60 Nt) ++ ((wTob ou Ad Bw Bm Be xu hou2 cro2) ++ ((wWays D Bw Kw) ++ ((wMul D Bm nm2 Km) ++ ((wLet D Be ne2 Ke) ++ ((wRow D xu yu 60 Nu) ++ ((wLand D Ad nsd fogd nrd Ld) ++ ((wLar D oq fq) ++ (wMod D Ax (nI (kAM nrd nm a1 a2)) nsd fogd nrd nm ne Lx)))))))))))))) H := hP
        have hD : va_D A0 ((wMob om Ad ot ou) ++ ((wTob ot Ad Aw Am Ae xt hou cro) ++ ((wWays D Aw Lw) ++ ((wMul D Am nm Lm) ++ ((wLet D Ae ne Le) ++ ((wRow D xt yt 60 Nt) ++ ((wTob ou Ad Bw Bm Be xu hou2 cro2) ++ ((wWays D Bw Kw) ++ ((wMul D Bm nm2 Km) ++ ((wLet D Be ne2 Ke) ++ ((wRow D xu yu 60 Nu) ++ ((wLand D Ad nsd fogd nrd Ld) ++ ((wLar D oq fq) ++ (wMod D Ax (nI (kAM nrd nm a1 a2)) nsd fogd nrd nm ne Lx)))))))))))))) := hD
        refine lv_istore (lv' := [(6, .int ((pam Lx nrd nm a1 a2 (1 : Int32)).1)), (5, .int (nI (kAM nrd nm a1 a2))), (4, .int (nI (4 * i))), (0, .ref b), (1, .ref om), (2, .ref (Ax 0)), (3, .ref oq)]) hx hb dL_law_511 hl (by decide) rfl (fun ls hl => ?_)
        refine lv_aload_n hx hb dL_law_513 rfl (lv_at hl 5 rfl) ?_
        refine kVp ⟨hx, hb, hml, hown, hts⟩ (c_X7_thrown l D Ax (nI (kAM nrd nm a1 a2)) nsd fogd nrd nm ne Lx) (cwV 0 hts gL_law_X7_thrown rfl rfl rfl (by decide +kernel) ⟨Nat.le_of_ble_eq_true rfl, Nat.le_of_ble_eq_true rfl⟩) hK hN hP hD (Sb.r (Sb.r (Sb.r (Sb.r (Sb.r (Sb.r (Sb.r (Sb.r (Sb.r (Sb.r (Sb.r (Sb.r (Sb.r Sb.self))))))))))))) 7 0 rfl rfl rfl hl.1 (Nat.le_of_ble_eq_true rfl) ⟨by show _ ≤ 601024; omega, by show _ ≤ 7293034; omega⟩ dL_law_514 ?_ rfl
        refine lv_iload hx hb dL_law_517 (lv_at hl 1 rfl) ?_
        refine lv_icmp_eq (tgt := 524) hx hb dL_law_519 (by decide) (fun c10 => ?_) (fun c10 => ?_)
        · refine lv_iload hx hb dL_law_524 (lv_at hl 1 rfl) ?_
          refine lv_if_ne (tgt := 541) hx hb dL_law_526 (by decide) (fun c11 => ?_) (fun c11 => ?_)
          · refine lv_goto (tgt := 1447) hx hb dL_law_541 (by decide) ?_
            refine lv_iinc (v := ((nI (4 * i)) + 4)) (lv' := [(4, .int ((nI (4 * i)) + 4)), (6, .int ((pam Lx nrd nm a1 a2 (1 : Int32)).1)), (5, .int (nI (kAM nrd nm a1 a2))), (0, .ref b), (1, .ref om), (2, .ref (Ax 0)), (3, .ref oq)]) hx hb dL_law_1447 hl (k := 2) rfl rfl (by decide) rfl (fun ls hl => ?_)
            rw [show nI (4 * i) + 4 = nI (4 * (i + 1)) from nI_add (4 * i) 4] at hl
            refine lv_goto (tgt := 23) hx hb dL_law_1450 (by decide) ?_
            refine W.widen (k := 200 + 81 * (i + 1)) (n := 9000 + 11700 * (i + 1)) (by omega) (by omega) ?_
            exact ih Ax hou cro Lw nm Lm ne Le Nt hou2 cro2 Kw nm2 Km ne2 Ke Nu nsd fogd nrd Ld fq (nI (kAM nrd nm a1 a2)) Lx h hSY (by omega) H locs hP hD hS ls (lv_sub hl [0, 3, 4, 5, 6] rfl)
          · exact (nI_ne0 (Nat.pos_of_ne_zero hk9) (Nat.lt_of_le_of_lt (kAM_b _ _ _ _) (by decide)) c11).elim
        · exact (c10 (by first | rfl | decide)).elim
    · have hP : va_P D.1 vwCl ((wMob om Ad ot ou) ++ ((wTob ot Ad Aw Am Ae xt hou cro) ++ ((wWays D Aw (fwC Lw Ld (pmC Lm nm a1 a2 (if (1 : Int32) = 0 then rg 15 (Ld 2) a1 else rg 15 (Ld 3) a1)) nsd nrd (nm + 1) a1)) ++ ((wMul D Am (nm + 1) (pmC Lm nm a1 a2 (if (1 : Int32) = 0 then rg 15 (Ld 2) a1 else rg 15 (Ld 3) a1))) ++ ((wLet D Ae ne Le) ++ ((wRow D xt yt 60 Nt) ++ ((wTob ou Ad Bw Bm Be xu hou2 cro2) ++ ((wWays D Bw Kw) ++ ((wMul D Bm nm2 Km) ++ ((wLet D Be ne2 Ke) ++ ((wRow D xu yu 60 Nu) ++ ((wLand D Ad nsd fogd nrd Ld) ++ ((wLar D oq (vp_updL fq 0 (nI nm).toInt64)) ++ (wMod D Ax th nsd fogd nrd nm ne Lx)))))))))))))) H := hP
      have hD : va_D A0 ((wMob om Ad ot ou) ++ ((wTob ot Ad Aw Am Ae xt hou cro) ++ ((wWays D Aw (fwC Lw Ld (pmC Lm nm a1 a2 (if (1 : Int32) = 0 then rg 15 (Ld 2) a1 else rg 15 (Ld 3) a1)) nsd nrd (nm + 1) a1)) ++ ((wMul D Am (nm + 1) (pmC Lm nm a1 a2 (if (1 : Int32) = 0 then rg 15 (Ld 2) a1 else rg 15 (Ld 3) a1))) ++ ((wLet D Ae ne Le) ++ ((wRow D xt yt 60 Nt) ++ ((wTob ou Ad Bw Bm Be xu hou2 cro2) ++ ((wWays D Bw Kw) ++ ((wMul D Bm nm2 Km) ++ ((wLet D Be ne2 Ke) ++ ((wRow D xu yu 60 Nu) ++ ((wLand D Ad nsd fogd nrd Ld) ++ ((wLar D oq (vp_updL fq 0 (nI nm).toInt64)) ++ (wMod D Ax th nsd fogd nrd nm ne Lx)))))))))))))) := hD
      refine lv_istore (lv' := [(5, .int 0), (4, .int (nI (4 * i))), (0, .ref b), (1, .ref om), (2, .ref (Ax 0)), (3, .ref oq)]) hx hb dL_law_479 hl (by decide) rfl (fun ls hl => ?_)
      refine lv_aload_n hx hb dL_law_481 rfl (lv_at hl 4 rfl) ?_
      refine lv_aload_n hx hb dL_law_482 rfl (lv_at hl 2 rfl) ?_
      refine lv_iload hx hb dL_law_483 (lv_at hl 1 rfl) ?_
      refine lv_iconst (v := 1) hx hb dL_law_485 (by decide) ?_
      refine lv_iadd hx hb dL_law_486 ?_
      refine va_sld hx hb hX hbl hbA hS (i := ((nI (4 * i)) + 1)) (inS1 hi hL) dL_law_487 ?_
      refine W.eq (g2 := F0 m 488 ls [.int a1, .ref (Ax 0)]) (congrArg (fun zz : Int32 => F0 m 488 ls [.int zz, .ref (Ax 0)]) ea1) ?_
      refine lv_aload_n hx hb dL_law_488 rfl (lv_at hl 2 rfl) ?_
      refine lv_iload hx hb dL_law_489 (lv_at hl 1 rfl) ?_
      refine lv_iconst (v := 2) hx hb dL_law_491 (by decide) ?_
      refine lv_iadd hx hb dL_law_492 ?_
      refine va_sld hx hb hX hbl hbA hS (i := ((nI (4 * i)) + 2)) (inS2 hi hL) dL_law_493 ?_
      refine W.eq (g2 := F0 m 494 ls [.int a2, .int a1, .ref (Ax 0)]) (congrArg (fun zz : Int32 => F0 m 494 ls [.int zz, .int a1, .ref (Ax 0)]) ea2) ?_
      refine lv_aload_n hx hb dL_law_494 rfl (lv_at hl 2 rfl) ?_
      refine lv_iload hx hb dL_law_495 (lv_at hl 1 rfl) ?_
      refine lv_iconst (v := 3) hx hb dL_law_497 (by decide) ?_
      refine lv_iadd hx hb dL_law_498 ?_
      refine va_sld hx hb hX hbl hbA hS (i := ((nI (4 * i)) + 3)) (inS3 hi hL) dL_law_499 ?_
      refine W.eq (g2 := F0 m 500 ls [.int a3, .int a2, .int a1, .ref (Ax 0)]) (congrArg (fun zz : Int32 => F0 m 500 ls [.int zz, .int a2, .int a1, .ref (Ax 0)]) ea3) ?_
      refine lv_if_eq (tgt := 507) hx hb dL_law_500 (by decide) (fun c12 => ?_) (fun c12 => ?_)
      · exact absurd c12 c1
      · refine lv_iconst (v := 1) hx hb dL_law_503 (by decide) ?_
        refine lv_goto (tgt := 508) hx hb dL_law_504 (by decide) ?_
        refine kVa ⟨hx, hb, hml, hown, hts⟩ (c_X7_addMule l D Ax th nsd fogd nrd nm ne Lx a1 a2 (1 : Int32) _ (by assumption) (by assumption) (by assumption) (by assumption)) (cwV 3 hts gL_law_X7_addMule rfl rfl rfl (by decide +kernel) ⟨Nat.le_of_ble_eq_true rfl, Nat.le_of_ble_eq_true rfl⟩) hK hN hP hD hS hA (Fr.r (Fr.r (Fr.r (Fr.r (Fr.r (Fr.r (Fr.r (Fr.r (Fr.r (Fr.r (Fr.r (Fr.r (Fr.r frsMod))))))))))))) 7 0 rfl rfl rfl hl.1 (Nat.le_of_ble_eq_true rfl) ⟨by show _ ≤ 601024; omega, by show _ ≤ 7293034; omega⟩ dL_law_508 (fun H locs hP hD hS => ?_) rfl
        have hP : va_P D.1 vwCl ((wMob om Ad ot ou) ++ ((wTob ot Ad Aw Am Ae xt hou cro) ++ ((wWays D Aw (fwC Lw Ld (pmC Lm nm a1 a2 (if (1 : Int32) = 0 then rg 15 (Ld 2) a1 else rg 15 (Ld 3) a1)) nsd nrd (nm + 1) a1)) ++ ((wMul D Am (nm + 1) (pmC Lm nm a1 a2 (if (1 : Int32) = 0 then rg 15 (Ld 2) a1 else rg 15 (Ld 3) a1))) ++ ((wLet D Ae ne Le) ++ ((wRow D xt yt 60 Nt) ++ ((wTob ou Ad Bw Bm Be xu hou2 cro2) ++ ((wWays D Bw Kw) ++ ((wMul D Bm nm2 Km) ++ ((wLet D Be ne2 Ke) ++ ((wRow D xu yu 60 Nu) ++ ((wLand D Ad nsd fogd nrd Ld) ++ ((wLar D oq (vp_updL fq 0 (nI nm).toInt64)) ++ (wMod D Ax ((pam Lx nrd nm a1 a2 (1 : Int32)).2.1) nsd fogd nrd ((pam Lx nrd nm a1 a2 (1 : Int32)).2.2.1) ne ((pam Lx nrd nm a1 a2 (1 : Int32)).2.2.2))))))))))))))) H := hP
        have hD : va_D A0 ((wMob om Ad ot ou) ++ ((wTob ot Ad Aw Am Ae xt hou cro) ++ ((wWays D Aw (fwC Lw Ld (pmC Lm nm a1 a2 (if (1 : Int32) = 0 then rg 15 (Ld 2) a1 else rg 15 (Ld 3) a1)) nsd nrd (nm + 1) a1)) ++ ((wMul D Am (nm + 1) (pmC Lm nm a1 a2 (if (1 : Int32) = 0 then rg 15 (Ld 2) a1 else rg 15 (Ld 3) a1))) ++ ((wLet D Ae ne Le) ++ ((wRow D xt yt 60 Nt) ++ ((wTob ou Ad Bw Bm Be xu hou2 cro2) ++ ((wWays D Bw Kw) ++ ((wMul D Bm nm2 Km) ++ ((wLet D Be ne2 Ke) ++ ((wRow D xu yu 60 Nu) ++ ((wLand D Ad nsd fogd nrd Ld) ++ ((wLar D oq (vp_updL fq 0 (nI nm).toInt64)) ++ (wMod D Ax ((pam Lx nrd nm a1 a2 (1 : Int32)).2.1) nsd fogd nrd ((pam Lx nrd nm a1 a2 (1 : Int32)).2.2.1) ne ((pam Lx nrd nm a1 a2 (1 : Int32)).2.2.2))))))))))))))) := hD
        refine W.eq (g2 := F0 m 511 ls [.int ((pam Lx nrd nm a1 a2 (1 : Int32)).1)]) rfl ?_
        have r9 := am_rel (a := a1) (b := a2) (c := (1 : Int32)) hSY
        rw [r9.1, hk9, (r9.2.2 hk9).2.1] at hP hD
        have hP : va_P D.1 vwCl ((wMob om Ad ot ou) ++ ((wTob ot Ad Aw Am Ae xt hou cro) ++ ((wWays D Aw (fwC Lw Ld (pmC Lm nm a1 a2 (if (1 : Int32) = 0 then rg 15 (Ld 2) a1 else rg 15 (Ld 3) a1)) nsd nrd (nm + 1) a1)) ++ ((wMul D Am (nm + 1) (pmC Lm nm a1 a2 (if (1 : Int32) = 0 then rg 15 (Ld 2) a1 else rg 15 (Ld 3) a1))) ++ ((wLet D Ae ne Le) ++ ((wRow D xt yt 60 Nt) ++ ((wTob ou Ad Bw Bm Be xu hou2 cro2) ++ ((wWays D Bw Kw) ++ ((wMul D Bm nm2 Km) ++ ((wLet D Be ne2 Ke) ++ ((wRow D xu yu 60 Nu) ++ ((wLand D Ad nsd fogd nrd Ld) ++ ((wLar D oq (vp_updL fq 0 (nI nm).toInt64)) ++ (wMod D Ax (nI 0) nsd fogd nrd (nm + 1) ne ((pam Lx nrd nm a1 a2 (1 : Int32)).2.2.2))))))))))))))) H := hP
        have hD : va_D A0 ((wMob om Ad ot ou) ++ ((wTob ot Ad Aw Am Ae xt hou cro) ++ ((wWays D Aw (fwC Lw Ld (pmC Lm nm a1 a2 (if (1 : Int32) = 0 then rg 15 (Ld 2) a1 else rg 15 (Ld 3) a1)) nsd nrd (nm + 1) a1)) ++ ((wMul D Am (nm + 1) (pmC Lm nm a1 a2 (if (1 : Int32) = 0 then rg 15 (Ld 2) a1 else rg 15 (Ld 3) a1))) ++ ((wLet D Ae ne Le) ++ ((wRow D xt yt 60 Nt) ++ ((wTob ou Ad Bw Bm Be xu hou2 cro2) ++ ((wWays D Bw Kw) ++ ((wMul D Bm nm2 Km) ++ ((wLet D Be ne2 Ke) ++ ((wRow D xu yu 60 Nu) ++ ((wLand D Ad nsd fogd nrd Ld) ++ ((wLar D oq (vp_updL fq 0 (nI nm).toInt64)) ++ (wMod D Ax (nI 0) nsd fogd nrd (nm + 1) ne ((pam Lx nrd nm a1 a2 (1 : Int32)).2.2.2))))))))))))))) := hD
        refine W.eq (g2 := F0 m 511 ls [.int (nI nm)]) (congrArg (fun zz : Int32 => F0 m 511 ls [.int zz]) (show (pam Lx nrd nm a1 a2 (1 : Int32)).1 = nI nm from (r9.2.2 hk9).1)) ?_
        refine lv_istore (lv' := [(6, .int (nI nm)), (5, .int 0), (4, .int (nI (4 * i))), (0, .ref b), (1, .ref om), (2, .ref (Ax 0)), (3, .ref oq)]) hx hb dL_law_511 hl (by decide) rfl (fun ls hl => ?_)
        refine lv_aload_n hx hb dL_law_513 rfl (lv_at hl 5 rfl) ?_
        refine kVp ⟨hx, hb, hml, hown, hts⟩ (c_X7_thrown l D Ax (nI 0) nsd fogd nrd (nm + 1) ne ((pam Lx nrd nm a1 a2 (1 : Int32)).2.2.2)) (cwV 0 hts gL_law_X7_thrown rfl rfl rfl (by decide +kernel) ⟨Nat.le_of_ble_eq_true rfl, Nat.le_of_ble_eq_true rfl⟩) hK hN hP hD (Sb.r (Sb.r (Sb.r (Sb.r (Sb.r (Sb.r (Sb.r (Sb.r (Sb.r (Sb.r (Sb.r (Sb.r (Sb.r Sb.self))))))))))))) 7 0 rfl rfl rfl hl.1 (Nat.le_of_ble_eq_true rfl) ⟨by show _ ≤ 601024; omega, by show _ ≤ 7293034; omega⟩ dL_law_514 ?_ rfl
        refine lv_iload hx hb dL_law_517 (lv_at hl 1 rfl) ?_
        refine lv_icmp_eq (tgt := 524) hx hb dL_law_519 (by decide) (fun c13 => ?_) (fun c13 => ?_)
        · refine lv_iload hx hb dL_law_524 (lv_at hl 1 rfl) ?_
          refine lv_if_ne (tgt := 541) hx hb dL_law_526 (by decide) (fun c14 => ?_) (fun c14 => ?_)
          · exact absurd c14 (by decide)
          · refine lv_aload_n hx hb dL_law_529 rfl (lv_at hl 6 rfl) ?_
            refine lv_iconst (v := 0) hx hb dL_law_530 (by decide) ?_
            refine va_lald (D := D.1) hx hb hK hP 96 1 rfl rfl (i := (0 : Int32)) (vpl (by decide)) dL_law_531 ?_
            refine W.eq (g2 := F0 m 532 ls [.long ((nI nm).toInt64)]) (congrArg (fun zz : Int64 => F0 m 532 ls [.long zz]) (show (vp_updL fq 0 (nI nm).toInt64) ((0 : Int32).toNatClampNeg) = (nI nm).toInt64 from pk_uLs)) ?_
            refine lv_iload hx hb dL_law_532 (lv_at hl 0 rfl) ?_
            refine lv_i2l hx hb dL_law_534 rfl ?_
            refine W.lcmp hx hb dL_law_535 ?_
            refine W.eq (g2 := F0 m 536 ls [.int 0]) (congrArg (fun zz : Int32 => F0 m 536 ls [.int zz]) (lcmp0 _)) ?_
            refine lv_if_eq (tgt := 541) hx hb dL_law_536 (by decide) (fun c15 => ?_) (fun c15 => ?_)
            · refine lv_goto (tgt := 1447) hx hb dL_law_541 (by decide) ?_
              refine lv_iinc (v := ((nI (4 * i)) + 4)) (lv' := [(4, .int ((nI (4 * i)) + 4)), (6, .int (nI nm)), (5, .int 0), (0, .ref b), (1, .ref om), (2, .ref (Ax 0)), (3, .ref oq)]) hx hb dL_law_1447 hl (k := 2) rfl rfl (by decide) rfl (fun ls hl => ?_)
              rw [show nI (4 * i) + 4 = nI (4 * (i + 1)) from nI_add (4 * i) 4] at hl
              refine lv_goto (tgt := 23) hx hb dL_law_1450 (by decide) ?_
              refine W.widen (k := 200 + 81 * (i + 1)) (n := 9000 + 11700 * (i + 1)) (by omega) (by omega) ?_
              exact ih Ax hou cro (fwC Lw Ld (pmC Lm nm a1 a2 (if (1 : Int32) = 0 then rg 15 (Ld 2) a1 else rg 15 (Ld 3) a1)) nsd nrd (nm + 1) a1) (nm + 1) (pmC Lm nm a1 a2 (if (1 : Int32) = 0 then rg 15 (Ld 2) a1 else rg 15 (Ld 3) a1)) ne Le Nt hou2 cro2 Kw nm2 Km ne2 Ke Nu nsd fogd nrd Ld (vp_updL fq 0 (nI nm).toInt64) (nI 0) ((pam Lx nrd nm a1 a2 (1 : Int32)).2.2.2) h (r9.2.2 hk9).2.2 (by omega) H locs hP hD hS ls (lv_sub hl [0, 3, 4, 5, 6] rfl)
            · exact absurd c15 (by decide)
        · exact (c13 (by first | rfl | decide)).elim
