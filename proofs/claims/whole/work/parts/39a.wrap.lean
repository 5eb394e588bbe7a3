set_option maxHeartbeats 4000000 in
set_option maxRecDepth 100000 in
theorem c_L_addStation (l : Launch) (D : GG) (om : Nat) (Ad : Nat → Nat) (ot : Nat) (ou : Nat) (Aw : Nat → Nat) (Am : Nat → Nat) (Ae : Nat → Nat) (xt : Nat) (hou : Int32) (cro : Int32) (Lw : Nat → Nat → Int32) (nm : Nat) (Lm : Nat → Nat → Int32) (ne : Nat) (Le : Nat → Nat → Int32) (yt : Nat) (Nt : Nat → Int32) (nsd : Nat) (fogd : Int32) (nrd : Nat) (Ld : Nat → Nat → Int32) (oq : Nat) (fq : Nat → Int64) (p1 : Int32) (sz : Nat)  (hl9 : l.stackTraces = false) : Met l yL_addStation wsL_addStation ({ frames := 7, cells := 1, slots := 6, locals := 103 } : Room) (va_Pc [.ref om, .int p1, .ref oq] (wdL D ((wMob om Ad ot ou) ++ ((wTob ot Ad Aw Am Ae xt hou cro) ++ ((wWays D Aw Lw) ++ ((wMul D Am nm Lm) ++ ((wLet D Ae ne Le) ++ ((wRow D xt yt 60 Nt) ++ ((wLand D Ad nsd fogd nrd Ld) ++ (wLar D oq fq)))))))) sz)) (QL D (kAS nsd p1) ((wMob om Ad ot ou) ++ ((wTob ot Ad Aw Am Ae xt hou cro) ++ ((wWays D Aw Lw) ++ ((wMul D Am nm Lm) ++ ((wLet D Ae ne Le) ++ ((wRow D xt yt 60 Nt) ++ ((wLand D Ad nsd fogd nrd Ld) ++ (wLar D oq fq)))))))) (fun z => ((wMob om Ad ot ou) ++ ((wTob ot Ad Aw Am Ae xt hou cro) ++ ((wWays D Aw Lw) ++ ((wMul D Am nm Lm) ++ ((wLet D Ae ne Le) ++ ((wRow D xt yt 60 Nt) ++ ((wLand D Ad (nsd + 1) fogd nrd (sr Ld 0 (rs 10 (Ld 0) (nI nsd) p1))) ++ (wLar D oq (vp_updL fq 0 (nI nsd).toInt64)))))))))) (ownZ ((wMob om Ad ot ou) ++ ((wTob ot Ad Aw Am Ae xt hou cro) ++ ((wWays D Aw Lw) ++ ((wMul D Am nm Lm) ++ ((wLet D Ae ne Le) ++ ((wRow D xt yt 60 Nt) ++ ((wLand D Ad nsd fogd nrd Ld) ++ (wLar D oq fq)))))))) sz)) 1 6 (ownZ ((wMob om Ad ot ou) ++ ((wTob ot Ad Aw Am Ae xt hou cro) ++ ((wWays D Aw Lw) ++ ((wMul D Am nm Lm) ++ ((wLet D Ae ne Le) ++ ((wRow D xt yt 60 Nt) ++ ((wLand D Ad nsd fogd nrd Ld) ++ (wLar D oq fq)))))))) sz) := by
  refine metOf (vx_ofWH (cc := cL_addStation) (maxL := 4) (ret := (some .int)) (hh := [(0, 9, 12, 13), (0, 9, 15, 15)]) (by decide) rfl ?_)
  intro p e s m args below meth c s₁ B hml hv
  obtain ⟨rfl, hCX, hSX, hTX, hZX, hNX, hsz, hP, hK, hD, hN⟩ := hv
  have hx := B.exec
  have hb := B.bytes
  have hr := B.returns
  have hts := atoms_spec (ws := wsL_addStation) B.pre
  have hown : s.vm.findClass RL = some m.cls := findClass_of_methodNamed B.named
  have hlocks := B.notSynchronized
  have htab := vx_table (x := yL_addStation) B (hts (.codeWith yL_addStation cL_addStation 4 (some .int) [(0, 9, 12, 13), (0, 9, 15, 15)]) (List.mem_of_getElem? (i := 0) rfl))
  subst hsz
  have hS : va_S (ownZ ((wMob om Ad ot ou) ++ ((wTob ot Ad Aw Am Ae xt hou cro) ++ ((wWays D Aw Lw) ++ ((wMul D Am nm Lm) ++ ((wLet D Ae ne Le) ++ ((wRow D xt yt 60 Nt) ++ ((wLand D Ad nsd fogd nrd Ld) ++ (wLar D oq fq)))))))) s.heap.size) s.heap s.heap [] := va_S.rf
  have hD : va_D (ownZ ((wMob om Ad ot ou) ++ ((wTob ot Ad Aw Am Ae xt hou cro) ++ ((wWays D Aw Lw) ++ ((wMul D Am nm Lm) ++ ((wLet D Ae ne Le) ++ ((wRow D xt yt 60 Nt) ++ ((wLand D Ad nsd fogd nrd Ld) ++ (wLar D oq fq)))))))) s.heap.size) ((wMob om Ad ot ou) ++ ((wTob ot Ad Aw Am Ae xt hou cro) ++ ((wWays D Aw Lw) ++ ((wMul D Am nm Lm) ++ ((wLet D Ae ne Le) ++ ((wRow D xt yt 60 Nt) ++ ((wLand D Ad nsd fogd nrd Ld) ++ (wLar D oq fq)))))))) := toOwnZ hD
  have hA : ∀ q : Nat, s.heap.size ≤ q → ownZ ((wMob om Ad ot ou) ++ ((wTob ot Ad Aw Am Ae xt hou cro) ++ ((wWays D Aw Lw) ++ ((wMul D Am nm Lm) ++ ((wLet D Ae ne Le) ++ ((wRow D xt yt 60 Nt) ++ ((wLand D Ad nsd fogd nrd Ld) ++ (wLar D oq fq)))))))) s.heap.size q := fun _ h => Or.inr h
  generalize hAe : ownZ ((wMob om Ad ot ou) ++ ((wTob ot Ad Aw Am Ae xt hou cro) ++ ((wWays D Aw Lw) ++ ((wMul D Am nm Lm) ++ ((wLet D Ae ne Le) ++ ((wRow D xt yt 60 Nt) ++ ((wLand D Ad nsd fogd nrd Ld) ++ (wLar D oq fq)))))))) s.heap.size = A0 at hD hS hA hZX ⊢
  have hl := lv_entry ([.ref om, .int p1, .ref oq]) (n := 4) (Nat.le_of_ble_eq_true rfl)
  rw [lg_entry_eq]
  generalize (lg_sl ([.ref om, .int p1, .ref oq]) ++ List.replicate (4 - (lg_sl ([.ref om, .int p1, .ref oq])).length) Slot.unset).toArray = ls at hl ⊢
  have hl : lv_has ls 4 [(0, .ref om), (1, .int p1), (2, .ref oq)] := hl
  refine lv_aload_n hx hb dL_addStation_0 rfl (lv_at hl 2 rfl) ?_
  refine lv_iconst (v := 0) hx hb dL_addStation_1 (by decide) ?_
  refine lv_aload_n hx hb dL_addStation_2 rfl (lv_at hl 0 rfl) ?_
  refine lv_iload_n hx hb dL_addStation_3 rfl (lv_at hl 1 rfl) ?_
  refine kEw ⟨hx, hb, hml, hown, hts⟩ (c_X6_addStation l D om Ad ot ou Aw Am Ae xt hou cro Lw nm Lm ne Le yt Nt nsd fogd nrd Ld p1 _ hl9) (cwV 1 hts gL_addStation_X6_addStation rfl rfl rfl (by decide +kernel) ⟨Nat.le_of_ble_eq_true rfl, Nat.le_of_ble_eq_true rfl⟩) hSX hTX hZX hNX hK hN hP hD hS hA (Fr.app (Fr.kp Sb.self) (Fr.app (Fr.kp Sb.self) (Fr.app (Fr.kp Sb.self) (Fr.app (Fr.kp Sb.self) (Fr.app (Fr.kp Sb.self) (Fr.app (Fr.kp Sb.self) (Fr.l frsLand))))))) (Sb.app Sb.self (Sb.app Sb.self (Sb.app Sb.self (Sb.app Sb.self (Sb.app Sb.self (Sb.app Sb.self (Sb.l Sb.self))))))) 6 0 rfl rfl rfl hl.1 (Nat.le_of_ble_eq_true rfl) ⟨Nat.le_of_ble_eq_true rfl, Nat.le_of_ble_eq_true rfl⟩ dL_addStation_4 (fun E ce q9 H locs he hP hD hS hce hcv hcl => ?_) (fun H locs hn9 hP hD hS => ?_) rfl
  · rcases xe2 he with ⟨hk9, rfl⟩ | ⟨hk9, rfl⟩
    · refine vx_catch (own := RL) (name := "java/lang/IllegalArgumentException") hown [] ⟨0, 9, 12, 13⟩ [⟨0, 9, 15, 15⟩] htab (fun z9 h9 => nomatch h9) (by decide) (by decide) (hts (.classLink RL 13 "java/lang/IllegalArgumentException") (List.mem_of_getElem? (i := 1) rfl)) (va_Nw.use rfl hCX.1.2.1) hce hcv hcl ?_
      refine lv_astore_n (lv' := [(3, .ref q9), (0, .ref om), (1, .int p1), (2, .ref oq)]) hx hb dL_addStation_12 rfl hl (by decide) rfl (fun ls hl => ?_)
      refine lv_iconst (v := 1) hx hb dL_addStation_13 (by decide) ?_
      refine vx_ret (W.widen (k := 1) (n := 6) (Nat.le_of_ble_eq_true rfl) (Nat.le_of_ble_eq_true rfl) ?_)
      exact eLk hx hb hr hlocks dL_addStation_14 hS hP hk9 (by decide) rfl
    · refine vx_catch (own := RL) (name := "java/lang/IllegalStateException") hown [⟨0, 9, 12, 13⟩] ⟨0, 9, 15, 15⟩ [] htab (fun z9 h9 => Or.inr (by rw [List.mem_singleton.mp h9]; exact ⟨by decide, "java/lang/IllegalArgumentException", (hts (.classLink RL 13 "java/lang/IllegalArgumentException") (List.mem_of_getElem? (i := 1) rfl)), hCX.2.1⟩)) (by decide) (by decide) (hts (.classLink RL 15 "java/lang/IllegalStateException") (List.mem_of_getElem? (i := 2) rfl)) (va_Nw.use rfl hCX.1.2.2) hce hcv hcl ?_
      refine lv_astore_n (lv' := [(3, .ref q9), (0, .ref om), (1, .int p1), (2, .ref oq)]) hx hb dL_addStation_15 rfl hl (by decide) rfl (fun ls hl => ?_)
      refine lv_iconst (v := 2) hx hb dL_addStation_16 (by decide) ?_
      refine vx_ret (W.widen (k := 1) (n := 6) (Nat.le_of_ble_eq_true rfl) (Nat.le_of_ble_eq_true rfl) ?_)
      exact eLk hx hb hr hlocks dL_addStation_17 hS hP hk9 (by decide) rfl
  · have hP : va_P D.1 vwCl ((wMob om Ad ot ou) ++ ((wTob ot Ad Aw Am Ae xt hou cro) ++ ((wWays D Aw Lw) ++ ((wMul D Am nm Lm) ++ ((wLet D Ae ne Le) ++ ((wRow D xt yt 60 Nt) ++ ((wLand D Ad (nsd + 1) fogd nrd (sr Ld 0 (rs 10 (Ld 0) (nI nsd) p1))) ++ (wLar D oq fq)))))))) H := hP
    have hD : va_D A0 ((wMob om Ad ot ou) ++ ((wTob ot Ad Aw Am Ae xt hou cro) ++ ((wWays D Aw Lw) ++ ((wMul D Am nm Lm) ++ ((wLet D Ae ne Le) ++ ((wRow D xt yt 60 Nt) ++ ((wLand D Ad (nsd + 1) fogd nrd (sr Ld 0 (rs 10 (Ld 0) (nI nsd) p1))) ++ (wLar D oq fq)))))))) := hD
    refine W.eq (g2 := F0 m 7 ls [.int (nI nsd), .int 0, .ref oq]) rfl ?_
    refine lv_i2l hx hb dL_addStation_7 rfl ?_
    refine va_last (D := D.1) hx hb hK hP hD hS 54 1 rfl rfl (i := (0 : Int32)) (vpl (by decide)) dL_addStation_8 (fun H locs hP hD hS => ?_)
    have hP : va_P D.1 vwCl ((wMob om Ad ot ou) ++ ((wTob ot Ad Aw Am Ae xt hou cro) ++ ((wWays D Aw Lw) ++ ((wMul D Am nm Lm) ++ ((wLet D Ae ne Le) ++ ((wRow D xt yt 60 Nt) ++ ((wLand D Ad (nsd + 1) fogd nrd (sr Ld 0 (rs 10 (Ld 0) (nI nsd) p1))) ++ (wLar D oq (vp_updL fq 0 ((nI nsd).toInt64)))))))))) H := hP
    have hD : va_D A0 ((wMob om Ad ot ou) ++ ((wTob ot Ad Aw Am Ae xt hou cro) ++ ((wWays D Aw Lw) ++ ((wMul D Am nm Lm) ++ ((wLet D Ae ne Le) ++ ((wRow D xt yt 60 Nt) ++ ((wLand D Ad (nsd + 1) fogd nrd (sr Ld 0 (rs 10 (Ld 0) (nI nsd) p1))) ++ (wLar D oq (vp_updL fq 0 ((nI nsd).toInt64)))))))))) := hD
    refine lv_goto (tgt := 18) hx hb dL_addStation_9 (by decide) ?_
    refine lv_iconst (v := 0) hx hb dL_addStation_18 (by decide) ?_
    refine vx_ret (W.widen (k := 1) (n := 6) (Nat.le_of_ble_eq_true rfl) (Nat.le_of_ble_eq_true rfl) ?_)
    exact eL0 z0c hx hb hr hlocks dL_addStation_19 hS hP (xe0 hn9 (kAS_b _ _)) rfl rfl

set_option maxHeartbeats 4000000 in
set_option maxRecDepth 100000 in
theorem c_L_setSight (l : Launch) (D : GG) (om : Nat) (Ad : Nat → Nat) (ot : Nat) (ou : Nat) (Aw : Nat → Nat) (Am : Nat → Nat) (Ae : Nat → Nat) (xt : Nat) (hou : Int32) (cro : Int32) (Lw : Nat → Nat → Int32) (nm : Nat) (Lm : Nat → Nat → Int32) (ne : Nat) (Le : Nat → Nat → Int32) (yt : Nat) (Nt : Nat → Int32) (nsd : Nat) (fogd : Int32) (nrd : Nat) (Ld : Nat → Nat → Int32) (oq : Nat) (fq : Nat → Int64) (p1 : Int32) (p2 : Int32) (p3 : Int32) (sz : Nat)  (hl9 : l.stackTraces = false) : Met l yL_setSight wsL_setSight ({ frames := 7, cells := 1, slots := 6, locals := 105 } : Room) (va_Pc [.ref om, .int p1, .int p2, .int p3, .ref oq] (wdL D ((wMob om Ad ot ou) ++ ((wTob ot Ad Aw Am Ae xt hou cro) ++ ((wWays D Aw Lw) ++ ((wMul D Am nm Lm) ++ ((wLet D Ae ne Le) ++ ((wRow D xt yt 60 Nt) ++ ((wLand D Ad nsd fogd nrd Ld) ++ (wLar D oq fq)))))))) sz)) (QL D (kSS nsd p1 p2) ((wMob om Ad ot ou) ++ ((wTob ot Ad Aw Am Ae xt hou cro) ++ ((wWays D Aw Lw) ++ ((wMul D Am nm Lm) ++ ((wLet D Ae ne Le) ++ ((wRow D xt yt 60 Nt) ++ ((wLand D Ad nsd fogd nrd Ld) ++ (wLar D oq fq)))))))) (fun z => ((wMob om Ad ot ou) ++ ((wTob ot Ad Aw Am Ae xt hou cro) ++ ((wWays D Aw Lw) ++ ((wMul D Am nm Lm) ++ ((wLet D Ae ne Le) ++ ((wRow D xt yt 60 Nt) ++ ((wLand D Ad nsd fogd nrd (psC (psC Ld p1 p2 p3) p2 p1 p3)) ++ (wLar D oq (vp_updL fq 0 (bitC (rg 10 (psC (psC Ld p1 p2 p3) p2 p1 p3 1) p1)).toInt64)))))))))) (ownZ ((wMob om Ad ot ou) ++ ((wTob ot Ad Aw Am Ae xt hou cro) ++ ((wWays D Aw Lw) ++ ((wMul D Am nm Lm) ++ ((wLet D Ae ne Le) ++ ((wRow D xt yt 60 Nt) ++ ((wLand D Ad nsd fogd nrd Ld) ++ (wLar D oq fq)))))))) sz)) 1 6 (ownZ ((wMob om Ad ot ou) ++ ((wTob ot Ad Aw Am Ae xt hou cro) ++ ((wWays D Aw Lw) ++ ((wMul D Am nm Lm) ++ ((wLet D Ae ne Le) ++ ((wRow D xt yt 60 Nt) ++ ((wLand D Ad nsd fogd nrd Ld) ++ (wLar D oq fq)))))))) sz) := by
  refine metOf (vx_ofWH (cc := cL_setSight) (maxL := 6) (ret := (some .int)) (hh := [(0, 12, 15, 21), (0, 12, 19, 13)]) (by decide) rfl ?_)
  intro p e s m args below meth c s₁ B hml hv
  obtain ⟨rfl, hCX, hSX, hTX, hZX, hNX, hsz, hP, hK, hD, hN⟩ := hv
  have hx := B.exec
  have hb := B.bytes
  have hr := B.returns
  have hts := atoms_spec (ws := wsL_setSight) B.pre
  have hown : s.vm.findClass RL = some m.cls := findClass_of_methodNamed B.named
  have hlocks := B.notSynchronized
  have htab := vx_table (x := yL_setSight) B (hts (.codeWith yL_setSight cL_setSight 6 (some .int) [(0, 12, 15, 21), (0, 12, 19, 13)]) (List.mem_of_getElem? (i := 0) rfl))
  subst hsz
  have hS : va_S (ownZ ((wMob om Ad ot ou) ++ ((wTob ot Ad Aw Am Ae xt hou cro) ++ ((wWays D Aw Lw) ++ ((wMul D Am nm Lm) ++ ((wLet D Ae ne Le) ++ ((wRow D xt yt 60 Nt) ++ ((wLand D Ad nsd fogd nrd Ld) ++ (wLar D oq fq)))))))) s.heap.size) s.heap s.heap [] := va_S.rf
  have hD : va_D (ownZ ((wMob om Ad ot ou) ++ ((wTob ot Ad Aw Am Ae xt hou cro) ++ ((wWays D Aw Lw) ++ ((wMul D Am nm Lm) ++ ((wLet D Ae ne Le) ++ ((wRow D xt yt 60 Nt) ++ ((wLand D Ad nsd fogd nrd Ld) ++ (wLar D oq fq)))))))) s.heap.size) ((wMob om Ad ot ou) ++ ((wTob ot Ad Aw Am Ae xt hou cro) ++ ((wWays D Aw Lw) ++ ((wMul D Am nm Lm) ++ ((wLet D Ae ne Le) ++ ((wRow D xt yt 60 Nt) ++ ((wLand D Ad nsd fogd nrd Ld) ++ (wLar D oq fq)))))))) := toOwnZ hD
  have hA : ∀ q : Nat, s.heap.size ≤ q → ownZ ((wMob om Ad ot ou) ++ ((wTob ot Ad Aw Am Ae xt hou cro) ++ ((wWays D Aw Lw) ++ ((wMul D Am nm Lm) ++ ((wLet D Ae ne Le) ++ ((wRow D xt yt 60 Nt) ++ ((wLand D Ad nsd fogd nrd Ld) ++ (wLar D oq fq)))))))) s.heap.size q := fun _ h => Or.inr h
  generalize hAe : ownZ ((wMob om Ad ot ou) ++ ((wTob ot Ad Aw Am Ae xt hou cro) ++ ((wWays D Aw Lw) ++ ((wMul D Am nm Lm) ++ ((wLet D Ae ne Le) ++ ((wRow D xt yt 60 Nt) ++ ((wLand D Ad nsd fogd nrd Ld) ++ (wLar D oq fq)))))))) s.heap.size = A0 at hD hS hA hZX ⊢
  have hl := lv_entry ([.ref om, .int p1, .int p2, .int p3, .ref oq]) (n := 6) (Nat.le_of_ble_eq_true rfl)
  rw [lg_entry_eq]
  generalize (lg_sl ([.ref om, .int p1, .int p2, .int p3, .ref oq]) ++ List.replicate (6 - (lg_sl ([.ref om, .int p1, .int p2, .int p3, .ref oq])).length) Slot.unset).toArray = ls at hl ⊢
  have hl : lv_has ls 6 [(0, .ref om), (1, .int p1), (2, .int p2), (3, .int p3), (4, .ref oq)] := hl
  refine lv_aload hx hb dL_setSight_0 (lv_at hl 4 rfl) ?_
  refine lv_iconst (v := 0) hx hb dL_setSight_2 (by decide) ?_
  refine lv_aload_n hx hb dL_setSight_3 rfl (lv_at hl 0 rfl) ?_
  refine lv_iload_n hx hb dL_setSight_4 rfl (lv_at hl 1 rfl) ?_
  refine lv_iload_n hx hb dL_setSight_5 rfl (lv_at hl 2 rfl) ?_
  refine lv_iload_n hx hb dL_setSight_6 rfl (lv_at hl 3 rfl) ?_
  refine kEw ⟨hx, hb, hml, hown, hts⟩ (c_X6_setSight l D om Ad ot ou Aw Am Ae xt hou cro Lw nm Lm ne Le yt Nt nsd fogd nrd Ld p1 p2 p3 _ hl9) (cwV 3 hts gL_setSight_X6_setSight rfl rfl rfl (by decide +kernel) ⟨Nat.le_of_ble_eq_true rfl, Nat.le_of_ble_eq_true rfl⟩) hSX hTX hZX hNX hK hN hP hD hS hA (Fr.app (Fr.kp Sb.self) (Fr.app (Fr.kp Sb.self) (Fr.app (Fr.kp Sb.self) (Fr.app (Fr.kp Sb.self) (Fr.app (Fr.kp Sb.self) (Fr.app (Fr.kp Sb.self) (Fr.l frsLand))))))) (Sb.app Sb.self (Sb.app Sb.self (Sb.app Sb.self (Sb.app Sb.self (Sb.app Sb.self (Sb.app Sb.self (Sb.l Sb.self))))))) 6 0 rfl rfl rfl hl.1 (Nat.le_of_ble_eq_true rfl) ⟨Nat.le_of_ble_eq_true rfl, Nat.le_of_ble_eq_true rfl⟩ dL_setSight_7 (fun E ce q9 H locs he hP hD hS hce hcv hcl => ?_) (fun H locs hn9 hP hD hS => ?_) rfl
  · rcases xe2 he with ⟨hk9, rfl⟩ | ⟨hk9, rfl⟩
    · refine vx_catch (own := RL) (name := "java/lang/IndexOutOfBoundsException") hown [] ⟨0, 12, 15, 21⟩ [⟨0, 12, 19, 13⟩] htab (fun z9 h9 => nomatch h9) (by decide) (by decide) (hts (.classLink RL 21 "java/lang/IndexOutOfBoundsException") (List.mem_of_getElem? (i := 1) rfl)) (va_Nw.use rfl hCX.1.1) hce hcv hcl ?_
      refine lv_astore (lv' := [(5, .ref q9), (0, .ref om), (1, .int p1), (2, .int p2), (3, .int p3), (4, .ref oq)]) hx hb dL_setSight_15 hl (by decide) rfl (fun ls hl => ?_)
      refine lv_iconst (v := 1) hx hb dL_setSight_17 (by decide) ?_
      refine vx_ret (W.widen (k := 1) (n := 6) (Nat.le_of_ble_eq_true rfl) (Nat.le_of_ble_eq_true rfl) ?_)
      exact eLk hx hb hr hlocks dL_setSight_18 hS hP hk9 (by decide) rfl
    · refine vx_catch (own := RL) (name := "java/lang/IllegalArgumentException") hown [⟨0, 12, 15, 21⟩] ⟨0, 12, 19, 13⟩ [] htab (fun z9 h9 => Or.inr (by rw [List.mem_singleton.mp h9]; exact ⟨by decide, "java/lang/IndexOutOfBoundsException", (hts (.classLink RL 21 "java/lang/IndexOutOfBoundsException") (List.mem_of_getElem? (i := 1) rfl)), hCX.2.2.1⟩)) (by decide) (by decide) (hts (.classLink RL 13 "java/lang/IllegalArgumentException") (List.mem_of_getElem? (i := 2) rfl)) (va_Nw.use rfl hCX.1.2.1) hce hcv hcl ?_
      refine lv_astore (lv' := [(5, .ref q9), (0, .ref om), (1, .int p1), (2, .int p2), (3, .int p3), (4, .ref oq)]) hx hb dL_setSight_19 hl (by decide) rfl (fun ls hl => ?_)
      refine lv_iconst (v := 2) hx hb dL_setSight_21 (by decide) ?_
      refine vx_ret (W.widen (k := 1) (n := 6) (Nat.le_of_ble_eq_true rfl) (Nat.le_of_ble_eq_true rfl) ?_)
      exact eLk hx hb hr hlocks dL_setSight_22 hS hP hk9 (by decide) rfl
  · have hP : va_P D.1 vwCl ((wMob om Ad ot ou) ++ ((wTob ot Ad Aw Am Ae xt hou cro) ++ ((wWays D Aw Lw) ++ ((wMul D Am nm Lm) ++ ((wLet D Ae ne Le) ++ ((wRow D xt yt 60 Nt) ++ ((wLand D Ad nsd fogd nrd (psC (psC Ld p1 p2 p3) p2 p1 p3)) ++ (wLar D oq fq)))))))) H := hP
    have hD : va_D A0 ((wMob om Ad ot ou) ++ ((wTob ot Ad Aw Am Ae xt hou cro) ++ ((wWays D Aw Lw) ++ ((wMul D Am nm Lm) ++ ((wLet D Ae ne Le) ++ ((wRow D xt yt 60 Nt) ++ ((wLand D Ad nsd fogd nrd (psC (psC Ld p1 p2 p3) p2 p1 p3)) ++ (wLar D oq fq)))))))) := hD
    refine W.eq (g2 := F0 m 10 ls [.int (bitC (rg 10 (psC (psC Ld p1 p2 p3) p2 p1 p3 1) p1)), .int 0, .ref oq]) rfl ?_
    refine lv_i2l hx hb dL_setSight_10 rfl ?_
    refine va_last (D := D.1) hx hb hK hP hD hS 54 1 rfl rfl (i := (0 : Int32)) (vpl (by decide)) dL_setSight_11 (fun H locs hP hD hS => ?_)
    have hP : va_P D.1 vwCl ((wMob om Ad ot ou) ++ ((wTob ot Ad Aw Am Ae xt hou cro) ++ ((wWays D Aw Lw) ++ ((wMul D Am nm Lm) ++ ((wLet D Ae ne Le) ++ ((wRow D xt yt 60 Nt) ++ ((wLand D Ad nsd fogd nrd (psC (psC Ld p1 p2 p3) p2 p1 p3)) ++ (wLar D oq (vp_updL fq 0 ((bitC (rg 10 (psC (psC Ld p1 p2 p3) p2 p1 p3 1) p1)).toInt64)))))))))) H := hP
    have hD : va_D A0 ((wMob om Ad ot ou) ++ ((wTob ot Ad Aw Am Ae xt hou cro) ++ ((wWays D Aw Lw) ++ ((wMul D Am nm Lm) ++ ((wLet D Ae ne Le) ++ ((wRow D xt yt 60 Nt) ++ ((wLand D Ad nsd fogd nrd (psC (psC Ld p1 p2 p3) p2 p1 p3)) ++ (wLar D oq (vp_updL fq 0 ((bitC (rg 10 (psC (psC Ld p1 p2 p3) p2 p1 p3 1) p1)).toInt64)))))))))) := hD
    refine lv_goto (tgt := 23) hx hb dL_setSight_12 (by decide) ?_
    refine lv_iconst (v := 0) hx hb dL_setSight_23 (by decide) ?_
    refine vx_ret (W.widen (k := 1) (n := 6) (Nat.le_of_ble_eq_true rfl) (Nat.le_of_ble_eq_true rfl) ?_)
    exact eL0 z0c hx hb hr hlocks dL_setSight_24 hS hP (xe0 hn9 (kSS_b _ _ _)) rfl rfl

set_option maxHeartbeats 4000000 in
set_option maxRecDepth 100000 in
theorem c_L_setFog (l : Launch) (D : GG) (om : Nat) (Ad : Nat → Nat) (ot : Nat) (ou : Nat) (Aw : Nat → Nat) (Am : Nat → Nat) (Ae : Nat → Nat) (xt : Nat) (hou : Int32) (cro : Int32) (Lw : Nat → Nat → Int32) (nm : Nat) (Lm : Nat → Nat → Int32) (ne : Nat) (Le : Nat → Nat → Int32) (yt : Nat) (Nt : Nat → Int32) (nsd : Nat) (fogd : Int32) (nrd : Nat) (Ld : Nat → Nat → Int32) (oq : Nat) (fq : Nat → Int64) (p1 : Int32) (p2 : Int32) (sz : Nat)  (hl9 : l.stackTraces = false) : Met l yL_setFog wsL_setFog ({ frames := 7, cells := 1, slots := 6, locals := 104 } : Room) (va_Pc [.ref om, .int p1, .int p2, .ref oq] (wdL D ((wMob om Ad ot ou) ++ ((wTob ot Ad Aw Am Ae xt hou cro) ++ ((wWays D Aw Lw) ++ ((wMul D Am nm Lm) ++ ((wLet D Ae ne Le) ++ ((wRow D xt yt 60 Nt) ++ ((wLand D Ad nsd fogd nrd Ld) ++ (wLar D oq fq)))))))) sz)) (QL D (kSF nsd p1) ((wMob om Ad ot ou) ++ ((wTob ot Ad Aw Am Ae xt hou cro) ++ ((wWays D Aw Lw) ++ ((wMul D Am nm Lm) ++ ((wLet D Ae ne Le) ++ ((wRow D xt yt 60 Nt) ++ ((wLand D Ad nsd fogd nrd Ld) ++ (wLar D oq fq)))))))) (fun z => ((wMob om Ad ot ou) ++ ((wTob ot Ad Aw Am Ae xt hou cro) ++ ((wWays D Aw Lw) ++ ((wMul D Am nm Lm) ++ ((wLet D Ae ne Le) ++ ((wRow D xt yt 60 Nt) ++ ((wLand D Ad nsd (if p2 = 0 then bN fogd p1 else bW fogd p1) nrd Ld) ++ (wLar D oq (vp_updL fq 0 (bitC (if p2 = 0 then bN fogd p1 else bW fogd p1)).toInt64)))))))))) (ownZ ((wMob om Ad ot ou) ++ ((wTob ot Ad Aw Am Ae xt hou cro) ++ ((wWays D Aw Lw) ++ ((wMul D Am nm Lm) ++ ((wLet D Ae ne Le) ++ ((wRow D xt yt 60 Nt) ++ ((wLand D Ad nsd fogd nrd Ld) ++ (wLar D oq fq)))))))) sz)) 1 6 (ownZ ((wMob om Ad ot ou) ++ ((wTob ot Ad Aw Am Ae xt hou cro) ++ ((wWays D Aw Lw) ++ ((wMul D Am nm Lm) ++ ((wLet D Ae ne Le) ++ ((wRow D xt yt 60 Nt) ++ ((wLand D Ad nsd fogd nrd Ld) ++ (wLar D oq fq)))))))) sz) := by
  refine metOf (vx_ofWH (cc := cL_setFog) (maxL := 5) (ret := (some .int)) (hh := [(0, 10, 13, 21)]) (by decide) rfl ?_)
  intro p e s m args below meth c s₁ B hml hv
  obtain ⟨rfl, hCX, hSX, hTX, hZX, hNX, hsz, hP, hK, hD, hN⟩ := hv
  have hx := B.exec
  have hb := B.bytes
  have hr := B.returns
  have hts := atoms_spec (ws := wsL_setFog) B.pre
  have hown : s.vm.findClass RL = some m.cls := findClass_of_methodNamed B.named
  have hlocks := B.notSynchronized
  have htab := vx_table (x := yL_setFog) B (hts (.codeWith yL_setFog cL_setFog 5 (some .int) [(0, 10, 13, 21)]) (List.mem_of_getElem? (i := 0) rfl))
  subst hsz
  have hS : va_S (ownZ ((wMob om Ad ot ou) ++ ((wTob ot Ad Aw Am Ae xt hou cro) ++ ((wWays D Aw Lw) ++ ((wMul D Am nm Lm) ++ ((wLet D Ae ne Le) ++ ((wRow D xt yt 60 Nt) ++ ((wLand D Ad nsd fogd nrd Ld) ++ (wLar D oq fq)))))))) s.heap.size) s.heap s.heap [] := va_S.rf
  have hD : va_D (ownZ ((wMob om Ad ot ou) ++ ((wTob ot Ad Aw Am Ae xt hou cro) ++ ((wWays D Aw Lw) ++ ((wMul D Am nm Lm) ++ ((wLet D Ae ne Le) ++ ((wRow D xt yt 60 Nt) ++ ((wLand D Ad nsd fogd nrd Ld) ++ (wLar D oq fq)))))))) s.heap.size) ((wMob om Ad ot ou) ++ ((wTob ot Ad Aw Am Ae xt hou cro) ++ ((wWays D Aw Lw) ++ ((wMul D Am nm Lm) ++ ((wLet D Ae ne Le) ++ ((wRow D xt yt 60 Nt) ++ ((wLand D Ad nsd fogd nrd Ld) ++ (wLar D oq fq)))))))) := toOwnZ hD
  have hA : ∀ q : Nat, s.heap.size ≤ q → ownZ ((wMob om Ad ot ou) ++ ((wTob ot Ad Aw Am Ae xt hou cro) ++ ((wWays D Aw Lw) ++ ((wMul D Am nm Lm) ++ ((wLet D Ae ne Le) ++ ((wRow D xt yt 60 Nt) ++ ((wLand D Ad nsd fogd nrd Ld) ++ (wLar D oq fq)))))))) s.heap.size q := fun _ h => Or.inr h
  generalize hAe : ownZ ((wMob om Ad ot ou) ++ ((wTob ot Ad Aw Am Ae xt hou cro) ++ ((wWays D Aw Lw) ++ ((wMul D Am nm Lm) ++ ((wLet D Ae ne Le) ++ ((wRow D xt yt 60 Nt) ++ ((wLand D Ad nsd fogd nrd Ld) ++ (wLar D oq fq)))))))) s.heap.size = A0 at hD hS hA hZX ⊢
  have hl := lv_entry ([.ref om, .int p1, .int p2, .ref oq]) (n := 5) (Nat.le_of_ble_eq_true rfl)
  rw [lg_entry_eq]
  generalize (lg_sl ([.ref om, .int p1, .int p2, .ref oq]) ++ List.replicate (5 - (lg_sl ([.ref om, .int p1, .int p2, .ref oq])).length) Slot.unset).toArray = ls at hl ⊢
  have hl : lv_has ls 5 [(0, .ref om), (1, .int p1), (2, .int p2), (3, .ref oq)] := hl
  refine lv_aload_n hx hb dL_setFog_0 rfl (lv_at hl 3 rfl) ?_
  refine lv_iconst (v := 0) hx hb dL_setFog_1 (by decide) ?_
  refine lv_aload_n hx hb dL_setFog_2 rfl (lv_at hl 0 rfl) ?_
  refine lv_iload_n hx hb dL_setFog_3 rfl (lv_at hl 1 rfl) ?_
  refine lv_iload_n hx hb dL_setFog_4 rfl (lv_at hl 2 rfl) ?_
  refine kEw ⟨hx, hb, hml, hown, hts⟩ (c_X6_setFog l D om Ad ot ou Aw Am Ae xt hou cro Lw nm Lm ne Le yt Nt nsd fogd nrd Ld p1 p2 _ hl9) (cwV 2 hts gL_setFog_X6_setFog rfl rfl rfl (by decide +kernel) ⟨Nat.le_of_ble_eq_true rfl, Nat.le_of_ble_eq_true rfl⟩) hSX hTX hZX hNX hK hN hP hD hS hA (Fr.app (Fr.kp Sb.self) (Fr.app (Fr.kp Sb.self) (Fr.app (Fr.kp Sb.self) (Fr.app (Fr.kp Sb.self) (Fr.app (Fr.kp Sb.self) (Fr.app (Fr.kp Sb.self) (Fr.l frsLand))))))) (Sb.app Sb.self (Sb.app Sb.self (Sb.app Sb.self (Sb.app Sb.self (Sb.app Sb.self (Sb.app Sb.self (Sb.l Sb.self))))))) 6 0 rfl rfl rfl hl.1 (Nat.le_of_ble_eq_true rfl) ⟨Nat.le_of_ble_eq_true rfl, Nat.le_of_ble_eq_true rfl⟩ dL_setFog_5 (fun E ce q9 H locs he hP hD hS hce hcv hcl => ?_) (fun H locs hn9 hP hD hS => ?_) rfl
  · rcases xe1 he with ⟨hk9, rfl⟩
    · refine vx_catch (own := RL) (name := "java/lang/IndexOutOfBoundsException") hown [] ⟨0, 10, 13, 21⟩ [] htab (fun z9 h9 => nomatch h9) (by decide) (by decide) (hts (.classLink RL 21 "java/lang/IndexOutOfBoundsException") (List.mem_of_getElem? (i := 1) rfl)) (va_Nw.use rfl hCX.1.1) hce hcv hcl ?_
      refine lv_astore (lv' := [(4, .ref q9), (0, .ref om), (1, .int p1), (2, .int p2), (3, .ref oq)]) hx hb dL_setFog_13 hl (by decide) rfl (fun ls hl => ?_)
      refine lv_iconst (v := 1) hx hb dL_setFog_15 (by decide) ?_
      refine vx_ret (W.widen (k := 1) (n := 6) (Nat.le_of_ble_eq_true rfl) (Nat.le_of_ble_eq_true rfl) ?_)
      exact eLk hx hb hr hlocks dL_setFog_16 hS hP hk9 (by decide) rfl
  · have hP : va_P D.1 vwCl ((wMob om Ad ot ou) ++ ((wTob ot Ad Aw Am Ae xt hou cro) ++ ((wWays D Aw Lw) ++ ((wMul D Am nm Lm) ++ ((wLet D Ae ne Le) ++ ((wRow D xt yt 60 Nt) ++ ((wLand D Ad nsd (if p2 = 0 then bN fogd p1 else bW fogd p1) nrd Ld) ++ (wLar D oq fq)))))))) H := hP
    have hD : va_D A0 ((wMob om Ad ot ou) ++ ((wTob ot Ad Aw Am Ae xt hou cro) ++ ((wWays D Aw Lw) ++ ((wMul D Am nm Lm) ++ ((wLet D Ae ne Le) ++ ((wRow D xt yt 60 Nt) ++ ((wLand D Ad nsd (if p2 = 0 then bN fogd p1 else bW fogd p1) nrd Ld) ++ (wLar D oq fq)))))))) := hD
    refine W.eq (g2 := F0 m 8 ls [.int (bitC (if p2 = 0 then bN fogd p1 else bW fogd p1)), .int 0, .ref oq]) rfl ?_
    refine lv_i2l hx hb dL_setFog_8 rfl ?_
    refine va_last (D := D.1) hx hb hK hP hD hS 54 1 rfl rfl (i := (0 : Int32)) (vpl (by decide)) dL_setFog_9 (fun H locs hP hD hS => ?_)
    have hP : va_P D.1 vwCl ((wMob om Ad ot ou) ++ ((wTob ot Ad Aw Am Ae xt hou cro) ++ ((wWays D Aw Lw) ++ ((wMul D Am nm Lm) ++ ((wLet D Ae ne Le) ++ ((wRow D xt yt 60 Nt) ++ ((wLand D Ad nsd (if p2 = 0 then bN fogd p1 else bW fogd p1) nrd Ld) ++ (wLar D oq (vp_updL fq 0 ((bitC (if p2 = 0 then bN fogd p1 else bW fogd p1)).toInt64)))))))))) H := hP
    have hD : va_D A0 ((wMob om Ad ot ou) ++ ((wTob ot Ad Aw Am Ae xt hou cro) ++ ((wWays D Aw Lw) ++ ((wMul D Am nm Lm) ++ ((wLet D Ae ne Le) ++ ((wRow D xt yt 60 Nt) ++ ((wLand D Ad nsd (if p2 = 0 then bN fogd p1 else bW fogd p1) nrd Ld) ++ (wLar D oq (vp_updL fq 0 ((bitC (if p2 = 0 then bN fogd p1 else bW fogd p1)).toInt64)))))))))) := hD
    refine lv_goto (tgt := 17) hx hb dL_setFog_10 (by decide) ?_
    refine lv_iconst (v := 0) hx hb dL_setFog_17 (by decide) ?_
    refine vx_ret (W.widen (k := 1) (n := 6) (Nat.le_of_ble_eq_true rfl) (Nat.le_of_ble_eq_true rfl) ?_)
    exact eL0 z0c hx hb hr hlocks dL_setFog_18 hS hP (xe0 hn9 (kSF_b _ _)) rfl rfl

set_option maxHeartbeats 4000000 in
set_option maxRecDepth 100000 in
theorem c_L_build (l : Launch) (D : GG) (om : Nat) (Ad : Nat → Nat) (ot : Nat) (ou : Nat) (Aw : Nat → Nat) (Am : Nat → Nat) (Ae : Nat → Nat) (xt : Nat) (hou : Int32) (cro : Int32) (Lw : Nat → Nat → Int32) (nm : Nat) (Lm : Nat → Nat → Int32) (ne : Nat) (Le : Nat → Nat → Int32) (yt : Nat) (Nt : Nat → Int32) (nsd : Nat) (fogd : Int32) (nrd : Nat) (Ld : Nat → Nat → Int32) (oq : Nat) (fq : Nat → Int64) (p1 : Int32) (p2 : Int32) (p3 : Int32) (sz : Nat)  (hl9 : l.stackTraces = false) : Met l yL_build wsL_build ({ frames := 7, cells := 1, slots := 6, locals := 105 } : Room) (va_Pc [.ref om, .int p1, .int p2, .int p3, .ref oq] (wdL D ((wMob om Ad ot ou) ++ ((wTob ot Ad Aw Am Ae xt hou cro) ++ ((wWays D Aw Lw) ++ ((wMul D Am nm Lm) ++ ((wLet D Ae ne Le) ++ ((wRow D xt yt 60 Nt) ++ ((wLand D Ad nsd fogd nrd Ld) ++ (wLar D oq fq)))))))) sz)) (QL D (kBD nsd nrd p1 p2 p3) ((wMob om Ad ot ou) ++ ((wTob ot Ad Aw Am Ae xt hou cro) ++ ((wWays D Aw Lw) ++ ((wMul D Am nm Lm) ++ ((wLet D Ae ne Le) ++ ((wRow D xt yt 60 Nt) ++ ((wLand D Ad nsd fogd nrd Ld) ++ (wLar D oq fq)))))))) (fun z => ((wMob om Ad ot ou) ++ ((wTob ot Ad Aw Am Ae xt hou cro) ++ ((wWays D Aw Lw) ++ ((wMul D Am nm Lm) ++ ((wLet D Ae ne Le) ++ ((wRow D xt yt 60 Nt) ++ ((wLand D Ad nsd fogd (nrd + 1) (sr (sr (sr Ld 2 (rs 15 (Ld 2) (nI nrd) p1)) 3 (rs 15 (Ld 3) (nI nrd) p2)) 4 (rs 15 (Ld 4) (nI nrd) p3))) ++ (wLar D oq (vp_updL fq 0 (nI nrd).toInt64)))))))))) (ownZ ((wMob om Ad ot ou) ++ ((wTob ot Ad Aw Am Ae xt hou cro) ++ ((wWays D Aw Lw) ++ ((wMul D Am nm Lm) ++ ((wLet D Ae ne Le) ++ ((wRow D xt yt 60 Nt) ++ ((wLand D Ad nsd fogd nrd Ld) ++ (wLar D oq fq)))))))) sz)) 1 6 (ownZ ((wMob om Ad ot ou) ++ ((wTob ot Ad Aw Am Ae xt hou cro) ++ ((wWays D Aw Lw) ++ ((wMul D Am nm Lm) ++ ((wLet D Ae ne Le) ++ ((wRow D xt yt 60 Nt) ++ ((wLand D Ad nsd fogd nrd Ld) ++ (wLar D oq fq)))))))) sz) := by
  refine metOf (vx_ofWH (cc := cL_build) (maxL := 6) (ret := (some .int)) (hh := [(0, 12, 15, 21), (0, 12, 19, 13), (0, 12, 23, 15)]) (by decide) rfl ?_)
  intro p e s m args below meth c s₁ B hml hv
  obtain ⟨rfl, hCX, hSX, hTX, hZX, hNX, hsz, hP, hK, hD, hN⟩ := hv
  have hx := B.exec
  have hb := B.bytes
  have hr := B.returns
  have hts := atoms_spec (ws := wsL_build) B.pre
  have hown : s.vm.findClass RL = some m.cls := findClass_of_methodNamed B.named
  have hlocks := B.notSynchronized
  have htab := vx_table (x := yL_build) B (hts (.codeWith yL_build cL_build 6 (some .int) [(0, 12, 15, 21), (0, 12, 19, 13), (0, 12, 23, 15)]) (List.mem_of_getElem? (i := 0) rfl))
  subst hsz
  have hS : va_S (ownZ ((wMob om Ad ot ou) ++ ((wTob ot Ad Aw Am Ae xt hou cro) ++ ((wWays D Aw Lw) ++ ((wMul D Am nm Lm) ++ ((wLet D Ae ne Le) ++ ((wRow D xt yt 60 Nt) ++ ((wLand D Ad nsd fogd nrd Ld) ++ (wLar D oq fq)))))))) s.heap.size) s.heap s.heap [] := va_S.rf
  have hD : va_D (ownZ ((wMob om Ad ot ou) ++ ((wTob ot Ad Aw Am Ae xt hou cro) ++ ((wWays D Aw Lw) ++ ((wMul D Am nm Lm) ++ ((wLet D Ae ne Le) ++ ((wRow D xt yt 60 Nt) ++ ((wLand D Ad nsd fogd nrd Ld) ++ (wLar D oq fq)))))))) s.heap.size) ((wMob om Ad ot ou) ++ ((wTob ot Ad Aw Am Ae xt hou cro) ++ ((wWays D Aw Lw) ++ ((wMul D Am nm Lm) ++ ((wLet D Ae ne Le) ++ ((wRow D xt yt 60 Nt) ++ ((wLand D Ad nsd fogd nrd Ld) ++ (wLar D oq fq)))))))) := toOwnZ hD
  have hA : ∀ q : Nat, s.heap.size ≤ q → ownZ ((wMob om Ad ot ou) ++ ((wTob ot Ad Aw Am Ae xt hou cro) ++ ((wWays D Aw Lw) ++ ((wMul D Am nm Lm) ++ ((wLet D Ae ne Le) ++ ((wRow D xt yt 60 Nt) ++ ((wLand D Ad nsd fogd nrd Ld) ++ (wLar D oq fq)))))))) s.heap.size q := fun _ h => Or.inr h
  generalize hAe : ownZ ((wMob om Ad ot ou) ++ ((wTob ot Ad Aw Am Ae xt hou cro) ++ ((wWays D Aw Lw) ++ ((wMul D Am nm Lm) ++ ((wLet D Ae ne Le) ++ ((wRow D xt yt 60 Nt) ++ ((wLand D Ad nsd fogd nrd Ld) ++ (wLar D oq fq)))))))) s.heap.size = A0 at hD hS hA hZX ⊢
  have hl := lv_entry ([.ref om, .int p1, .int p2, .int p3, .ref oq]) (n := 6) (Nat.le_of_ble_eq_true rfl)
  rw [lg_entry_eq]
  generalize (lg_sl ([.ref om, .int p1, .int p2, .int p3, .ref oq]) ++ List.replicate (6 - (lg_sl ([.ref om, .int p1, .int p2, .int p3, .ref oq])).length) Slot.unset).toArray = ls at hl ⊢
  have hl : lv_has ls 6 [(0, .ref om), (1, .int p1), (2, .int p2), (3, .int p3), (4, .ref oq)] := hl
  refine lv_aload hx hb dL_build_0 (lv_at hl 4 rfl) ?_
  refine lv_iconst (v := 0) hx hb dL_build_2 (by decide) ?_
  refine lv_aload_n hx hb dL_build_3 rfl (lv_at hl 0 rfl) ?_
  refine lv_iload_n hx hb dL_build_4 rfl (lv_at hl 1 rfl) ?_
  refine lv_iload_n hx hb dL_build_5 rfl (lv_at hl 2 rfl) ?_
  refine lv_iload_n hx hb dL_build_6 rfl (lv_at hl 3 rfl) ?_
  refine kEw ⟨hx, hb, hml, hown, hts⟩ (c_X6_build l D om Ad ot ou Aw Am Ae xt hou cro Lw nm Lm ne Le yt Nt nsd fogd nrd Ld p1 p2 p3 _ hl9) (cwV 3 hts gL_build_X6_build rfl rfl rfl (by decide +kernel) ⟨Nat.le_of_ble_eq_true rfl, Nat.le_of_ble_eq_true rfl⟩) hSX hTX hZX hNX hK hN hP hD hS hA (Fr.app (Fr.kp Sb.self) (Fr.app (Fr.kp Sb.self) (Fr.app (Fr.kp Sb.self) (Fr.app (Fr.kp Sb.self) (Fr.app (Fr.kp Sb.self) (Fr.app (Fr.kp Sb.self) (Fr.l frsLand))))))) (Sb.app Sb.self (Sb.app Sb.self (Sb.app Sb.self (Sb.app Sb.self (Sb.app Sb.self (Sb.app Sb.self (Sb.l Sb.self))))))) 6 0 rfl rfl rfl hl.1 (Nat.le_of_ble_eq_true rfl) ⟨Nat.le_of_ble_eq_true rfl, Nat.le_of_ble_eq_true rfl⟩ dL_build_7 (fun E ce q9 H locs he hP hD hS hce hcv hcl => ?_) (fun H locs hn9 hP hD hS => ?_) rfl
  · rcases xe3 he with ⟨hk9, rfl⟩ | ⟨hk9, rfl⟩ | ⟨hk9, rfl⟩
    · refine vx_catch (own := RL) (name := "java/lang/IndexOutOfBoundsException") hown [] ⟨0, 12, 15, 21⟩ [⟨0, 12, 19, 13⟩, ⟨0, 12, 23, 15⟩] htab (fun z9 h9 => nomatch h9) (by decide) (by decide) (hts (.classLink RL 21 "java/lang/IndexOutOfBoundsException") (List.mem_of_getElem? (i := 1) rfl)) (va_Nw.use rfl hCX.1.1) hce hcv hcl ?_
      refine lv_astore (lv' := [(5, .ref q9), (0, .ref om), (1, .int p1), (2, .int p2), (3, .int p3), (4, .ref oq)]) hx hb dL_build_15 hl (by decide) rfl (fun ls hl => ?_)
      refine lv_iconst (v := 1) hx hb dL_build_17 (by decide) ?_
      refine vx_ret (W.widen (k := 1) (n := 6) (Nat.le_of_ble_eq_true rfl) (Nat.le_of_ble_eq_true rfl) ?_)
      exact eLk hx hb hr hlocks dL_build_18 hS hP hk9 (by decide) rfl
    · refine vx_catch (own := RL) (name := "java/lang/IllegalArgumentException") hown [⟨0, 12, 15, 21⟩] ⟨0, 12, 19, 13⟩ [⟨0, 12, 23, 15⟩] htab (fun z9 h9 => Or.inr (by rw [List.mem_singleton.mp h9]; exact ⟨by decide, "java/lang/IndexOutOfBoundsException", (hts (.classLink RL 21 "java/lang/IndexOutOfBoundsException") (List.mem_of_getElem? (i := 1) rfl)), hCX.2.2.1⟩)) (by decide) (by decide) (hts (.classLink RL 13 "java/lang/IllegalArgumentException") (List.mem_of_getElem? (i := 2) rfl)) (va_Nw.use rfl hCX.1.2.1) hce hcv hcl ?_
      refine lv_astore (lv' := [(5, .ref q9), (0, .ref om), (1, .int p1), (2, .int p2), (3, .int p3), (4, .ref oq)]) hx hb dL_build_19 hl (by decide) rfl (fun ls hl => ?_)
      refine lv_iconst (v := 2) hx hb dL_build_21 (by decide) ?_
      refine vx_ret (W.widen (k := 1) (n := 6) (Nat.le_of_ble_eq_true rfl) (Nat.le_of_ble_eq_true rfl) ?_)
      exact eLk hx hb hr hlocks dL_build_22 hS hP hk9 (by decide) rfl
    · refine vx_catch (own := RL) (name := "java/lang/IllegalStateException") hown [⟨0, 12, 15, 21⟩, ⟨0, 12, 19, 13⟩] ⟨0, 12, 23, 15⟩ [] htab (fun z9 h9 => Or.inr ((List.mem_cons.mp h9).elim (fun e9 => by rw [e9]; exact ⟨by decide, "java/lang/IndexOutOfBoundsException", (hts (.classLink RL 21 "java/lang/IndexOutOfBoundsException") (List.mem_of_getElem? (i := 1) rfl)), hCX.2.2.2⟩) (fun h9 => by rw [List.mem_singleton.mp h9]; exact ⟨by decide, "java/lang/IllegalArgumentException", (hts (.classLink RL 13 "java/lang/IllegalArgumentException") (List.mem_of_getElem? (i := 2) rfl)), hCX.2.1⟩))) (by decide) (by decide) (hts (.classLink RL 15 "java/lang/IllegalStateException") (List.mem_of_getElem? (i := 3) rfl)) (va_Nw.use rfl hCX.1.2.2) hce hcv hcl ?_
      refine lv_astore (lv' := [(5, .ref q9), (0, .ref om), (1, .int p1), (2, .int p2), (3, .int p3), (4, .ref oq)]) hx hb dL_build_23 hl (by decide) rfl (fun ls hl => ?_)
      refine lv_iconst (v := 3) hx hb dL_build_25 (by decide) ?_
      refine vx_ret (W.widen (k := 1) (n := 6) (Nat.le_of_ble_eq_true rfl) (Nat.le_of_ble_eq_true rfl) ?_)
      exact eLk hx hb hr hlocks dL_build_26 hS hP hk9 (by decide) rfl
  · have hP : va_P D.1 vwCl ((wMob om Ad ot ou) ++ ((wTob ot Ad Aw Am Ae xt hou cro) ++ ((wWays D Aw Lw) ++ ((wMul D Am nm Lm) ++ ((wLet D Ae ne Le) ++ ((wRow D xt yt 60 Nt) ++ ((wLand D Ad nsd fogd (nrd + 1) (sr (sr (sr Ld 2 (rs 15 (Ld 2) (nI nrd) p1)) 3 (rs 15 (Ld 3) (nI nrd) p2)) 4 (rs 15 (Ld 4) (nI nrd) p3))) ++ (wLar D oq fq)))))))) H := hP
    have hD : va_D A0 ((wMob om Ad ot ou) ++ ((wTob ot Ad Aw Am Ae xt hou cro) ++ ((wWays D Aw Lw) ++ ((wMul D Am nm Lm) ++ ((wLet D Ae ne Le) ++ ((wRow D xt yt 60 Nt) ++ ((wLand D Ad nsd fogd (nrd + 1) (sr (sr (sr Ld 2 (rs 15 (Ld 2) (nI nrd) p1)) 3 (rs 15 (Ld 3) (nI nrd) p2)) 4 (rs 15 (Ld 4) (nI nrd) p3))) ++ (wLar D oq fq)))))))) := hD
    refine W.eq (g2 := F0 m 10 ls [.int (nI nrd), .int 0, .ref oq]) rfl ?_
    refine lv_i2l hx hb dL_build_10 rfl ?_
    refine va_last (D := D.1) hx hb hK hP hD hS 54 1 rfl rfl (i := (0 : Int32)) (vpl (by decide)) dL_build_11 (fun H locs hP hD hS => ?_)
    have hP : va_P D.1 vwCl ((wMob om Ad ot ou) ++ ((wTob ot Ad Aw Am Ae xt hou cro) ++ ((wWays D Aw Lw) ++ ((wMul D Am nm Lm) ++ ((wLet D Ae ne Le) ++ ((wRow D xt yt 60 Nt) ++ ((wLand D Ad nsd fogd (nrd + 1) (sr (sr (sr Ld 2 (rs 15 (Ld 2) (nI nrd) p1)) 3 (rs 15 (Ld 3) (nI nrd) p2)) 4 (rs 15 (Ld 4) (nI nrd) p3))) ++ (wLar D oq (vp_updL fq 0 ((nI nrd).toInt64)))))))))) H := hP
    have hD : va_D A0 ((wMob om Ad ot ou) ++ ((wTob ot Ad Aw Am Ae xt hou cro) ++ ((wWays D Aw Lw) ++ ((wMul D Am nm Lm) ++ ((wLet D Ae ne Le) ++ ((wRow D xt yt 60 Nt) ++ ((wLand D Ad nsd fogd (nrd + 1) (sr (sr (sr Ld 2 (rs 15 (Ld 2) (nI nrd) p1)) 3 (rs 15 (Ld 3) (nI nrd) p2)) 4 (rs 15 (Ld 4) (nI nrd) p3))) ++ (wLar D oq (vp_updL fq 0 ((nI nrd).toInt64)))))))))) := hD
    refine lv_goto (tgt := 27) hx hb dL_build_12 (by decide) ?_
    refine lv_iconst (v := 0) hx hb dL_build_27 (by decide) ?_
    refine vx_ret (W.widen (k := 1) (n := 6) (Nat.le_of_ble_eq_true rfl) (Nat.le_of_ble_eq_true rfl) ?_)
    exact eL0 z0c hx hb hr hlocks dL_build_28 hS hP (xe0 hn9 (kBD_b _ _ _ _ _)) rfl rfl

set_option maxHeartbeats 4000000 in
set_option maxRecDepth 100000 in
theorem c_L_addMule (l : Launch) (D : GG) (om : Nat) (Ad : Nat → Nat) (ot : Nat) (ou : Nat) (Aw : Nat → Nat) (Am : Nat → Nat) (Ae : Nat → Nat) (xt : Nat) (hou : Int32) (cro : Int32) (Lw : Nat → Nat → Int32) (nm : Nat) (Lm : Nat → Nat → Int32) (ne : Nat) (Le : Nat → Nat → Int32) (yt : Nat) (Nt : Nat → Int32) (nsd : Nat) (fogd : Int32) (nrd : Nat) (Ld : Nat → Nat → Int32) (oq : Nat) (fq : Nat → Int64) (p1 : Int32) (p2 : Int32) (p3 : Int32) (sz : Nat) (hns : nsd < 2 ^ 31) (hnr : nrd < 2 ^ 31) (h12 : nm ≤ 12) (hl9 : l.stackTraces = false) : Met l yL_addMule wsL_addMule ({ frames := 7, cells := 1, slots := 6, locals := 162 } : Room) (va_Pc [.ref om, .int p1, .int p2, .int p3, .ref oq] (wdL D ((wMob om Ad ot ou) ++ ((wTob ot Ad Aw Am Ae xt hou cro) ++ ((wWays D Aw Lw) ++ ((wMul D Am nm Lm) ++ ((wLet D Ae ne Le) ++ ((wRow D xt yt 60 Nt) ++ ((wLand D Ad nsd fogd nrd Ld) ++ (wLar D oq fq)))))))) sz)) (QL D (kAM nrd nm p1 p2) ((wMob om Ad ot ou) ++ ((wTob ot Ad Aw Am Ae xt hou cro) ++ ((wWays D Aw Lw) ++ ((wMul D Am nm Lm) ++ ((wLet D Ae ne Le) ++ ((wRow D xt yt 60 Nt) ++ ((wLand D Ad nsd fogd nrd Ld) ++ (wLar D oq fq)))))))) (fun z => ((wMob om Ad ot ou) ++ ((wTob ot Ad Aw Am Ae xt hou cro) ++ ((wWays D Aw (fwC Lw Ld (pmC Lm nm p1 p2 (if p3 = 0 then rg 15 (Ld 2) p1 else rg 15 (Ld 3) p1)) nsd nrd (nm + 1) p1)) ++ ((wMul D Am (nm + 1) (pmC Lm nm p1 p2 (if p3 = 0 then rg 15 (Ld 2) p1 else rg 15 (Ld 3) p1))) ++ ((wLet D Ae ne Le) ++ ((wRow D xt yt 60 Nt) ++ ((wLand D Ad nsd fogd nrd Ld) ++ (wLar D oq (vp_updL fq 0 (nI nm).toInt64)))))))))) (ownZ ((wMob om Ad ot ou) ++ ((wTob ot Ad Aw Am Ae xt hou cro) ++ ((wWays D Aw Lw) ++ ((wMul D Am nm Lm) ++ ((wLet D Ae ne Le) ++ ((wRow D xt yt 60 Nt) ++ ((wLand D Ad nsd fogd nrd Ld) ++ (wLar D oq fq)))))))) sz)) 1 6 (ownZ ((wMob om Ad ot ou) ++ ((wTob ot Ad Aw Am Ae xt hou cro) ++ ((wWays D Aw Lw) ++ ((wMul D Am nm Lm) ++ ((wLet D Ae ne Le) ++ ((wRow D xt yt 60 Nt) ++ ((wLand D Ad nsd fogd nrd Ld) ++ (wLar D oq fq)))))))) sz) := by
  refine metOf (vx_ofWH (cc := cL_addMule) (maxL := 6) (ret := (some .int)) (hh := [(0, 12, 15, 21), (0, 12, 19, 13), (0, 12, 23, 15)]) (by decide) rfl ?_)
  intro p e s m args below meth c s₁ B hml hv
  obtain ⟨rfl, hCX, hSX, hTX, hZX, hNX, hsz, hP, hK, hD, hN⟩ := hv
  have hx := B.exec
  have hb := B.bytes
  have hr := B.returns
  have hts := atoms_spec (ws := wsL_addMule) B.pre
  have hown : s.vm.findClass RL = some m.cls := findClass_of_methodNamed B.named
  have hlocks := B.notSynchronized
  have htab := vx_table (x := yL_addMule) B (hts (.codeWith yL_addMule cL_addMule 6 (some .int) [(0, 12, 15, 21), (0, 12, 19, 13), (0, 12, 23, 15)]) (List.mem_of_getElem? (i := 0) rfl))
  subst hsz
  have hS : va_S (ownZ ((wMob om Ad ot ou) ++ ((wTob ot Ad Aw Am Ae xt hou cro) ++ ((wWays D Aw Lw) ++ ((wMul D Am nm Lm) ++ ((wLet D Ae ne Le) ++ ((wRow D xt yt 60 Nt) ++ ((wLand D Ad nsd fogd nrd Ld) ++ (wLar D oq fq)))))))) s.heap.size) s.heap s.heap [] := va_S.rf
  have hD : va_D (ownZ ((wMob om Ad ot ou) ++ ((wTob ot Ad Aw Am Ae xt hou cro) ++ ((wWays D Aw Lw) ++ ((wMul D Am nm Lm) ++ ((wLet D Ae ne Le) ++ ((wRow D xt yt 60 Nt) ++ ((wLand D Ad nsd fogd nrd Ld) ++ (wLar D oq fq)))))))) s.heap.size) ((wMob om Ad ot ou) ++ ((wTob ot Ad Aw Am Ae xt hou cro) ++ ((wWays D Aw Lw) ++ ((wMul D Am nm Lm) ++ ((wLet D Ae ne Le) ++ ((wRow D xt yt 60 Nt) ++ ((wLand D Ad nsd fogd nrd Ld) ++ (wLar D oq fq)))))))) := toOwnZ hD
  have hA : ∀ q : Nat, s.heap.size ≤ q → ownZ ((wMob om Ad ot ou) ++ ((wTob ot Ad Aw Am Ae xt hou cro) ++ ((wWays D Aw Lw) ++ ((wMul D Am nm Lm) ++ ((wLet D Ae ne Le) ++ ((wRow D xt yt 60 Nt) ++ ((wLand D Ad nsd fogd nrd Ld) ++ (wLar D oq fq)))))))) s.heap.size q := fun _ h => Or.inr h
  generalize hAe : ownZ ((wMob om Ad ot ou) ++ ((wTob ot Ad Aw Am Ae xt hou cro) ++ ((wWays D Aw Lw) ++ ((wMul D Am nm Lm) ++ ((wLet D Ae ne Le) ++ ((wRow D xt yt 60 Nt) ++ ((wLand D Ad nsd fogd nrd Ld) ++ (wLar D oq fq)))))))) s.heap.size = A0 at hD hS hA hZX ⊢
  have hl := lv_entry ([.ref om, .int p1, .int p2, .int p3, .ref oq]) (n := 6) (Nat.le_of_ble_eq_true rfl)
  rw [lg_entry_eq]
  generalize (lg_sl ([.ref om, .int p1, .int p2, .int p3, .ref oq]) ++ List.replicate (6 - (lg_sl ([.ref om, .int p1, .int p2, .int p3, .ref oq])).length) Slot.unset).toArray = ls at hl ⊢
  have hl : lv_has ls 6 [(0, .ref om), (1, .int p1), (2, .int p2), (3, .int p3), (4, .ref oq)] := hl
  refine lv_aload hx hb dL_addMule_0 (lv_at hl 4 rfl) ?_
  refine lv_iconst (v := 0) hx hb dL_addMule_2 (by decide) ?_
  refine lv_aload_n hx hb dL_addMule_3 rfl (lv_at hl 0 rfl) ?_
  refine lv_iload_n hx hb dL_addMule_4 rfl (lv_at hl 1 rfl) ?_
  refine lv_iload_n hx hb dL_addMule_5 rfl (lv_at hl 2 rfl) ?_
  refine lv_iload_n hx hb dL_addMule_6 rfl (lv_at hl 3 rfl) ?_
  refine kEw ⟨hx, hb, hml, hown, hts⟩ (c_X6_addMule l D om Ad ot ou Aw Am Ae xt hou cro Lw nm Lm ne Le yt Nt nsd fogd nrd Ld p1 p2 p3 _ (by assumption) (by assumption) (by assumption) hl9) (cwV 3 hts gL_addMule_X6_addMule rfl rfl rfl (by decide +kernel) ⟨Nat.le_of_ble_eq_true rfl, Nat.le_of_ble_eq_true rfl⟩) hSX hTX hZX hNX hK hN hP hD hS hA (Fr.app (Fr.kp Sb.self) (Fr.app (Fr.kp Sb.self) (Fr.app frsWays (Fr.app frsMul (Fr.app (Fr.kp Sb.self) (Fr.app (Fr.kp Sb.self) (Fr.l (Fr.kp Sb.self)))))))) (Sb.app Sb.self (Sb.app Sb.self (Sb.app Sb.self (Sb.app Sb.self (Sb.app Sb.self (Sb.app Sb.self (Sb.l Sb.self))))))) 6 0 rfl rfl rfl hl.1 (Nat.le_of_ble_eq_true rfl) ⟨Nat.le_of_ble_eq_true rfl, Nat.le_of_ble_eq_true rfl⟩ dL_addMule_7 (fun E ce q9 H locs he hP hD hS hce hcv hcl => ?_) (fun H locs hn9 hP hD hS => ?_) rfl
  · rcases xe3 he with ⟨hk9, rfl⟩ | ⟨hk9, rfl⟩ | ⟨hk9, rfl⟩
    · refine vx_catch (own := RL) (name := "java/lang/IndexOutOfBoundsException") hown [] ⟨0, 12, 15, 21⟩ [⟨0, 12, 19, 13⟩, ⟨0, 12, 23, 15⟩] htab (fun z9 h9 => nomatch h9) (by decide) (by decide) (hts (.classLink RL 21 "java/lang/IndexOutOfBoundsException") (List.mem_of_getElem? (i := 1) rfl)) (va_Nw.use rfl hCX.1.1) hce hcv hcl ?_
      refine lv_astore (lv' := [(5, .ref q9), (0, .ref om), (1, .int p1), (2, .int p2), (3, .int p3), (4, .ref oq)]) hx hb dL_addMule_15 hl (by decide) rfl (fun ls hl => ?_)
      refine lv_iconst (v := 1) hx hb dL_addMule_17 (by decide) ?_
      refine vx_ret (W.widen (k := 1) (n := 6) (Nat.le_of_ble_eq_true rfl) (Nat.le_of_ble_eq_true rfl) ?_)
      exact eLk hx hb hr hlocks dL_addMule_18 hS hP hk9 (by decide) rfl
    · refine vx_catch (own := RL) (name := "java/lang/IllegalArgumentException") hown [⟨0, 12, 15, 21⟩] ⟨0, 12, 19, 13⟩ [⟨0, 12, 23, 15⟩] htab (fun z9 h9 => Or.inr (by rw [List.mem_singleton.mp h9]; exact ⟨by decide, "java/lang/IndexOutOfBoundsException", (hts (.classLink RL 21 "java/lang/IndexOutOfBoundsException") (List.mem_of_getElem? (i := 1) rfl)), hCX.2.2.1⟩)) (by decide) (by decide) (hts (.classLink RL 13 "java/lang/IllegalArgumentException") (List.mem_of_getElem? (i := 2) rfl)) (va_Nw.use rfl hCX.1.2.1) hce hcv hcl ?_
      refine lv_astore (lv' := [(5, .ref q9), (0, .ref om), (1, .int p1), (2, .int p2), (3, .int p3), (4, .ref oq)]) hx hb dL_addMule_19 hl (by decide) rfl (fun ls hl => ?_)
      refine lv_iconst (v := 2) hx hb dL_addMule_21 (by decide) ?_
      refine vx_ret (W.widen (k := 1) (n := 6) (Nat.le_of_ble_eq_true rfl) (Nat.le_of_ble_eq_true rfl) ?_)
      exact eLk hx hb hr hlocks dL_addMule_22 hS hP hk9 (by decide) rfl
    · refine vx_catch (own := RL) (name := "java/lang/IllegalStateException") hown [⟨0, 12, 15, 21⟩, ⟨0, 12, 19, 13⟩] ⟨0, 12, 23, 15⟩ [] htab (fun z9 h9 => Or.inr ((List.mem_cons.mp h9).elim (fun e9 => by rw [e9]; exact ⟨by decide, "java/lang/IndexOutOfBoundsException", (hts (.classLink RL 21 "java/lang/IndexOutOfBoundsException") (List.mem_of_getElem? (i := 1) rfl)), hCX.2.2.2⟩) (fun h9 => by rw [List.mem_singleton.mp h9]; exact ⟨by decide, "java/lang/IllegalArgumentException", (hts (.classLink RL 13 "java/lang/IllegalArgumentException") (List.mem_of_getElem? (i := 2) rfl)), hCX.2.1⟩))) (by decide) (by decide) (hts (.classLink RL 15 "java/lang/IllegalStateException") (List.mem_of_getElem? (i := 3) rfl)) (va_Nw.use rfl hCX.1.2.2) hce hcv hcl ?_
      refine lv_astore (lv' := [(5, .ref q9), (0, .ref om), (1, .int p1), (2, .int p2), (3, .int p3), (4, .ref oq)]) hx hb dL_addMule_23 hl (by decide) rfl (fun ls hl => ?_)
      refine lv_iconst (v := 3) hx hb dL_addMule_25 (by decide) ?_
      refine vx_ret (W.widen (k := 1) (n := 6) (Nat.le_of_ble_eq_true rfl) (Nat.le_of_ble_eq_true rfl) ?_)
      exact eLk hx hb hr hlocks dL_addMule_26 hS hP hk9 (by decide) rfl
  · have hP : va_P D.1 vwCl ((wMob om Ad ot ou) ++ ((wTob ot Ad Aw Am Ae xt hou cro) ++ ((wWays D Aw (fwC Lw Ld (pmC Lm nm p1 p2 (if p3 = 0 then rg 15 (Ld 2) p1 else rg 15 (Ld 3) p1)) nsd nrd (nm + 1) p1)) ++ ((wMul D Am (nm + 1) (pmC Lm nm p1 p2 (if p3 = 0 then rg 15 (Ld 2) p1 else rg 15 (Ld 3) p1))) ++ ((wLet D Ae ne Le) ++ ((wRow D xt yt 60 Nt) ++ ((wLand D Ad nsd fogd nrd Ld) ++ (wLar D oq fq)))))))) H := hP
    have hD : va_D A0 ((wMob om Ad ot ou) ++ ((wTob ot Ad Aw Am Ae xt hou cro) ++ ((wWays D Aw (fwC Lw Ld (pmC Lm nm p1 p2 (if p3 = 0 then rg 15 (Ld 2) p1 else rg 15 (Ld 3) p1)) nsd nrd (nm + 1) p1)) ++ ((wMul D Am (nm + 1) (pmC Lm nm p1 p2 (if p3 = 0 then rg 15 (Ld 2) p1 else rg 15 (Ld 3) p1))) ++ ((wLet D Ae ne Le) ++ ((wRow D xt yt 60 Nt) ++ ((wLand D Ad nsd fogd nrd Ld) ++ (wLar D oq fq)))))))) := hD
    refine W.eq (g2 := F0 m 10 ls [.int (nI nm), .int 0, .ref oq]) rfl ?_
    refine lv_i2l hx hb dL_addMule_10 rfl ?_
    refine va_last (D := D.1) hx hb hK hP hD hS 54 1 rfl rfl (i := (0 : Int32)) (vpl (by decide)) dL_addMule_11 (fun H locs hP hD hS => ?_)
    have hP : va_P D.1 vwCl ((wMob om Ad ot ou) ++ ((wTob ot Ad Aw Am Ae xt hou cro) ++ ((wWays D Aw (fwC Lw Ld (pmC Lm nm p1 p2 (if p3 = 0 then rg 15 (Ld 2) p1 else rg 15 (Ld 3) p1)) nsd nrd (nm + 1) p1)) ++ ((wMul D Am (nm + 1) (pmC Lm nm p1 p2 (if p3 = 0 then rg 15 (Ld 2) p1 else rg 15 (Ld 3) p1))) ++ ((wLet D Ae ne Le) ++ ((wRow D xt yt 60 Nt) ++ ((wLand D Ad nsd fogd nrd Ld) ++ (wLar D oq (vp_updL fq 0 ((nI nm).toInt64)))))))))) H := hP
    have hD : va_D A0 ((wMob om Ad ot ou) ++ ((wTob ot Ad Aw Am Ae xt hou cro) ++ ((wWays D Aw (fwC Lw Ld (pmC Lm nm p1 p2 (if p3 = 0 then rg 15 (Ld 2) p1 else rg 15 (Ld 3) p1)) nsd nrd (nm + 1) p1)) ++ ((wMul D Am (nm + 1) (pmC Lm nm p1 p2 (if p3 = 0 then rg 15 (Ld 2) p1 else rg 15 (Ld 3) p1))) ++ ((wLet D Ae ne Le) ++ ((wRow D xt yt 60 Nt) ++ ((wLand D Ad nsd fogd nrd Ld) ++ (wLar D oq (vp_updL fq 0 ((nI nm).toInt64)))))))))) := hD
    refine lv_goto (tgt := 27) hx hb dL_addMule_12 (by decide) ?_
    refine lv_iconst (v := 0) hx hb dL_addMule_27 (by decide) ?_
    refine vx_ret (W.widen (k := 1) (n := 6) (Nat.le_of_ble_eq_true rfl) (Nat.le_of_ble_eq_true rfl) ?_)
    exact eL0 z0c hx hb hr hlocks dL_addMule_28 hS hP (xe0 hn9 (kAM_b _ _ _ _)) rfl rfl
