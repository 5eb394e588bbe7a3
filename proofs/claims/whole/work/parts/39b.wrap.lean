set_option maxHeartbeats 4000000 in
set_option maxRecDepth 100000 in
theorem c_L_station (l : Launch) (D : GG) (om : Nat) (Ad : Nat → Nat) (ot : Nat) (ou : Nat) (Aw : Nat → Nat) (Am : Nat → Nat) (Ae : Nat → Nat) (xt : Nat) (hou : Int32) (cro : Int32) (Lw : Nat → Nat → Int32) (nm : Nat) (Lm : Nat → Nat → Int32) (ne : Nat) (Le : Nat → Nat → Int32) (yt : Nat) (Nt : Nat → Int32) (nsd : Nat) (fogd : Int32) (nrd : Nat) (Ld : Nat → Nat → Int32) (oq : Nat) (fq : Nat → Int64) (p1 : Int32) (p2 : Int32) (sz : Nat) (he : ne < 2 ^ 31) (hm : nm < 2 ^ 31) (hl9 : l.stackTraces = false) : Met l yL_station wsL_station ({ frames := 7, cells := 1, slots := 6, locals := 109 } : Room) (va_Pc [.ref om, .int p1, .int p2, .ref oq] (wdL D ((wMob om Ad ot ou) ++ ((wTob ot Ad Aw Am Ae xt hou cro) ++ ((wWays D Aw Lw) ++ ((wMul D Am nm Lm) ++ ((wLet D Ae ne Le) ++ ((wRow D xt yt 60 Nt) ++ ((wLand D Ad nsd fogd nrd Ld) ++ (wLar D oq fq)))))))) sz)) (QL D (kTL nsd 4 p1 p2) ((wMob om Ad ot ou) ++ ((wTob ot Ad Aw Am Ae xt hou cro) ++ ((wWays D Aw Lw) ++ ((wMul D Am nm Lm) ++ ((wLet D Ae ne Le) ++ ((wRow D xt yt 60 Nt) ++ ((wLand D Ad nsd fogd nrd Ld) ++ (wLar D oq fq)))))))) (fun z => ((wMob om Ad ot ou) ++ ((wTob ot Ad Aw Am Ae xt hou cro) ++ ((wWays D Aw Lw) ++ ((wMul D Am nm Lm) ++ ((wLet D Ae ne Le) ++ ((wRow D xt yt 60 Nt) ++ ((wLand D Ad nsd fogd nrd Ld) ++ (wLar D oq (vp_updL fq 0 (tsC Ld Lm Le fogd nm ne p1 p2).toInt64)))))))))) (ownZ ((wMob om Ad ot ou) ++ ((wTob ot Ad Aw Am Ae xt hou cro) ++ ((wWays D Aw Lw) ++ ((wMul D Am nm Lm) ++ ((wLet D Ae ne Le) ++ ((wRow D xt yt 60 Nt) ++ ((wLand D Ad nsd fogd nrd Ld) ++ (wLar D oq fq)))))))) sz)) 1 6 (ownZ ((wMob om Ad ot ou) ++ ((wTob ot Ad Aw Am Ae xt hou cro) ++ ((wWays D Aw Lw) ++ ((wMul D Am nm Lm) ++ ((wLet D Ae ne Le) ++ ((wRow D xt yt 60 Nt) ++ ((wLand D Ad nsd fogd nrd Ld) ++ (wLar D oq fq)))))))) sz) := by
  refine metOf (vx_ofWH (cc := cL_station) (maxL := 5) (ret := (some .int)) (hh := [(0, 10, 13, 21)]) (by decide) rfl ?_)
  intro p e s m args below meth c s₁ B hml hv
  obtain ⟨rfl, hCX, hSX, hTX, hZX, hNX, hsz, hP, hK, hD, hN⟩ := hv
  have hx := B.exec
  have hb := B.bytes
  have hr := B.returns
  have hts := atoms_spec (ws := wsL_station) B.pre
  have hown : s.vm.findClass RL = some m.cls := findClass_of_methodNamed B.named
  have hlocks := B.notSynchronized
  have htab := vx_table (x := yL_station) B (hts (.codeWith yL_station cL_station 5 (some .int) [(0, 10, 13, 21)]) (List.mem_of_getElem? (i := 0) rfl))
  subst hsz
  have hS : va_S (ownZ ((wMob om Ad ot ou) ++ ((wTob ot Ad Aw Am Ae xt hou cro) ++ ((wWays D Aw Lw) ++ ((wMul D Am nm Lm) ++ ((wLet D Ae ne Le) ++ ((wRow D xt yt 60 Nt) ++ ((wLand D Ad nsd fogd nrd Ld) ++ (wLar D oq fq)))))))) s.heap.size) s.heap s.heap [] := va_S.rf
  have hD : va_D (ownZ ((wMob om Ad ot ou) ++ ((wTob ot Ad Aw Am Ae xt hou cro) ++ ((wWays D Aw Lw) ++ ((wMul D Am nm Lm) ++ ((wLet D Ae ne Le) ++ ((wRow D xt yt 60 Nt) ++ ((wLand D Ad nsd fogd nrd Ld) ++ (wLar D oq fq)))))))) s.heap.size) ((wMob om Ad ot ou) ++ ((wTob ot Ad Aw Am Ae xt hou cro) ++ ((wWays D Aw Lw) ++ ((wMul D Am nm Lm) ++ ((wLet D Ae ne Le) ++ ((wRow D xt yt 60 Nt) ++ ((wLand D Ad nsd fogd nrd Ld) ++ (wLar D oq fq)))))))) := toOwnZ hD
  have hA : ∀ q : Nat, s.heap.size ≤ q → ownZ ((wMob om Ad ot ou) ++ ((wTob ot Ad Aw Am Ae xt hou cro) ++ ((wWays D Aw Lw) ++ ((wMul D Am nm Lm) ++ ((wLet D Ae ne Le) ++ ((wRow D xt yt 60 Nt) ++ ((wLand D Ad nsd fogd nrd Ld) ++ (wLar D oq fq)))))))) s.heap.size q := fun _ h => Or.inr h
  generalize hAe : ownZ ((wMob om Ad ot ou) ++ ((wTob ot Ad Aw Am Ae xt hou cro) ++ ((wWays D Aw Lw) ++ ((wMul D Am nm Lm) ++ ((wLet D Ae ne Le) ++ ((wRow D xt yt 60 Nt) ++ ((wLand D Ad nsd fogd nrd Ld) ++ (wLar D oq fq)))))))) s.heap.size = A0 at hD hS hA hZX ⊢
  have hl := lv_entry ([.ref om, .int p1, .int p2, .ref oq]) (n := 5) (Nat.le_of_ble_eq_true rfl)
  rw [lg_entry_eq]
  generalize (lg_sl ([.ref om, .int p1, .int p2, .ref oq]) ++ List.replicate (5 - (lg_sl ([.ref om, .int p1, .int p2, .ref oq])).length) Slot.unset).toArray = ls at hl ⊢
  have hl : lv_has ls 5 [(0, .ref om), (1, .int p1), (2, .int p2), (3, .ref oq)] := hl
  refine lv_aload_n hx hb dL_station_0 rfl (lv_at hl 3 rfl) ?_
  refine lv_iconst (v := 0) hx hb dL_station_1 (by decide) ?_
  refine lv_aload_n hx hb dL_station_2 rfl (lv_at hl 0 rfl) ?_
  refine lv_iload_n hx hb dL_station_3 rfl (lv_at hl 1 rfl) ?_
  refine lv_iload_n hx hb dL_station_4 rfl (lv_at hl 2 rfl) ?_
  refine kEw ⟨hx, hb, hml, hown, hts⟩ (c_X6_station l D om Ad ot ou Aw Am Ae xt hou cro Lw nm Lm ne Le yt Nt nsd fogd nrd Ld p1 p2 _ (by assumption) (by assumption) hl9) (cwV 2 hts gL_station_X6_station rfl rfl rfl (by decide +kernel) ⟨Nat.le_of_ble_eq_true rfl, Nat.le_of_ble_eq_true rfl⟩) hSX hTX hZX hNX hK hN hP hD hS hA (Fr.kp (Sb.app Sb.self (Sb.app Sb.self (Sb.app Sb.self (Sb.app Sb.self (Sb.app Sb.self (Sb.app Sb.self (Sb.l Sb.self)))))))) (Sb.app Sb.self (Sb.app Sb.self (Sb.app Sb.self (Sb.app Sb.self (Sb.app Sb.self (Sb.app Sb.self (Sb.l Sb.self))))))) 6 0 rfl rfl rfl hl.1 (Nat.le_of_ble_eq_true rfl) ⟨Nat.le_of_ble_eq_true rfl, Nat.le_of_ble_eq_true rfl⟩ dL_station_5 (fun E ce q9 H locs he hP hD hS hce hcv hcl => ?_) (fun H locs hn9 hP hD hS => ?_) rfl
  · rcases xe1 he with ⟨hk9, rfl⟩
    · refine vx_catch (own := RL) (name := "java/lang/IndexOutOfBoundsException") hown [] ⟨0, 10, 13, 21⟩ [] htab (fun z9 h9 => nomatch h9) (by decide) (by decide) (hts (.classLink RL 21 "java/lang/IndexOutOfBoundsException") (List.mem_of_getElem? (i := 1) rfl)) (va_Nw.use rfl hCX.1.1) hce hcv hcl ?_
      refine lv_astore (lv' := [(4, .ref q9), (0, .ref om), (1, .int p1), (2, .int p2), (3, .ref oq)]) hx hb dL_station_13 hl (by decide) rfl (fun ls hl => ?_)
      refine lv_iconst (v := 1) hx hb dL_station_15 (by decide) ?_
      refine vx_ret (W.widen (k := 1) (n := 6) (Nat.le_of_ble_eq_true rfl) (Nat.le_of_ble_eq_true rfl) ?_)
      exact eLk hx hb hr hlocks dL_station_16 hS hP hk9 (by decide) rfl
  · have hP : va_P D.1 vwCl ((wMob om Ad ot ou) ++ ((wTob ot Ad Aw Am Ae xt hou cro) ++ ((wWays D Aw Lw) ++ ((wMul D Am nm Lm) ++ ((wLet D Ae ne Le) ++ ((wRow D xt yt 60 Nt) ++ ((wLand D Ad nsd fogd nrd Ld) ++ (wLar D oq fq)))))))) H := hP
    have hD : va_D A0 ((wMob om Ad ot ou) ++ ((wTob ot Ad Aw Am Ae xt hou cro) ++ ((wWays D Aw Lw) ++ ((wMul D Am nm Lm) ++ ((wLet D Ae ne Le) ++ ((wRow D xt yt 60 Nt) ++ ((wLand D Ad nsd fogd nrd Ld) ++ (wLar D oq fq)))))))) := hD
    refine W.eq (g2 := F0 m 8 ls [.int (tsC Ld Lm Le fogd nm ne p1 p2), .int 0, .ref oq]) rfl ?_
    refine lv_i2l hx hb dL_station_8 rfl ?_
    refine va_last (D := D.1) hx hb hK hP hD hS 54 1 rfl rfl (i := (0 : Int32)) (vpl (by decide)) dL_station_9 (fun H locs hP hD hS => ?_)
    have hP : va_P D.1 vwCl ((wMob om Ad ot ou) ++ ((wTob ot Ad Aw Am Ae xt hou cro) ++ ((wWays D Aw Lw) ++ ((wMul D Am nm Lm) ++ ((wLet D Ae ne Le) ++ ((wRow D xt yt 60 Nt) ++ ((wLand D Ad nsd fogd nrd Ld) ++ (wLar D oq (vp_updL fq 0 ((tsC Ld Lm Le fogd nm ne p1 p2).toInt64)))))))))) H := hP
    have hD : va_D A0 ((wMob om Ad ot ou) ++ ((wTob ot Ad Aw Am Ae xt hou cro) ++ ((wWays D Aw Lw) ++ ((wMul D Am nm Lm) ++ ((wLet D Ae ne Le) ++ ((wRow D xt yt 60 Nt) ++ ((wLand D Ad nsd fogd nrd Ld) ++ (wLar D oq (vp_updL fq 0 ((tsC Ld Lm Le fogd nm ne p1 p2).toInt64)))))))))) := hD
    refine lv_goto (tgt := 17) hx hb dL_station_10 (by decide) ?_
    refine lv_iconst (v := 0) hx hb dL_station_17 (by decide) ?_
    refine vx_ret (W.widen (k := 1) (n := 6) (Nat.le_of_ble_eq_true rfl) (Nat.le_of_ble_eq_true rfl) ?_)
    exact eL0 z0c hx hb hr hlocks dL_station_18 hS hP (xe0 hn9 (kTL_b _ _ _ _)) rfl rfl

set_option maxHeartbeats 4000000 in
set_option maxRecDepth 100000 in
theorem c_L_road (l : Launch) (D : GG) (om : Nat) (Ad : Nat → Nat) (ot : Nat) (ou : Nat) (Aw : Nat → Nat) (Am : Nat → Nat) (Ae : Nat → Nat) (xt : Nat) (hou : Int32) (cro : Int32) (Lw : Nat → Nat → Int32) (nm : Nat) (Lm : Nat → Nat → Int32) (ne : Nat) (Le : Nat → Nat → Int32) (yt : Nat) (Nt : Nat → Int32) (nsd : Nat) (fogd : Int32) (nrd : Nat) (Ld : Nat → Nat → Int32) (oq : Nat) (fq : Nat → Int64) (p1 : Int32) (p2 : Int32) (sz : Nat) (hm : nm < 2 ^ 31) (hl9 : l.stackTraces = false) : Met l yL_road wsL_road ({ frames := 7, cells := 1, slots := 6, locals := 111 } : Room) (va_Pc [.ref om, .int p1, .int p2, .ref oq] (wdL D ((wMob om Ad ot ou) ++ ((wTob ot Ad Aw Am Ae xt hou cro) ++ ((wWays D Aw Lw) ++ ((wMul D Am nm Lm) ++ ((wLet D Ae ne Le) ++ ((wRow D xt yt 60 Nt) ++ ((wLand D Ad nsd fogd nrd Ld) ++ (wLar D oq fq)))))))) sz)) (QL D (kTL nrd 5 p1 p2) ((wMob om Ad ot ou) ++ ((wTob ot Ad Aw Am Ae xt hou cro) ++ ((wWays D Aw Lw) ++ ((wMul D Am nm Lm) ++ ((wLet D Ae ne Le) ++ ((wRow D xt yt 60 Nt) ++ ((wLand D Ad nsd fogd nrd Ld) ++ (wLar D oq fq)))))))) (fun z => ((wMob om Ad ot ou) ++ ((wTob ot Ad Aw Am Ae xt hou cro) ++ ((wWays D Aw Lw) ++ ((wMul D Am nm Lm) ++ ((wLet D Ae ne Le) ++ ((wRow D xt yt 60 Nt) ++ ((wLand D Ad nsd fogd nrd Ld) ++ (wLar D oq (vp_updL fq 0 (trC Ld Lm nm p1 p2).toInt64)))))))))) (ownZ ((wMob om Ad ot ou) ++ ((wTob ot Ad Aw Am Ae xt hou cro) ++ ((wWays D Aw Lw) ++ ((wMul D Am nm Lm) ++ ((wLet D Ae ne Le) ++ ((wRow D xt yt 60 Nt) ++ ((wLand D Ad nsd fogd nrd Ld) ++ (wLar D oq fq)))))))) sz)) 1 6 (ownZ ((wMob om Ad ot ou) ++ ((wTob ot Ad Aw Am Ae xt hou cro) ++ ((wWays D Aw Lw) ++ ((wMul D Am nm Lm) ++ ((wLet D Ae ne Le) ++ ((wRow D xt yt 60 Nt) ++ ((wLand D Ad nsd fogd nrd Ld) ++ (wLar D oq fq)))))))) sz) := by
  refine metOf (vx_ofWH (cc := cL_road) (maxL := 5) (ret := (some .int)) (hh := [(0, 10, 13, 21)]) (by decide) rfl ?_)
  intro p e s m args below meth c s₁ B hml hv
  obtain ⟨rfl, hCX, hSX, hTX, hZX, hNX, hsz, hP, hK, hD, hN⟩ := hv
  have hx := B.exec
  have hb := B.bytes
  have hr := B.returns
  have hts := atoms_spec (ws := wsL_road) B.pre
  have hown : s.vm.findClass RL = some m.cls := findClass_of_methodNamed B.named
  have hlocks := B.notSynchronized
  have htab := vx_table (x := yL_road) B (hts (.codeWith yL_road cL_road 5 (some .int) [(0, 10, 13, 21)]) (List.mem_of_getElem? (i := 0) rfl))
  subst hsz
  have hS : va_S (ownZ ((wMob om Ad ot ou) ++ ((wTob ot Ad Aw Am Ae xt hou cro) ++ ((wWays D Aw Lw) ++ ((wMul D Am nm Lm) ++ ((wLet D Ae ne Le) ++ ((wRow D xt yt 60 Nt) ++ ((wLand D Ad nsd fogd nrd Ld) ++ (wLar D oq fq)))))))) s.heap.size) s.heap s.heap [] := va_S.rf
  have hD : va_D (ownZ ((wMob om Ad ot ou) ++ ((wTob ot Ad Aw Am Ae xt hou cro) ++ ((wWays D Aw Lw) ++ ((wMul D Am nm Lm) ++ ((wLet D Ae ne Le) ++ ((wRow D xt yt 60 Nt) ++ ((wLand D Ad nsd fogd nrd Ld) ++ (wLar D oq fq)))))))) s.heap.size) ((wMob om Ad ot ou) ++ ((wTob ot Ad Aw Am Ae xt hou cro) ++ ((wWays D Aw Lw) ++ ((wMul D Am nm Lm) ++ ((wLet D Ae ne Le) ++ ((wRow D xt yt 60 Nt) ++ ((wLand D Ad nsd fogd nrd Ld) ++ (wLar D oq fq)))))))) := toOwnZ hD
  have hA : ∀ q : Nat, s.heap.size ≤ q → ownZ ((wMob om Ad ot ou) ++ ((wTob ot Ad Aw Am Ae xt hou cro) ++ ((wWays D Aw Lw) ++ ((wMul D Am nm Lm) ++ ((wLet D Ae ne Le) ++ ((wRow D xt yt 60 Nt) ++ ((wLand D Ad nsd fogd nrd Ld) ++ (wLar D oq fq)))))))) s.heap.size q := fun _ h => Or.inr h
  generalize hAe : ownZ ((wMob om Ad ot ou) ++ ((wTob ot Ad Aw Am Ae xt hou cro) ++ ((wWays D Aw Lw) ++ ((wMul D Am nm Lm) ++ ((wLet D Ae ne Le) ++ ((wRow D xt yt 60 Nt) ++ ((wLand D Ad nsd fogd nrd Ld) ++ (wLar D oq fq)))))))) s.heap.size = A0 at hD hS hA hZX ⊢
  have hl := lv_entry ([.ref om, .int p1, .int p2, .ref oq]) (n := 5) (Nat.le_of_ble_eq_true rfl)
  rw [lg_entry_eq]
  generalize (lg_sl ([.ref om, .int p1, .int p2, .ref oq]) ++ List.replicate (5 - (lg_sl ([.ref om, .int p1, .int p2, .ref oq])).length) Slot.unset).toArray = ls at hl ⊢
  have hl : lv_has ls 5 [(0, .ref om), (1, .int p1), (2, .int p2), (3, .ref oq)] := hl
  refine lv_aload_n hx hb dL_road_0 rfl (lv_at hl 3 rfl) ?_
  refine lv_iconst (v := 0) hx hb dL_road_1 (by decide) ?_
  refine lv_aload_n hx hb dL_road_2 rfl (lv_at hl 0 rfl) ?_
  refine lv_iload_n hx hb dL_road_3 rfl (lv_at hl 1 rfl) ?_
  refine lv_iload_n hx hb dL_road_4 rfl (lv_at hl 2 rfl) ?_
  refine kEw ⟨hx, hb, hml, hown, hts⟩ (c_X6_road l D om Ad ot ou Aw Am Ae xt hou cro Lw nm Lm ne Le yt Nt nsd fogd nrd Ld p1 p2 _ (by assumption) hl9) (cwV 2 hts gL_road_X6_road rfl rfl rfl (by decide +kernel) ⟨Nat.le_of_ble_eq_true rfl, Nat.le_of_ble_eq_true rfl⟩) hSX hTX hZX hNX hK hN hP hD hS hA (Fr.kp (Sb.app Sb.self (Sb.app Sb.self (Sb.app Sb.self (Sb.app Sb.self (Sb.app Sb.self (Sb.app Sb.self (Sb.l Sb.self)))))))) (Sb.app Sb.self (Sb.app Sb.self (Sb.app Sb.self (Sb.app Sb.self (Sb.app Sb.self (Sb.app Sb.self (Sb.l Sb.self))))))) 6 0 rfl rfl rfl hl.1 (Nat.le_of_ble_eq_true rfl) ⟨Nat.le_of_ble_eq_true rfl, Nat.le_of_ble_eq_true rfl⟩ dL_road_5 (fun E ce q9 H locs he hP hD hS hce hcv hcl => ?_) (fun H locs hn9 hP hD hS => ?_) rfl
  · rcases xe1 he with ⟨hk9, rfl⟩
    · refine vx_catch (own := RL) (name := "java/lang/IndexOutOfBoundsException") hown [] ⟨0, 10, 13, 21⟩ [] htab (fun z9 h9 => nomatch h9) (by decide) (by decide) (hts (.classLink RL 21 "java/lang/IndexOutOfBoundsException") (List.mem_of_getElem? (i := 1) rfl)) (va_Nw.use rfl hCX.1.1) hce hcv hcl ?_
      refine lv_astore (lv' := [(4, .ref q9), (0, .ref om), (1, .int p1), (2, .int p2), (3, .ref oq)]) hx hb dL_road_13 hl (by decide) rfl (fun ls hl => ?_)
      refine lv_iconst (v := 1) hx hb dL_road_15 (by decide) ?_
      refine vx_ret (W.widen (k := 1) (n := 6) (Nat.le_of_ble_eq_true rfl) (Nat.le_of_ble_eq_true rfl) ?_)
      exact eLk hx hb hr hlocks dL_road_16 hS hP hk9 (by decide) rfl
  · have hP : va_P D.1 vwCl ((wMob om Ad ot ou) ++ ((wTob ot Ad Aw Am Ae xt hou cro) ++ ((wWays D Aw Lw) ++ ((wMul D Am nm Lm) ++ ((wLet D Ae ne Le) ++ ((wRow D xt yt 60 Nt) ++ ((wLand D Ad nsd fogd nrd Ld) ++ (wLar D oq fq)))))))) H := hP
    have hD : va_D A0 ((wMob om Ad ot ou) ++ ((wTob ot Ad Aw Am Ae xt hou cro) ++ ((wWays D Aw Lw) ++ ((wMul D Am nm Lm) ++ ((wLet D Ae ne Le) ++ ((wRow D xt yt 60 Nt) ++ ((wLand D Ad nsd fogd nrd Ld) ++ (wLar D oq fq)))))))) := hD
    refine W.eq (g2 := F0 m 8 ls [.int (trC Ld Lm nm p1 p2), .int 0, .ref oq]) rfl ?_
    refine lv_i2l hx hb dL_road_8 rfl ?_
    refine va_last (D := D.1) hx hb hK hP hD hS 54 1 rfl rfl (i := (0 : Int32)) (vpl (by decide)) dL_road_9 (fun H locs hP hD hS => ?_)
    have hP : va_P D.1 vwCl ((wMob om Ad ot ou) ++ ((wTob ot Ad Aw Am Ae xt hou cro) ++ ((wWays D Aw Lw) ++ ((wMul D Am nm Lm) ++ ((wLet D Ae ne Le) ++ ((wRow D xt yt 60 Nt) ++ ((wLand D Ad nsd fogd nrd Ld) ++ (wLar D oq (vp_updL fq 0 ((trC Ld Lm nm p1 p2).toInt64)))))))))) H := hP
    have hD : va_D A0 ((wMob om Ad ot ou) ++ ((wTob ot Ad Aw Am Ae xt hou cro) ++ ((wWays D Aw Lw) ++ ((wMul D Am nm Lm) ++ ((wLet D Ae ne Le) ++ ((wRow D xt yt 60 Nt) ++ ((wLand D Ad nsd fogd nrd Ld) ++ (wLar D oq (vp_updL fq 0 ((trC Ld Lm nm p1 p2).toInt64)))))))))) := hD
    refine lv_goto (tgt := 17) hx hb dL_road_10 (by decide) ?_
    refine lv_iconst (v := 0) hx hb dL_road_17 (by decide) ?_
    refine vx_ret (W.widen (k := 1) (n := 6) (Nat.le_of_ble_eq_true rfl) (Nat.le_of_ble_eq_true rfl) ?_)
    exact eL0 z0c hx hb hr hlocks dL_road_18 hS hP (xe0 hn9 (kTL_b _ _ _ _)) rfl rfl

set_option maxHeartbeats 4000000 in
set_option maxRecDepth 100000 in
theorem c_L_mule (l : Launch) (D : GG) (om : Nat) (Ad : Nat → Nat) (ot : Nat) (ou : Nat) (Aw : Nat → Nat) (Am : Nat → Nat) (Ae : Nat → Nat) (xt : Nat) (hou : Int32) (cro : Int32) (Lw : Nat → Nat → Int32) (nm : Nat) (Lm : Nat → Nat → Int32) (ne : Nat) (Le : Nat → Nat → Int32) (yt : Nat) (Nt : Nat → Int32) (nsd : Nat) (fogd : Int32) (nrd : Nat) (Ld : Nat → Nat → Int32) (oq : Nat) (fq : Nat → Int64) (p1 : Int32) (p2 : Int32) (sz : Nat) (he : ne < 2 ^ 31) (hl9 : l.stackTraces = false) : Met l yL_mule wsL_mule ({ frames := 7, cells := 1, slots := 6, locals := 111 } : Room) (va_Pc [.ref om, .int p1, .int p2, .ref oq] (wdL D ((wMob om Ad ot ou) ++ ((wTob ot Ad Aw Am Ae xt hou cro) ++ ((wWays D Aw Lw) ++ ((wMul D Am nm Lm) ++ ((wLet D Ae ne Le) ++ ((wRow D xt yt 60 Nt) ++ ((wLand D Ad nsd fogd nrd Ld) ++ (wLar D oq fq)))))))) sz)) (QL D (kTL nm 5 p1 p2) ((wMob om Ad ot ou) ++ ((wTob ot Ad Aw Am Ae xt hou cro) ++ ((wWays D Aw Lw) ++ ((wMul D Am nm Lm) ++ ((wLet D Ae ne Le) ++ ((wRow D xt yt 60 Nt) ++ ((wLand D Ad nsd fogd nrd Ld) ++ (wLar D oq fq)))))))) (fun z => ((wMob om Ad ot ou) ++ ((wTob ot Ad Aw Am Ae xt hou cro) ++ ((wWays D Aw Lw) ++ ((wMul D Am nm Lm) ++ ((wLet D Ae ne Le) ++ ((wRow D xt yt 60 Nt) ++ ((wLand D Ad nsd fogd nrd Ld) ++ (wLar D oq (vp_updL fq 0 (tmC Lm Le ne p1 p2).toInt64)))))))))) (ownZ ((wMob om Ad ot ou) ++ ((wTob ot Ad Aw Am Ae xt hou cro) ++ ((wWays D Aw Lw) ++ ((wMul D Am nm Lm) ++ ((wLet D Ae ne Le) ++ ((wRow D xt yt 60 Nt) ++ ((wLand D Ad nsd fogd nrd Ld) ++ (wLar D oq fq)))))))) sz)) 1 6 (ownZ ((wMob om Ad ot ou) ++ ((wTob ot Ad Aw Am Ae xt hou cro) ++ ((wWays D Aw Lw) ++ ((wMul D Am nm Lm) ++ ((wLet D Ae ne Le) ++ ((wRow D xt yt 60 Nt) ++ ((wLand D Ad nsd fogd nrd Ld) ++ (wLar D oq fq)))))))) sz) := by
  refine metOf (vx_ofWH (cc := cL_mule) (maxL := 5) (ret := (some .int)) (hh := [(0, 10, 13, 21)]) (by decide) rfl ?_)
  intro p e s m args below meth c s₁ B hml hv
  obtain ⟨rfl, hCX, hSX, hTX, hZX, hNX, hsz, hP, hK, hD, hN⟩ := hv
  have hx := B.exec
  have hb := B.bytes
  have hr := B.returns
  have hts := atoms_spec (ws := wsL_mule) B.pre
  have hown : s.vm.findClass RL = some m.cls := findClass_of_methodNamed B.named
  have hlocks := B.notSynchronized
  have htab := vx_table (x := yL_mule) B (hts (.codeWith yL_mule cL_mule 5 (some .int) [(0, 10, 13, 21)]) (List.mem_of_getElem? (i := 0) rfl))
  subst hsz
  have hS : va_S (ownZ ((wMob om Ad ot ou) ++ ((wTob ot Ad Aw Am Ae xt hou cro) ++ ((wWays D Aw Lw) ++ ((wMul D Am nm Lm) ++ ((wLet D Ae ne Le) ++ ((wRow D xt yt 60 Nt) ++ ((wLand D Ad nsd fogd nrd Ld) ++ (wLar D oq fq)))))))) s.heap.size) s.heap s.heap [] := va_S.rf
  have hD : va_D (ownZ ((wMob om Ad ot ou) ++ ((wTob ot Ad Aw Am Ae xt hou cro) ++ ((wWays D Aw Lw) ++ ((wMul D Am nm Lm) ++ ((wLet D Ae ne Le) ++ ((wRow D xt yt 60 Nt) ++ ((wLand D Ad nsd fogd nrd Ld) ++ (wLar D oq fq)))))))) s.heap.size) ((wMob om Ad ot ou) ++ ((wTob ot Ad Aw Am Ae xt hou cro) ++ ((wWays D Aw Lw) ++ ((wMul D Am nm Lm) ++ ((wLet D Ae ne Le) ++ ((wRow D xt yt 60 Nt) ++ ((wLand D Ad nsd fogd nrd Ld) ++ (wLar D oq fq)))))))) := toOwnZ hD
  have hA : ∀ q : Nat, s.heap.size ≤ q → ownZ ((wMob om Ad ot ou) ++ ((wTob ot Ad Aw Am Ae xt hou cro) ++ ((wWays D Aw Lw) ++ ((wMul D Am nm Lm) ++ ((wLet D Ae ne Le) ++ ((wRow D xt yt 60 Nt) ++ ((wLand D Ad nsd fogd nrd Ld) ++ (wLar D oq fq)))))))) s.heap.size q := fun _ h => Or.inr h
  generalize hAe : ownZ ((wMob om Ad ot ou) ++ ((wTob ot Ad Aw Am Ae xt hou cro) ++ ((wWays D Aw Lw) ++ ((wMul D Am nm Lm) ++ ((wLet D Ae ne Le) ++ ((wRow D xt yt 60 Nt) ++ ((wLand D Ad nsd fogd nrd Ld) ++ (wLar D oq fq)))))))) s.heap.size = A0 at hD hS hA hZX ⊢
  have hl := lv_entry ([.ref om, .int p1, .int p2, .ref oq]) (n := 5) (Nat.le_of_ble_eq_true rfl)
  rw [lg_entry_eq]
  generalize (lg_sl ([.ref om, .int p1, .int p2, .ref oq]) ++ List.replicate (5 - (lg_sl ([.ref om, .int p1, .int p2, .ref oq])).length) Slot.unset).toArray = ls at hl ⊢
  have hl : lv_has ls 5 [(0, .ref om), (1, .int p1), (2, .int p2), (3, .ref oq)] := hl
  refine lv_aload_n hx hb dL_mule_0 rfl (lv_at hl 3 rfl) ?_
  refine lv_iconst (v := 0) hx hb dL_mule_1 (by decide) ?_
  refine lv_aload_n hx hb dL_mule_2 rfl (lv_at hl 0 rfl) ?_
  refine lv_iload_n hx hb dL_mule_3 rfl (lv_at hl 1 rfl) ?_
  refine lv_iload_n hx hb dL_mule_4 rfl (lv_at hl 2 rfl) ?_
  refine kEw ⟨hx, hb, hml, hown, hts⟩ (c_X6_mule l D om Ad ot ou Aw Am Ae xt hou cro Lw nm Lm ne Le yt Nt nsd fogd nrd Ld p1 p2 _ (by assumption) hl9) (cwV 2 hts gL_mule_X6_mule rfl rfl rfl (by decide +kernel) ⟨Nat.le_of_ble_eq_true rfl, Nat.le_of_ble_eq_true rfl⟩) hSX hTX hZX hNX hK hN hP hD hS hA (Fr.kp (Sb.app Sb.self (Sb.app Sb.self (Sb.app Sb.self (Sb.app Sb.self (Sb.app Sb.self (Sb.app Sb.self (Sb.l Sb.self)))))))) (Sb.app Sb.self (Sb.app Sb.self (Sb.app Sb.self (Sb.app Sb.self (Sb.app Sb.self (Sb.app Sb.self (Sb.l Sb.self))))))) 6 0 rfl rfl rfl hl.1 (Nat.le_of_ble_eq_true rfl) ⟨Nat.le_of_ble_eq_true rfl, Nat.le_of_ble_eq_true rfl⟩ dL_mule_5 (fun E ce q9 H locs he hP hD hS hce hcv hcl => ?_) (fun H locs hn9 hP hD hS => ?_) rfl
  · rcases xe1 he with ⟨hk9, rfl⟩
    · refine vx_catch (own := RL) (name := "java/lang/IndexOutOfBoundsException") hown [] ⟨0, 10, 13, 21⟩ [] htab (fun z9 h9 => nomatch h9) (by decide) (by decide) (hts (.classLink RL 21 "java/lang/IndexOutOfBoundsException") (List.mem_of_getElem? (i := 1) rfl)) (va_Nw.use rfl hCX.1.1) hce hcv hcl ?_
      refine lv_astore (lv' := [(4, .ref q9), (0, .ref om), (1, .int p1), (2, .int p2), (3, .ref oq)]) hx hb dL_mule_13 hl (by decide) rfl (fun ls hl => ?_)
      refine lv_iconst (v := 1) hx hb dL_mule_15 (by decide) ?_
      refine vx_ret (W.widen (k := 1) (n := 6) (Nat.le_of_ble_eq_true rfl) (Nat.le_of_ble_eq_true rfl) ?_)
      exact eLk hx hb hr hlocks dL_mule_16 hS hP hk9 (by decide) rfl
  · have hP : va_P D.1 vwCl ((wMob om Ad ot ou) ++ ((wTob ot Ad Aw Am Ae xt hou cro) ++ ((wWays D Aw Lw) ++ ((wMul D Am nm Lm) ++ ((wLet D Ae ne Le) ++ ((wRow D xt yt 60 Nt) ++ ((wLand D Ad nsd fogd nrd Ld) ++ (wLar D oq fq)))))))) H := hP
    have hD : va_D A0 ((wMob om Ad ot ou) ++ ((wTob ot Ad Aw Am Ae xt hou cro) ++ ((wWays D Aw Lw) ++ ((wMul D Am nm Lm) ++ ((wLet D Ae ne Le) ++ ((wRow D xt yt 60 Nt) ++ ((wLand D Ad nsd fogd nrd Ld) ++ (wLar D oq fq)))))))) := hD
    refine W.eq (g2 := F0 m 8 ls [.int (tmC Lm Le ne p1 p2), .int 0, .ref oq]) rfl ?_
    refine lv_i2l hx hb dL_mule_8 rfl ?_
    refine va_last (D := D.1) hx hb hK hP hD hS 54 1 rfl rfl (i := (0 : Int32)) (vpl (by decide)) dL_mule_9 (fun H locs hP hD hS => ?_)
    have hP : va_P D.1 vwCl ((wMob om Ad ot ou) ++ ((wTob ot Ad Aw Am Ae xt hou cro) ++ ((wWays D Aw Lw) ++ ((wMul D Am nm Lm) ++ ((wLet D Ae ne Le) ++ ((wRow D xt yt 60 Nt) ++ ((wLand D Ad nsd fogd nrd Ld) ++ (wLar D oq (vp_updL fq 0 ((tmC Lm Le ne p1 p2).toInt64)))))))))) H := hP
    have hD : va_D A0 ((wMob om Ad ot ou) ++ ((wTob ot Ad Aw Am Ae xt hou cro) ++ ((wWays D Aw Lw) ++ ((wMul D Am nm Lm) ++ ((wLet D Ae ne Le) ++ ((wRow D xt yt 60 Nt) ++ ((wLand D Ad nsd fogd nrd Ld) ++ (wLar D oq (vp_updL fq 0 ((tmC Lm Le ne p1 p2).toInt64)))))))))) := hD
    refine lv_goto (tgt := 17) hx hb dL_mule_10 (by decide) ?_
    refine lv_iconst (v := 0) hx hb dL_mule_17 (by decide) ?_
    refine vx_ret (W.widen (k := 1) (n := 6) (Nat.le_of_ble_eq_true rfl) (Nat.le_of_ble_eq_true rfl) ?_)
    exact eL0 z0c hx hb hr hlocks dL_mule_18 hS hP (xe0 hn9 (kTL_b _ _ _ _)) rfl rfl

set_option maxHeartbeats 4000000 in
set_option maxRecDepth 100000 in
theorem c_L_post (l : Launch) (D : GG) (om : Nat) (Ad : Nat → Nat) (ot : Nat) (ou : Nat) (Aw : Nat → Nat) (Am : Nat → Nat) (Ae : Nat → Nat) (xt : Nat) (hou : Int32) (cro : Int32) (Lw : Nat → Nat → Int32) (nm : Nat) (Lm : Nat → Nat → Int32) (ne : Nat) (Le : Nat → Nat → Int32) (yt : Nat) (Nt : Nat → Int32) (nsd : Nat) (fogd : Int32) (nrd : Nat) (Ld : Nat → Nat → Int32) (oq : Nat) (fq : Nat → Int64) (p1 : Int32) (p2 : Int32) (p3 : Int32) (sz : Nat) (he : ne < 2 ^ 31) (hl9 : l.stackTraces = false) : Met l yL_post wsL_post ({ frames := 7, cells := 1, slots := 6, locals := 105 } : Room) (va_Pc [.ref om, .int p1, .int p2, .int p3, .ref oq] (wdL D ((wMob om Ad ot ou) ++ ((wTob ot Ad Aw Am Ae xt hou cro) ++ ((wWays D Aw Lw) ++ ((wMul D Am nm Lm) ++ ((wLet D Ae ne Le) ++ ((wRow D xt yt 60 Nt) ++ ((wLand D Ad nsd fogd nrd Ld) ++ (wLar D oq fq)))))))) sz)) (QL D (kPO nsd ne p1 p2 p3) ((wMob om Ad ot ou) ++ ((wTob ot Ad Aw Am Ae xt hou cro) ++ ((wWays D Aw Lw) ++ ((wMul D Am nm Lm) ++ ((wLet D Ae ne Le) ++ ((wRow D xt yt 60 Nt) ++ ((wLand D Ad nsd fogd nrd Ld) ++ (wLar D oq fq)))))))) (fun z => ((wMob om Ad ot ou) ++ ((wTob ot Ad Aw Am Ae xt hou cro) ++ ((wWays D Aw Lw) ++ ((wMul D Am nm Lm) ++ ((wLet D Ae (ne + 1) (poC Le ne p1 p2 p3 hou)) ++ ((wRow D xt yt 60 Nt) ++ ((wLand D Ad nsd fogd nrd Ld) ++ (wLar D oq (vp_updL fq 0 (nI ne).toInt64)))))))))) (ownZ ((wMob om Ad ot ou) ++ ((wTob ot Ad Aw Am Ae xt hou cro) ++ ((wWays D Aw Lw) ++ ((wMul D Am nm Lm) ++ ((wLet D Ae ne Le) ++ ((wRow D xt yt 60 Nt) ++ ((wLand D Ad nsd fogd nrd Ld) ++ (wLar D oq fq)))))))) sz)) 1 6 (ownZ ((wMob om Ad ot ou) ++ ((wTob ot Ad Aw Am Ae xt hou cro) ++ ((wWays D Aw Lw) ++ ((wMul D Am nm Lm) ++ ((wLet D Ae ne Le) ++ ((wRow D xt yt 60 Nt) ++ ((wLand D Ad nsd fogd nrd Ld) ++ (wLar D oq fq)))))))) sz) := by
  refine metOf (vx_ofWH (cc := cL_post) (maxL := 6) (ret := (some .int)) (hh := [(0, 12, 15, 21), (0, 12, 19, 13), (0, 12, 23, 15)]) (by decide) rfl ?_)
  intro p e s m args below meth c s₁ B hml hv
  obtain ⟨rfl, hCX, hSX, hTX, hZX, hNX, hsz, hP, hK, hD, hN⟩ := hv
  have hx := B.exec
  have hb := B.bytes
  have hr := B.returns
  have hts := atoms_spec (ws := wsL_post) B.pre
  have hown : s.vm.findClass RL = some m.cls := findClass_of_methodNamed B.named
  have hlocks := B.notSynchronized
  have htab := vx_table (x := yL_post) B (hts (.codeWith yL_post cL_post 6 (some .int) [(0, 12, 15, 21), (0, 12, 19, 13), (0, 12, 23, 15)]) (List.mem_of_getElem? (i := 0) rfl))
  subst hsz
  have hS : va_S (ownZ ((wMob om Ad ot ou) ++ ((wTob ot Ad Aw Am Ae xt hou cro) ++ ((wWays D Aw Lw) ++ ((wMul D Am nm Lm) ++ ((wLet D Ae ne Le) ++ ((wRow D xt yt 60 Nt) ++ ((wLand D Ad nsd fogd nrd Ld) ++ (wLar D oq fq)))))))) s.heap.size) s.heap s.heap [] := va_S.rf
  have hD : va_D (ownZ ((wMob om Ad ot ou) ++ ((wTob ot Ad Aw Am Ae xt hou cro) ++ ((wWays D Aw Lw) ++ ((wMul D Am nm Lm) ++ ((wLet D Ae ne Le) ++ ((wRow D xt yt 60 Nt) ++ ((wLand D Ad nsd fogd nrd Ld) ++ (wLar D oq fq)))))))) s.heap.size) ((wMob om Ad ot ou) ++ ((wTob ot Ad Aw Am Ae xt hou cro) ++ ((wWays D Aw Lw) ++ ((wMul D Am nm Lm) ++ ((wLet D Ae ne Le) ++ ((wRow D xt yt 60 Nt) ++ ((wLand D Ad nsd fogd nrd Ld) ++ (wLar D oq fq)))))))) := toOwnZ hD
  have hA : ∀ q : Nat, s.heap.size ≤ q → ownZ ((wMob om Ad ot ou) ++ ((wTob ot Ad Aw Am Ae xt hou cro) ++ ((wWays D Aw Lw) ++ ((wMul D Am nm Lm) ++ ((wLet D Ae ne Le) ++ ((wRow D xt yt 60 Nt) ++ ((wLand D Ad nsd fogd nrd Ld) ++ (wLar D oq fq)))))))) s.heap.size q := fun _ h => Or.inr h
  generalize hAe : ownZ ((wMob om Ad ot ou) ++ ((wTob ot Ad Aw Am Ae xt hou cro) ++ ((wWays D Aw Lw) ++ ((wMul D Am nm Lm) ++ ((wLet D Ae ne Le) ++ ((wRow D xt yt 60 Nt) ++ ((wLand D Ad nsd fogd nrd Ld) ++ (wLar D oq fq)))))))) s.heap.size = A0 at hD hS hA hZX ⊢
  have hl := lv_entry ([.ref om, .int p1, .int p2, .int p3, .ref oq]) (n := 6) (Nat.le_of_ble_eq_true rfl)
  rw [lg_entry_eq]
  generalize (lg_sl ([.ref om, .int p1, .int p2, .int p3, .ref oq]) ++ List.replicate (6 - (lg_sl ([.ref om, .int p1, .int p2, .int p3, .ref oq])).length) Slot.unset).toArray = ls at hl ⊢
  have hl : lv_has ls 6 [(0, .ref om), (1, .int p1), (2, .int p2), (3, .int p3), (4, .ref oq)] := hl
  refine lv_aload hx hb dL_post_0 (lv_at hl 4 rfl) ?_
  refine lv_iconst (v := 0) hx hb dL_post_2 (by decide) ?_
  refine lv_aload_n hx hb dL_post_3 rfl (lv_at hl 0 rfl) ?_
  refine lv_iload_n hx hb dL_post_4 rfl (lv_at hl 1 rfl) ?_
  refine lv_iload_n hx hb dL_post_5 rfl (lv_at hl 2 rfl) ?_
  refine lv_iload_n hx hb dL_post_6 rfl (lv_at hl 3 rfl) ?_
  refine kEw ⟨hx, hb, hml, hown, hts⟩ (c_X6_post l D om Ad ot ou Aw Am Ae xt hou cro Lw nm Lm ne Le yt Nt nsd fogd nrd Ld p1 p2 p3 _ (by assumption) hl9) (cwV 3 hts gL_post_X6_post rfl rfl rfl (by decide +kernel) ⟨Nat.le_of_ble_eq_true rfl, Nat.le_of_ble_eq_true rfl⟩) hSX hTX hZX hNX hK hN hP hD hS hA (Fr.app (Fr.kp Sb.self) (Fr.app (Fr.kp Sb.self) (Fr.app (Fr.kp Sb.self) (Fr.app (Fr.kp Sb.self) (Fr.app frsLet (Fr.app (Fr.kp Sb.self) (Fr.l (Fr.kp Sb.self)))))))) (Sb.app Sb.self (Sb.app Sb.self (Sb.app Sb.self (Sb.app Sb.self (Sb.app Sb.self (Sb.app Sb.self (Sb.l Sb.self))))))) 6 0 rfl rfl rfl hl.1 (Nat.le_of_ble_eq_true rfl) ⟨Nat.le_of_ble_eq_true rfl, Nat.le_of_ble_eq_true rfl⟩ dL_post_7 (fun E ce q9 H locs he hP hD hS hce hcv hcl => ?_) (fun H locs hn9 hP hD hS => ?_) rfl
  · rcases xe3 he with ⟨hk9, rfl⟩ | ⟨hk9, rfl⟩ | ⟨hk9, rfl⟩
    · refine vx_catch (own := RL) (name := "java/lang/IndexOutOfBoundsException") hown [] ⟨0, 12, 15, 21⟩ [⟨0, 12, 19, 13⟩, ⟨0, 12, 23, 15⟩] htab (fun z9 h9 => nomatch h9) (by decide) (by decide) (hts (.classLink RL 21 "java/lang/IndexOutOfBoundsException") (List.mem_of_getElem? (i := 1) rfl)) (va_Nw.use rfl hCX.1.1) hce hcv hcl ?_
      refine lv_astore (lv' := [(5, .ref q9), (0, .ref om), (1, .int p1), (2, .int p2), (3, .int p3), (4, .ref oq)]) hx hb dL_post_15 hl (by decide) rfl (fun ls hl => ?_)
      refine lv_iconst (v := 1) hx hb dL_post_17 (by decide) ?_
      refine vx_ret (W.widen (k := 1) (n := 6) (Nat.le_of_ble_eq_true rfl) (Nat.le_of_ble_eq_true rfl) ?_)
      exact eLk hx hb hr hlocks dL_post_18 hS hP hk9 (by decide) rfl
    · refine vx_catch (own := RL) (name := "java/lang/IllegalArgumentException") hown [⟨0, 12, 15, 21⟩] ⟨0, 12, 19, 13⟩ [⟨0, 12, 23, 15⟩] htab (fun z9 h9 => Or.inr (by rw [List.mem_singleton.mp h9]; exact ⟨by decide, "java/lang/IndexOutOfBoundsException", (hts (.classLink RL 21 "java/lang/IndexOutOfBoundsException") (List.mem_of_getElem? (i := 1) rfl)), hCX.2.2.1⟩)) (by decide) (by decide) (hts (.classLink RL 13 "java/lang/IllegalArgumentException") (List.mem_of_getElem? (i := 2) rfl)) (va_Nw.use rfl hCX.1.2.1) hce hcv hcl ?_
      refine lv_astore (lv' := [(5, .ref q9), (0, .ref om), (1, .int p1), (2, .int p2), (3, .int p3), (4, .ref oq)]) hx hb dL_post_19 hl (by decide) rfl (fun ls hl => ?_)
      refine lv_iconst (v := 2) hx hb dL_post_21 (by decide) ?_
      refine vx_ret (W.widen (k := 1) (n := 6) (Nat.le_of_ble_eq_true rfl) (Nat.le_of_ble_eq_true rfl) ?_)
      exact eLk hx hb hr hlocks dL_post_22 hS hP hk9 (by decide) rfl
    · refine vx_catch (own := RL) (name := "java/lang/IllegalStateException") hown [⟨0, 12, 15, 21⟩, ⟨0, 12, 19, 13⟩] ⟨0, 12, 23, 15⟩ [] htab (fun z9 h9 => Or.inr ((List.mem_cons.mp h9).elim (fun e9 => by rw [e9]; exact ⟨by decide, "java/lang/IndexOutOfBoundsException", (hts (.classLink RL 21 "java/lang/IndexOutOfBoundsException") (List.mem_of_getElem? (i := 1) rfl)), hCX.2.2.2⟩) (fun h9 => by rw [List.mem_singleton.mp h9]; exact ⟨by decide, "java/lang/IllegalArgumentException", (hts (.classLink RL 13 "java/lang/IllegalArgumentException") (List.mem_of_getElem? (i := 2) rfl)), hCX.2.1⟩))) (by decide) (by decide) (hts (.classLink RL 15 "java/lang/IllegalStateException") (List.mem_of_getElem? (i := 3) rfl)) (va_Nw.use rfl hCX.1.2.2) hce hcv hcl ?_
      refine lv_astore (lv' := [(5, .ref q9), (0, .ref om), (1, .int p1), (2, .int p2), (3, .int p3), (4, .ref oq)]) hx hb dL_post_23 hl (by decide) rfl (fun ls hl => ?_)
      refine lv_iconst (v := 3) hx hb dL_post_25 (by decide) ?_
      refine vx_ret (W.widen (k := 1) (n := 6) (Nat.le_of_ble_eq_true rfl) (Nat.le_of_ble_eq_true rfl) ?_)
      exact eLk hx hb hr hlocks dL_post_26 hS hP hk9 (by decide) rfl
  · have hP : va_P D.1 vwCl ((wMob om Ad ot ou) ++ ((wTob ot Ad Aw Am Ae xt hou cro) ++ ((wWays D Aw Lw) ++ ((wMul D Am nm Lm) ++ ((wLet D Ae (ne + 1) (poC Le ne p1 p2 p3 hou)) ++ ((wRow D xt yt 60 Nt) ++ ((wLand D Ad nsd fogd nrd Ld) ++ (wLar D oq fq)))))))) H := hP
    have hD : va_D A0 ((wMob om Ad ot ou) ++ ((wTob ot Ad Aw Am Ae xt hou cro) ++ ((wWays D Aw Lw) ++ ((wMul D Am nm Lm) ++ ((wLet D Ae (ne + 1) (poC Le ne p1 p2 p3 hou)) ++ ((wRow D xt yt 60 Nt) ++ ((wLand D Ad nsd fogd nrd Ld) ++ (wLar D oq fq)))))))) := hD
    refine W.eq (g2 := F0 m 10 ls [.int (nI ne), .int 0, .ref oq]) rfl ?_
    refine lv_i2l hx hb dL_post_10 rfl ?_
    refine va_last (D := D.1) hx hb hK hP hD hS 54 1 rfl rfl (i := (0 : Int32)) (vpl (by decide)) dL_post_11 (fun H locs hP hD hS => ?_)
    have hP : va_P D.1 vwCl ((wMob om Ad ot ou) ++ ((wTob ot Ad Aw Am Ae xt hou cro) ++ ((wWays D Aw Lw) ++ ((wMul D Am nm Lm) ++ ((wLet D Ae (ne + 1) (poC Le ne p1 p2 p3 hou)) ++ ((wRow D xt yt 60 Nt) ++ ((wLand D Ad nsd fogd nrd Ld) ++ (wLar D oq (vp_updL fq 0 ((nI ne).toInt64)))))))))) H := hP
    have hD : va_D A0 ((wMob om Ad ot ou) ++ ((wTob ot Ad Aw Am Ae xt hou cro) ++ ((wWays D Aw Lw) ++ ((wMul D Am nm Lm) ++ ((wLet D Ae (ne + 1) (poC Le ne p1 p2 p3 hou)) ++ ((wRow D xt yt 60 Nt) ++ ((wLand D Ad nsd fogd nrd Ld) ++ (wLar D oq (vp_updL fq 0 ((nI ne).toInt64)))))))))) := hD
    refine lv_goto (tgt := 27) hx hb dL_post_12 (by decide) ?_
    refine lv_iconst (v := 0) hx hb dL_post_27 (by decide) ?_
    refine vx_ret (W.widen (k := 1) (n := 6) (Nat.le_of_ble_eq_true rfl) (Nat.le_of_ble_eq_true rfl) ?_)
    exact eL0 z0c hx hb hr hlocks dL_post_28 hS hP (xe0 hn9 (kPO_b _ _ _ _ _)) rfl rfl

set_option maxHeartbeats 4000000 in
set_option maxRecDepth 100000 in
theorem c_L_recall (l : Launch) (D : GG) (om : Nat) (Ad : Nat → Nat) (ot : Nat) (ou : Nat) (Aw : Nat → Nat) (Am : Nat → Nat) (Ae : Nat → Nat) (xt : Nat) (hou : Int32) (cro : Int32) (Lw : Nat → Nat → Int32) (nm : Nat) (Lm : Nat → Nat → Int32) (ne : Nat) (Le : Nat → Nat → Int32) (yt : Nat) (Nt : Nat → Int32) (nsd : Nat) (fogd : Int32) (nrd : Nat) (Ld : Nat → Nat → Int32) (oq : Nat) (fq : Nat → Int64) (p1 : Int32) (sz : Nat) (hns : nsd < 2 ^ 31) (hl9 : l.stackTraces = false) : Met l yL_recall wsL_recall ({ frames := 7, cells := 1, slots := 6, locals := 104 } : Room) (va_Pc [.ref om, .int p1, .ref oq] (wdL D ((wMob om Ad ot ou) ++ ((wTob ot Ad Aw Am Ae xt hou cro) ++ ((wWays D Aw Lw) ++ ((wMul D Am nm Lm) ++ ((wLet D Ae ne Le) ++ ((wRow D xt yt 60 Nt) ++ ((wLand D Ad nsd fogd nrd Ld) ++ (wLar D oq fq)))))))) sz)) (QL D (kRC Le ne p1) ((wMob om Ad ot ou) ++ ((wTob ot Ad Aw Am Ae xt hou cro) ++ ((wWays D Aw Lw) ++ ((wMul D Am nm Lm) ++ ((wLet D Ae ne Le) ++ ((wRow D xt yt 60 Nt) ++ ((wLand D Ad nsd fogd nrd Ld) ++ (wLar D oq fq)))))))) (fun z => ((wMob om Ad ot ou) ++ ((wTob ot Ad Aw Am Ae xt hou cro) ++ ((wWays D Aw Lw) ++ ((wMul D Am nm Lm) ++ ((wLet D Ae ne (sr Le 6 (rs 60 (Le 6) p1 (bW 0 (rg 60 (Le 0) p1))))) ++ ((wRow D xt yt 60 Nt) ++ ((wLand D Ad nsd fogd nrd Ld) ++ (wLar D oq (vp_updL fq 0 (bitC (evF Ld nsd fogd (rg 60 (Le 0) p1) nsd) - 1).toInt64)))))))))) (ownZ ((wMob om Ad ot ou) ++ ((wTob ot Ad Aw Am Ae xt hou cro) ++ ((wWays D Aw Lw) ++ ((wMul D Am nm Lm) ++ ((wLet D Ae ne Le) ++ ((wRow D xt yt 60 Nt) ++ ((wLand D Ad nsd fogd nrd Ld) ++ (wLar D oq fq)))))))) sz)) 1 6 (ownZ ((wMob om Ad ot ou) ++ ((wTob ot Ad Aw Am Ae xt hou cro) ++ ((wWays D Aw Lw) ++ ((wMul D Am nm Lm) ++ ((wLet D Ae ne Le) ++ ((wRow D xt yt 60 Nt) ++ ((wLand D Ad nsd fogd nrd Ld) ++ (wLar D oq fq)))))))) sz) := by
  refine metOf (vx_ofWH (cc := cL_recall) (maxL := 4) (ret := (some .int)) (hh := [(0, 9, 12, 21), (0, 9, 15, 15)]) (by decide) rfl ?_)
  intro p e s m args below meth c s₁ B hml hv
  obtain ⟨rfl, hCX, hSX, hTX, hZX, hNX, hsz, hP, hK, hD, hN⟩ := hv
  have hx := B.exec
  have hb := B.bytes
  have hr := B.returns
  have hts := atoms_spec (ws := wsL_recall) B.pre
  have hown : s.vm.findClass RL = some m.cls := findClass_of_methodNamed B.named
  have hlocks := B.notSynchronized
  have htab := vx_table (x := yL_recall) B (hts (.codeWith yL_recall cL_recall 4 (some .int) [(0, 9, 12, 21), (0, 9, 15, 15)]) (List.mem_of_getElem? (i := 0) rfl))
  subst hsz
  have hS : va_S (ownZ ((wMob om Ad ot ou) ++ ((wTob ot Ad Aw Am Ae xt hou cro) ++ ((wWays D Aw Lw) ++ ((wMul D Am nm Lm) ++ ((wLet D Ae ne Le) ++ ((wRow D xt yt 60 Nt) ++ ((wLand D Ad nsd fogd nrd Ld) ++ (wLar D oq fq)))))))) s.heap.size) s.heap s.heap [] := va_S.rf
  have hD : va_D (ownZ ((wMob om Ad ot ou) ++ ((wTob ot Ad Aw Am Ae xt hou cro) ++ ((wWays D Aw Lw) ++ ((wMul D Am nm Lm) ++ ((wLet D Ae ne Le) ++ ((wRow D xt yt 60 Nt) ++ ((wLand D Ad nsd fogd nrd Ld) ++ (wLar D oq fq)))))))) s.heap.size) ((wMob om Ad ot ou) ++ ((wTob ot Ad Aw Am Ae xt hou cro) ++ ((wWays D Aw Lw) ++ ((wMul D Am nm Lm) ++ ((wLet D Ae ne Le) ++ ((wRow D xt yt 60 Nt) ++ ((wLand D Ad nsd fogd nrd Ld) ++ (wLar D oq fq)))))))) := toOwnZ hD
  have hA : ∀ q : Nat, s.heap.size ≤ q → ownZ ((wMob om Ad ot ou) ++ ((wTob ot Ad Aw Am Ae xt hou cro) ++ ((wWays D Aw Lw) ++ ((wMul D Am nm Lm) ++ ((wLet D Ae ne Le) ++ ((wRow D xt yt 60 Nt) ++ ((wLand D Ad nsd fogd nrd Ld) ++ (wLar D oq fq)))))))) s.heap.size q := fun _ h => Or.inr h
  generalize hAe : ownZ ((wMob om Ad ot ou) ++ ((wTob ot Ad Aw Am Ae xt hou cro) ++ ((wWays D Aw Lw) ++ ((wMul D Am nm Lm) ++ ((wLet D Ae ne Le) ++ ((wRow D xt yt 60 Nt) ++ ((wLand D Ad nsd fogd nrd Ld) ++ (wLar D oq fq)))))))) s.heap.size = A0 at hD hS hA hZX ⊢
  have hl := lv_entry ([.ref om, .int p1, .ref oq]) (n := 4) (Nat.le_of_ble_eq_true rfl)
  rw [lg_entry_eq]
  generalize (lg_sl ([.ref om, .int p1, .ref oq]) ++ List.replicate (4 - (lg_sl ([.ref om, .int p1, .ref oq])).length) Slot.unset).toArray = ls at hl ⊢
  have hl : lv_has ls 4 [(0, .ref om), (1, .int p1), (2, .ref oq)] := hl
  refine lv_aload_n hx hb dL_recall_0 rfl (lv_at hl 2 rfl) ?_
  refine lv_iconst (v := 0) hx hb dL_recall_1 (by decide) ?_
  refine lv_aload_n hx hb dL_recall_2 rfl (lv_at hl 0 rfl) ?_
  refine lv_iload_n hx hb dL_recall_3 rfl (lv_at hl 1 rfl) ?_
  refine kEw ⟨hx, hb, hml, hown, hts⟩ (c_X6_recall l D om Ad ot ou Aw Am Ae xt hou cro Lw nm Lm ne Le yt Nt nsd fogd nrd Ld p1 _ (by assumption) hl9) (cwV 1 hts gL_recall_X6_recall rfl rfl rfl (by decide +kernel) ⟨Nat.le_of_ble_eq_true rfl, Nat.le_of_ble_eq_true rfl⟩) hSX hTX hZX hNX hK hN hP hD hS hA (Fr.app (Fr.kp Sb.self) (Fr.app (Fr.kp Sb.self) (Fr.app (Fr.kp Sb.self) (Fr.app (Fr.kp Sb.self) (Fr.app frsLet (Fr.app (Fr.kp Sb.self) (Fr.l (Fr.kp Sb.self)))))))) (Sb.app Sb.self (Sb.app Sb.self (Sb.app Sb.self (Sb.app Sb.self (Sb.app Sb.self (Sb.app Sb.self (Sb.l Sb.self))))))) 6 0 rfl rfl rfl hl.1 (Nat.le_of_ble_eq_true rfl) ⟨Nat.le_of_ble_eq_true rfl, Nat.le_of_ble_eq_true rfl⟩ dL_recall_4 (fun E ce q9 H locs he hP hD hS hce hcv hcl => ?_) (fun H locs hn9 hP hD hS => ?_) rfl
  · rcases xe2 he with ⟨hk9, rfl⟩ | ⟨hk9, rfl⟩
    · refine vx_catch (own := RL) (name := "java/lang/IndexOutOfBoundsException") hown [] ⟨0, 9, 12, 21⟩ [⟨0, 9, 15, 15⟩] htab (fun z9 h9 => nomatch h9) (by decide) (by decide) (hts (.classLink RL 21 "java/lang/IndexOutOfBoundsException") (List.mem_of_getElem? (i := 1) rfl)) (va_Nw.use rfl hCX.1.1) hce hcv hcl ?_
      refine lv_astore_n (lv' := [(3, .ref q9), (0, .ref om), (1, .int p1), (2, .ref oq)]) hx hb dL_recall_12 rfl hl (by decide) rfl (fun ls hl => ?_)
      refine lv_iconst (v := 1) hx hb dL_recall_13 (by decide) ?_
      refine vx_ret (W.widen (k := 1) (n := 6) (Nat.le_of_ble_eq_true rfl) (Nat.le_of_ble_eq_true rfl) ?_)
      exact eLk hx hb hr hlocks dL_recall_14 hS hP hk9 (by decide) rfl
    · refine vx_catch (own := RL) (name := "java/lang/IllegalStateException") hown [⟨0, 9, 12, 21⟩] ⟨0, 9, 15, 15⟩ [] htab (fun z9 h9 => Or.inr (by rw [List.mem_singleton.mp h9]; exact ⟨by decide, "java/lang/IndexOutOfBoundsException", (hts (.classLink RL 21 "java/lang/IndexOutOfBoundsException") (List.mem_of_getElem? (i := 1) rfl)), hCX.2.2.2⟩)) (by decide) (by decide) (hts (.classLink RL 15 "java/lang/IllegalStateException") (List.mem_of_getElem? (i := 2) rfl)) (va_Nw.use rfl hCX.1.2.2) hce hcv hcl ?_
      refine lv_astore_n (lv' := [(3, .ref q9), (0, .ref om), (1, .int p1), (2, .ref oq)]) hx hb dL_recall_15 rfl hl (by decide) rfl (fun ls hl => ?_)
      refine lv_iconst (v := 2) hx hb dL_recall_16 (by decide) ?_
      refine vx_ret (W.widen (k := 1) (n := 6) (Nat.le_of_ble_eq_true rfl) (Nat.le_of_ble_eq_true rfl) ?_)
      exact eLk hx hb hr hlocks dL_recall_17 hS hP hk9 (by decide) rfl
  · have hP : va_P D.1 vwCl ((wMob om Ad ot ou) ++ ((wTob ot Ad Aw Am Ae xt hou cro) ++ ((wWays D Aw Lw) ++ ((wMul D Am nm Lm) ++ ((wLet D Ae ne (sr Le 6 (rs 60 (Le 6) p1 (bW 0 (rg 60 (Le 0) p1))))) ++ ((wRow D xt yt 60 Nt) ++ ((wLand D Ad nsd fogd nrd Ld) ++ (wLar D oq fq)))))))) H := hP
    have hD : va_D A0 ((wMob om Ad ot ou) ++ ((wTob ot Ad Aw Am Ae xt hou cro) ++ ((wWays D Aw Lw) ++ ((wMul D Am nm Lm) ++ ((wLet D Ae ne (sr Le 6 (rs 60 (Le 6) p1 (bW 0 (rg 60 (Le 0) p1))))) ++ ((wRow D xt yt 60 Nt) ++ ((wLand D Ad nsd fogd nrd Ld) ++ (wLar D oq fq)))))))) := hD
    refine W.eq (g2 := F0 m 7 ls [.int (bitC (evF Ld nsd fogd (rg 60 (Le 0) p1) nsd) - 1), .int 0, .ref oq]) rfl ?_
    refine lv_i2l hx hb dL_recall_7 rfl ?_
    refine va_last (D := D.1) hx hb hK hP hD hS 54 1 rfl rfl (i := (0 : Int32)) (vpl (by decide)) dL_recall_8 (fun H locs hP hD hS => ?_)
    have hP : va_P D.1 vwCl ((wMob om Ad ot ou) ++ ((wTob ot Ad Aw Am Ae xt hou cro) ++ ((wWays D Aw Lw) ++ ((wMul D Am nm Lm) ++ ((wLet D Ae ne (sr Le 6 (rs 60 (Le 6) p1 (bW 0 (rg 60 (Le 0) p1))))) ++ ((wRow D xt yt 60 Nt) ++ ((wLand D Ad nsd fogd nrd Ld) ++ (wLar D oq (vp_updL fq 0 ((bitC (evF Ld nsd fogd (rg 60 (Le 0) p1) nsd) - 1).toInt64)))))))))) H := hP
    have hD : va_D A0 ((wMob om Ad ot ou) ++ ((wTob ot Ad Aw Am Ae xt hou cro) ++ ((wWays D Aw Lw) ++ ((wMul D Am nm Lm) ++ ((wLet D Ae ne (sr Le 6 (rs 60 (Le 6) p1 (bW 0 (rg 60 (Le 0) p1))))) ++ ((wRow D xt yt 60 Nt) ++ ((wLand D Ad nsd fogd nrd Ld) ++ (wLar D oq (vp_updL fq 0 ((bitC (evF Ld nsd fogd (rg 60 (Le 0) p1) nsd) - 1).toInt64)))))))))) := hD
    refine lv_goto (tgt := 18) hx hb dL_recall_9 (by decide) ?_
    refine lv_iconst (v := 0) hx hb dL_recall_18 (by decide) ?_
    refine vx_ret (W.widen (k := 1) (n := 6) (Nat.le_of_ble_eq_true rfl) (Nat.le_of_ble_eq_true rfl) ?_)
    exact eL0 z0c hx hb hr hlocks dL_recall_19 hS hP (xe0 hn9 (kRC_b _ _ _)) rfl rfl
