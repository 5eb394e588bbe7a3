set_option maxHeartbeats 4000000 in
set_option maxRecDepth 100000 in
theorem c_L_letter (l : Launch) (D : GG) (om : Nat) (Ad : Nat → Nat) (ot : Nat) (ou : Nat) (Aw : Nat → Nat) (Am : Nat → Nat) (Ae : Nat → Nat) (xt : Nat) (hou : Int32) (cro : Int32) (Lw : Nat → Nat → Int32) (nm : Nat) (Lm : Nat → Nat → Int32) (ne : Nat) (Le : Nat → Nat → Int32) (yt : Nat) (Nt : Nat → Int32) (nsd : Nat) (fogd : Int32) (nrd : Nat) (Ld : Nat → Nat → Int32) (oq : Nat) (fq : Nat → Int64) (p1 : Int32) (p2 : Int32) (sz : Nat)  (hl9 : l.stackTraces = false) : Met l yL_letter wsL_letter ({ frames := 7, cells := 1, slots := 6, locals := 104 } : Room) (va_Pc [.ref om, .int p1, .int p2, .ref oq] (wdL D ((wMob om Ad ot ou) ++ ((wTob ot Ad Aw Am Ae xt hou cro) ++ ((wWays D Aw Lw) ++ ((wMul D Am nm Lm) ++ ((wLet D Ae ne Le) ++ ((wRow D xt yt 60 Nt) ++ ((wLand D Ad nsd fogd nrd Ld) ++ (wLar D oq fq)))))))) sz)) (QL D (kTL ne 10 p1 p2) ((wMob om Ad ot ou) ++ ((wTob ot Ad Aw Am Ae xt hou cro) ++ ((wWays D Aw Lw) ++ ((wMul D Am nm Lm) ++ ((wLet D Ae ne Le) ++ ((wRow D xt yt 60 Nt) ++ ((wLand D Ad nsd fogd nrd Ld) ++ (wLar D oq fq)))))))) (fun z => ((wMob om Ad ot ou) ++ ((wTob ot Ad Aw Am Ae xt hou cro) ++ ((wWays D Aw Lw) ++ ((wMul D Am nm Lm) ++ ((wLet D Ae ne Le) ++ ((wRow D xt yt 60 Nt) ++ ((wLand D Ad nsd fogd nrd Ld) ++ (wLar D oq (vp_updL fq 0 (tlC Le p1 p2).toInt64)))))))))) (ownZ ((wMob om Ad ot ou) ++ ((wTob ot Ad Aw Am Ae xt hou cro) ++ ((wWays D Aw Lw) ++ ((wMul D Am nm Lm) ++ ((wLet D Ae ne Le) ++ ((wRow D xt yt 60 Nt) ++ ((wLand D Ad nsd fogd nrd Ld) ++ (wLar D oq fq)))))))) sz)) 1 6 (ownZ ((wMob om Ad ot ou) ++ ((wTob ot Ad Aw Am Ae xt hou cro) ++ ((wWays D Aw Lw) ++ ((wMul D Am nm Lm) ++ ((wLet D Ae ne Le) ++ ((wRow D xt yt 60 Nt) ++ ((wLand D Ad nsd fogd nrd Ld) ++ (wLar D oq fq)))))))) sz) := by
  refine metOf (vx_ofWH (cc := cL_letter) (maxL := 5) (ret := (some .int)) (hh := [(0, 10, 13, 21)]) (by decide) rfl ?_)
  intro p e s m args below meth c s₁ B hml hv
  obtain ⟨rfl, hCX, hSX, hTX, hZX, hNX, hsz, hP, hK, hD, hN⟩ := hv
  have hx := B.exec
  have hb := B.bytes
  have hr := B.returns
  have hts := atoms_spec (ws := wsL_letter) B.pre
  have hown : s.vm.findClass RL = some m.cls := findClass_of_methodNamed B.named
  have hlocks := B.notSynchronized
  have htab := vx_table (x := yL_letter) B (hts (.codeWith yL_letter cL_letter 5 (some .int) [(0, 10, 13, 21)]) (List.mem_of_getElem? (i := 0) rfl))
  subst hsz
  have hS : va_S (ownZ ((wMob om Ad ot ou) ++ ((wTob ot Ad Aw Am Ae xt hou cro) ++ ((wWays D Aw Lw) ++ ((wMul D Am nm Lm) ++ ((wLet D Ae ne Le) ++ ((wRow D xt yt 60 Nt) ++ ((wLand D Ad nsd fogd nrd Ld) ++ (wLar D oq fq)))))))) s.heap.size) s.heap s.heap [] := va_S.rf
  have hD : va_D (ownZ ((wMob om Ad ot ou) ++ ((wTob ot Ad Aw Am Ae xt hou cro) ++ ((wWays D Aw Lw) ++ ((wMul D Am nm Lm) ++ ((wLet D Ae ne Le) ++ ((wRow D xt yt 60 Nt) ++ ((wLand D Ad nsd fogd nrd Ld) ++ (wLar D oq fq)))))))) s.heap.size) ((wMob om Ad ot ou) ++ ((wTob ot Ad Aw Am Ae xt hou cro) ++ ((wWays D Aw Lw) ++ ((wMul D Am nm Lm) ++ ((wLet D Ae ne Le) ++ ((wRow D xt yt 60 Nt) ++ ((wLand D Ad nsd fogd nrd Ld) ++ (wLar D oq fq)))))))) := toOwnZ hD
  have hA : ∀ q : Nat, s.heap.size ≤ q → ownZ ((wMob om Ad ot ou) ++ ((wTob ot Ad Aw Am Ae xt hou cro) ++ ((wWays D Aw Lw) ++ ((wMul D Am nm Lm) ++ ((wLet D Ae ne Le) ++ ((wRow D xt yt 60 Nt) ++ ((wLand D Ad nsd fogd nrd Ld) ++ (wLar D oq fq)))))))) s.heap.size q := fun _ h => Or.inr h
  generalize hAe : ownZ ((wMob om Ad ot ou) ++ ((wTob ot Ad Aw Am Ae xt hou cro) ++ ((wWays D Aw Lw) ++ ((wMul D Am nm Lm) ++ ((wLet D Ae ne Le) ++ ((wRow D xt yt 60 Nt) ++ ((wLand D Ad nsd fogd nrd Ld) ++ (wLar D oq fq)))))))) s.heap.size = A0 at hD hS hA hZX ⊢
  have hl := lv_entry ([.ref om, .int p1, .int p2, .ref oq]) (n := 5) (Nat.le_of_ble_eq_true rfl)
  rw [lg_entry_eq]
  generalize (lg_sl ([.ref om, .int p1, .int p2, .ref oq]) ++ List.replicate (5 - (lg_sl ([.ref om, .int p1, .int p2, .ref oq])).length) Slot.unset).toArray = ls at hl ⊢
  have hl : lv_has ls 5 [(0, .ref om), (1, .int p1), (2, .int p2), (3, .ref oq)] := hl
  refine lv_aload_n hx hb dL_letter_0 rfl (lv_at hl 3 rfl) ?_
  refine lv_iconst (v := 0) hx hb dL_letter_1 (by decide) ?_
  refine lv_aload_n hx hb dL_letter_2 rfl (lv_at hl 0 rfl) ?_
  refine lv_iload_n hx hb dL_letter_3 rfl (lv_at hl 1 rfl) ?_
  refine lv_iload_n hx hb dL_letter_4 rfl (lv_at hl 2 rfl) ?_
  refine kEw ⟨hx, hb, hml, hown, hts⟩ (c_X6_letter l D om Ad ot ou Aw Am Ae xt hou cro Lw nm Lm ne Le yt Nt nsd fogd nrd Ld p1 p2 _ hl9) (cwV 2 hts gL_letter_X6_letter rfl rfl rfl (by decide +kernel) ⟨Nat.le_of_ble_eq_true rfl, Nat.le_of_ble_eq_true rfl⟩) hSX hTX hZX hNX hK hN hP hD hS hA (Fr.kp (Sb.app Sb.self (Sb.app Sb.self (Sb.app Sb.self (Sb.app Sb.self (Sb.app Sb.self (Sb.app Sb.self (Sb.l Sb.self)))))))) (Sb.app Sb.self (Sb.app Sb.self (Sb.app Sb.self (Sb.app Sb.self (Sb.app Sb.self (Sb.app Sb.self (Sb.l Sb.self))))))) 6 0 rfl rfl rfl hl.1 (Nat.le_of_ble_eq_true rfl) ⟨Nat.le_of_ble_eq_true rfl, Nat.le_of_ble_eq_true rfl⟩ dL_letter_5 (fun E ce q9 H locs he hP hD hS hce hcv hcl => ?_) (fun H locs hn9 hP hD hS => ?_) rfl
  · rcases xe1 he with ⟨hk9, rfl⟩
    · refine vx_catch (own := RL) (name := "java/lang/IndexOutOfBoundsException") hown [] ⟨0, 10, 13, 21⟩ [] htab (fun z9 h9 => nomatch h9) (by decide) (by decide) (hts (.classLink RL 21 "java/lang/IndexOutOfBoundsException") (List.mem_of_getElem? (i := 1) rfl)) (va_Nw.use rfl hCX.1.1) hce hcv hcl ?_
      refine lv_astore (lv' := [(4, .ref q9), (0, .ref om), (1, .int p1), (2, .int p2), (3, .ref oq)]) hx hb dL_letter_13 hl (by decide) rfl (fun ls hl => ?_)
      refine lv_iconst (v := 1) hx hb dL_letter_15 (by decide) ?_
      refine vx_ret (W.widen (k := 1) (n := 6) (Nat.le_of_ble_eq_true rfl) (Nat.le_of_ble_eq_true rfl) ?_)
      exact eLk hx hb hr hlocks dL_letter_16 hS hP hk9 (by decide) rfl
  · have hP : va_P D.1 vwCl ((wMob om Ad ot ou) ++ ((wTob ot Ad Aw Am Ae xt hou cro) ++ ((wWays D Aw Lw) ++ ((wMul D Am nm Lm) ++ ((wLet D Ae ne Le) ++ ((wRow D xt yt 60 Nt) ++ ((wLand D Ad nsd fogd nrd Ld) ++ (wLar D oq fq)))))))) H := hP
    have hD : va_D A0 ((wMob om Ad ot ou) ++ ((wTob ot Ad Aw Am Ae xt hou cro) ++ ((wWays D Aw Lw) ++ ((wMul D Am nm Lm) ++ ((wLet D Ae ne Le) ++ ((wRow D xt yt 60 Nt) ++ ((wLand D Ad nsd fogd nrd Ld) ++ (wLar D oq fq)))))))) := hD
    refine W.eq (g2 := F0 m 8 ls [.int (tlC Le p1 p2), .int 0, .ref oq]) rfl ?_
    refine lv_i2l hx hb dL_letter_8 rfl ?_
    refine va_last (D := D.1) hx hb hK hP hD hS 54 1 rfl rfl (i := (0 : Int32)) (vpl (by decide)) dL_letter_9 (fun H locs hP hD hS => ?_)
    have hP : va_P D.1 vwCl ((wMob om Ad ot ou) ++ ((wTob ot Ad Aw Am Ae xt hou cro) ++ ((wWays D Aw Lw) ++ ((wMul D Am nm Lm) ++ ((wLet D Ae ne Le) ++ ((wRow D xt yt 60 Nt) ++ ((wLand D Ad nsd fogd nrd Ld) ++ (wLar D oq (vp_updL fq 0 ((tlC Le p1 p2).toInt64)))))))))) H := hP
    have hD : va_D A0 ((wMob om Ad ot ou) ++ ((wTob ot Ad Aw Am Ae xt hou cro) ++ ((wWays D Aw Lw) ++ ((wMul D Am nm Lm) ++ ((wLet D Ae ne Le) ++ ((wRow D xt yt 60 Nt) ++ ((wLand D Ad nsd fogd nrd Ld) ++ (wLar D oq (vp_updL fq 0 ((tlC Le p1 p2).toInt64)))))))))) := hD
    refine lv_goto (tgt := 17) hx hb dL_letter_10 (by decide) ?_
    refine lv_iconst (v := 0) hx hb dL_letter_17 (by decide) ?_
    refine vx_ret (W.widen (k := 1) (n := 6) (Nat.le_of_ble_eq_true rfl) (Nat.le_of_ble_eq_true rfl) ?_)
    exact eL0 z0c hx hb hr hlocks dL_letter_18 hS hP (xe0 hn9 (kTL_b _ _ _ _)) rfl rfl

set_option maxHeartbeats 4000000 in
set_option maxRecDepth 100000 in
theorem c_L_pass (l : Launch) (D : GG) (om : Nat) (Ad : Nat → Nat) (ot : Nat) (ou : Nat) (Aw : Nat → Nat) (Am : Nat → Nat) (Ae : Nat → Nat) (xt : Nat) (hou : Int32) (cro : Int32) (Lw : Nat → Nat → Int32) (nm : Nat) (Lm : Nat → Nat → Int32) (ne : Nat) (Le : Nat → Nat → Int32) (yt : Nat) (Nt : Nat → Int32) (nsd : Nat) (fogd : Int32) (nrd : Nat) (Ld : Nat → Nat → Int32) (oq : Nat) (fq : Nat → Int64) (p1 : Int32) (sz : Nat) (he : ne < 2 ^ 31) (hm : nm < 2 ^ 31) (hns : nsd < 2 ^ 31) (hl9 : l.stackTraces = false) : Met l yL_pass wsL_pass ({ frames := 7, cells := 1, slots := 6, locals := 162 } : Room) (va_Pc [.ref om, .int p1, .ref oq] (wdL D ((wMob om Ad ot ou) ++ ((wTob ot Ad Aw Am Ae xt hou cro) ++ ((wWays D Aw Lw) ++ ((wMul D Am nm Lm) ++ ((wLet D Ae ne Le) ++ ((wRow D xt yt 60 Nt) ++ ((wLand D Ad nsd fogd nrd Ld) ++ (wLar D oq fq)))))))) sz)) (QL D (kPS p1) ((wMob om Ad ot ou) ++ ((wTob ot Ad Aw Am Ae xt hou cro) ++ ((wWays D Aw Lw) ++ ((wMul D Am nm Lm) ++ ((wLet D Ae ne Le) ++ ((wRow D xt yt 60 Nt) ++ ((wLand D Ad nsd fogd nrd Ld) ++ (wLar D oq fq)))))))) (fun z => ((wMob om Ad ot ou) ++ ((wTob ot Ad Aw Am Ae xt ((hgF Lw Ld nsd fogd nm ne (Lm, Le, hou, cro, Nt, true) p1.toNatClampNeg).2.2.1) ((hgF Lw Ld nsd fogd nm ne (Lm, Le, hou, cro, Nt, true) p1.toNatClampNeg).2.2.2.1)) ++ ((wWays D Aw Lw) ++ ((wMul D Am nm ((hgF Lw Ld nsd fogd nm ne (Lm, Le, hou, cro, Nt, true) p1.toNatClampNeg).1)) ++ ((wLet D Ae ne ((hgF Lw Ld nsd fogd nm ne (Lm, Le, hou, cro, Nt, true) p1.toNatClampNeg).2.1)) ++ ((wRow D xt yt 60 ((hgF Lw Ld nsd fogd nm ne (Lm, Le, hou, cro, Nt, true) p1.toNatClampNeg).2.2.2.2.1)) ++ ((wLand D Ad nsd fogd nrd Ld) ++ (wLar D oq (vp_updL fq 0 (cmN Lw Ld nsd fogd nm ne Lm Le hou cro Nt p1.toNatClampNeg).toInt64)))))))))) (ownZ ((wMob om Ad ot ou) ++ ((wTob ot Ad Aw Am Ae xt hou cro) ++ ((wWays D Aw Lw) ++ ((wMul D Am nm Lm) ++ ((wLet D Ae ne Le) ++ ((wRow D xt yt 60 Nt) ++ ((wLand D Ad nsd fogd nrd Ld) ++ (wLar D oq fq)))))))) sz)) 1 6 (ownZ ((wMob om Ad ot ou) ++ ((wTob ot Ad Aw Am Ae xt hou cro) ++ ((wWays D Aw Lw) ++ ((wMul D Am nm Lm) ++ ((wLet D Ae ne Le) ++ ((wRow D xt yt 60 Nt) ++ ((wLand D Ad nsd fogd nrd Ld) ++ (wLar D oq fq)))))))) sz) := by
  refine metOf (vx_ofWH (cc := cL_pass) (maxL := 4) (ret := (some .int)) (hh := [(0, 9, 12, 13)]) (by decide) rfl ?_)
  intro p e s m args below meth c s₁ B hml hv
  obtain ⟨rfl, hCX, hSX, hTX, hZX, hNX, hsz, hP, hK, hD, hN⟩ := hv
  have hx := B.exec
  have hb := B.bytes
  have hr := B.returns
  have hts := atoms_spec (ws := wsL_pass) B.pre
  have hown : s.vm.findClass RL = some m.cls := findClass_of_methodNamed B.named
  have hlocks := B.notSynchronized
  have htab := vx_table (x := yL_pass) B (hts (.codeWith yL_pass cL_pass 4 (some .int) [(0, 9, 12, 13)]) (List.mem_of_getElem? (i := 0) rfl))
  subst hsz
  have hS : va_S (ownZ ((wMob om Ad ot ou) ++ ((wTob ot Ad Aw Am Ae xt hou cro) ++ ((wWays D Aw Lw) ++ ((wMul D Am nm Lm) ++ ((wLet D Ae ne Le) ++ ((wRow D xt yt 60 Nt) ++ ((wLand D Ad nsd fogd nrd Ld) ++ (wLar D oq fq)))))))) s.heap.size) s.heap s.heap [] := va_S.rf
  have hD : va_D (ownZ ((wMob om Ad ot ou) ++ ((wTob ot Ad Aw Am Ae xt hou cro) ++ ((wWays D Aw Lw) ++ ((wMul D Am nm Lm) ++ ((wLet D Ae ne Le) ++ ((wRow D xt yt 60 Nt) ++ ((wLand D Ad nsd fogd nrd Ld) ++ (wLar D oq fq)))))))) s.heap.size) ((wMob om Ad ot ou) ++ ((wTob ot Ad Aw Am Ae xt hou cro) ++ ((wWays D Aw Lw) ++ ((wMul D Am nm Lm) ++ ((wLet D Ae ne Le) ++ ((wRow D xt yt 60 Nt) ++ ((wLand D Ad nsd fogd nrd Ld) ++ (wLar D oq fq)))))))) := toOwnZ hD
  have hA : ∀ q : Nat, s.heap.size ≤ q → ownZ ((wMob om Ad ot ou) ++ ((wTob ot Ad Aw Am Ae xt hou cro) ++ ((wWays D Aw Lw) ++ ((wMul D Am nm Lm) ++ ((wLet D Ae ne Le) ++ ((wRow D xt yt 60 Nt) ++ ((wLand D Ad nsd fogd nrd Ld) ++ (wLar D oq fq)))))))) s.heap.size q := fun _ h => Or.inr h
  generalize hAe : ownZ ((wMob om Ad ot ou) ++ ((wTob ot Ad Aw Am Ae xt hou cro) ++ ((wWays D Aw Lw) ++ ((wMul D Am nm Lm) ++ ((wLet D Ae ne Le) ++ ((wRow D xt yt 60 Nt) ++ ((wLand D Ad nsd fogd nrd Ld) ++ (wLar D oq fq)))))))) s.heap.size = A0 at hD hS hA hZX ⊢
  have hl := lv_entry ([.ref om, .int p1, .ref oq]) (n := 4) (Nat.le_of_ble_eq_true rfl)
  rw [lg_entry_eq]
  generalize (lg_sl ([.ref om, .int p1, .ref oq]) ++ List.replicate (4 - (lg_sl ([.ref om, .int p1, .ref oq])).length) Slot.unset).toArray = ls at hl ⊢
  have hl : lv_has ls 4 [(0, .ref om), (1, .int p1), (2, .ref oq)] := hl
  refine lv_aload_n hx hb dL_pass_0 rfl (lv_at hl 2 rfl) ?_
  refine lv_iconst (v := 0) hx hb dL_pass_1 (by decide) ?_
  refine lv_aload_n hx hb dL_pass_2 rfl (lv_at hl 0 rfl) ?_
  refine lv_iload_n hx hb dL_pass_3 rfl (lv_at hl 1 rfl) ?_
  refine kEw ⟨hx, hb, hml, hown, hts⟩ (c_X6_pass l D om Ad ot ou Aw Am Ae xt hou cro Lw nm Lm ne Le yt Nt nsd fogd nrd Ld p1 _ (by assumption) (by assumption) (by assumption) hl9) (cwV 1 hts gL_pass_X6_pass rfl rfl rfl (by decide +kernel) ⟨Nat.le_of_ble_eq_true rfl, Nat.le_of_ble_eq_true rfl⟩) hSX hTX hZX hNX hK hN hP hD hS hA (Fr.app (Fr.kp Sb.self) (Fr.app frsTob (Fr.app (Fr.kp Sb.self) (Fr.app frsMul (Fr.app frsLet (Fr.app frsRow (Fr.l (Fr.kp Sb.self)))))))) (Sb.app Sb.self (Sb.app Sb.self (Sb.app Sb.self (Sb.app Sb.self (Sb.app Sb.self (Sb.app Sb.self (Sb.l Sb.self))))))) 6 0 rfl rfl rfl hl.1 (Nat.le_of_ble_eq_true rfl) ⟨Nat.le_of_ble_eq_true rfl, Nat.le_of_ble_eq_true rfl⟩ dL_pass_4 (fun E ce q9 H locs he hP hD hS hce hcv hcl => ?_) (fun H locs hn9 hP hD hS => ?_) rfl
  · rcases xe1 he with ⟨hk9, rfl⟩
    · refine vx_catch (own := RL) (name := "java/lang/IllegalArgumentException") hown [] ⟨0, 9, 12, 13⟩ [] htab (fun z9 h9 => nomatch h9) (by decide) (by decide) (hts (.classLink RL 13 "java/lang/IllegalArgumentException") (List.mem_of_getElem? (i := 1) rfl)) (va_Nw.use rfl hCX.1.2.1) hce hcv hcl ?_
      refine lv_astore_n (lv' := [(3, .ref q9), (0, .ref om), (1, .int p1), (2, .ref oq)]) hx hb dL_pass_12 rfl hl (by decide) rfl (fun ls hl => ?_)
      refine lv_iconst (v := 1) hx hb dL_pass_13 (by decide) ?_
      refine vx_ret (W.widen (k := 1) (n := 6) (Nat.le_of_ble_eq_true rfl) (Nat.le_of_ble_eq_true rfl) ?_)
      exact eLk hx hb hr hlocks dL_pass_14 hS hP hk9 (by decide) rfl
  · have hP : va_P D.1 vwCl ((wMob om Ad ot ou) ++ ((wTob ot Ad Aw Am Ae xt ((hgF Lw Ld nsd fogd nm ne (Lm, Le, hou, cro, Nt, true) p1.toNatClampNeg).2.2.1) ((hgF Lw Ld nsd fogd nm ne (Lm, Le, hou, cro, Nt, true) p1.toNatClampNeg).2.2.2.1)) ++ ((wWays D Aw Lw) ++ ((wMul D Am nm ((hgF Lw Ld nsd fogd nm ne (Lm, Le, hou, cro, Nt, true) p1.toNatClampNeg).1)) ++ ((wLet D Ae ne ((hgF Lw Ld nsd fogd nm ne (Lm, Le, hou, cro, Nt, true) p1.toNatClampNeg).2.1)) ++ ((wRow D xt yt 60 ((hgF Lw Ld nsd fogd nm ne (Lm, Le, hou, cro, Nt, true) p1.toNatClampNeg).2.2.2.2.1)) ++ ((wLand D Ad nsd fogd nrd Ld) ++ (wLar D oq fq)))))))) H := hP
    have hD : va_D A0 ((wMob om Ad ot ou) ++ ((wTob ot Ad Aw Am Ae xt ((hgF Lw Ld nsd fogd nm ne (Lm, Le, hou, cro, Nt, true) p1.toNatClampNeg).2.2.1) ((hgF Lw Ld nsd fogd nm ne (Lm, Le, hou, cro, Nt, true) p1.toNatClampNeg).2.2.2.1)) ++ ((wWays D Aw Lw) ++ ((wMul D Am nm ((hgF Lw Ld nsd fogd nm ne (Lm, Le, hou, cro, Nt, true) p1.toNatClampNeg).1)) ++ ((wLet D Ae ne ((hgF Lw Ld nsd fogd nm ne (Lm, Le, hou, cro, Nt, true) p1.toNatClampNeg).2.1)) ++ ((wRow D xt yt 60 ((hgF Lw Ld nsd fogd nm ne (Lm, Le, hou, cro, Nt, true) p1.toNatClampNeg).2.2.2.2.1)) ++ ((wLand D Ad nsd fogd nrd Ld) ++ (wLar D oq fq)))))))) := hD
    refine W.eq (g2 := F0 m 7 ls [.int (cmN Lw Ld nsd fogd nm ne Lm Le hou cro Nt p1.toNatClampNeg), .int 0, .ref oq]) rfl ?_
    refine lv_i2l hx hb dL_pass_7 rfl ?_
    refine va_last (D := D.1) hx hb hK hP hD hS 54 1 rfl rfl (i := (0 : Int32)) (vpl (by decide)) dL_pass_8 (fun H locs hP hD hS => ?_)
    have hP : va_P D.1 vwCl ((wMob om Ad ot ou) ++ ((wTob ot Ad Aw Am Ae xt ((hgF Lw Ld nsd fogd nm ne (Lm, Le, hou, cro, Nt, true) p1.toNatClampNeg).2.2.1) ((hgF Lw Ld nsd fogd nm ne (Lm, Le, hou, cro, Nt, true) p1.toNatClampNeg).2.2.2.1)) ++ ((wWays D Aw Lw) ++ ((wMul D Am nm ((hgF Lw Ld nsd fogd nm ne (Lm, Le, hou, cro, Nt, true) p1.toNatClampNeg).1)) ++ ((wLet D Ae ne ((hgF Lw Ld nsd fogd nm ne (Lm, Le, hou, cro, Nt, true) p1.toNatClampNeg).2.1)) ++ ((wRow D xt yt 60 ((hgF Lw Ld nsd fogd nm ne (Lm, Le, hou, cro, Nt, true) p1.toNatClampNeg).2.2.2.2.1)) ++ ((wLand D Ad nsd fogd nrd Ld) ++ (wLar D oq (vp_updL fq 0 ((cmN Lw Ld nsd fogd nm ne Lm Le hou cro Nt p1.toNatClampNeg).toInt64)))))))))) H := hP
    have hD : va_D A0 ((wMob om Ad ot ou) ++ ((wTob ot Ad Aw Am Ae xt ((hgF Lw Ld nsd fogd nm ne (Lm, Le, hou, cro, Nt, true) p1.toNatClampNeg).2.2.1) ((hgF Lw Ld nsd fogd nm ne (Lm, Le, hou, cro, Nt, true) p1.toNatClampNeg).2.2.2.1)) ++ ((wWays D Aw Lw) ++ ((wMul D Am nm ((hgF Lw Ld nsd fogd nm ne (Lm, Le, hou, cro, Nt, true) p1.toNatClampNeg).1)) ++ ((wLet D Ae ne ((hgF Lw Ld nsd fogd nm ne (Lm, Le, hou, cro, Nt, true) p1.toNatClampNeg).2.1)) ++ ((wRow D xt yt 60 ((hgF Lw Ld nsd fogd nm ne (Lm, Le, hou, cro, Nt, true) p1.toNatClampNeg).2.2.2.2.1)) ++ ((wLand D Ad nsd fogd nrd Ld) ++ (wLar D oq (vp_updL fq 0 ((cmN Lw Ld nsd fogd nm ne Lm Le hou cro Nt p1.toNatClampNeg).toInt64)))))))))) := hD
    refine lv_goto (tgt := 15) hx hb dL_pass_9 (by decide) ?_
    refine lv_iconst (v := 0) hx hb dL_pass_15 (by decide) ?_
    refine vx_ret (W.widen (k := 1) (n := 6) (Nat.le_of_ble_eq_true rfl) (Nat.le_of_ble_eq_true rfl) ?_)
    exact eL0 z0c hx hb hr hlocks dL_pass_16 hS hP (xe0 hn9 (kPS_b _)) rfl rfl

set_option maxHeartbeats 4000000 in
set_option maxRecDepth 100000 in
theorem c_L_count (l : Launch) (D : GG) (om : Nat) (Ad : Nat → Nat) (ot : Nat) (ou : Nat) (Aw : Nat → Nat) (Am : Nat → Nat) (Ae : Nat → Nat) (xt : Nat) (hou : Int32) (cro : Int32) (Lw : Nat → Nat → Int32) (nm : Nat) (Lm : Nat → Nat → Int32) (ne : Nat) (Le : Nat → Nat → Int32) (yt : Nat) (Nt : Nat → Int32) (nsd : Nat) (fogd : Int32) (nrd : Nat) (Ld : Nat → Nat → Int32) (oq : Nat) (fq : Nat → Int64) (p1 : Int32) (sz : Nat) (he : ne < 2 ^ 31) (hl9 : l.stackTraces = false) : Met l yL_count wsL_count ({ frames := 7, cells := 1, slots := 6, locals := 103 } : Room) (va_Pc [.ref om, .int p1, .ref oq] (wdL D ((wMob om Ad ot ou) ++ ((wTob ot Ad Aw Am Ae xt hou cro) ++ ((wWays D Aw Lw) ++ ((wMul D Am nm Lm) ++ ((wLet D Ae ne Le) ++ ((wRow D xt yt 60 Nt) ++ ((wLand D Ad nsd fogd nrd Ld) ++ (wLar D oq fq)))))))) sz)) (QL D (kCT p1) ((wMob om Ad ot ou) ++ ((wTob ot Ad Aw Am Ae xt hou cro) ++ ((wWays D Aw Lw) ++ ((wMul D Am nm Lm) ++ ((wLet D Ae ne Le) ++ ((wRow D xt yt 60 Nt) ++ ((wLand D Ad nsd fogd nrd Ld) ++ (wLar D oq fq)))))))) (fun z => ((wMob om Ad ot ou) ++ ((wTob ot Ad Aw Am Ae xt hou cro) ++ ((wWays D Aw Lw) ++ ((wMul D Am nm Lm) ++ ((wLet D Ae ne Le) ++ ((wRow D xt yt 60 Nt) ++ ((wLand D Ad nsd fogd nrd Ld) ++ (wLar D oq (vp_updL fq 0 (tcC Le hou cro nsd nrd nm ne p1).toInt64)))))))))) (ownZ ((wMob om Ad ot ou) ++ ((wTob ot Ad Aw Am Ae xt hou cro) ++ ((wWays D Aw Lw) ++ ((wMul D Am nm Lm) ++ ((wLet D Ae ne Le) ++ ((wRow D xt yt 60 Nt) ++ ((wLand D Ad nsd fogd nrd Ld) ++ (wLar D oq fq)))))))) sz)) 1 6 (ownZ ((wMob om Ad ot ou) ++ ((wTob ot Ad Aw Am Ae xt hou cro) ++ ((wWays D Aw Lw) ++ ((wMul D Am nm Lm) ++ ((wLet D Ae ne Le) ++ ((wRow D xt yt 60 Nt) ++ ((wLand D Ad nsd fogd nrd Ld) ++ (wLar D oq fq)))))))) sz) := by
  refine metOf (vx_ofWH (cc := cL_count) (maxL := 4) (ret := (some .int)) (hh := [(0, 9, 12, 21)]) (by decide) rfl ?_)
  intro p e s m args below meth c s₁ B hml hv
  obtain ⟨rfl, hCX, hSX, hTX, hZX, hNX, hsz, hP, hK, hD, hN⟩ := hv
  have hx := B.exec
  have hb := B.bytes
  have hr := B.returns
  have hts := atoms_spec (ws := wsL_count) B.pre
  have hown : s.vm.findClass RL = some m.cls := findClass_of_methodNamed B.named
  have hlocks := B.notSynchronized
  have htab := vx_table (x := yL_count) B (hts (.codeWith yL_count cL_count 4 (some .int) [(0, 9, 12, 21)]) (List.mem_of_getElem? (i := 0) rfl))
  subst hsz
  have hS : va_S (ownZ ((wMob om Ad ot ou) ++ ((wTob ot Ad Aw Am Ae xt hou cro) ++ ((wWays D Aw Lw) ++ ((wMul D Am nm Lm) ++ ((wLet D Ae ne Le) ++ ((wRow D xt yt 60 Nt) ++ ((wLand D Ad nsd fogd nrd Ld) ++ (wLar D oq fq)))))))) s.heap.size) s.heap s.heap [] := va_S.rf
  have hD : va_D (ownZ ((wMob om Ad ot ou) ++ ((wTob ot Ad Aw Am Ae xt hou cro) ++ ((wWays D Aw Lw) ++ ((wMul D Am nm Lm) ++ ((wLet D Ae ne Le) ++ ((wRow D xt yt 60 Nt) ++ ((wLand D Ad nsd fogd nrd Ld) ++ (wLar D oq fq)))))))) s.heap.size) ((wMob om Ad ot ou) ++ ((wTob ot Ad Aw Am Ae xt hou cro) ++ ((wWays D Aw Lw) ++ ((wMul D Am nm Lm) ++ ((wLet D Ae ne Le) ++ ((wRow D xt yt 60 Nt) ++ ((wLand D Ad nsd fogd nrd Ld) ++ (wLar D oq fq)))))))) := toOwnZ hD
  have hA : ∀ q : Nat, s.heap.size ≤ q → ownZ ((wMob om Ad ot ou) ++ ((wTob ot Ad Aw Am Ae xt hou cro) ++ ((wWays D Aw Lw) ++ ((wMul D Am nm Lm) ++ ((wLet D Ae ne Le) ++ ((wRow D xt yt 60 Nt) ++ ((wLand D Ad nsd fogd nrd Ld) ++ (wLar D oq fq)))))))) s.heap.size q := fun _ h => Or.inr h
  generalize hAe : ownZ ((wMob om Ad ot ou) ++ ((wTob ot Ad Aw Am Ae xt hou cro) ++ ((wWays D Aw Lw) ++ ((wMul D Am nm Lm) ++ ((wLet D Ae ne Le) ++ ((wRow D xt yt 60 Nt) ++ ((wLand D Ad nsd fogd nrd Ld) ++ (wLar D oq fq)))))))) s.heap.size = A0 at hD hS hA hZX ⊢
  have hl := lv_entry ([.ref om, .int p1, .ref oq]) (n := 4) (Nat.le_of_ble_eq_true rfl)
  rw [lg_entry_eq]
  generalize (lg_sl ([.ref om, .int p1, .ref oq]) ++ List.replicate (4 - (lg_sl ([.ref om, .int p1, .ref oq])).length) Slot.unset).toArray = ls at hl ⊢
  have hl : lv_has ls 4 [(0, .ref om), (1, .int p1), (2, .ref oq)] := hl
  refine lv_aload_n hx hb dL_count_0 rfl (lv_at hl 2 rfl) ?_
  refine lv_iconst (v := 0) hx hb dL_count_1 (by decide) ?_
  refine lv_aload_n hx hb dL_count_2 rfl (lv_at hl 0 rfl) ?_
  refine lv_iload_n hx hb dL_count_3 rfl (lv_at hl 1 rfl) ?_
  refine kEw ⟨hx, hb, hml, hown, hts⟩ (c_X6_count l D om Ad ot ou Aw Am Ae xt hou cro Lw nm Lm ne Le yt Nt nsd fogd nrd Ld p1 _ (by assumption) hl9) (cwV 1 hts gL_count_X6_count rfl rfl rfl (by decide +kernel) ⟨Nat.le_of_ble_eq_true rfl, Nat.le_of_ble_eq_true rfl⟩) hSX hTX hZX hNX hK hN hP hD hS hA (Fr.kp (Sb.app Sb.self (Sb.app Sb.self (Sb.app Sb.self (Sb.app Sb.self (Sb.app Sb.self (Sb.app Sb.self (Sb.l Sb.self)))))))) (Sb.app Sb.self (Sb.app Sb.self (Sb.app Sb.self (Sb.app Sb.self (Sb.app Sb.self (Sb.app Sb.self (Sb.l Sb.self))))))) 6 0 rfl rfl rfl hl.1 (Nat.le_of_ble_eq_true rfl) ⟨Nat.le_of_ble_eq_true rfl, Nat.le_of_ble_eq_true rfl⟩ dL_count_4 (fun E ce q9 H locs he hP hD hS hce hcv hcl => ?_) (fun H locs hn9 hP hD hS => ?_) rfl
  · rcases xe1 he with ⟨hk9, rfl⟩
    · refine vx_catch (own := RL) (name := "java/lang/IndexOutOfBoundsException") hown [] ⟨0, 9, 12, 21⟩ [] htab (fun z9 h9 => nomatch h9) (by decide) (by decide) (hts (.classLink RL 21 "java/lang/IndexOutOfBoundsException") (List.mem_of_getElem? (i := 1) rfl)) (va_Nw.use rfl hCX.1.1) hce hcv hcl ?_
      refine lv_astore_n (lv' := [(3, .ref q9), (0, .ref om), (1, .int p1), (2, .ref oq)]) hx hb dL_count_12 rfl hl (by decide) rfl (fun ls hl => ?_)
      refine lv_iconst (v := 1) hx hb dL_count_13 (by decide) ?_
      refine vx_ret (W.widen (k := 1) (n := 6) (Nat.le_of_ble_eq_true rfl) (Nat.le_of_ble_eq_true rfl) ?_)
      exact eLk hx hb hr hlocks dL_count_14 hS hP hk9 (by decide) rfl
  · have hP : va_P D.1 vwCl ((wMob om Ad ot ou) ++ ((wTob ot Ad Aw Am Ae xt hou cro) ++ ((wWays D Aw Lw) ++ ((wMul D Am nm Lm) ++ ((wLet D Ae ne Le) ++ ((wRow D xt yt 60 Nt) ++ ((wLand D Ad nsd fogd nrd Ld) ++ (wLar D oq fq)))))))) H := hP
    have hD : va_D A0 ((wMob om Ad ot ou) ++ ((wTob ot Ad Aw Am Ae xt hou cro) ++ ((wWays D Aw Lw) ++ ((wMul D Am nm Lm) ++ ((wLet D Ae ne Le) ++ ((wRow D xt yt 60 Nt) ++ ((wLand D Ad nsd fogd nrd Ld) ++ (wLar D oq fq)))))))) := hD
    refine W.eq (g2 := F0 m 7 ls [.int (tcC Le hou cro nsd nrd nm ne p1), .int 0, .ref oq]) rfl ?_
    refine lv_i2l hx hb dL_count_7 rfl ?_
    refine va_last (D := D.1) hx hb hK hP hD hS 54 1 rfl rfl (i := (0 : Int32)) (vpl (by decide)) dL_count_8 (fun H locs hP hD hS => ?_)
    have hP : va_P D.1 vwCl ((wMob om Ad ot ou) ++ ((wTob ot Ad Aw Am Ae xt hou cro) ++ ((wWays D Aw Lw) ++ ((wMul D Am nm Lm) ++ ((wLet D Ae ne Le) ++ ((wRow D xt yt 60 Nt) ++ ((wLand D Ad nsd fogd nrd Ld) ++ (wLar D oq (vp_updL fq 0 ((tcC Le hou cro nsd nrd nm ne p1).toInt64)))))))))) H := hP
    have hD : va_D A0 ((wMob om Ad ot ou) ++ ((wTob ot Ad Aw Am Ae xt hou cro) ++ ((wWays D Aw Lw) ++ ((wMul D Am nm Lm) ++ ((wLet D Ae ne Le) ++ ((wRow D xt yt 60 Nt) ++ ((wLand D Ad nsd fogd nrd Ld) ++ (wLar D oq (vp_updL fq 0 ((tcC Le hou cro nsd nrd nm ne p1).toInt64)))))))))) := hD
    refine lv_goto (tgt := 15) hx hb dL_count_9 (by decide) ?_
    refine lv_iconst (v := 0) hx hb dL_count_15 (by decide) ?_
    refine vx_ret (W.widen (k := 1) (n := 6) (Nat.le_of_ble_eq_true rfl) (Nat.le_of_ble_eq_true rfl) ?_)
    exact eL0 z0c hx hb hr hlocks dL_count_16 hS hP (xe0 hn9 (kCT_b _)) rfl rfl

set_option maxHeartbeats 4000000 in
set_option maxRecDepth 100000 in
theorem c_L_way (l : Launch) (D : GG) (om : Nat) (Ad : Nat → Nat) (ot : Nat) (ou : Nat) (Aw : Nat → Nat) (Am : Nat → Nat) (Ae : Nat → Nat) (xt : Nat) (hou : Int32) (cro : Int32) (Lw : Nat → Nat → Int32) (nm : Nat) (Lm : Nat → Nat → Int32) (ne : Nat) (Le : Nat → Nat → Int32) (yt : Nat) (Nt : Nat → Int32) (nsd : Nat) (fogd : Int32) (nrd : Nat) (Ld : Nat → Nat → Int32) (oq : Nat) (fq : Nat → Int64) (p1 : Int32) (p2 : Int32) (p3 : Int32) (sz : Nat)  (hl9 : l.stackTraces = false) : Met l yL_way wsL_way ({ frames := 7, cells := 1, slots := 6, locals := 106 } : Room) (va_Pc [.ref om, .int p1, .int p2, .int p3, .ref oq] (wdL D ((wMob om Ad ot ou) ++ ((wTob ot Ad Aw Am Ae xt hou cro) ++ ((wWays D Aw Lw) ++ ((wMul D Am nm Lm) ++ ((wLet D Ae ne Le) ++ ((wRow D xt yt 60 Nt) ++ ((wLand D Ad nsd fogd nrd Ld) ++ (wLar D oq fq)))))))) sz)) (QL D (kWY nsd p1 p2 p3) ((wMob om Ad ot ou) ++ ((wTob ot Ad Aw Am Ae xt hou cro) ++ ((wWays D Aw Lw) ++ ((wMul D Am nm Lm) ++ ((wLet D Ae ne Le) ++ ((wRow D xt yt 60 Nt) ++ ((wLand D Ad nsd fogd nrd Ld) ++ (wLar D oq fq)))))))) (fun z => ((wMob om Ad ot ou) ++ ((wTob ot Ad Aw Am Ae xt hou cro) ++ ((wWays D Aw Lw) ++ ((wMul D Am nm Lm) ++ ((wLet D Ae ne Le) ++ ((wRow D xt yt 60 Nt) ++ ((wLand D Ad nsd fogd nrd Ld) ++ (wLar D oq (vp_updL fq 0 (wyC Lw p1 p2 p3).toInt64)))))))))) (ownZ ((wMob om Ad ot ou) ++ ((wTob ot Ad Aw Am Ae xt hou cro) ++ ((wWays D Aw Lw) ++ ((wMul D Am nm Lm) ++ ((wLet D Ae ne Le) ++ ((wRow D xt yt 60 Nt) ++ ((wLand D Ad nsd fogd nrd Ld) ++ (wLar D oq fq)))))))) sz)) 1 6 (ownZ ((wMob om Ad ot ou) ++ ((wTob ot Ad Aw Am Ae xt hou cro) ++ ((wWays D Aw Lw) ++ ((wMul D Am nm Lm) ++ ((wLet D Ae ne Le) ++ ((wRow D xt yt 60 Nt) ++ ((wLand D Ad nsd fogd nrd Ld) ++ (wLar D oq fq)))))))) sz) := by
  refine metOf (vx_ofWH (cc := cL_way) (maxL := 6) (ret := (some .int)) (hh := [(0, 12, 15, 21)]) (by decide) rfl ?_)
  intro p e s m args below meth c s₁ B hml hv
  obtain ⟨rfl, hCX, hSX, hTX, hZX, hNX, hsz, hP, hK, hD, hN⟩ := hv
  have hx := B.exec
  have hb := B.bytes
  have hr := B.returns
  have hts := atoms_spec (ws := wsL_way) B.pre
  have hown : s.vm.findClass RL = some m.cls := findClass_of_methodNamed B.named
  have hlocks := B.notSynchronized
  have htab := vx_table (x := yL_way) B (hts (.codeWith yL_way cL_way 6 (some .int) [(0, 12, 15, 21)]) (List.mem_of_getElem? (i := 0) rfl))
  subst hsz
  have hS : va_S (ownZ ((wMob om Ad ot ou) ++ ((wTob ot Ad Aw Am Ae xt hou cro) ++ ((wWays D Aw Lw) ++ ((wMul D Am nm Lm) ++ ((wLet D Ae ne Le) ++ ((wRow D xt yt 60 Nt) ++ ((wLand D Ad nsd fogd nrd Ld) ++ (wLar D oq fq)))))))) s.heap.size) s.heap s.heap [] := va_S.rf
  have hD : va_D (ownZ ((wMob om Ad ot ou) ++ ((wTob ot Ad Aw Am Ae xt hou cro) ++ ((wWays D Aw Lw) ++ ((wMul D Am nm Lm) ++ ((wLet D Ae ne Le) ++ ((wRow D xt yt 60 Nt) ++ ((wLand D Ad nsd fogd nrd Ld) ++ (wLar D oq fq)))))))) s.heap.size) ((wMob om Ad ot ou) ++ ((wTob ot Ad Aw Am Ae xt hou cro) ++ ((wWays D Aw Lw) ++ ((wMul D Am nm Lm) ++ ((wLet D Ae ne Le) ++ ((wRow D xt yt 60 Nt) ++ ((wLand D Ad nsd fogd nrd Ld) ++ (wLar D oq fq)))))))) := toOwnZ hD
  have hA : ∀ q : Nat, s.heap.size ≤ q → ownZ ((wMob om Ad ot ou) ++ ((wTob ot Ad Aw Am Ae xt hou cro) ++ ((wWays D Aw Lw) ++ ((wMul D Am nm Lm) ++ ((wLet D Ae ne Le) ++ ((wRow D xt yt 60 Nt) ++ ((wLand D Ad nsd fogd nrd Ld) ++ (wLar D oq fq)))))))) s.heap.size q := fun _ h => Or.inr h
  generalize hAe : ownZ ((wMob om Ad ot ou) ++ ((wTob ot Ad Aw Am Ae xt hou cro) ++ ((wWays D Aw Lw) ++ ((wMul D Am nm Lm) ++ ((wLet D Ae ne Le) ++ ((wRow D xt yt 60 Nt) ++ ((wLand D Ad nsd fogd nrd Ld) ++ (wLar D oq fq)))))))) s.heap.size = A0 at hD hS hA hZX ⊢
  have hl := lv_entry ([.ref om, .int p1, .int p2, .int p3, .ref oq]) (n := 6) (Nat.le_of_ble_eq_true rfl)
  rw [lg_entry_eq]
  generalize (lg_sl ([.ref om, .int p1, .int p2, .int p3, .ref oq]) ++ List.replicate (6 - (lg_sl ([.ref om, .int p1, .int p2, .int p3, .ref oq])).length) Slot.unset).toArray = ls at hl ⊢
  have hl : lv_has ls 6 [(0, .ref om), (1, .int p1), (2, .int p2), (3, .int p3), (4, .ref oq)] := hl
  refine lv_aload hx hb dL_way_0 (lv_at hl 4 rfl) ?_
  refine lv_iconst (v := 0) hx hb dL_way_2 (by decide) ?_
  refine lv_aload_n hx hb dL_way_3 rfl (lv_at hl 0 rfl) ?_
  refine lv_iload_n hx hb dL_way_4 rfl (lv_at hl 1 rfl) ?_
  refine lv_iload_n hx hb dL_way_5 rfl (lv_at hl 2 rfl) ?_
  refine lv_iload_n hx hb dL_way_6 rfl (lv_at hl 3 rfl) ?_
  refine kEw ⟨hx, hb, hml, hown, hts⟩ (c_X6_way l D om Ad ot ou Aw Am Ae xt hou cro Lw nm Lm ne Le yt Nt nsd fogd nrd Ld p1 p2 p3 _ hl9) (cwV 3 hts gL_way_X6_way rfl rfl rfl (by decide +kernel) ⟨Nat.le_of_ble_eq_true rfl, Nat.le_of_ble_eq_true rfl⟩) hSX hTX hZX hNX hK hN hP hD hS hA (Fr.kp (Sb.app Sb.self (Sb.app Sb.self (Sb.app Sb.self (Sb.app Sb.self (Sb.app Sb.self (Sb.app Sb.self (Sb.l Sb.self)))))))) (Sb.app Sb.self (Sb.app Sb.self (Sb.app Sb.self (Sb.app Sb.self (Sb.app Sb.self (Sb.app Sb.self (Sb.l Sb.self))))))) 6 0 rfl rfl rfl hl.1 (Nat.le_of_ble_eq_true rfl) ⟨Nat.le_of_ble_eq_true rfl, Nat.le_of_ble_eq_true rfl⟩ dL_way_7 (fun E ce q9 H locs he hP hD hS hce hcv hcl => ?_) (fun H locs hn9 hP hD hS => ?_) rfl
  · rcases xe1 he with ⟨hk9, rfl⟩
    · refine vx_catch (own := RL) (name := "java/lang/IndexOutOfBoundsException") hown [] ⟨0, 12, 15, 21⟩ [] htab (fun z9 h9 => nomatch h9) (by decide) (by decide) (hts (.classLink RL 21 "java/lang/IndexOutOfBoundsException") (List.mem_of_getElem? (i := 1) rfl)) (va_Nw.use rfl hCX.1.1) hce hcv hcl ?_
      refine lv_astore (lv' := [(5, .ref q9), (0, .ref om), (1, .int p1), (2, .int p2), (3, .int p3), (4, .ref oq)]) hx hb dL_way_15 hl (by decide) rfl (fun ls hl => ?_)
      refine lv_iconst (v := 1) hx hb dL_way_17 (by decide) ?_
      refine vx_ret (W.widen (k := 1) (n := 6) (Nat.le_of_ble_eq_true rfl) (Nat.le_of_ble_eq_true rfl) ?_)
      exact eLk hx hb hr hlocks dL_way_18 hS hP hk9 (by decide) rfl
  · have hP : va_P D.1 vwCl ((wMob om Ad ot ou) ++ ((wTob ot Ad Aw Am Ae xt hou cro) ++ ((wWays D Aw Lw) ++ ((wMul D Am nm Lm) ++ ((wLet D Ae ne Le) ++ ((wRow D xt yt 60 Nt) ++ ((wLand D Ad nsd fogd nrd Ld) ++ (wLar D oq fq)))))))) H := hP
    have hD : va_D A0 ((wMob om Ad ot ou) ++ ((wTob ot Ad Aw Am Ae xt hou cro) ++ ((wWays D Aw Lw) ++ ((wMul D Am nm Lm) ++ ((wLet D Ae ne Le) ++ ((wRow D xt yt 60 Nt) ++ ((wLand D Ad nsd fogd nrd Ld) ++ (wLar D oq fq)))))))) := hD
    refine W.eq (g2 := F0 m 10 ls [.int (wyC Lw p1 p2 p3), .int 0, .ref oq]) rfl ?_
    refine lv_i2l hx hb dL_way_10 rfl ?_
    refine va_last (D := D.1) hx hb hK hP hD hS 54 1 rfl rfl (i := (0 : Int32)) (vpl (by decide)) dL_way_11 (fun H locs hP hD hS => ?_)
    have hP : va_P D.1 vwCl ((wMob om Ad ot ou) ++ ((wTob ot Ad Aw Am Ae xt hou cro) ++ ((wWays D Aw Lw) ++ ((wMul D Am nm Lm) ++ ((wLet D Ae ne Le) ++ ((wRow D xt yt 60 Nt) ++ ((wLand D Ad nsd fogd nrd Ld) ++ (wLar D oq (vp_updL fq 0 ((wyC Lw p1 p2 p3).toInt64)))))))))) H := hP
    have hD : va_D A0 ((wMob om Ad ot ou) ++ ((wTob ot Ad Aw Am Ae xt hou cro) ++ ((wWays D Aw Lw) ++ ((wMul D Am nm Lm) ++ ((wLet D Ae ne Le) ++ ((wRow D xt yt 60 Nt) ++ ((wLand D Ad nsd fogd nrd Ld) ++ (wLar D oq (vp_updL fq 0 ((wyC Lw p1 p2 p3).toInt64)))))))))) := hD
    refine lv_goto (tgt := 19) hx hb dL_way_12 (by decide) ?_
    refine lv_iconst (v := 0) hx hb dL_way_19 (by decide) ?_
    refine vx_ret (W.widen (k := 1) (n := 6) (Nat.le_of_ble_eq_true rfl) (Nat.le_of_ble_eq_true rfl) ?_)
    exact eL0 z0c hx hb hr hlocks dL_way_20 hS hP (xe0 hn9 (kWY_b _ _ _ _)) rfl rfl

set_option maxHeartbeats 4000000 in
set_option maxRecDepth 100000 in
theorem c_L_fire (l : Launch) (D : GG) (om : Nat) (Ad : Nat → Nat) (ot : Nat) (ou : Nat) (Aw : Nat → Nat) (Am : Nat → Nat) (Ae : Nat → Nat) (xt : Nat) (hou : Int32) (cro : Int32) (Lw : Nat → Nat → Int32) (nm : Nat) (Lm : Nat → Nat → Int32) (ne : Nat) (Le : Nat → Nat → Int32) (yt : Nat) (Nt : Nat → Int32) (nsd : Nat) (fogd : Int32) (nrd : Nat) (Ld : Nat → Nat → Int32) (oq : Nat) (fq : Nat → Int64) (p1 : Int32) (p2 : Int32) (sz : Nat) (hns : nsd < 2 ^ 31) (hl9 : l.stackTraces = false) : Met l yL_fire wsL_fire ({ frames := 7, cells := 1, slots := 6, locals := 104 } : Room) (va_Pc [.ref om, .int p1, .int p2, .ref oq] (wdL D ((wMob om Ad ot ou) ++ ((wTob ot Ad Aw Am Ae xt hou cro) ++ ((wWays D Aw Lw) ++ ((wMul D Am nm Lm) ++ ((wLet D Ae ne Le) ++ ((wRow D xt yt 60 Nt) ++ ((wLand D Ad nsd fogd nrd Ld) ++ (wLar D oq fq)))))))) sz)) (QL D (kFI nsd p1 p2) ((wMob om Ad ot ou) ++ ((wTob ot Ad Aw Am Ae xt hou cro) ++ ((wWays D Aw Lw) ++ ((wMul D Am nm Lm) ++ ((wLet D Ae ne Le) ++ ((wRow D xt yt 60 Nt) ++ ((wLand D Ad nsd fogd nrd Ld) ++ (wLar D oq fq)))))))) (fun z => ((wMob om Ad ot ou) ++ ((wTob ot Ad Aw Am Ae xt hou cro) ++ ((wWays D Aw Lw) ++ ((wMul D Am nm Lm) ++ ((wLet D Ae ne Le) ++ ((wRow D xt yt 60 Nt) ++ ((wLand D Ad nsd fogd nrd Ld) ++ (wLar D oq (vp_updL fq 0 (fireL Ld nsd fogd p2 nsd 0 (bW 0 p1)).toInt64)))))))))) (ownZ ((wMob om Ad ot ou) ++ ((wTob ot Ad Aw Am Ae xt hou cro) ++ ((wWays D Aw Lw) ++ ((wMul D Am nm Lm) ++ ((wLet D Ae ne Le) ++ ((wRow D xt yt 60 Nt) ++ ((wLand D Ad nsd fogd nrd Ld) ++ (wLar D oq fq)))))))) sz)) 1 6 (ownZ ((wMob om Ad ot ou) ++ ((wTob ot Ad Aw Am Ae xt hou cro) ++ ((wWays D Aw Lw) ++ ((wMul D Am nm Lm) ++ ((wLet D Ae ne Le) ++ ((wRow D xt yt 60 Nt) ++ ((wLand D Ad nsd fogd nrd Ld) ++ (wLar D oq fq)))))))) sz) := by
  refine metOf (vx_ofWH (cc := cL_fire) (maxL := 5) (ret := (some .int)) (hh := [(0, 10, 13, 21)]) (by decide) rfl ?_)
  intro p e s m args below meth c s₁ B hml hv
  obtain ⟨rfl, hCX, hSX, hTX, hZX, hNX, hsz, hP, hK, hD, hN⟩ := hv
  have hx := B.exec
  have hb := B.bytes
  have hr := B.returns
  have hts := atoms_spec (ws := wsL_fire) B.pre
  have hown : s.vm.findClass RL = some m.cls := findClass_of_methodNamed B.named
  have hlocks := B.notSynchronized
  have htab := vx_table (x := yL_fire) B (hts (.codeWith yL_fire cL_fire 5 (some .int) [(0, 10, 13, 21)]) (List.mem_of_getElem? (i := 0) rfl))
  subst hsz
  have hS : va_S (ownZ ((wMob om Ad ot ou) ++ ((wTob ot Ad Aw Am Ae xt hou cro) ++ ((wWays D Aw Lw) ++ ((wMul D Am nm Lm) ++ ((wLet D Ae ne Le) ++ ((wRow D xt yt 60 Nt) ++ ((wLand D Ad nsd fogd nrd Ld) ++ (wLar D oq fq)))))))) s.heap.size) s.heap s.heap [] := va_S.rf
  have hD : va_D (ownZ ((wMob om Ad ot ou) ++ ((wTob ot Ad Aw Am Ae xt hou cro) ++ ((wWays D Aw Lw) ++ ((wMul D Am nm Lm) ++ ((wLet D Ae ne Le) ++ ((wRow D xt yt 60 Nt) ++ ((wLand D Ad nsd fogd nrd Ld) ++ (wLar D oq fq)))))))) s.heap.size) ((wMob om Ad ot ou) ++ ((wTob ot Ad Aw Am Ae xt hou cro) ++ ((wWays D Aw Lw) ++ ((wMul D Am nm Lm) ++ ((wLet D Ae ne Le) ++ ((wRow D xt yt 60 Nt) ++ ((wLand D Ad nsd fogd nrd Ld) ++ (wLar D oq fq)))))))) := toOwnZ hD
  have hA : ∀ q : Nat, s.heap.size ≤ q → ownZ ((wMob om Ad ot ou) ++ ((wTob ot Ad Aw Am Ae xt hou cro) ++ ((wWays D Aw Lw) ++ ((wMul D Am nm Lm) ++ ((wLet D Ae ne Le) ++ ((wRow D xt yt 60 Nt) ++ ((wLand D Ad nsd fogd nrd Ld) ++ (wLar D oq fq)))))))) s.heap.size q := fun _ h => Or.inr h
  generalize hAe : ownZ ((wMob om Ad ot ou) ++ ((wTob ot Ad Aw Am Ae xt hou cro) ++ ((wWays D Aw Lw) ++ ((wMul D Am nm Lm) ++ ((wLet D Ae ne Le) ++ ((wRow D xt yt 60 Nt) ++ ((wLand D Ad nsd fogd nrd Ld) ++ (wLar D oq fq)))))))) s.heap.size = A0 at hD hS hA hZX ⊢
  have hl := lv_entry ([.ref om, .int p1, .int p2, .ref oq]) (n := 5) (Nat.le_of_ble_eq_true rfl)
  rw [lg_entry_eq]
  generalize (lg_sl ([.ref om, .int p1, .int p2, .ref oq]) ++ List.replicate (5 - (lg_sl ([.ref om, .int p1, .int p2, .ref oq])).length) Slot.unset).toArray = ls at hl ⊢
  have hl : lv_has ls 5 [(0, .ref om), (1, .int p1), (2, .int p2), (3, .ref oq)] := hl
  refine lv_aload_n hx hb dL_fire_0 rfl (lv_at hl 3 rfl) ?_
  refine lv_iconst (v := 0) hx hb dL_fire_1 (by decide) ?_
  refine lv_aload_n hx hb dL_fire_2 rfl (lv_at hl 0 rfl) ?_
  refine lv_iload_n hx hb dL_fire_3 rfl (lv_at hl 1 rfl) ?_
  refine lv_iload_n hx hb dL_fire_4 rfl (lv_at hl 2 rfl) ?_
  refine kEw ⟨hx, hb, hml, hown, hts⟩ (c_X6_fire l D om Ad ot ou Aw Am Ae xt hou cro Lw nm Lm ne Le yt Nt nsd fogd nrd Ld p1 p2 _ (by assumption) hl9) (cwV 2 hts gL_fire_X6_fire rfl rfl rfl (by decide +kernel) ⟨Nat.le_of_ble_eq_true rfl, Nat.le_of_ble_eq_true rfl⟩) hSX hTX hZX hNX hK hN hP hD hS hA (Fr.kp (Sb.app Sb.self (Sb.app Sb.self (Sb.app Sb.self (Sb.app Sb.self (Sb.app Sb.self (Sb.app Sb.self (Sb.l Sb.self)))))))) (Sb.app Sb.self (Sb.app Sb.self (Sb.app Sb.self (Sb.app Sb.self (Sb.app Sb.self (Sb.app Sb.self (Sb.l Sb.self))))))) 6 0 rfl rfl rfl hl.1 (Nat.le_of_ble_eq_true rfl) ⟨Nat.le_of_ble_eq_true rfl, Nat.le_of_ble_eq_true rfl⟩ dL_fire_5 (fun E ce q9 H locs he hP hD hS hce hcv hcl => ?_) (fun H locs hn9 hP hD hS => ?_) rfl
  · rcases xe1 he with ⟨hk9, rfl⟩
    · refine vx_catch (own := RL) (name := "java/lang/IndexOutOfBoundsException") hown [] ⟨0, 10, 13, 21⟩ [] htab (fun z9 h9 => nomatch h9) (by decide) (by decide) (hts (.classLink RL 21 "java/lang/IndexOutOfBoundsException") (List.mem_of_getElem? (i := 1) rfl)) (va_Nw.use rfl hCX.1.1) hce hcv hcl ?_
      refine lv_astore (lv' := [(4, .ref q9), (0, .ref om), (1, .int p1), (2, .int p2), (3, .ref oq)]) hx hb dL_fire_13 hl (by decide) rfl (fun ls hl => ?_)
      refine lv_iconst (v := 1) hx hb dL_fire_15 (by decide) ?_
      refine vx_ret (W.widen (k := 1) (n := 6) (Nat.le_of_ble_eq_true rfl) (Nat.le_of_ble_eq_true rfl) ?_)
      exact eLk hx hb hr hlocks dL_fire_16 hS hP hk9 (by decide) rfl
  · have hP : va_P D.1 vwCl ((wMob om Ad ot ou) ++ ((wTob ot Ad Aw Am Ae xt hou cro) ++ ((wWays D Aw Lw) ++ ((wMul D Am nm Lm) ++ ((wLet D Ae ne Le) ++ ((wRow D xt yt 60 Nt) ++ ((wLand D Ad nsd fogd nrd Ld) ++ (wLar D oq fq)))))))) H := hP
    have hD : va_D A0 ((wMob om Ad ot ou) ++ ((wTob ot Ad Aw Am Ae xt hou cro) ++ ((wWays D Aw Lw) ++ ((wMul D Am nm Lm) ++ ((wLet D Ae ne Le) ++ ((wRow D xt yt 60 Nt) ++ ((wLand D Ad nsd fogd nrd Ld) ++ (wLar D oq fq)))))))) := hD
    refine W.eq (g2 := F0 m 8 ls [.int (fireL Ld nsd fogd p2 nsd 0 (bW 0 p1)), .int 0, .ref oq]) rfl ?_
    refine lv_i2l hx hb dL_fire_8 rfl ?_
    refine va_last (D := D.1) hx hb hK hP hD hS 54 1 rfl rfl (i := (0 : Int32)) (vpl (by decide)) dL_fire_9 (fun H locs hP hD hS => ?_)
    have hP : va_P D.1 vwCl ((wMob om Ad ot ou) ++ ((wTob ot Ad Aw Am Ae xt hou cro) ++ ((wWays D Aw Lw) ++ ((wMul D Am nm Lm) ++ ((wLet D Ae ne Le) ++ ((wRow D xt yt 60 Nt) ++ ((wLand D Ad nsd fogd nrd Ld) ++ (wLar D oq (vp_updL fq 0 ((fireL Ld nsd fogd p2 nsd 0 (bW 0 p1)).toInt64)))))))))) H := hP
    have hD : va_D A0 ((wMob om Ad ot ou) ++ ((wTob ot Ad Aw Am Ae xt hou cro) ++ ((wWays D Aw Lw) ++ ((wMul D Am nm Lm) ++ ((wLet D Ae ne Le) ++ ((wRow D xt yt 60 Nt) ++ ((wLand D Ad nsd fogd nrd Ld) ++ (wLar D oq (vp_updL fq 0 ((fireL Ld nsd fogd p2 nsd 0 (bW 0 p1)).toInt64)))))))))) := hD
    refine lv_goto (tgt := 17) hx hb dL_fire_10 (by decide) ?_
    refine lv_iconst (v := 0) hx hb dL_fire_17 (by decide) ?_
    refine vx_ret (W.widen (k := 1) (n := 6) (Nat.le_of_ble_eq_true rfl) (Nat.le_of_ble_eq_true rfl) ?_)
    exact eL0 z0c hx hb hr hlocks dL_fire_18 hS hP (xe0 hn9 (kFI_b _ _ _)) rfl rfl
