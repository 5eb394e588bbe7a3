/-! the law's wrappers: what they need beside, what they leave -/
abbrev wLar (D : GG) (o : Nat) (f : Nat → Int64) : va_W := [(o, .inl (D.2 1, 1, .inr (.inl f)))]
theorem frsLar {D : GG} {o : Nat} {f g : Nat → Int64} : Fr (wLar D o f) (wLar D o f) (wLar D o g) (wLar D o g) := Fr.self rfl
def z0c : Zc := (fun _ _ => 0, 0, fun _ _ => 0, 0, fun _ _ => 0, 0, 0, fun _ => 0)
def CX (U : State) : Prop := (va_Nw (.castable "java/lang/IndexOutOfBoundsException" "java/lang/IndexOutOfBoundsException") U ∧ va_Nw (.castable "java/lang/IllegalArgumentException" "java/lang/IllegalArgumentException") U ∧ va_Nw (.castable "java/lang/IllegalStateException" "java/lang/IllegalStateException") U) ∧ va_Nc "java/lang/IllegalStateException" "java/lang/IllegalArgumentException" U ∧ va_Nc "java/lang/IllegalArgumentException" "java/lang/IndexOutOfBoundsException" U ∧ va_Nc "java/lang/IllegalStateException" "java/lang/IndexOutOfBoundsException" U
theorem CX.warm {s U : State} (hW : s.WarmedH U.vm) (h : CX s) : CX U := ⟨⟨va_Nw.warmC hW h.1.1, va_Nw.warmC hW h.1.2.1, va_Nw.warmC hW h.1.2.2⟩, va_Nc.moved hW.alike h.2.1, va_Nc.moved hW.alike h.2.2.1, va_Nc.moved hW.alike h.2.2.2⟩
theorem CX.same {s U : State} (hv : s.vm = U.vm) (h : CX s) : CX U := ⟨⟨va_Nw.same rfl hv h.1.1, va_Nw.same rfl hv h.1.2.1, va_Nw.same rfl hv h.1.2.2⟩, va_Nc.moved (by rw [hv]; exact Vm.Alike.refl U.vm) h.2.1, va_Nc.moved (by rw [hv]; exact Vm.Alike.refl U.vm) h.2.2.1, va_Nc.moved (by rw [hv]; exact Vm.Alike.refl U.vm) h.2.2.2⟩
def wdL (D : GG) (w : va_W) (sz : Nat) (U : State) : Prop := CX U ∧ wdE D w sz U
theorem wdL_blind {D : GG} {w : va_W} {sz : Nat} {av : List Value} : FrameBlind (va_Pc av (wdL D w sz)) := fun a U g mk h => by
  obtain ⟨h0, hc, he⟩ := h
  have hq := wdE_blind (D := D) (w := w) (sz := sz) (av := av) a U g mk ⟨h0, he⟩
  exact ⟨h0, CX.same (s := U) (U := U.calling g mk a) rfl hc, hq.2⟩
theorem xe0 {l : List String} {k : Nat} (h : xe l k = none) (hk : k ≤ l.length) : k = 0 := by
  cases k with
  | zero => rfl
  | succ j =>
    have h1 : l[j]? = none := h
    rw [List.getElem?_eq_none_iff] at h1
    omega
theorem xe1 {a E : String} {k : Nat} (h : xe [a] k = some E) : k = 1 ∧ E = a := by
  match k, h with
  | 0, h => cases h
  | 1, h => exact ⟨rfl, (Option.some.inj h).symm⟩
  | k + 2, h => cases h
theorem xe2 {a b E : String} {k : Nat} (h : xe [a, b] k = some E) : k = 1 ∧ E = a ∨ k = 2 ∧ E = b := by
  match k, h with
  | 0, h => cases h
  | 1, h => exact Or.inl ⟨rfl, (Option.some.inj h).symm⟩
  | 2, h => exact Or.inr ⟨rfl, (Option.some.inj h).symm⟩
  | k + 3, h => cases h
theorem xe3 {a b c E : String} {k : Nat} (h : xe [a, b, c] k = some E) : k = 1 ∧ E = a ∨ k = 2 ∧ E = b ∨ k = 3 ∧ E = c := by
  match k, h with
  | 0, h => cases h
  | 1, h => exact Or.inl ⟨rfl, (Option.some.inj h).symm⟩
  | 2, h => exact Or.inr (Or.inl ⟨rfl, (Option.some.inj h).symm⟩)
  | 3, h => exact Or.inr (Or.inr ⟨rfl, (Option.some.inj h).symm⟩)
  | k + 4, h => cases h
theorem kAS_b (ns : Nat) (p : Int32) : kAS ns p ≤ 2 := by
  unfold kAS
  repeat' split
  all_goals omega
theorem kSS_b (ns : Nat) (a b : Int32) : kSS ns a b ≤ 2 := by
  unfold kSS
  repeat' split
  all_goals omega
theorem kSF_b (ns : Nat) (a : Int32) : kSF ns a ≤ 1 := by
  unfold kSF
  repeat' split
  all_goals omega
theorem kBD_b (ns nr : Nat) (a b c : Int32) : kBD ns nr a b c ≤ 3 := by
  unfold kBD
  repeat' split
  all_goals omega
theorem kAM_b (nr nm : Nat) (a b : Int32) : kAM nr nm a b ≤ 3 := by
  unfold kAM
  repeat' split
  all_goals omega
theorem kTL_b (n : Nat) (mx s w : Int32) : kTL n mx s w ≤ 1 := by
  unfold kTL
  repeat' split
  all_goals omega
theorem kPO_b (ns ne : Nat) (a b c : Int32) : kPO ns ne a b c ≤ 3 := by
  unfold kPO
  repeat' split
  all_goals omega
theorem kRC_b (L : Fm) (ne : Nat) (l : Int32) : kRC L ne l ≤ 2 := by
  unfold kRC
  repeat' split
  all_goals omega
theorem kPS_b (h : Int32) : kPS h ≤ 1 := by
  unfold kPS
  repeat' split
  all_goals omega
theorem kCT_b (w : Int32) : kCT w ≤ 1 := by
  unfold kCT
  repeat' split
  all_goals omega
theorem kWY_b (ns : Nat) (a b w : Int32) : kWY ns a b w ≤ 1 := by
  unfold kWY
  repeat' split
  all_goals omega
theorem kFI_b (ns : Nat) (a b : Int32) : kFI ns a b ≤ 1 := by
  unfold kFI
  repeat' split
  all_goals omega
theorem kFO_b (ne : Nat) (l h : Int32) : kFO ne l h ≤ 2 := by
  unfold kFO
  repeat' split
  all_goals omega
theorem kAR_b (ne : Nat) (l : Int32) : kAR ne l ≤ 1 := by
  unfold kAR
  repeat' split
  all_goals omega
theorem kAD_b (nm : Nat) (h : Int32) : kAD nm h ≤ 2 := by
  unfold kAD
  repeat' split
  all_goals omega
def QL (D : GG) (k : Nat) (w0 : va_W) (w1 : Zc → va_W) (A : Nat → Prop) : Array Value → State → Outcome → State → Prop := fun _ st o t =>
  (k = 0 ∧ ∃ z : Zc, o = .returned (some (.int 0)) ∧ va_P D.1 vwCl (w1 z) t.heap ∧ va_F A st t) ∨ (¬ k = 0 ∧ o = .returned (some (.int (nI k))) ∧ va_P D.1 vwCl w0 t.heap ∧ va_F A st t)
theorem metOf {l : Launch} {y : MethodName} {ws : List Cond} {rm : Room} {Pc : Array Value → State → Prop} {Qc : Array Value → State → Outcome → State → Prop} {mc ms : Nat} {free : Addr → Prop} (h : vx_Met l y ws rm Pc Qc (fun _ _ _ => False) mc ms free) : Met l y ws rm Pc Qc mc ms free := by
  intro p e ha hc hk s m args below hf hfit hpre hP
  obtain ⟨t, o, h1, h2, h3, h4⟩ := h p e ha hc hk s m args below hf hfit hpre hP
  refine ⟨t, o, h1, h2, h3, ?_⟩
  rcases h4 with h5 | ⟨q, -, E, ce, L, h6, -⟩
  · exact h5
  · exact h6.elim
section KitL
variable {p : Program} {l : Launch} {e : Env} {R : Room} {s : State} {m : MethodId} {args : Array Value} {below : List Frame} {meth : Method} {c : Code} {H : Heap} {locs : List Loc} {cells slots : Nat} {Q : State → Prop}
variable {pc : Nat} {ls : Array Slot} {rest st0 : List Value} {a : Array Value} {A0 : Nat → Prop} {H0 : Heap} {cc bytes : ByteArray} {nL n index maxL mc ms k j : Nat} {Ts wsl : List Cond} {ownC C : String} {y : MethodName} {ret : Option FieldType} {rm : Room} {D : GG} {ws wc w1 ws' w0 : va_W} {b : Addr} {As : List Value} {ov : Option Value} {er : Option String}
theorem eLk {w2 : Zc → va_W} {x : Int32} (hx : p.tables.exec = Jvm.exec) (hb : c.code = cc) (hr : meth.sig.returnType = some .int) (hlocks : meth.locks = false) (hdg : decode cc pc = .ok (.ireturn, 1)) (hS : va_S A0 s.heap H locs) (hP : va_P D.1 vwCl w0 H) (hk : k = j) (hj : ¬ j = 0) (hv : x = nI j) : W p l e R s m args below meth c H locs cells slots (MQ below (QL D k w0 w2 A0) args s cells slots A0) (F0 m pc ls [.int x]) := by
  subst hk
  subst hv
  exact W.iret hx hb hr (fun t ht hW => Or.inr ⟨hj, rfl, by rw [ht]; exact hP, hS.F ht⟩) hS.2.2 hdg hlocks
theorem eL0 {w2 : Zc → va_W} {x : Int32} (z : Zc) (hx : p.tables.exec = Jvm.exec) (hb : c.code = cc) (hr : meth.sig.returnType = some .int) (hlocks : meth.locks = false) (hdg : decode cc pc = .ok (.ireturn, 1)) (hS : va_S A0 s.heap H locs) (hP : va_P D.1 vwCl ws' H) (hk : k = 0) (hv : x = 0) (hw : ws' = w2 z) : W p l e R s m args below meth c H locs cells slots (MQ below (QL D k w0 w2 A0) args s cells slots A0) (F0 m pc ls [.int x]) := by
  subst hw
  subst hv
  exact W.iret hx hb hr (fun t ht hW => Or.inl ⟨hk, z, rfl, by rw [ht]; exact hP, hS.F ht⟩) hS.2.2 hdg hlocks
theorem ownZ_sub {A0 : Nat → Prop} {ws wc : va_W} {H0 H : Heap} (hD : va_D A0 ws) (hs : Sb ws wc) (hA : ∀ q, H0.size ≤ q → A0 q) (hz : H0.size ≤ H.size) : ∀ q, ownZ wc H.size q → A0 q := fun q h => h.elim (own_sub hD hs q) (fun z => hA q (Nat.le_trans hz z))
theorem s_keep {A0 : Nat → Prop} {ws wc : va_W} {H0 H H1 : Heap} {locs L : List Loc} (hD : va_D A0 ws) (hs : Sb ws wc) (hA : ∀ q, H0.size ≤ q → A0 q) (hS : va_S A0 H0 H locs) (hz : H.size ≤ H1.size) (hk : ∀ q : Nat, q < H.size → ¬ ownZ wc H.size q → H1[q]? = H[q]?) (hL : ∀ q ∈ L, ownZ wc H.size q.base) : va_S A0 H0 H1 (locs ++ L) :=
  ⟨Nat.le_trans hS.1 hz, fun q h1 h2 => by rw [hk q (Nat.lt_of_lt_of_le h1 hS.1) (fun z => h2 (ownZ_sub hD hs hA hS.1 q z))]; exact hS.2.1 q h1 h2, fun q hq => by
    rcases List.mem_append.mp hq with h | h
    · exact hS.2.2 q h
    · exact ownZ_sub hD hs hA hS.1 _ (hL q h)⟩
theorem own_lt {wc : va_W} {H : Heap} {q : Nat} (h : ownZ wc H.size q) (hq : q < H.size) : own wc q := h.elim id (fun z => absurd hq (Nat.not_lt.mpr z))
theorem kEt {w1 ws' : Zc → va_W} (S : CallFix p m c cc nL s args Ts ownC) (hM : vx_Met l y wsl rm (va_Pc (.ref b :: As) (wdE D wc H.size)) (QE er (QT D ov w1 (ownZ wc H.size))) (XK D er wc (ownZ wc H.size)) mc ms (ownZ wc H.size)) (cw : CallW R s args ownC C index y bytes maxL ret wsl rm mc ms n)
    (hSX : SX s) (hTX : TX s) (hZX : ZX A0 s s.heap) (hNX : NX s) (hK : va_K D.1 vwCl (tys D) s) (hN : NW s) (hP : va_P D.1 vwCl ws H) (hD : va_D A0 ws) (hS : va_S A0 s.heap H locs) (hA : ∀ q, s.heap.size ≤ q → A0 q) (hf : ∀ z, Fr ws wc (w1 z) (ws' z)) (hs : Sb ws wc)
    (ci : Nat) {T : u_T} {N : Nat} {fs : List Value} (q0 : Nat) (hc : vwCl[ci]? = some (C, T, N)) (h0 : wc[q0]? = some (b, .inr (ci, fs))) (hlen : As.length = n) (hsize : ls.size = nL) (hW : (rest.map fun v => v.category).sum ≤ 8) (hro : cells + mc ≤ R.cells ∧ slots + ms ≤ R.slots) (hdg : decode cc pc = .ok (.invokevirtual index, 3))
    (kx : ∀ (E : String) (ce : Cell) (q9 : Addr) (H1 : Heap) (locs1 : List Loc), er = some E → va_P D.1 vwCl ws H1 → va_D A0 ws → va_S A0 s.heap H1 locs1 → H1[q9]? = some ce → ce.vm = .none → s.vm.findClass E = some ce.cls → vx_W p l e R s m args below meth c H1 locs1 (cells + mc) (slots + ms) Q (F0 m pc ls rest) q9)
    (kk : ∀ (z : Zc) (H1 : Heap) (locs1 : List Loc), er = none → va_P D.1 vwCl (ws' z) H1 → va_D A0 (ws' z) → va_S A0 s.heap H1 locs1 → W p l e R s m args below meth c H1 locs1 (cells + mc) (slots + ms) Q (F0 m (pc + 3) ls (ov.toList ++ rest))) (hst : st0 = As.reverse ++ .ref b :: rest) : W p l e R s m args below meth c H locs cells slots Q (F0 m pc ls st0) := by
  subst hst
  intro T hT X
  rcases vx_runV (g := F0 m pc ls (As.reverse ++ .ref b :: rest)) S hM cw (preVE hSX hTX hZX hNX hK hN hP hD hS hA hs ci q0 hc h0) rfl hlen hsize rfl (lv_room hW) hdg hro T hT X with ⟨v', st₀, t, T', L, h0', X', hL, e1, e2, ⟨hn, z, hv, hP1, hz, hk⟩, st⟩ | ⟨q, st₀, t, T', L, E, ce, h0', X', hL, e1, e2, ⟨he, hP1, hz, hk⟩, hce, hcv, hcl, st⟩
  · cases hv
    rw [h0', ← e1] at hz hk
    rw [← e1] at hP1
    obtain ⟨j1, j2⟩ := jn hP hD (hf z) (H1 := T'.heap) (fun q g1 g2 => hk q g1 (fun h => g2 (own_lt h g1))) hP1
    obtain ⟨t2, a1, b1⟩ := kk z T'.heap (locs ++ L) hn j1 j2 (s_keep hD hs hA hS hz hk hL) T' rfl X'
    exact ⟨t2, st t2 a1, b1⟩
  · rw [h0', ← e1] at hz hk
    rw [← e1] at hP1 hce
    obtain ⟨j1, j2⟩ := jn hP hD (Fr.kp hs) (H1 := T'.heap) (fun q g1 g2 => hk q g1 (fun h => g2 (own_lt h g1))) hP1
    obtain ⟨t2, a1, b1⟩ := kx E ce q T'.heap (locs ++ L) he j1 j2 (s_keep hD hs hA hS hz hk hL) hce hcv hcl T' rfl X'
    exact ⟨t2, st.trans a1, b1⟩
theorem met_qt {Pc : Array Value → State → Prop} {XC : String → State → State → Prop} {A : Nat → Prop} (hM : vx_Met l y wsl rm Pc (QE er (QW D ov w1 A)) XC mc ms A) : vx_Met l y wsl rm Pc (QE er (QT D ov (fun _ => w1) A)) XC mc ms A := by
  intro p e ha hc hk s m args below hf hfit hpre hP
  obtain ⟨t, o, h1, h2, h3, h4⟩ := hM p e ha hc hk s m args below hf hfit hpre hP
  refine ⟨t, o, h1, h2, h3, ?_⟩
  rcases h4 with ⟨⟨h5, h6⟩, h7⟩ | h5
  · exact Or.inl ⟨⟨h5, z0c, h6⟩, h7⟩
  · exact Or.inr h5
theorem kEw (S : CallFix p m c cc nL s args Ts ownC) (hM : vx_Met l y wsl rm (va_Pc (.ref b :: As) (wdE D wc H.size)) (QE er (QW D ov w1 (ownZ wc H.size))) (XK D er wc (ownZ wc H.size)) mc ms (ownZ wc H.size)) (cw : CallW R s args ownC C index y bytes maxL ret wsl rm mc ms n)
    (hSX : SX s) (hTX : TX s) (hZX : ZX A0 s s.heap) (hNX : NX s) (hK : va_K D.1 vwCl (tys D) s) (hN : NW s) (hP : va_P D.1 vwCl ws H) (hD : va_D A0 ws) (hS : va_S A0 s.heap H locs) (hA : ∀ q, s.heap.size ≤ q → A0 q) (hf : Fr ws wc w1 ws') (hs : Sb ws wc)
    (ci : Nat) {T : u_T} {N : Nat} {fs : List Value} (q0 : Nat) (hc : vwCl[ci]? = some (C, T, N)) (h0 : wc[q0]? = some (b, .inr (ci, fs))) (hlen : As.length = n) (hsize : ls.size = nL) (hW : (rest.map fun v => v.category).sum ≤ 8) (hro : cells + mc ≤ R.cells ∧ slots + ms ≤ R.slots) (hdg : decode cc pc = .ok (.invokevirtual index, 3))
    (kx : ∀ (E : String) (ce : Cell) (q9 : Addr) (H1 : Heap) (locs1 : List Loc), er = some E → va_P D.1 vwCl ws H1 → va_D A0 ws → va_S A0 s.heap H1 locs1 → H1[q9]? = some ce → ce.vm = .none → s.vm.findClass E = some ce.cls → vx_W p l e R s m args below meth c H1 locs1 (cells + mc) (slots + ms) Q (F0 m pc ls rest) q9)
    (kk : ∀ (H1 : Heap) (locs1 : List Loc), er = none → va_P D.1 vwCl ws' H1 → va_D A0 ws' → va_S A0 s.heap H1 locs1 → W p l e R s m args below meth c H1 locs1 (cells + mc) (slots + ms) Q (F0 m (pc + 3) ls (ov.toList ++ rest))) (hst : st0 = As.reverse ++ .ref b :: rest) : W p l e R s m args below meth c H locs cells slots Q (F0 m pc ls st0) :=
  kEt (w1 := fun _ => w1) (ws' := fun _ => ws') S (met_qt hM) cw hSX hTX hZX hNX hK hN hP hD hS hA (fun _ => hf) hs ci q0 hc h0 hlen hsize hW hro hdg kx (fun _ => kk) hst
theorem preSL (hCX : CX s) (hSX : SX s) (hTX : TX s) (hZX : ZX A0 s s.heap) (hNX : NX s) (hK : va_K D.1 vwCl (tys D) s) (hN : NW s) (hP : va_P D.1 vwCl ws H) (hD : va_D A0 ws) (hS : va_S A0 s.heap H locs) (hA : ∀ q, s.heap.size ≤ q → A0 q) (hs : Sb ws wc) : PreS s H (va_Pc As (wdL D wc H.size)) As :=
  ⟨wdL_blind, fun U hU hW => ⟨rfl, CX.warm hW hCX, SX.warm hW hSX, TX.warm hW hTX, by
    rw [hU]
    exact ZX.moved hW.alike ((hZX.kept (fun a h1 h2 => hS.2.1 a h1 h2)).narrow (ownZ_sub hD hs hA hS.1)),
    NX.warm hW hNX, by rw [hU], by rw [hU]; exact sP hs hP, va_K.moved hW.alike hK, (sD hs hD).weaken (fun _ _ _ _ => trivial), NW.warm hW hN⟩⟩
theorem kSL {hh : List (Nat × Nat × Nat × Nat)} {w1 ws' : Zc → va_W} (S : CallFix p m c cc nL s args Ts ownC) (hM : Met l y wsl rm (va_Pc As (wdL D wc H.size)) (QL D k wc w1 (ownZ wc H.size)) mc ms (ownZ wc H.size)) (cw : vx_CSW R s args ownC index y bytes maxL ret hh wsl rm mc ms n)
    (hCX : CX s) (hSX : SX s) (hTX : TX s) (hZX : ZX A0 s s.heap) (hNX : NX s) (hK : va_K D.1 vwCl (tys D) s) (hN : NW s) (hP : va_P D.1 vwCl ws H) (hD : va_D A0 ws) (hS : va_S A0 s.heap H locs) (hA : ∀ q, s.heap.size ≤ q → A0 q) (hf : ∀ z, Fr ws wc (w1 z) (ws' z)) (hs : Sb ws wc)
    (hlen : As.length = n) (hsize : ls.size = nL) (hW : (rest.map fun v => v.category).sum ≤ 8) (hro : cells + mc ≤ R.cells ∧ slots + ms ≤ R.slots) (hdg : decode cc pc = .ok (.invokestatic index, 3))
    (kx : ∀ (H1 : Heap) (locs1 : List Loc), ¬ k = 0 → va_P D.1 vwCl ws H1 → va_D A0 ws → va_S A0 s.heap H1 locs1 → W p l e R s m args below meth c H1 locs1 (cells + mc) (slots + ms) Q (F0 m (pc + 3) ls (.int (nI k) :: rest)))
    (kk : ∀ (z : Zc) (H1 : Heap) (locs1 : List Loc), k = 0 → va_P D.1 vwCl (ws' z) H1 → va_D A0 (ws' z) → va_S A0 s.heap H1 locs1 → W p l e R s m args below meth c H1 locs1 (cells + mc) (slots + ms) Q (F0 m (pc + 3) ls (.int 0 :: rest))) (hst : st0 = As.reverse ++ rest) : W p l e R s m args below meth c H locs cells slots Q (F0 m pc ls st0) := by
  subst hst
  intro T hT X
  obtain ⟨v', st₀, t, T', L, h0', X', hL, e1, e2, hq, st⟩ := vx_runSW (g := F0 m pc ls (As.reverse ++ rest)) S hM cw (preSL hCX hSX hTX hZX hNX hK hN hP hD hS hA hs) rfl hlen hsize rfl (lv_room hW) hdg hro T hT X
  rcases hq with ⟨hk0, z, hv, hP1, hz, hk⟩ | ⟨hk0, hv, hP1, hz, hk⟩
  · cases hv
    rw [h0', ← e1] at hz hk
    rw [← e1] at hP1
    obtain ⟨j1, j2⟩ := jn hP hD (hf z) (H1 := T'.heap) (fun q g1 g2 => hk q g1 (fun h => g2 (own_lt h g1))) hP1
    obtain ⟨t2, a1, b1⟩ := kk z T'.heap (locs ++ L) hk0 j1 j2 (s_keep hD hs hA hS hz hk hL) T' rfl X'
    exact ⟨t2, st t2 a1, b1⟩
  · cases hv
    rw [h0', ← e1] at hz hk
    rw [← e1] at hP1
    obtain ⟨j1, j2⟩ := jn hP hD (Fr.kp hs) (H1 := T'.heap) (fun q g1 g2 => hk q g1 (fun h => g2 (own_lt h g1))) hP1
    obtain ⟨t2, a1, b1⟩ := kx T'.heap (locs ++ L) hk0 j1 j2 (s_keep hD hs hA hS hz hk hL) T' rfl X'
    exact ⟨t2, st t2 a1, b1⟩
end KitL
