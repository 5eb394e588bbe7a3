/-! the reader's words: worlds as lists, calls as rows; all of it mine -/
abbrev GG : Type := va_G × (Nat → ClassId)
abbrev tys (D : GG) : List (ClassId × FieldType) := [(D.2 0, .int), (D.2 1, .long), (D.2 2, .array .int)]
def rg (n : Nat) (f : Nat → Int32) (i : Int32) : Int32 := if i < 0 ∨ n ≤ i.toNatClampNeg then 0 else f i.toNatClampNeg
def rs (n : Nat) (f : Nat → Int32) (i v : Int32) : Nat → Int32 := if i < 0 ∨ n ≤ i.toNatClampNeg then f else upd f i.toNatClampNeg v
def sr (L : Nat → Nat → Int32) (r : Nat) (g : Nat → Int32) : Nat → Nat → Int32 := fun a => cond (Nat.beq a r) g (L a)
def z2 (b : Bool) : Int32 := cond b 1 0
theorem z2_0 {b : Bool} : z2 b = 0 ↔ b = false := by cases b <;> decide
theorem z2_1 {b : Bool} : z2 b = 1 ↔ b = true := by cases b <;> decide
theorem sr_s (L : Nat → Nat → Int32) (r : Nat) (g : Nat → Int32) : sr L r g r = g := by simp [sr]
theorem sr_n {L : Nat → Nat → Int32} {r a : Nat} {g : Nat → Int32} (h : a ≠ r) : sr L r g a = L a := by
  have h1 : Nat.beq a r = false := by
    cases e : Nat.beq a r with
    | false => rfl
    | true => exact absurd (Nat.eq_of_beq_eq_true e) h
  simp [sr, h1]
/-- the words of nest mates -/
def nwF : List (String × Nat × String × String × String) := [("MountainPost", 109, "MountainPost$Traffic", "mules", "LMountainPost$Mules;"), ("MountainPost", 113, "MountainPost$Mules", "number", "I"), ("MountainPost", 120, "MountainPost$Land", "endsB", "LMountainPost$Row;"), ("MountainPost", 123, "MountainPost$Land", "endsA", "LMountainPost$Row;"), ("MountainPost", 146, "MountainPost$Traffic", "letters", "LMountainPost$Letters;"), ("MountainPost", 150, "MountainPost$Letters", "number", "I"), ("MountainPost", 155, "MountainPost$Traffic", "hour", "I"), ("MountainPost", 175, "MountainPost$Letters", "froms", "LMountainPost$Row;"), ("MountainPost", 178, "MountainPost$Letters", "knowers", "LMountainPost$Row;"), ("MountainPost", 205, "MountainPost$Traffic", "ways", "LMountainPost$Ways;"), ("MountainPost", 227, "MountainPost$Letters", "states", "LMountainPost$Row;"), ("MountainPost", 230, "MountainPost$Letters", "hoursEnded", "LMountainPost$Row;"), ("MountainPost", 235, "MountainPost$Letters", "hoursPosted", "LMountainPost$Row;"), ("MountainPost", 242, "MountainPost$Land", "heights", "LMountainPost$Row;"), ("MountainPost", 264, "MountainPost$Mules", "roads", "LMountainPost$Row;"), ("MountainPost", 267, "MountainPost$Mules", "loads", "LMountainPost$Row;"), ("MountainPost", 270, "MountainPost$Mules", "places", "LMountainPost$Row;"), ("MountainPost", 273, "MountainPost$Mules", "hoursLeft", "LMountainPost$Row;"), ("MountainPost", 279, "MountainPost$Mules", "hoursWalked", "LMountainPost$Row;"), ("MountainPost", 282, "MountainPost$Letters", "tos", "LMountainPost$Row;"), ("MountainPost", 285, "MountainPost$Letters", "urgencies", "LMountainPost$Row;"), ("MountainPost", 288, "MountainPost$Letters", "places", "LMountainPost$Row;"), ("MountainPost", 289, "MountainPost$Letters", "carriers", "LMountainPost$Row;"), ("MountainPost", 292, "MountainPost$Letters", "turned", "LMountainPost$Row;"), ("MountainPost", 298, "MountainPost$Traffic", "crosses", "I"), ("MountainPost", 39, "MountainPost$Land", "stationCount", "I"), ("MountainPost", 67, "MountainPost$Land", "sights", "LMountainPost$Row;"), ("MountainPost", 81, "MountainPost$Land", "fog", "I"), ("MountainPost", 93, "MountainPost$Land", "roadCount", "I"), ("MountainPost$Traffic", 103, "MountainPost$Letters", "knowers", "LMountainPost$Row;"), ("MountainPost$Traffic", 111, "MountainPost$Letters", "states", "LMountainPost$Row;"), ("MountainPost$Traffic", 114, "MountainPost$Letters", "turned", "LMountainPost$Row;"), ("MountainPost$Traffic", 117, "MountainPost$Letters", "places", "LMountainPost$Row;"), ("MountainPost$Traffic", 130, "MountainPost$Mules", "roads", "LMountainPost$Row;"), ("MountainPost$Traffic", 133, "MountainPost$Mules", "loads", "LMountainPost$Row;"), ("MountainPost$Traffic", 136, "MountainPost$Letters", "order", "LMountainPost$Row;"), ("MountainPost$Traffic", 167, "MountainPost$Letters", "carriers", "LMountainPost$Row;"), ("MountainPost$Traffic", 61, "MountainPost$Mules", "number", "I"), ("MountainPost$Traffic", 68, "MountainPost$Mules", "hoursLeft", "LMountainPost$Row;"), ("MountainPost$Traffic", 81, "MountainPost$Mules", "hoursWalked", "LMountainPost$Row;"), ("MountainPost$Traffic", 88, "MountainPost$Letters", "number", "I"), ("MountainPost$Traffic", 93, "MountainPost$Mules", "places", "LMountainPost$Row;"), ("MountainPost$Ways", 32, "MountainPost$Land", "roadCount", "I"), ("MountainPost$Ways", 43, "MountainPost$Land", "endsA", "LMountainPost$Row;"), ("MountainPost$Ways", 46, "MountainPost$Land", "endsB", "LMountainPost$Row;"), ("MountainPost$Ways", 57, "MountainPost$Land", "stationCount", "I")]
def nwM : List (String × Nat × MethodName) := [("MountainPost", 9, ⟨"MountainPost$Land", "<init>", "()V"⟩), ("MountainPost$Land", 44, ⟨"MountainPost", "with", "(II)I"⟩), ("MountainPost$Land", 48, ⟨"MountainPost", "without", "(II)I"⟩), ("MountainPost$Land", 59, ⟨"MountainPost", "has", "(II)Z"⟩), ("MountainPost$Traffic", 118, ⟨"MountainPost", "has", "(II)Z"⟩), ("MountainPost$Traffic", 20, ⟨"MountainPost$Mules", "<init>", "()V"⟩), ("MountainPost$Traffic", 27, ⟨"MountainPost$Letters", "<init>", "()V"⟩)]
def NW (U : State) : Prop := (∀ q ∈ nwF, va_Nw (.fieldLinkNest q.1 q.2.1 q.2.2.1 q.2.2.2.1 q.2.2.2.2 "MountainPost") U) ∧ ∀ q ∈ nwM, va_Nw (.methodLinkNest q.1 q.2.1 q.2.2 "MountainPost") U
theorem NW.warm {s U : State} (hW : s.WarmedH U.vm) (h : NW s) : NW U := ⟨fun q hq => va_Nw.warmF hW (h.1 q hq), fun q hq => va_Nw.warmM hW (h.2 q hq)⟩
theorem NW.same {u U : State} (hv : u.vm = U.vm) (h : NW u) : NW U := ⟨fun q hq => va_Nw.same rfl hv (h.1 q hq), fun q hq => va_Nw.same rfl hv (h.2 q hq)⟩
theorem NW.f {U : State} (h : NW U) (i : Nat) {a : Array Value} {own : String} {ix : Nat} {r n d : String} (hi : nwF[i]? = some (own, ix, r, n, d)) : (Cond.fieldLinkNest own ix r n d "MountainPost").before a U = true := va_Nw.use rfl (h.1 _ (List.mem_of_getElem? hi))
theorem NW.m {U : State} (h : NW U) (i : Nat) {own : String} {ix : Nat} {y : MethodName} (hi : nwM[i]? = some (own, ix, y)) : va_Nw (.methodLinkNest own ix y "MountainPost") U := h.2 _ (List.mem_of_getElem? hi)
/-- a world at a state -/
def wd (D : GG) (w : va_W) (U : State) : Prop := va_P D.1 vwCl w U.heap ∧ va_K D.1 vwCl (tys D) U ∧ va_D (fun _ => True) w ∧ NW U
def own (w : va_W) : Nat → Prop := fun q => ∃ (k : Nat) (e : va_E), w[k]? = some (q, e)
theorem wd_blind {D : GG} {w : va_W} {av : List Value} : FrameBlind (va_Pc av (wd D w)) := fun a U g mk h => by
  obtain ⟨h0, h1, h2, h3, h4⟩ := h
  exact ⟨h0, h1, va_K.moved (u := U) (U := U.calling g mk a) (Vm.Alike.refl U.vm) h2, h3, NW.same (u := U) (U := U.calling g mk a) rfl h4⟩
theorem at_sub {ws wc : va_W} {is : List Nat} (hs : is.map (fun i => ws[i]?) = wc.map some) (k : Nat) (q : Nat × va_E) (hq : wc[k]? = some q) : ∃ i, is[k]? = some i ∧ ws[i]? = some q := by
  have h1 : (is.map (fun i => ws[i]?))[k]? = some (some q) := by rw [hs, List.getElem?_map, hq]; rfl
  rw [List.getElem?_map] at h1
  cases hi : is[k]? with
  | none => rw [hi] at h1; cases h1
  | some i => rw [hi] at h1; exact ⟨i, rfl, Option.some.inj h1⟩
theorem P_sub {D : va_G} {cl : List vw_C} {ws wc : va_W} {H : Heap} (hP : va_P D cl ws H) (is : List Nat) (hs : is.map (fun i => ws[i]?) = wc.map some) : va_P D cl wc H := fun k q hq => by
  obtain ⟨i, -, h⟩ := at_sub hs k q hq
  exact hP i q h
theorem own_sub {A : Nat → Prop} {ws wc : va_W} (hD : va_D A ws) (is : List Nat) (hs : is.map (fun i => ws[i]?) = wc.map some) : ∀ q, own wc q → A q := by
  rintro q ⟨k, e, hk⟩
  obtain ⟨i, -, h⟩ := at_sub hs k (q, e) hk
  exact hD.2 i _ h
def jset (ws : va_W) : List Nat → va_W → va_W
  | i :: is, x :: w1 => (jset ws is w1).set i x
  | _, _ => ws
theorem jset_len (ws : va_W) : ∀ (is : List Nat) (w1 : va_W), (jset ws is w1).length = ws.length
  | [], _ => rfl
  | _ :: _, [] => rfl
  | i :: is, x :: w1 => by rw [jset, List.length_set, jset_len ws is w1]
theorem jset_get (ws : va_W) : ∀ (is : List Nat) (w1 : va_W), is.length = w1.length → ∀ (k : Nat) (q : Nat × va_E), (jset ws is w1)[k]? = some q → (∃ j, is[j]? = some k ∧ w1[j]? = some q) ∨ (k ∉ is ∧ ws[k]? = some q)
  | [], w1, _, k, q, h => Or.inr ⟨List.not_mem_nil, by cases w1 <;> exact h⟩
  | i :: is, [], hl, k, q, h => by cases hl
  | i :: is, x :: w1, hl, k, q, h => by
    by_cases hk : k = i
    · subst hk
      have hlen : k < (jset ws is w1).length := by
        have := (List.getElem?_eq_some_iff.mp h).1
        rw [jset, List.length_set] at this
        exact this
      rw [jset, List.getElem?_set_self hlen] at h
      exact Or.inl ⟨0, rfl, h⟩
    · rw [jset, List.getElem?_set_ne (Ne.symm hk)] at h
      rcases jset_get ws is w1 (Nat.succ.inj hl) k q h with ⟨j, h1, h2⟩ | ⟨h1, h2⟩
      · exact Or.inl ⟨j + 1, h1, h2⟩
      · exact Or.inr ⟨fun hm => by
          rcases List.mem_cons.mp hm with e | e
          · exact hk e
          · exact h1 e, h2⟩
theorem jn {A : Nat → Prop} {D : va_G} {cl : List vw_C} {ws wc w1 : va_W} {H H1 : Heap} (hP : va_P D cl ws H) (hD : va_D A ws) (is : List Nat) (hs : is.map (fun i => ws[i]?) = wc.map some) (ha : w1.map Prod.fst = wc.map Prod.fst)
    (hk : ∀ q : Nat, q < H.size → ¬ own wc q → H1[q]? = H[q]?) (hP1 : va_P D cl w1 H1) : va_P D cl (jset ws is w1) H1 ∧ va_D A (jset ws is w1) := by
  have hl : is.length = w1.length := by
    have h1 := congrArg List.length hs
    have h2 := congrArg List.length ha
    simp only [List.length_map] at h1 h2
    omega
  have old : ∀ (k : Nat) (q : Nat × va_E), (jset ws is w1)[k]? = some q → ∃ q0, ws[k]? = some q0 ∧ q0.1 = q.1 := by
    intro k q h
    rcases jset_get ws is w1 hl k q h with ⟨j, h1, h2⟩ | ⟨-, h2⟩
    · have h3 : (w1.map Prod.fst)[j]? = some q.1 := by rw [List.getElem?_map, h2]; rfl
      rw [ha, List.getElem?_map] at h3
      cases hc : wc[j]? with
      | none => rw [hc] at h3; cases h3
      | some q0 =>
        rw [hc] at h3
        obtain ⟨i, g1, g2⟩ := at_sub hs j q0 hc
        rw [h1] at g1
        cases g1
        exact ⟨q0, g2, Option.some.inj h3⟩
    · exact ⟨q, h2, rfl⟩
  refine ⟨fun k q h => ?_, fun i j x y hx hy hxy => ?_, fun k q h => ?_⟩
  · rcases jset_get ws is w1 hl k q h with ⟨j, h1, h2⟩ | ⟨h1, h2⟩
    · exact hP1 j q h2
    · refine (hP k q h2).kept (hk q.1 (hP k q h2).lt ?_)
      rintro ⟨k2, e, h3⟩
      obtain ⟨i2, g1, g2⟩ := at_sub hs k2 (q.1, e) h3
      have := hD.1 k i2 q (q.1, e) h2 g2 rfl
      subst this
      exact h1 (List.mem_of_getElem? g1)
  · obtain ⟨x0, hx0, ex⟩ := old i x hx
    obtain ⟨y0, hy0, ey⟩ := old j y hy
    exact hD.1 i j x0 y0 hx0 hy0 (by rw [ex, ey]; exact hxy)
  · obtain ⟨x0, hx0, ex⟩ := old k q h
    rw [← ex]
    exact hD.2 k x0 hx0
/-- what a method answers: a value alone; or a value (or nothing) and a world -/
def RP (v : Value) : Array Value → State → Outcome → State → Prop := fun _ st o t => o = .returned (some v) ∧ t.heap = st.heap
def QW (D : GG) (ov : Option Value) (w1 : va_W) (A : Nat → Prop) : Array Value → State → Outcome → State → Prop := fun _ st o t => o = .returned ov ∧ va_P D.1 vwCl w1 t.heap ∧ va_F A st t
section KitA
variable {p : Program} {l : Launch} {e : Env} {R : Room} {s : State} {m : MethodId} {args : Array Value} {below : List Frame} {meth : Method} {c : Code} {H : Heap} {locs : List Loc} {cells slots : Nat} {Q : State → Prop}
variable {pc : Nat} {ls : Array Slot} {rest st0 : List Value} {a : Array Value} {A0 : Nat → Prop} {H0 : Heap} {free : Addr → Prop}
theorem pureK {v : Value} (hr : va_Run p l e R s m args below meth c H locs cells slots 0 0 (F0 m pc ls st0) rest (RP v a) (fun _ => False))
    (kk : W p l e R s m args below meth c H locs cells slots Q (F0 m (pc + 3) ls (v :: rest))) : W p l e R s m args below meth c H locs cells slots Q (F0 m pc ls st0) := by
  intro T hT X
  obtain ⟨v', st₀, t, T', L, h0, X', hL, e1, e2, ⟨hv, hh⟩, st⟩ := hr T hT X
  cases hv
  obtain ⟨t2, a1, b1⟩ := kk T' (by rw [e1, hh, h0]) (Stand.forget X' (fun q h => (hL q h).elim))
  exact ⟨t2, st t2 a1, b1⟩
theorem writeK {D : GG} {ov : Option Value} {ws wc w1 : va_W} (hr : va_Run p l e R s m args below meth c H locs cells slots 0 0 (F0 m pc ls st0) rest (QW D ov w1 (own wc) a) (own wc))
    (hP : va_P D.1 vwCl ws H) (hD : va_D A0 ws) (hS : va_S A0 H0 H locs) (is : List Nat) (hs : is.map (fun i => ws[i]?) = wc.map some) (ha : w1.map Prod.fst = wc.map Prod.fst)
    (kk : ∀ (H1 : Heap) (locs1 : List Loc), va_P D.1 vwCl (jset ws is w1) H1 → va_D A0 (jset ws is w1) → va_S A0 H0 H1 locs1 → W p l e R s m args below meth c H1 locs1 cells slots Q (F0 m (pc + 3) ls (ov.toList ++ rest))) : W p l e R s m args below meth c H locs cells slots Q (F0 m pc ls st0) := by
  intro T hT X
  obtain ⟨v', st₀, t, T', L, h0, X', hL, e1, e2, ⟨hv, hP1, hz, hk⟩, st⟩ := hr T hT X
  cases hv
  rw [h0] at hz hk
  have hf := own_sub hD is hs
  obtain ⟨j1, j2⟩ := jn hP hD is hs ha (H1 := T'.heap) (fun q g1 g2 => by rw [e1]; exact hk q g1 g2) (by rw [e1]; exact hP1)
  obtain ⟨t2, a1, b1⟩ := kk T'.heap (locs ++ L) j1 j2
    ⟨Nat.le_trans hS.1 (by rw [e1]; exact hz), fun q h1 h2 => by rw [e1, hk q (Nat.lt_of_lt_of_le h1 hS.1) (fun z => h2 (hf q z))]; exact hS.2.1 q h1 h2, fun q hq => by
      rcases List.mem_append.mp hq with h | h
      · exact hS.2.2 q h
      · exact hf _ (hL q h)⟩ T' rfl X'
  exact ⟨t2, st t2 a1, b1⟩
/-- the start of a callee's world -/
theorem preV {D : GG} {ws wc : va_W} {b : Addr} {As : List Value} (hK : va_K D.1 vwCl (tys D) s) (hN : NW s) (hP : va_P D.1 vwCl ws H) (hD : va_D A0 ws) (is : List Nat) (hn : va_nd is = true) (hs : is.map (fun i => ws[i]?) = wc.map some)
    (ci : Nat) {C : String} {T : u_T} {N : Nat} {fs : List Value} (q0 : Nat) (hc : vwCl[ci]? = some (C, T, N)) (h0 : ws[q0]? = some (b, .inr (ci, fs))) : PreV s H C b (va_Pc (.ref b :: As) (wd D wc)) As :=
  ⟨wd_blind, va_recv hK hP hc h0, fun U hU hW => ⟨rfl, by rw [hU]; exact P_sub hP is hs, va_K.moved hW.alike hK, (hD.sub is hn hs).weaken (fun _ _ _ _ => trivial), NW.warm hW hN⟩⟩
theorem preS {D : GG} {ws wc : va_W} {As : List Value} (hK : va_K D.1 vwCl (tys D) s) (hN : NW s) (hP : va_P D.1 vwCl ws H) (hD : va_D A0 ws) (is : List Nat) (hn : va_nd is = true) (hs : is.map (fun i => ws[i]?) = wc.map some) : PreS s H (va_Pc As (wd D wc)) As :=
  ⟨wd_blind, fun U hU hW => ⟨rfl, by rw [hU]; exact P_sub hP is hs, va_K.moved hW.alike hK, (hD.sub is hn hs).weaken (fun _ _ _ _ => trivial), NW.warm hW hN⟩⟩
end KitA
section KitB
variable {p : Program} {l : Launch} {e : Env} {R : Room} {s : State} {m : MethodId} {args : Array Value} {below : List Frame} {meth : Method} {c : Code} {H : Heap} {locs : List Loc} {cells slots : Nat} {Q : State → Prop}
variable {pc : Nat} {ls : Array Slot} {rest : List Value} {A0 : Nat → Prop} {H0 : Heap} {cc bytes : ByteArray} {nL n index maxL : Nat} {Ts wsl : List Cond} {ownC C host : String} {y : MethodName} {ret : Option FieldType} {rm : Room} {D : GG} {ws wc w1 : va_W} {b : Addr} {As : List Value} {ov : Option Value} {v : Value}
/-- virtual, the answer alone -/
theorem kVp (S : CallFix p m c cc nL s args Ts ownC) (hM : Met l y wsl rm (va_Pc (.ref b :: As) (wd D wc)) (RP v) 0 0 (fun _ => False)) (cw : CallW R s args ownC C index y bytes maxL ret wsl rm 0 0 n)
    (hK : va_K D.1 vwCl (tys D) s) (hN : NW s) (hP : va_P D.1 vwCl ws H) (hD : va_D A0 ws) (is : List Nat) (hn : va_nd is = true) (hs : is.map (fun i => ws[i]?) = wc.map some)
    (ci : Nat) {T : u_T} {N : Nat} {fs : List Value} (q0 : Nat) (hc : vwCl[ci]? = some (C, T, N)) (h0 : ws[q0]? = some (b, .inr (ci, fs))) (hlen : As.length = n) (hsize : ls.size = nL) (hW : (rest.map fun v => v.category).sum ≤ 8) (hf : cells + 0 ≤ R.cells ∧ slots + 0 ≤ R.slots) (hdg : decode cc pc = .ok (.invokevirtual index, 3))
    (kk : W p l e R s m args below meth c H locs cells slots Q (F0 m (pc + 3) ls (v :: rest))) {st0 : List Value} (hst : st0 = As.reverse ++ .ref b :: rest) : W p l e R s m args below meth c H locs cells slots Q (F0 m pc ls st0) := by
  subst hst
  exact pureK (va_runV S hM cw (preV hK hN hP hD is hn hs ci q0 hc h0) rfl hlen hsize rfl (lv_room hW) hdg hf) kk
theorem kVw (S : CallFix p m c cc nL s args Ts ownC) (hM : Met l y wsl rm (va_Pc (.ref b :: As) (wd D wc)) (QW D ov w1 (own wc)) 0 0 (own wc)) (cw : CallW R s args ownC C index y bytes maxL ret wsl rm 0 0 n)
    (hK : va_K D.1 vwCl (tys D) s) (hN : NW s) (hP : va_P D.1 vwCl ws H) (hD : va_D A0 ws) (hS : va_S A0 H0 H locs) (is : List Nat) (hn : va_nd is = true) (hs : is.map (fun i => ws[i]?) = wc.map some) (ha : w1.map Prod.fst = wc.map Prod.fst)
    (ci : Nat) {T : u_T} {N : Nat} {fs : List Value} (q0 : Nat) (hc : vwCl[ci]? = some (C, T, N)) (h0 : ws[q0]? = some (b, .inr (ci, fs))) (hlen : As.length = n) (hsize : ls.size = nL) (hW : (rest.map fun v => v.category).sum ≤ 8) (hf : cells + 0 ≤ R.cells ∧ slots + 0 ≤ R.slots) (hdg : decode cc pc = .ok (.invokevirtual index, 3))
    (kk : ∀ (H1 : Heap) (locs1 : List Loc), va_P D.1 vwCl (jset ws is w1) H1 → va_D A0 (jset ws is w1) → va_S A0 H0 H1 locs1 → W p l e R s m args below meth c H1 locs1 cells slots Q (F0 m (pc + 3) ls (ov.toList ++ rest))) {st0 : List Value} (hst : st0 = As.reverse ++ .ref b :: rest) : W p l e R s m args below meth c H locs cells slots Q (F0 m pc ls st0) := by
  subst hst
  exact writeK (va_runV S hM cw (preV hK hN hP hD is hn hs ci q0 hc h0) rfl hlen hsize rfl (lv_room hW) hdg hf) hP hD hS is hs ha kk
/-- static, and static of a nest mate -/
theorem kSp (S : CallFix p m c cc nL s args Ts ownC) (hM : Met l y wsl rm (va_Pc As (wd D wc)) (RP v) 0 0 (fun _ => False)) (cw : CallB R s args ownC index y bytes maxL ret wsl rm 0 0 n ∧ (Cond.static y).before args s = true)
    (hK : va_K D.1 vwCl (tys D) s) (hN : NW s) (hP : va_P D.1 vwCl ws H) (hD : va_D A0 ws) (is : List Nat) (hn : va_nd is = true) (hs : is.map (fun i => ws[i]?) = wc.map some)
    (hlen : As.length = n) (hsize : ls.size = nL) (hW : (rest.map fun v => v.category).sum ≤ 8) (hf : cells + 0 ≤ R.cells ∧ slots + 0 ≤ R.slots) (hdg : decode cc pc = .ok (.invokestatic index, 3))
    (kk : W p l e R s m args below meth c H locs cells slots Q (F0 m (pc + 3) ls (v :: rest))) {st0 : List Value} (hst : st0 = As.reverse ++ rest) : W p l e R s m args below meth c H locs cells slots Q (F0 m pc ls st0) := by
  subst hst
  exact pureK (va_runS S hM cw (preS hK hN hP hD is hn hs) rfl hlen hsize rfl (lv_room hW) hdg hf) kk
theorem kNp (S : CallFix p m c cc nL s args Ts ownC) (hM : Met l y wsl rm (va_Pc As (wd D wc)) (RP v) 0 0 (fun _ => False)) (cw : va_CN R s args ownC index y host bytes maxL ret wsl rm 0 0 n) (hst1 : (Cond.static y).before args s = true)
    (hK : va_K D.1 vwCl (tys D) s) (hN : NW s) (hP : va_P D.1 vwCl ws H) (hD : va_D A0 ws) (is : List Nat) (hn : va_nd is = true) (hs : is.map (fun i => ws[i]?) = wc.map some)
    (hlen : As.length = n) (hsize : ls.size = nL) (hW : (rest.map fun v => v.category).sum ≤ 8) (hf : cells + 0 ≤ R.cells ∧ slots + 0 ≤ R.slots) (hdg : decode cc pc = .ok (.invokestatic index, 3))
    (kk : W p l e R s m args below meth c H locs cells slots Q (F0 m (pc + 3) ls (v :: rest))) {st0 : List Value} (hst : st0 = As.reverse ++ rest) : W p l e R s m args below meth c H locs cells slots Q (F0 m pc ls st0) := by
  subst hst
  exact pureK (va_runSN S hM ⟨cw, hst1, trivial⟩ (preS hK hN hP hD is hn hs) rfl hlen hsize rfl (lv_room hW) hdg hf) kk
/-- ends -/
theorem eI {x r : Int32} (hx : p.tables.exec = Jvm.exec) (hb : c.code = cc) (hr : meth.sig.returnType = some .int) (hlocks : meth.locks = false) (hdg : decode cc pc = .ok (.ireturn, 1)) (hv : x = r) : W p l e R s m args below meth c s.heap [] 0 0 (MQ below (RP (.int r)) args s 0 0 (fun _ => False)) (F0 m pc ls [.int x]) := by
  subst hv
  exact W.iret hx hb hr (fun t ht hW => ⟨rfl, ht⟩) (fun _ h => nomatch h) hdg hlocks
theorem eZ {x : Int32} {r : Bool} (hx : p.tables.exec = Jvm.exec) (hb : c.code = cc) (hr : meth.sig.returnType = some .boolean) (hlocks : meth.locks = false) (hdg : decode cc pc = .ok (.ireturn, 1)) (hv : x = z2 r) : W p l e R s m args below meth c s.heap [] 0 0 (MQ below (RP (.int (z2 r))) args s 0 0 (fun _ => False)) (F0 m pc ls [.int x]) := by
  subst hv
  exact W.zret hx hb hr (by cases r <;> rfl) (fun t ht hW => ⟨rfl, ht⟩) (fun _ h => nomatch h) hdg hlocks
theorem eWv {ws' : va_W} (hx : p.tables.exec = Jvm.exec) (hb : c.code = cc) (hr : meth.sig.returnType = none) (hlocks : meth.locks = false) (hdg : decode cc pc = .ok (.return_, 1)) (hS : va_S A0 s.heap H locs) (hP : va_P D.1 vwCl ws' H) (hw : ws' = w1) : W p l e R s m args below meth c H locs cells slots (MQ below (QW D none w1 A0) args s cells slots A0) (F0 m pc ls []) := by
  subst hw
  exact W.vret hx hb hr (fun t ht hW => ⟨rfl, by rw [ht]; exact hP, hS.F ht⟩) hS.2.2 hdg hlocks
theorem eWi {ws' : va_W} {x r : Int32} (hx : p.tables.exec = Jvm.exec) (hb : c.code = cc) (hr : meth.sig.returnType = some .int) (hlocks : meth.locks = false) (hdg : decode cc pc = .ok (.ireturn, 1)) (hS : va_S A0 s.heap H locs) (hP : va_P D.1 vwCl ws' H) (hv : x = r) (hw : ws' = w1) : W p l e R s m args below meth c H locs cells slots (MQ below (QW D (some (.int r)) w1 A0) args s cells slots A0) (F0 m pc ls [.int x]) := by
  subst hw
  subst hv
  exact W.iret hx hb hr (fun t ht hW => ⟨rfl, by rw [ht]; exact hP, hS.F ht⟩) hS.2.2 hdg hlocks
theorem eWz {ws' : va_W} {x : Int32} {r : Bool} (hx : p.tables.exec = Jvm.exec) (hb : c.code = cc) (hr : meth.sig.returnType = some .boolean) (hlocks : meth.locks = false) (hdg : decode cc pc = .ok (.ireturn, 1)) (hS : va_S A0 s.heap H locs) (hP : va_P D.1 vwCl ws' H) (hv : x = z2 r) (hw : ws' = w1) : W p l e R s m args below meth c H locs cells slots (MQ below (QW D (some (.int (z2 r))) w1 A0) args s cells slots A0) (F0 m pc ls [.int x]) := by
  subst hw
  subst hv
  exact W.zret hx hb hr (by cases r <;> rfl) (fun t ht hW => ⟨rfl, by rw [ht]; exact hP, hS.F ht⟩) hS.2.2 hdg hlocks
end KitB
theorem toOwn {w : va_W} {A : Nat → Prop} (h : va_D A w) : va_D (own w) w := ⟨h.1, fun k q hk => ⟨k, q.2, hk⟩⟩
theorem up0 {k N : Nat} (h : k + 0 = N) (c : ¬ nI N ≤ nI k) : False := c (by have e : k = N := h; rw [e]; exact Int32.le_refl _)
theorem upS {k j N : Nat} (h : k + (j + 1) = N) (hN : N < 2 ^ 31) (c : nI N ≤ nI k) : False := nI_ge (by omega) hN c
theorem ge_clamp {x : Int32} {n : Nat} (h0 : ¬ x < 0) (h : nI n ≤ x) (hn : n < 2 ^ 31) : n ≤ x.toNatClampNeg := by
  obtain ⟨j, hj, rfl⟩ := nI_of h0
  rw [nI_clamp hj]
  exact (nI_leI hn hj).mp h
theorem lt_clamp {x : Int32} {n : Nat} (h0 : ¬ x < 0) (h : ¬ nI n ≤ x) (hn : n < 2 ^ 31) : ¬ n ≤ x.toNatClampNeg := by
  obtain ⟨j, hj, rfl⟩ := nI_of h0
  rw [nI_clamp hj]
  exact fun q => h ((nI_leI hn hj).mpr q)
theorem vin {x : Int32} {n : Nat} (h0 : ¬ x < 0) (h : ¬ nI n ≤ x) (hn : n < 2 ^ 31) : vp_in x n := fun q => q.elim h0 (lt_clamp h0 h hn)
theorem rg_lt {n : Nat} {f : Nat → Int32} {x : Int32} (h : x < 0) : rg n f x = 0 := by unfold rg; rw [if_pos (Or.inl h)]
theorem rg_ge {n : Nat} {f : Nat → Int32} {x : Int32} (h0 : ¬ x < 0) (h : nI n ≤ x) (hn : n < 2 ^ 31) : rg n f x = 0 := by unfold rg; rw [if_pos (Or.inr (ge_clamp h0 h hn))]
theorem rg_in {n : Nat} {f : Nat → Int32} {x : Int32} (h0 : ¬ x < 0) (h : ¬ nI n ≤ x) (hn : n < 2 ^ 31) : rg n f x = f x.toNatClampNeg := by unfold rg; rw [if_neg (vin h0 h hn)]
theorem rs_lt {n : Nat} {f : Nat → Int32} {x v : Int32} (h : x < 0) : rs n f x v = f := by unfold rs; rw [if_pos (Or.inl h)]
theorem rs_ge {n : Nat} {f : Nat → Int32} {x v : Int32} (h0 : ¬ x < 0) (h : nI n ≤ x) (hn : n < 2 ^ 31) : rs n f x v = f := by unfold rs; rw [if_pos (Or.inr (ge_clamp h0 h hn))]
theorem rs_in {n : Nat} {f : Nat → Int32} {x v : Int32} (h0 : ¬ x < 0) (h : ¬ nI n ≤ x) (hn : n < 2 ^ 31) : rs n f x v = upd f x.toNatClampNeg v := by unfold rs; rw [if_neg (vin h0 h hn)]
theorem rg_k {n k : Nat} {f : Nat → Int32} (h : k < n) (hn : n < 2 ^ 31) : rg n f (nI k) = f k := by
  rw [rg_in (nI_pos (by omega)) (nI_ge h hn) hn, nI_clamp (by omega)]
theorem rs_k {n k : Nat} {f : Nat → Int32} {v : Int32} (h : k < n) (hn : n < 2 ^ 31) : rs n f (nI k) v = upd f k v := by
  rw [rs_in (nI_pos (by omega)) (nI_ge h hn) hn, nI_clamp (by omega)]
/-! worlds -/
abbrev wRow (D : GG) (o a n : Nat) (f : Nat → Int32) : va_W := [(o, .inr (3, [.ref a])), (a, .inl (D.2 0, n, .inl f))]
abbrev wLand (D : GG) (A : Nat → Nat) (ns : Nat) (fog : Int32) (nr : Nat) (L : Nat → Nat → Int32) : va_W := [(A 0, .inr (0, [.int (nI ns), .ref (A 1), .ref (A 2), .int fog, .int (nI nr), .ref (A 3), .ref (A 4), .ref (A 5)])), (A 1, .inr (3, [.ref (A 6)])), (A 2, .inr (3, [.ref (A 7)])), (A 3, .inr (3, [.ref (A 8)])), (A 4, .inr (3, [.ref (A 9)])), (A 5, .inr (3, [.ref (A 10)])), (A 6, .inl (D.2 0, 10, .inl (L 0))), (A 7, .inl (D.2 0, 10, .inl (L 1))), (A 8, .inl (D.2 0, 15, .inl (L 2))), (A 9, .inl (D.2 0, 15, .inl (L 3))), (A 10, .inl (D.2 0, 15, .inl (L 4)))]
abbrev wWays (D : GG) (A : Nat → Nat) (L : Nat → Nat → Int32) : va_W := [(A 0, .inr (5, [.ref (A 1), .ref (A 2)])), (A 1, .inr (3, [.ref (A 3)])), (A 2, .inr (3, [.ref (A 4)])), (A 3, .inl (D.2 0, 100, .inl (L 0))), (A 4, .inl (D.2 0, 100, .inl (L 1)))]
abbrev wMul (D : GG) (A : Nat → Nat) (n : Nat) (L : Nat → Nat → Int32) : va_W := [(A 0, .inr (2, [.int (nI n), .ref (A 1), .ref (A 2), .ref (A 3), .ref (A 4), .ref (A 5)])), (A 1, .inr (3, [.ref (A 6)])), (A 2, .inr (3, [.ref (A 7)])), (A 3, .inr (3, [.ref (A 8)])), (A 4, .inr (3, [.ref (A 9)])), (A 5, .inr (3, [.ref (A 10)])), (A 6, .inl (D.2 0, 12, .inl (L 0))), (A 7, .inl (D.2 0, 12, .inl (L 1))), (A 8, .inl (D.2 0, 12, .inl (L 2))), (A 9, .inl (D.2 0, 12, .inl (L 3))), (A 10, .inl (D.2 0, 12, .inl (L 4)))]
abbrev wLet (D : GG) (A : Nat → Nat) (n : Nat) (L : Nat → Nat → Int32) : va_W := [(A 0, .inr (1, [.int (nI n), .ref (A 1), .ref (A 2), .ref (A 3), .ref (A 4), .ref (A 5), .ref (A 6), .ref (A 7), .ref (A 8), .ref (A 9), .ref (A 10), .ref (A 11)])), (A 1, .inr (3, [.ref (A 12)])), (A 2, .inr (3, [.ref (A 13)])), (A 3, .inr (3, [.ref (A 14)])), (A 4, .inr (3, [.ref (A 15)])), (A 5, .inr (3, [.ref (A 16)])), (A 6, .inr (3, [.ref (A 17)])), (A 7, .inr (3, [.ref (A 18)])), (A 8, .inr (3, [.ref (A 19)])), (A 9, .inr (3, [.ref (A 20)])), (A 10, .inr (3, [.ref (A 21)])), (A 11, .inr (3, [.ref (A 22)])), (A 12, .inl (D.2 0, 60, .inl (L 0))), (A 13, .inl (D.2 0, 60, .inl (L 1))), (A 14, .inl (D.2 0, 60, .inl (L 2))), (A 15, .inl (D.2 0, 60, .inl (L 3))), (A 16, .inl (D.2 0, 60, .inl (L 4))), (A 17, .inl (D.2 0, 60, .inl (L 5))), (A 18, .inl (D.2 0, 60, .inl (L 6))), (A 19, .inl (D.2 0, 60, .inl (L 7))), (A 20, .inl (D.2 0, 60, .inl (L 8))), (A 21, .inl (D.2 0, 60, .inl (L 9))), (A 22, .inl (D.2 0, 60, .inl (L 10)))]
abbrev wTob (o : Nat) (la wa mu le : Nat → Nat) (hr cr : Int32) : va_W := [(o, .inr (4, [.ref (la 0), .ref (wa 0), .ref (mu 0), .ref (le 0), .int hr, .int cr]))]
abbrev wMob (o : Nat) (la : Nat → Nat) (t1 t2 : Nat) : va_W := [(o, .inr (6, [.ref (la 0), .ref t1, .ref t2]))]
abbrev wMod (D : GG) (A : Nat → Nat) (th : Int32) (ns : Nat) (fog : Int32) (nr nm nl : Nat) (L : Nat → Nat → Int32) : va_W := [(A 0, .inr (7, [.int th, .int (nI ns), .ref (A 1), .ref (A 2), .int fog, .int (nI nr), .ref (A 3), .int (nI nm), .int (nI nl), .ref (A 4), .ref (A 5), .ref (A 6), .ref (A 7), .ref (A 8)])), (A 1, .inl (D.2 0, 10, .inl (L 0))), (A 2, .inl (D.2 0, 10, .inl (L 1))), (A 3, .inl (D.2 0, 45, .inl (L 2))), (A 4, .inl (D.2 0, 60, .inl (L 3))), (A 5, .inl (D.2 0, 660, .inl (L 4))), (A 6, .inl (D.2 0, 2, .inl (L 5))), (A 7, .inl (D.2 0, 100, .inl (L 6))), (A 8, .inl (D.2 0, 100, .inl (L 7)))]
