/-! arrays of arrays, kept and brought back -/
def NX (U : State) : Prop := va_Nw (.castable "[I" "java/lang/Cloneable") U ∧ (Cond.arrayOver (.array .int)).before #[] U = true
theorem NX.warm {s U : State} (hW : s.WarmedH U.vm) (h : NX s) : NX U := ⟨va_Nw.warmC hW h.1, over_moved hW.alike h.2⟩
theorem NX.same {u U : State} (hv : u.vm = U.vm) (h : NX u) : NX U := ⟨va_Nw.same rfl hv h.1, over_moved (by rw [hv]; exact Vm.Alike.refl _) h.2⟩
def wdX (D : GG) (w : va_W) (sz : Nat) (U : State) : Prop := NX U ∧ wdZ D w sz U
theorem wdX_blind {D : GG} {w : va_W} {sz : Nat} {av : List Value} : FrameBlind (va_Pc av (wdX D w sz)) := fun a U g mk h => by
  obtain ⟨h0, hx, hz, h1, h2, h3, h4⟩ := h
  exact ⟨h0, NX.same (u := U) (U := U.calling g mk a) rfl hx, hz, h1, va_K.moved (u := U) (U := U.calling g mk a) (Vm.Alike.refl U.vm) h2, h3, NW.same (u := U) (U := U.calling g mk a) rfl h4⟩
abbrev aR (D : GG) (n : Nat) (f : Nat → Option Nat) : va_E := .inl (D.2 2, n, .inr (.inr (.inr (.inr f))))
def kf (a b c : Nat) : Nat → Option Nat := va_up (va_up (va_up (fun _ => none) (0 : Int32).toNatClampNeg (some a)) (1 : Int32).toNatClampNeg (some b)) (2 : Int32).toNatClampNeg (some c)
abbrev wKep (D : GG) (r a b c : Nat) (fa fb fc : Nat → Int32) : va_W := [(r, aR D 3 (kf a b c)), (a, .inl (D.2 0, 60, .inl fa)), (b, .inl (D.2 0, 660, .inl fb)), (c, .inl (D.2 0, 2, .inl fc))]
def bA (A : Nat → Nat) (a b c : Nat) : Nat → Nat := fun i => cond (Nat.beq i 4) a (cond (Nat.beq i 5) b (cond (Nat.beq i 6) c (A i)))
def gl (l : List Nat) : Nat → Nat := fun i => l.getD i 0
def QX (D : GG) (ov : (Nat → Nat) → Option Value) (w1 : (Nat → Nat) → va_W) (A : Nat → Prop) : Array Value → State → Outcome → State → Prop := fun _ st o t => ∃ g : Nat → Nat, o = .returned (ov g) ∧ va_P D.1 vwCl (w1 g) t.heap ∧ va_D A (w1 g) ∧ va_F A st t
theorem fcI {D : GG} {s : State} (hK : va_K D.1 vwCl (tys D) s) : s.vm.findClass "[I" = some (D.2 0) := (hK.2 0 (D.2 0, .int) rfl).2
theorem fitI {cA : ClassId} {n : Nat} {f : Nat → Int32} : ∀ (i : Nat) (v : Value), (vp_cell cA (n, .inl f)).slots[i]? = some v → fits .int v = true := fun i v h => by
  have hlt : i < (vp_cell cA (n, .inl f)).slots.size := (Array.getElem?_eq_some_iff.mp h).1
  have hz : i < n := by
    have : (arrV cA n (fun j => .int (f j))).slots.size = n := arrV_size _ _ _
    rw [← this]
    exact hlt
  have e : (arrV cA n (fun j => .int (f j))).slots[i]? = some (.int (f i)) := by rw [arrV_read _ _ hz]
  cases h.symm.trans e
  rfl
theorem asg_self (vm : Vm) (x : ClassId) : vm.assignable x x = true := by
  show vm.assignableAux (255 + 1) x x = true
  rw [Vm.assignableAux, beq_self_eq_true, Bool.true_or]
section KitX
variable {p : Program} {l : Launch} {e : Env} {R : Room} {s : State} {m : MethodId} {args : Array Value} {below : List Frame} {meth : Method} {c : Code} {H : Heap} {locs : List Loc} {cells slots : Nat} {Q : State → Prop}
variable {pc : Nat} {ls : Array Slot} {rest st0 : List Value} {A0 : Nat → Prop} {H0 : Heap} {cc : ByteArray} {D : GG} {ws : va_W}
theorem newaA (hx : p.tables.exec = Jvm.exec) (hb : c.code = cc) {own : String} {index : Nat} (hown : s.vm.findClass own = some m.cls) (hclink : (Cond.classLink own index "[I").before args s = true) (hN : NX s) (hK : va_K D.1 vwCl (tys D) s) (hP : va_P D.1 vwCl ws H) (hD : va_D A0 ws) (hS : va_S A0 H0 H locs) (hA : ∀ q, H0.size ≤ q → A0 q)
    {k : Int32} {N' : Nat} (hn : ¬ k < 0) (hN' : k.toNatClampNeg = N') (hbytes : N' * 4 ≤ 536870912) (hcells : cells + 1 ≤ R.cells) (hslots : slots + N' ≤ R.slots) (hdg : decode cc pc = .ok (.anewarray index, 3))
    (kk : ∀ (q : Nat) (H1 : Heap), va_P D.1 vwCl (ws ++ [(q, aR D N' (fun _ => none))]) H1 → va_D A0 (ws ++ [(q, aR D N' (fun _ => none))]) → va_S A0 H0 H1 locs →
      W p l e R s m args below meth c H1 locs (cells + 1) (slots + N') Q (F0 m (pc + 3) ls (.ref q :: rest))) : W p l e R s m args below meth c H locs cells slots Q (F0 m pc ls (.int k :: rest)) := by
  subst hN'
  refine W.anewA (t := .int) hx hb hown hclink (over_moved (Vm.Alike.refl _) hN.2) rfl hdg rfl hn hbytes hcells hslots fun cA kA comp f1 f2 f3 f4 => ?_
  have e0 : cA = D.2 2 := Option.some.inj (f1.symm.trans (hK.2 2 (D.2 2, .array .int) rfl).2)
  subst e0
  generalize hH1 : H.push ({ cls := D.2 2, slots := Array.replicate k.toNatClampNeg .null, vm := .none } : Cell) = H1
  have z1 : H1.size = H.size + 1 := by rw [← hH1, Array.size_push]
  have e1 : H1[H.size]? = some (arrV (D.2 2) k.toNatClampNeg (fun _ => .null)) := by rw [← hH1, Array.getElem?_push_size, ← arrV_new]
  have o1 : ∀ q : Nat, q < H.size → H1[q]? = H[q]? := fun q hq => by rw [← hH1, Array.getElem?_push, if_neg (Nat.ne_of_lt hq)]
  have hk : ∀ (k : Nat) (x : Nat × va_E), ws[k]? = some x → H1[x.1]? = H[x.1]? := fun k x hx => o1 x.1 ((hP k x hx).lt)
  refine kk H.size H1 ((hP.kept hk).app (fun k x hx => ?_)) (hD.push hP rfl (hA _ hS.1)) ⟨Nat.le_trans hS.1 (by omega), fun x h1 h2 => (o1 x (Nat.lt_of_lt_of_le h1 hS.1)).trans (hS.2.1 x h1 h2), hS.2.2⟩
  have hz : k < 1 := (List.getElem?_eq_some_iff.mp hx).1
  rw [show k = 0 by omega] at hx
  cases hx
  exact e1
theorem astA (hx : p.tables.exec = Jvm.exec) (hb : c.code = cc) (hN : NX s) (hK : va_K D.1 vwCl (tys D) s) (hP : va_P D.1 vwCl ws H) (hD : va_D A0 ws) (hS : va_S A0 H0 H locs) (q0 qk : Nat) {a v n n1 : Nat} {f : Nat → Option Nat} {g : Nat → Int32} (ha : ws[q0]? = some (a, aR D n f)) (hv : ws[qk]? = some (v, .inl (D.2 0, n1, .inl g))) {i : Int32} (hin : vp_in i n) (hdg : decode cc pc = .ok (.aastore, 1))
    (kk : ∀ (H1 : Heap) (locs1 : List Loc), va_P D.1 vwCl (ws.set q0 (a, aR D n (va_up f i.toNatClampNeg (some v)))) H1 → va_D A0 (ws.set q0 (a, aR D n (va_up f i.toNatClampNeg (some v)))) → va_S A0 H0 H1 locs1 → W p l e R s m args below meth c H1 locs1 cells slots Q (F0 m (pc + 1) ls rest)) : W p l e R s m args below meth c H locs cells slots Q (F0 m pc ls (.ref v :: .int i :: .ref a :: rest)) := by
  have hlt : i.toNatClampNeg < n := Nat.not_le.mp fun q => hin (Or.inr q)
  have h0 : ¬ i < 0 := fun q => hin (Or.inl q)
  obtain ⟨comp, cA, kA, k3, -, k1, k2, k4⟩ := arrayOverA_spec hN.2
  have e1 : cA = D.2 2 := Option.some.inj (k4.symm.trans (hK.2 2 (D.2 2, .array .int) rfl).2)
  have e2 : comp = D.2 0 := Option.some.inj (k3.symm.trans (hK.2 0 (D.2 0, .int) rfl).2)
  subst e1
  subst e2
  obtain ⟨kC, hkC, -⟩ := Vm.findClass_spec k3
  refine W.aast hx hb (hP q0 _ ha) (fun q h => by cases h) (fun h => by cases h) k1 k2 rfl hkC ⟨h0, by show _ < (arrV _ _ _).slots.size; rw [arrV_size]; exact hlt⟩ (hP qk _ hv) (fun q h => by cases h) hkC (asg_self _ _) rfl rfl hdg fun H1 e z oq => ?_
  refine kk H1 _ (hP.set hD ha ?_ oq) (hD.set ha) (hS.put z oq (hD.2 q0 _ ha))
  show H1[a]? = some (vp_cell _ _)
  rw [e]
  rw [vp_cell_q, vp_cell_q, arrV_store]
  congr 2
  funext q
  by_cases hq : q = i.toNatClampNeg
  · subst hq
    simp [updV, va_up, va_rf]
  · simp [updV, va_up, hq]
theorem aldA (hx : p.tables.exec = Jvm.exec) (hb : c.code = cc) (hK : va_K D.1 vwCl (tys D) s) (hP : va_P D.1 vwCl ws H) (q0 : Nat) {a n : Nat} {f : Nat → Option Nat} (ha : ws[q0]? = some (a, aR D n f)) {i : Int32} (hin : vp_in i n) (hdg : decode cc pc = .ok (.aaload, 1))
    (kk : W p l e R s m args below meth c H locs cells slots Q (F0 m (pc + 1) ls (va_rf (f i.toNatClampNeg) :: rest))) : W p l e R s m args below meth c H locs cells slots Q (F0 m pc ls (.int i :: .ref a :: rest)) := by
  have hlt : i.toNatClampNeg < n := Nat.not_le.mp fun q => hin (Or.inr q)
  exact W.aald (v := va_rf (f i.toNatClampNeg)) (ty := .array .int) hx hb (hP q0 _ ha) ((hK.2 2 (D.2 2, .array .int) rfl).1 n (fun j => va_rf (f j))) rfl (fun q => by cases q) (by show ¬ (i < 0 ∨ (arrV _ _ _).slots.size ≤ _); rw [arrV_size]; exact hin) (by show (arrV _ _ _).slots[_]? = _; rw [arrV_read _ _ hlt]) rfl rfl hdg kk
end KitX
