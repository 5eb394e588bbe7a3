/-! the reader's words: worlds as lists, calls as rows; all of it mine -/
abbrev GG : Type := va_G × (Nat → ClassId)
abbrev tys (D : GG) : List (ClassId × FieldType) := [(D.2 0, .int), (D.2 1, .long), (D.2 2, .array .int)]
def rg (n : Nat) (f : Nat → Int32) (i : Int32) : Int32 := if i < 0 ∨ n ≤ i.toNatClampNeg then 0 else f i.toNatClampNeg
def rs (n : Nat) (f : Nat → Int32) (i v : Int32) : Nat → Int32 := if i < 0 ∨ n ≤ i.toNatClampNeg then f else upd f i.toNatClampNeg v
def sr (L : Nat → Nat → Int32) (r : Nat) (g : Nat → Int32) : Nat → Nat → Int32 := fun a => cond (Nat.beq a r) g (L a)
def z2 (b : Bool) : Int32 := if b = true then 1 else 0
theorem z2_0 {b : Bool} : z2 b = 0 ↔ ¬ b = true := by cases b <;> decide
theorem z2_1 {b : Bool} : z2 b = 1 ↔ b = true := by cases b <;> decide
theorem z2_n {b : Bool} : ¬ z2 b = 0 ↔ b = true := by cases b <;> decide
theorem sr_s (L : Nat → Nat → Int32) (r : Nat) (g : Nat → Int32) : sr L r g r = g := by simp [sr]
theorem sr_n {L : Nat → Nat → Int32} {r a : Nat} {g : Nat → Int32} (h : a ≠ r) : sr L r g a = L a := by
  have h1 : Nat.beq a r = false := by
    cases e : Nat.beq a r with
    | false => rfl
    | true => exact absurd (Nat.eq_of_beq_eq_true e) h
  simp [sr, h1]
/-- the words of nest mates -/
def nwF : List (String × Nat × String × String × String) := [("MountainPost", 39, "MountainPost$Land", "stationCount", "I"), ("MountainPost", 67, "MountainPost$Land", "sights", "LMountainPost$Row;"), ("MountainPost", 81, "MountainPost$Land", "fog", "I"), ("MountainPost", 93, "MountainPost$Land", "roadCount", "I"), ("MountainPost", 109, "MountainPost$Traffic", "mules", "LMountainPost$Mules;"), ("MountainPost", 113, "MountainPost$Mules", "number", "I"), ("MountainPost", 120, "MountainPost$Land", "endsB", "LMountainPost$Row;"), ("MountainPost", 123, "MountainPost$Land", "endsA", "LMountainPost$Row;"), ("MountainPost", 146, "MountainPost$Traffic", "letters", "LMountainPost$Letters;"), ("MountainPost", 150, "MountainPost$Letters", "number", "I"), ("MountainPost", 155, "MountainPost$Traffic", "hour", "I"), ("MountainPost", 175, "MountainPost$Letters", "froms", "LMountainPost$Row;"), ("MountainPost", 178, "MountainPost$Letters", "knowers", "LMountainPost$Row;"), ("MountainPost", 205, "MountainPost$Traffic", "ways", "LMountainPost$Ways;"), ("MountainPost", 227, "MountainPost$Letters", "states", "LMountainPost$Row;"), ("MountainPost", 230, "MountainPost$Letters", "hoursEnded", "LMountainPost$Row;"), ("MountainPost", 235, "MountainPost$Letters", "hoursPosted", "LMountainPost$Row;"), ("MountainPost", 242, "MountainPost$Land", "heights", "LMountainPost$Row;"), ("MountainPost", 264, "MountainPost$Mules", "roads", "LMountainPost$Row;"), ("MountainPost", 267, "MountainPost$Mules", "loads", "LMountainPost$Row;"), ("MountainPost", 270, "MountainPost$Mules", "places", "LMountainPost$Row;"), ("MountainPost", 273, "MountainPost$Mules", "hoursLeft", "LMountainPost$Row;"), ("MountainPost", 279, "MountainPost$Mules", "hoursWalked", "LMountainPost$Row;"), ("MountainPost", 282, "MountainPost$Letters", "tos", "LMountainPost$Row;"), ("MountainPost", 285, "MountainPost$Letters", "urgencies", "LMountainPost$Row;"), ("MountainPost", 288, "MountainPost$Letters", "places", "LMountainPost$Row;"), ("MountainPost", 289, "MountainPost$Letters", "carriers", "LMountainPost$Row;"), ("MountainPost", 292, "MountainPost$Letters", "turned", "LMountainPost$Row;"), ("MountainPost", 298, "MountainPost$Traffic", "crosses", "I"), ("MountainPost$Traffic", 74, "MountainPost$Mules", "number", "I"), ("MountainPost$Traffic", 81, "MountainPost$Mules", "hoursLeft", "LMountainPost$Row;"), ("MountainPost$Traffic", 91, "MountainPost$Mules", "hoursWalked", "LMountainPost$Row;"), ("MountainPost$Traffic", 97, "MountainPost$Letters", "number", "I"), ("MountainPost$Traffic", 102, "MountainPost$Mules", "places", "LMountainPost$Row;"), ("MountainPost$Traffic", 112, "MountainPost$Letters", "knowers", "LMountainPost$Row;"), ("MountainPost$Traffic", 120, "MountainPost$Letters", "states", "LMountainPost$Row;"), ("MountainPost$Traffic", 123, "MountainPost$Letters", "turned", "LMountainPost$Row;"), ("MountainPost$Traffic", 126, "MountainPost$Letters", "places", "LMountainPost$Row;"), ("MountainPost$Traffic", 137, "MountainPost$Mules", "roads", "LMountainPost$Row;"), ("MountainPost$Traffic", 153, "MountainPost$Mules", "loads", "LMountainPost$Row;"), ("MountainPost$Traffic", 156, "MountainPost$Letters", "order", "LMountainPost$Row;"), ("MountainPost$Traffic", 186, "MountainPost$Letters", "carriers", "LMountainPost$Row;"), ("MountainPost$Ways", 32, "MountainPost$Land", "roadCount", "I"), ("MountainPost$Ways", 43, "MountainPost$Land", "endsA", "LMountainPost$Row;"), ("MountainPost$Ways", 46, "MountainPost$Land", "endsB", "LMountainPost$Row;"), ("MountainPost$Ways", 57, "MountainPost$Land", "stationCount", "I")]
def nwM : List (String × Nat × MethodName) := [("MountainPost", 9, ⟨"MountainPost$Land", "<init>", "()V"⟩), ("MountainPost$Land", 44, ⟨"MountainPost", "with", "(II)I"⟩), ("MountainPost$Land", 48, ⟨"MountainPost", "without", "(II)I"⟩), ("MountainPost$Land", 62, ⟨"MountainPost", "has", "(II)Z"⟩), ("MountainPost$Traffic", 20, ⟨"MountainPost$Mules", "<init>", "()V"⟩), ("MountainPost$Traffic", 27, ⟨"MountainPost$Letters", "<init>", "()V"⟩), ("MountainPost$Traffic", 127, ⟨"MountainPost", "has", "(II)Z"⟩), ("MountainPost$Traffic", 149, ⟨"MountainPost", "with", "(II)I"⟩)]
def NW (U : State) : Prop := (∀ q ∈ nwF, va_Nw (.fieldLinkNest q.1 q.2.1 q.2.2.1 q.2.2.2.1 q.2.2.2.2 "MountainPost") U) ∧ ∀ q ∈ nwM, va_Nw (.methodLinkNest q.1 q.2.1 q.2.2 "MountainPost") U
theorem NW.warm {s U : State} (hW : s.WarmedH U.vm) (h : NW s) : NW U := ⟨fun q hq => va_Nw.warmF hW (h.1 q hq), fun q hq => va_Nw.warmM hW (h.2 q hq)⟩
theorem NW.same {u U : State} (hv : u.vm = U.vm) (h : NW u) : NW U := ⟨fun q hq => va_Nw.same rfl hv (h.1 q hq), fun q hq => va_Nw.same rfl hv (h.2 q hq)⟩
theorem NW.f {U : State} (h : NW U) (i : Nat) {a : Array Value} {own : String} {ix : Nat} {r n d : String} (hi : nwF[i]? = some (own, ix, r, n, d)) : (Cond.fieldLinkNest own ix r n d "MountainPost").before a U = true := va_Nw.use rfl (h.1 _ (List.mem_of_getElem? hi))
theorem NW.m {U : State} (h : NW U) (i : Nat) {own : String} {ix : Nat} {y : MethodName} (hi : nwM[i]? = some (own, ix, y)) : va_Nw (.methodLinkNest own ix y "MountainPost") U := h.2 _ (List.mem_of_getElem? hi)
/-- a world at a state -/
def wd (D : GG) (w : va_W) (U : State) : Prop := va_P D.1 vwCl w U.heap ∧ va_K D.1 vwCl (tys D) U ∧ va_D (fun _ => True) w ∧ NW U
def own (w : va_W) : Nat → Prop := fun q => ∃ (k : Nat) (e : va_E), w[k]? = some (q, e)
theorem wd_blind {D : GG} {w : va_W} {av : List Value} : FrameBlind (va_Pc av (wd D w)) := fun a U g mk h => by
  obtain ⟨h0, h1, h2, h3, h4⟩ := h
  exact ⟨h0, h1, va_K.moved (u := U) (U := U.calling g mk a) (Vm.Alike.refl U.vm) h2, h3, NW.same (u := U) (U := U.calling g mk a) rfl h4⟩
theorem nd_of_D {A : Nat → Prop} : ∀ {ws : va_W}, va_D A ws → (ws.map Prod.fst).Nodup ∧ ∀ q ∈ ws, A q.1
  | [], _ => ⟨List.nodup_nil, fun _ h => nomatch h⟩
  | x :: ws, h => by
    obtain ⟨h1, h2⟩ := nd_of_D (A := A) (ws := ws) ⟨fun i j p q hp hq e => Nat.succ.inj (h.1 (i + 1) (j + 1) p q hp hq e), fun k q hk => h.2 (k + 1) q hk⟩
    refine ⟨?_, fun q hq => ?_⟩
    · rw [List.map_cons, List.nodup_cons]
      refine ⟨fun hm => ?_, h1⟩
      obtain ⟨y, hy, e⟩ := List.mem_map.mp hm
      obtain ⟨j, hj⟩ := List.getElem?_of_mem hy
      exact Nat.noConfusion (h.1 0 (j + 1) x y rfl hj e.symm)
    · rcases List.mem_cons.mp hq with e | e
      · rw [e]; exact h.2 0 x rfl
      · exact h2 q e
theorem D_of_nd {A : Nat → Prop} : ∀ {ws : va_W}, (ws.map Prod.fst).Nodup → (∀ q ∈ ws, A q.1) → va_D A ws
  | [], _, _ => ⟨fun i j p q hp => by simp at hp, fun k q hk => by simp at hk⟩
  | x :: ws, hn, hA => by
    rw [List.map_cons, List.nodup_cons] at hn
    have ih := D_of_nd (A := A) (ws := ws) hn.2 (fun q hq => hA q (List.mem_cons_of_mem _ hq))
    refine ⟨fun i j p q hp hq e => ?_, fun k q hk => hA q (List.mem_of_getElem? hk)⟩
    cases i with
    | zero =>
      cases j with
      | zero => rfl
      | succ j =>
        have e1 : x = p := Option.some.inj hp
        have hq' : ws[j]? = some q := hq
        exact absurd (List.mem_map.mpr ⟨q, List.mem_of_getElem? hq', by rw [e1]; exact e.symm⟩) hn.1
    | succ i =>
      cases j with
      | zero =>
        have e1 : x = q := Option.some.inj hq
        have hp' : ws[i]? = some p := hp
        exact absurd (List.mem_map.mpr ⟨p, List.mem_of_getElem? hp', by rw [e1]; exact e⟩) hn.1
      | succ j => exact congrArg Nat.succ (ih.1 i j p q hp hq e)
theorem P_mem {D : va_G} {cl : List vw_C} {ws : va_W} {H : Heap} : va_P D cl ws H ↔ ∀ q ∈ ws, va_at D cl q H :=
  ⟨fun h q hq => by obtain ⟨i, hi⟩ := List.getElem?_of_mem hq; exact h i q hi, fun h k q hk => h q (List.mem_of_getElem? hk)⟩
/-- a world within a world -/
def Sb (ws wc : va_W) : Prop := List.Sublist wc ws
theorem Sb.self {w : va_W} : Sb w w := List.Sublist.refl w
theorem Sb.nil {w : va_W} : Sb w [] := List.nil_sublist w
theorem Sb.l {a b wc : va_W} (h : Sb a wc) : Sb (a ++ b) wc := List.Sublist.trans h (List.sublist_append_left a b)
theorem Sb.r {a b wc : va_W} (h : Sb b wc) : Sb (a ++ b) wc := List.Sublist.trans h (List.sublist_append_right a b)
theorem Sb.app {a b x y : va_W} (h : Sb a x) (k : Sb b y) : Sb (a ++ b) (x ++ y) := List.Sublist.append h k
theorem sP {D : va_G} {cl : List vw_C} {ws wc : va_W} {H : Heap} (h : Sb ws wc) (hP : va_P D cl ws H) : va_P D cl wc H := P_mem.mpr fun q hq => P_mem.mp hP q (h.subset hq)
theorem sD {A : Nat → Prop} {ws wc : va_W} (h : Sb ws wc) (hD : va_D A ws) : va_D A wc :=
  D_of_nd (List.Nodup.sublist (List.Sublist.map _ h) (nd_of_D hD).1) fun q hq => (nd_of_D hD).2 q (h.subset hq)
/-- and what it becomes when the part becomes another -/
abbrev Zt : Type := Bool × (Nat × va_E) × (Nat × va_E)
def Fr (ws wc w1 ws' : va_W) : Prop := ∃ z : List Zt, z.map (fun t => t.2.1) = ws ∧ z.map (fun t => t.2.2) = ws' ∧ (z.filter (fun t => t.1)).map (fun t => t.2.1) = wc ∧ (z.filter (fun t => t.1)).map (fun t => t.2.2) = w1 ∧ ∀ t ∈ z, t.2.1.1 = t.2.2.1 ∧ (t.1 = false → t.2.1 = t.2.2)
theorem Fr.self : ∀ {w w1 : va_W}, w1.map Prod.fst = w.map Prod.fst → Fr w w w1 w1
  | [], [], _ => ⟨[], rfl, rfl, rfl, rfl, fun _ h => nomatch h⟩
  | [], _ :: _, h => by simp at h
  | _ :: _, [], h => by simp at h
  | x :: w, y :: w1, h => by
    simp only [List.map_cons, List.cons.injEq] at h
    obtain ⟨z, h1, h2, h3, h4, h5⟩ := Fr.self h.2
    refine ⟨(true, x, y) :: z, ?_, ?_, ?_, ?_, ?_⟩
    · rw [List.map_cons, h1]
    · rw [List.map_cons, h2]
    · rw [List.filter_cons_of_pos rfl, List.map_cons, h3]
    · rw [List.filter_cons_of_pos rfl, List.map_cons, h4]
    · intro t ht
      rcases List.mem_cons.mp ht with e | e
      · rw [e]; exact ⟨h.1.symm, fun q => Bool.noConfusion q⟩
      · exact h5 t e
theorem Fr.keep (b : va_W) : ∃ z : List Zt, z.map (fun t => t.2.1) = b ∧ z.map (fun t => t.2.2) = b ∧ z.filter (fun t => t.1) = [] ∧ ∀ t ∈ z, t.2.1.1 = t.2.2.1 ∧ (t.1 = false → t.2.1 = t.2.2) := by
  refine ⟨b.map (fun x => (false, x, x)), ?_, ?_, ?_, ?_⟩
  · rw [List.map_map]; exact List.map_id' b
  · rw [List.map_map]; exact List.map_id' b
  · exact List.filter_eq_nil_iff.mpr fun t ht => by
      obtain ⟨x, -, e⟩ := List.mem_map.mp ht
      rw [← e]; exact Bool.false_ne_true
  · intro t ht
    obtain ⟨x, -, e⟩ := List.mem_map.mp ht
    rw [← e]; exact ⟨rfl, fun _ => rfl⟩
theorem Fr.app {a b x y x1 y1 a' b' : va_W} (h : Fr a x x1 a') (k : Fr b y y1 b') : Fr (a ++ b) (x ++ y) (x1 ++ y1) (a' ++ b') := by
  obtain ⟨z, h1, h2, h3, h4, h5⟩ := h
  obtain ⟨u, k1, k2, k3, k4, k5⟩ := k
  refine ⟨z ++ u, ?_, ?_, ?_, ?_, fun t ht => (List.mem_append.mp ht).elim (h5 t) (k5 t)⟩
  · rw [List.map_append, h1, k1]
  · rw [List.map_append, h2, k2]
  · rw [List.filter_append, List.map_append, h3, k3]
  · rw [List.filter_append, List.map_append, h4, k4]
theorem Fr.l {a b x x1 a' : va_W} (h : Fr a x x1 a') : Fr (a ++ b) x x1 (a' ++ b) := by
  obtain ⟨z, h1, h2, h3, h4, h5⟩ := h
  obtain ⟨u, k1, k2, k3, k5⟩ := Fr.keep b
  refine ⟨z ++ u, ?_, ?_, ?_, ?_, fun t ht => (List.mem_append.mp ht).elim (h5 t) (k5 t)⟩
  · rw [List.map_append, h1, k1]
  · rw [List.map_append, h2, k2]
  · rw [List.filter_append, k3, List.append_nil, h3]
  · rw [List.filter_append, k3, List.append_nil, h4]
theorem Fr.r {a b x x1 b' : va_W} (h : Fr b x x1 b') : Fr (a ++ b) x x1 (a ++ b') := by
  obtain ⟨z, h1, h2, h3, h4, h5⟩ := h
  obtain ⟨u, k1, k2, k3, k5⟩ := Fr.keep a
  refine ⟨u ++ z, ?_, ?_, ?_, ?_, fun t ht => (List.mem_append.mp ht).elim (k5 t) (h5 t)⟩
  · rw [List.map_append, h1, k1]
  · rw [List.map_append, h2, k2]
  · rw [List.filter_append, k3, List.nil_append, h3]
  · rw [List.filter_append, k3, List.nil_append, h4]
theorem Fr.sb {ws wc w1 ws' : va_W} (h : Fr ws wc w1 ws') : Sb ws wc := by
  obtain ⟨z, h1, h2, h3, h4, h5⟩ := h
  rw [← h1, ← h3]
  exact List.Sublist.map _ List.filter_sublist
theorem nd_same {α : Type} {f : α → Nat} : ∀ {z : List α}, (z.map f).Nodup → ∀ {t u : α}, t ∈ z → u ∈ z → f t = f u → t = u
  | [], _, _, _, h, _, _ => nomatch h
  | x :: z, hn, t, u, ht, hu, e => by
    rw [List.map_cons, List.nodup_cons] at hn
    rcases List.mem_cons.mp ht with h1 | h1
    · rcases List.mem_cons.mp hu with h2 | h2
      · rw [h1, h2]
      · exact absurd (List.mem_map.mpr ⟨u, h2, by rw [← e, h1]⟩) hn.1
    · rcases List.mem_cons.mp hu with h2 | h2
      · exact absurd (List.mem_map.mpr ⟨t, h1, by rw [e, h2]⟩) hn.1
      · exact nd_same hn.2 h1 h2 e
theorem own_sub {A : Nat → Prop} {ws wc : va_W} (hD : va_D A ws) (h : Sb ws wc) : ∀ q, own wc q → A q := by
  rintro q ⟨k, e, hk⟩
  exact (nd_of_D hD).2 _ (h.subset (List.mem_of_getElem? hk))
theorem jn {A : Nat → Prop} {D : va_G} {cl : List vw_C} {ws wc w1 ws' : va_W} {H H1 : Heap} (hP : va_P D cl ws H) (hD : va_D A ws) (hf : Fr ws wc w1 ws')
    (hk : ∀ q : Nat, q < H.size → ¬ own wc q → H1[q]? = H[q]?) (hP1 : va_P D cl w1 H1) : va_P D cl ws' H1 ∧ va_D A ws' := by
  obtain ⟨hn, hA⟩ := nd_of_D hD
  obtain ⟨z, rfl, rfl, rfl, rfl, h5⟩ := hf
  have ez : (z.map (fun t => t.2.2)).map Prod.fst = (z.map (fun t => t.2.1)).map Prod.fst := by
    rw [List.map_map, List.map_map]
    exact List.map_congr_left fun t ht => (h5 t ht).1.symm
  refine ⟨P_mem.mpr fun q hq => ?_, D_of_nd (by rw [ez]; exact hn) fun q hq => ?_⟩
  · obtain ⟨t, ht, e⟩ := List.mem_map.mp hq
    cases hb : t.1 with
    | true => exact P_mem.mp hP1 q (List.mem_map.mpr ⟨t, List.mem_filter.mpr ⟨ht, hb⟩, e⟩)
    | false =>
      have e2 : t.2.1 = q := by rw [(h5 t ht).2 hb]; exact e
      have hq1 := P_mem.mp hP q (List.mem_map.mpr ⟨t, ht, e2⟩)
      refine hq1.kept (hk q.1 hq1.lt ?_)
      rintro ⟨k2, e3, h3⟩
      obtain ⟨u, hu, e4⟩ := List.mem_map.mp (List.mem_of_getElem? h3)
      obtain ⟨hu1, hu2⟩ := List.mem_filter.mp hu
      rw [List.map_map] at hn
      have : t = u := nd_same hn ht hu1 (by show t.2.1.1 = u.2.1.1; rw [e2, e4])
      subst this
      rw [hb] at hu2
      exact Bool.false_ne_true hu2
  · obtain ⟨t, ht, e⟩ := List.mem_map.mp hq
    rw [← e, ← (h5 t ht).1]
    exact hA t.2.1 (List.mem_map.mpr ⟨t, ht, rfl⟩)
theorem Fr.kp {ws wc : va_W} (h : Sb ws wc) : Fr ws wc wc ws := by
  unfold Sb at h
  induction h with
  | slnil => exact ⟨[], rfl, rfl, rfl, rfl, fun _ h => nomatch h⟩
  | @cons l1 l2 a h ih =>
    obtain ⟨z, h1, h2, h3, h4, h5⟩ := ih
    refine ⟨(false, a, a) :: z, by rw [List.map_cons, h1], by rw [List.map_cons, h2], ?_, ?_, ?_⟩
    · rw [List.filter_cons_of_neg (by simp), h3]
    · rw [List.filter_cons_of_neg (by simp), h4]
    · intro t ht
      rcases List.mem_cons.mp ht with e | e
      · rw [e]; exact ⟨rfl, fun _ => rfl⟩
      · exact h5 t e
  | @cons_cons l1 l2 a h ih =>
    obtain ⟨z, h1, h2, h3, h4, h5⟩ := ih
    refine ⟨(true, a, a) :: z, by rw [List.map_cons, h1], by rw [List.map_cons, h2], ?_, ?_, ?_⟩
    · rw [List.filter_cons_of_pos rfl, List.map_cons, h3]
    · rw [List.filter_cons_of_pos rfl, List.map_cons, h4]
    · intro t ht
      rcases List.mem_cons.mp ht with e | e
      · rw [e]; exact ⟨rfl, fun _ => rfl⟩
      · exact h5 t e
theorem cpy_le {n : Nat} (hn : n < 2 ^ 31) : (0 : Int32).toNatClampNeg + (nI n).toNatClampNeg ≤ n := by
  rw [nI_clamp hn]
  exact Nat.le_of_eq (Nat.zero_add n)
theorem cpy_cell {cA : ClassId} {n : Nat} (hn : n < 2 ^ 31) (f g : Nat → Int32) : vp_cell cA (n, .inl (va_cpy f g (0 : Int32).toNatClampNeg (0 : Int32).toNatClampNeg (nI n).toNatClampNeg)) = vp_cell cA (n, .inl f) := by
  rw [vp_cell_i, vp_cell_i, nI_clamp hn]
  unfold arrV
  have e : ∀ j : Fin n, va_cpy f g (0 : Int32).toNatClampNeg (0 : Int32).toNatClampNeg n j.val = f j.val := by
    intro j
    have h0 : (0 : Int32).toNatClampNeg = 0 := rfl
    rw [h0, pk_cpy_in (Nat.zero_le _) (by have := j.isLt; omega)]
    congr 1
    omega
  simp only [e]
theorem cpy_P {D : va_G} {cl : List vw_C} {ws : va_W} {H : Heap} {a : Nat} {cA : ClassId} {n : Nat} {f g : Nat → Int32} (hn : n < 2 ^ 31) (q : Nat) (h : va_P D cl (ws.set q (a, .inl (cA, n, .inl (va_cpy f g (0 : Int32).toNatClampNeg (0 : Int32).toNatClampNeg (nI n).toNatClampNeg)))) H) : va_P D cl (ws.set q (a, .inl (cA, n, .inl f))) H := by
  intro k x hk
  by_cases e : k = q
  · subst e
    have hl : k < ws.length := by
      have := (List.getElem?_eq_some_iff.mp hk).1
      rwa [List.length_set] at this
    rw [List.getElem?_set_self hl] at hk
    cases hk
    have h1 := h k _ (List.getElem?_set_self hl)
    show H[a]? = some (vp_cell cA (n, .inl f))
    rw [← cpy_cell hn f g]
    exact h1
  · rw [List.getElem?_set_ne (Ne.symm e)] at hk
    exact h k x (by rw [List.getElem?_set_ne (Ne.symm e)]; exact hk)
theorem cpy_D {A : Nat → Prop} {ws : va_W} {a : Nat} {e0 e' : va_E} (q : Nat) (h : va_D A (ws.set q (a, e0))) : va_D A (ws.set q (a, e')) := by
  have ha : (ws.set q (a, e')).map Prod.fst = (ws.set q (a, e0)).map Prod.fst := by rw [List.map_set, List.map_set]
  obtain ⟨h1, h2⟩ := nd_of_D h
  refine D_of_nd (by rw [ha]; exact h1) fun x hx => ?_
  have : x.1 ∈ (ws.set q (a, e0)).map Prod.fst := by rw [← ha]; exact List.mem_map.mpr ⟨x, hx, rfl⟩
  obtain ⟨y, hy, ey⟩ := List.mem_map.mp this
  rw [← ey]
  exact h2 y hy
/-- what a method answers: a value alone; or a value (or nothing) and a world -/
def RP (v : Value) : Array Value → State → Outcome → State → Prop := fun _ st o t => o = .returned (some v) ∧ t.heap = st.heap
def QW (D : GG) (ov : Option Value) (w1 : va_W) (A : Nat → Prop) : Array Value → State → Outcome → State → Prop := fun _ st o t => o = .returned ov ∧ va_P D.1 vwCl w1 t.heap ∧ va_F A st t
section KitA
variable {p : Program} {l : Launch} {e : Env} {R : Room} {s : State} {m : MethodId} {args : Array Value} {below : List Frame} {meth : Method} {c : Code} {H : Heap} {locs : List Loc} {cells slots : Nat} {Q : State → Prop}
variable {pc : Nat} {ls : Array Slot} {rest st0 : List Value} {a : Array Value} {A0 : Nat → Prop} {H0 : Heap} {free : Addr → Prop}
theorem pureK {v : Value} (hr : va_Run p l e R s m args below meth c H locs cells slots 0 0 (F0 m pc ls st0) rest (RP v a) (fun _ => False))
    (kk : W p l e R s m args below meth c H locs cells slots Q (F0 m (pc + 3) ls (v :: rest))) : W p l e R s m args below meth c H locs cells slots Q (F0 m pc ls st0) := by
  intro T hT X
  obtain ⟨v', st₀, t, T', L, h0, X', hL, e1, e2, ⟨hv, hh⟩, st⟩ := hr T hT X
  cases hv
  obtain ⟨t2, a1, b1⟩ := kk T' (by rw [e1, hh, h0]) (Stand.forget X' (fun q h => (hL q h).elim))
  exact ⟨t2, st t2 a1, b1⟩
theorem writeK {D : GG} {ov : Option Value} {ws wc w1 ws' : va_W} (hr : va_Run p l e R s m args below meth c H locs cells slots 0 0 (F0 m pc ls st0) rest (QW D ov w1 (own wc) a) (own wc))
    (hP : va_P D.1 vwCl ws H) (hD : va_D A0 ws) (hS : va_S A0 H0 H locs) (hf : Fr ws wc w1 ws')
    (kk : ∀ (H1 : Heap) (locs1 : List Loc), va_P D.1 vwCl ws' H1 → va_D A0 ws' → va_S A0 H0 H1 locs1 → W p l e R s m args below meth c H1 locs1 cells slots Q (F0 m (pc + 3) ls (ov.toList ++ rest))) : W p l e R s m args below meth c H locs cells slots Q (F0 m pc ls st0) := by
  intro T hT X
  obtain ⟨v', st₀, t, T', L, h0, X', hL, e1, e2, ⟨hv, hP1, hz, hk⟩, st⟩ := hr T hT X
  cases hv
  rw [h0] at hz hk
  have ho := own_sub hD hf.sb
  obtain ⟨j1, j2⟩ := jn hP hD hf (H1 := T'.heap) (fun q g1 g2 => by rw [e1]; exact hk q g1 g2) (by rw [e1]; exact hP1)
  obtain ⟨t2, a1, b1⟩ := kk T'.heap (locs ++ L) j1 j2
    ⟨Nat.le_trans hS.1 (by rw [e1]; exact hz), fun q h1 h2 => by rw [e1, hk q (Nat.lt_of_lt_of_le h1 hS.1) (fun z => h2 (ho q z))]; exact hS.2.1 q h1 h2, fun q hq => by
      rcases List.mem_append.mp hq with h | h
      · exact hS.2.2 q h
      · exact ho _ (hL q h)⟩ T' rfl X'
  exact ⟨t2, st t2 a1, b1⟩
/-- the start of a callee's world -/
theorem preV {D : GG} {ws wc : va_W} {b : Addr} {As : List Value} (hK : va_K D.1 vwCl (tys D) s) (hN : NW s) (hP : va_P D.1 vwCl ws H) (hD : va_D A0 ws) (hs : Sb ws wc)
    (ci : Nat) {C : String} {T : u_T} {N : Nat} {fs : List Value} (q0 : Nat) (hc : vwCl[ci]? = some (C, T, N)) (h0 : wc[q0]? = some (b, .inr (ci, fs))) : PreV s H C b (va_Pc (.ref b :: As) (wd D wc)) As :=
  ⟨wd_blind, va_recv hK (sP hs hP) hc h0, fun U hU hW => ⟨rfl, by rw [hU]; exact sP hs hP, va_K.moved hW.alike hK, (sD hs hD).weaken (fun _ _ _ _ => trivial), NW.warm hW hN⟩⟩
theorem preS {D : GG} {ws wc : va_W} {As : List Value} (hK : va_K D.1 vwCl (tys D) s) (hN : NW s) (hP : va_P D.1 vwCl ws H) (hD : va_D A0 ws) (hs : Sb ws wc) : PreS s H (va_Pc As (wd D wc)) As :=
  ⟨wd_blind, fun U hU hW => ⟨rfl, by rw [hU]; exact sP hs hP, va_K.moved hW.alike hK, (sD hs hD).weaken (fun _ _ _ _ => trivial), NW.warm hW hN⟩⟩
end KitA
section KitB
variable {p : Program} {l : Launch} {e : Env} {R : Room} {s : State} {m : MethodId} {args : Array Value} {below : List Frame} {meth : Method} {c : Code} {H : Heap} {locs : List Loc} {cells slots : Nat} {Q : State → Prop}
variable {pc : Nat} {ls : Array Slot} {rest : List Value} {A0 : Nat → Prop} {H0 : Heap} {cc bytes : ByteArray} {nL n index maxL : Nat} {Ts wsl : List Cond} {ownC C host : String} {y : MethodName} {ret : Option FieldType} {rm : Room} {D : GG} {ws wc w1 ws' : va_W} {b : Addr} {As : List Value} {ov : Option Value} {v : Value}
/-- virtual, the answer alone -/
theorem kVp (S : CallFix p m c cc nL s args Ts ownC) (hM : Met l y wsl rm (va_Pc (.ref b :: As) (wd D wc)) (RP v) 0 0 (fun _ => False)) (cw : CallW R s args ownC C index y bytes maxL ret wsl rm 0 0 n)
    (hK : va_K D.1 vwCl (tys D) s) (hN : NW s) (hP : va_P D.1 vwCl ws H) (hD : va_D A0 ws) (hs : Sb ws wc)
    (ci : Nat) {T : u_T} {N : Nat} {fs : List Value} (q0 : Nat) (hc : vwCl[ci]? = some (C, T, N)) (h0 : wc[q0]? = some (b, .inr (ci, fs))) (hlen : As.length = n) (hsize : ls.size = nL) (hW : (rest.map fun v => v.category).sum ≤ 8) (hro : cells + 0 ≤ R.cells ∧ slots + 0 ≤ R.slots) (hdg : decode cc pc = .ok (.invokevirtual index, 3))
    (kk : W p l e R s m args below meth c H locs cells slots Q (F0 m (pc + 3) ls (v :: rest))) {st0 : List Value} (hst : st0 = As.reverse ++ .ref b :: rest) : W p l e R s m args below meth c H locs cells slots Q (F0 m pc ls st0) := by
  subst hst
  exact pureK (va_runV S hM cw (preV hK hN hP hD hs ci q0 hc h0) rfl hlen hsize rfl (lv_room hW) hdg hro) kk
theorem kVw (S : CallFix p m c cc nL s args Ts ownC) (hM : Met l y wsl rm (va_Pc (.ref b :: As) (wd D wc)) (QW D ov w1 (own wc)) 0 0 (own wc)) (cw : CallW R s args ownC C index y bytes maxL ret wsl rm 0 0 n)
    (hK : va_K D.1 vwCl (tys D) s) (hN : NW s) (hP : va_P D.1 vwCl ws H) (hD : va_D A0 ws) (hS : va_S A0 H0 H locs) (hf : Fr ws wc w1 ws')
    (ci : Nat) {T : u_T} {N : Nat} {fs : List Value} (q0 : Nat) (hc : vwCl[ci]? = some (C, T, N)) (h0 : wc[q0]? = some (b, .inr (ci, fs))) (hlen : As.length = n) (hsize : ls.size = nL) (hW : (rest.map fun v => v.category).sum ≤ 8) (hro : cells + 0 ≤ R.cells ∧ slots + 0 ≤ R.slots) (hdg : decode cc pc = .ok (.invokevirtual index, 3))
    (kk : ∀ (H1 : Heap) (locs1 : List Loc), va_P D.1 vwCl ws' H1 → va_D A0 ws' → va_S A0 H0 H1 locs1 → W p l e R s m args below meth c H1 locs1 cells slots Q (F0 m (pc + 3) ls (ov.toList ++ rest))) {st0 : List Value} (hst : st0 = As.reverse ++ .ref b :: rest) : W p l e R s m args below meth c H locs cells slots Q (F0 m pc ls st0) := by
  subst hst
  exact writeK (va_runV S hM cw (preV hK hN hP hD hf.sb ci q0 hc h0) rfl hlen hsize rfl (lv_room hW) hdg hro) hP hD hS hf kk
/-- static, and static of a nest mate -/
theorem kSp (S : CallFix p m c cc nL s args Ts ownC) (hM : Met l y wsl rm (va_Pc As (wd D wc)) (RP v) 0 0 (fun _ => False)) (cw : CallB R s args ownC index y bytes maxL ret wsl rm 0 0 n ∧ (Cond.static y).before args s = true)
    (hK : va_K D.1 vwCl (tys D) s) (hN : NW s) (hP : va_P D.1 vwCl ws H) (hD : va_D A0 ws) (hs : Sb ws wc)
    (hlen : As.length = n) (hsize : ls.size = nL) (hW : (rest.map fun v => v.category).sum ≤ 8) (hro : cells + 0 ≤ R.cells ∧ slots + 0 ≤ R.slots) (hdg : decode cc pc = .ok (.invokestatic index, 3))
    (kk : W p l e R s m args below meth c H locs cells slots Q (F0 m (pc + 3) ls (v :: rest))) {st0 : List Value} (hst : st0 = As.reverse ++ rest) : W p l e R s m args below meth c H locs cells slots Q (F0 m pc ls st0) := by
  subst hst
  exact pureK (va_runS S hM cw (preS hK hN hP hD hs) rfl hlen hsize rfl (lv_room hW) hdg hro) kk
theorem kNp (S : CallFix p m c cc nL s args Ts ownC) (hM : Met l y wsl rm (va_Pc As (wd D wc)) (RP v) 0 0 (fun _ => False)) (cw : va_CN R s args ownC index y host bytes maxL ret wsl rm 0 0 n) (hst1 : (Cond.static y).before args s = true)
    (hK : va_K D.1 vwCl (tys D) s) (hN : NW s) (hP : va_P D.1 vwCl ws H) (hD : va_D A0 ws) (hs : Sb ws wc)
    (hlen : As.length = n) (hsize : ls.size = nL) (hW : (rest.map fun v => v.category).sum ≤ 8) (hro : cells + 0 ≤ R.cells ∧ slots + 0 ≤ R.slots) (hdg : decode cc pc = .ok (.invokestatic index, 3))
    (kk : W p l e R s m args below meth c H locs cells slots Q (F0 m (pc + 3) ls (v :: rest))) {st0 : List Value} (hst : st0 = As.reverse ++ rest) : W p l e R s m args below meth c H locs cells slots Q (F0 m pc ls st0) := by
  subst hst
  exact pureK (va_runSN S hM ⟨cw, hst1, trivial⟩ (preS hK hN hP hD hs) rfl hlen hsize rfl (lv_room hW) hdg hro) kk
/-- ends -/
theorem eI {x r : Int32} (hx : p.tables.exec = Jvm.exec) (hb : c.code = cc) (hr : meth.sig.returnType = some .int) (hlocks : meth.locks = false) (hdg : decode cc pc = .ok (.ireturn, 1)) (hv : x = r) : W p l e R s m args below meth c s.heap [] 0 0 (MQ below (RP (.int r)) args s 0 0 (fun _ => False)) (F0 m pc ls [.int x]) := by
  subst hv
  exact W.iret hx hb hr (fun t ht hW => ⟨rfl, ht⟩) (fun _ h => nomatch h) hdg hlocks
theorem eZ {x : Int32} {r : Bool} (hx : p.tables.exec = Jvm.exec) (hb : c.code = cc) (hr : meth.sig.returnType = some .boolean) (hlocks : meth.locks = false) (hdg : decode cc pc = .ok (.ireturn, 1)) (hv : x = z2 r) : W p l e R s m args below meth c s.heap [] 0 0 (MQ below (RP (.int (z2 r))) args s 0 0 (fun _ => False)) (F0 m pc ls [.int x]) := by
  subst hv
  exact W.zret hx hb hr (by cases r <;> rfl) (fun t ht hW => ⟨rfl, ht⟩) (fun _ h => nomatch h) hdg hlocks
theorem eWv {ws' : va_W} (hx : p.tables.exec = Jvm.exec) (hb : c.code = cc) (hr : meth.sig.returnType = none) (hlocks : meth.locks = false) (hdg : decode cc pc = .ok (.return_, 1)) (hS : va_S A0 s.heap H locs) (hP : va_P D.1 vwCl ws' H) (hw : ws' = w1) : W p l e R s m args below meth c H locs cells slots (MQ below (QW D none w1 A0) args s cells slots A0) (F0 m pc ls []) := by
  subst hw
  exact W.vret hx hb hr (fun t ht hW => ⟨rfl, by rw [ht]; exact hP, hS.F ht⟩) hS.2.2 hdg hlocks
theorem eWi {ws' : va_W} {x r : Int32} (hx : p.tables.exec = Jvm.exec) (hb : c.code = cc) (hr : meth.sig.returnType = some .int) (hlocks : meth.locks = false) (hdg : decode cc pc = .ok (.ireturn, 1)) (hS : va_S A0 s.heap H locs) (hP : va_P D.1 vwCl ws' H) (hv : x = r) (hw : ws' = w1) : W p l e R s m args below meth c H locs cells slots (MQ below (QW D (some (.int r)) w1 A0) args s cells slots A0) (F0 m pc ls [.int x]) := by
  subst hw
  subst hv
  exact W.iret hx hb hr (fun t ht hW => ⟨rfl, by rw [ht]; exact hP, hS.F ht⟩) hS.2.2 hdg hlocks
theorem eWz {ws' : va_W} {x : Int32} {r : Bool} (hx : p.tables.exec = Jvm.exec) (hb : c.code = cc) (hr : meth.sig.returnType = some .boolean) (hlocks : meth.locks = false) (hdg : decode cc pc = .ok (.ireturn, 1)) (hS : va_S A0 s.heap H locs) (hP : va_P D.1 vwCl ws' H) (hv : x = z2 r) (hw : ws' = w1) : W p l e R s m args below meth c H locs cells slots (MQ below (QW D (some (.int (z2 r))) w1 A0) args s cells slots A0) (F0 m pc ls [.int x]) := by
  subst hw
  subst hv
  exact W.zret hx hb hr (by cases r <;> rfl) (fun t ht hW => ⟨rfl, by rw [ht]; exact hP, hS.F ht⟩) hS.2.2 hdg hlocks
end KitB
theorem toOwn {w : va_W} {A : Nat → Prop} (h : va_D A w) : va_D (own w) w := ⟨h.1, fun k q hk => ⟨k, q.2, hk⟩⟩
theorem up0 {k N : Nat} (h : k + 0 = N) (c : ¬ nI N ≤ nI k) : False := c (by have e : k = N := h; rw [e]; exact Int32.le_refl _)
theorem upS {k j N : Nat} (h : k + (j + 1) = N) (hN : N < 2 ^ 31) (c : nI N ≤ nI k) : False := nI_ge (by omega) hN c
theorem ge_clamp {x : Int32} {n : Nat} (h0 : ¬ x < 0) (h : nI n ≤ x) (hn : n < 2 ^ 31) : n ≤ x.toNatClampNeg := by
  obtain ⟨j, hj, rfl⟩ := nI_of h0
  rw [nI_clamp hj]
  exact (nI_leI hn hj).mp h
theorem lt_clamp {x : Int32} {n : Nat} (h0 : ¬ x < 0) (h : ¬ nI n ≤ x) (hn : n < 2 ^ 31) : ¬ n ≤ x.toNatClampNeg := by
  obtain ⟨j, hj, rfl⟩ := nI_of h0
  rw [nI_clamp hj]
  exact fun q => h ((nI_leI hn hj).mpr q)
theorem vin {x : Int32} {n : Nat} (h0 : ¬ x < 0) (h : ¬ nI n ≤ x) (hn : n < 2 ^ 31) : vp_in x n := fun q => q.elim h0 (lt_clamp h0 h hn)
theorem rg_lt {n : Nat} {f : Nat → Int32} {x : Int32} (h : x < 0) : rg n f x = 0 := by unfold rg; rw [if_pos (Or.inl h)]
theorem rg_ge {n : Nat} {f : Nat → Int32} {x : Int32} (h0 : ¬ x < 0) (h : nI n ≤ x) (hn : n < 2 ^ 31) : rg n f x = 0 := by unfold rg; rw [if_pos (Or.inr (ge_clamp h0 h hn))]
theorem rg_in {n : Nat} {f : Nat → Int32} {x : Int32} (h0 : ¬ x < 0) (h : ¬ nI n ≤ x) (hn : n < 2 ^ 31) : rg n f x = f x.toNatClampNeg := by unfold rg; rw [if_neg (vin h0 h hn)]
theorem rs_lt {n : Nat} {f : Nat → Int32} {x v : Int32} (h : x < 0) : rs n f x v = f := by unfold rs; rw [if_pos (Or.inl h)]
theorem rs_ge {n : Nat} {f : Nat → Int32} {x v : Int32} (h0 : ¬ x < 0) (h : nI n ≤ x) (hn : n < 2 ^ 31) : rs n f x v = f := by unfold rs; rw [if_pos (Or.inr (ge_clamp h0 h hn))]
theorem rs_in {n : Nat} {f : Nat → Int32} {x v : Int32} (h0 : ¬ x < 0) (h : ¬ nI n ≤ x) (hn : n < 2 ^ 31) : rs n f x v = upd f x.toNatClampNeg v := by unfold rs; rw [if_neg (vin h0 h hn)]
theorem rg_k {n k : Nat} {f : Nat → Int32} (h : k < n) (hn : n < 2 ^ 31) : rg n f (nI k) = f k := by
  rw [rg_in (nI_pos (by omega)) (nI_ge h hn) hn, nI_clamp (by omega)]
theorem rs_k {n k : Nat} {f : Nat → Int32} {v : Int32} (h : k < n) (hn : n < 2 ^ 31) : rs n f (nI k) v = upd f k v := by
  rw [rs_in (nI_pos (by omega)) (nI_ge h hn) hn, nI_clamp (by omega)]
/-! worlds -/
abbrev wRow (D : GG) (o a n : Nat) (f : Nat → Int32) : va_W := [(o, .inr (3, [.ref a])), (a, .inl (D.2 0, n, .inl f))]
abbrev wLand (D : GG) (A : Nat → Nat) (ns : Nat) (fog : Int32) (nr : Nat) (L : Nat → Nat → Int32) : va_W := [(A 0, .inr (0, [.int (nI ns), .ref (A 1), .ref (A 2), .int fog, .int (nI nr), .ref (A 3), .ref (A 4), .ref (A 5)])), (A 1, .inr (3, [.ref (A 6)])), (A 2, .inr (3, [.ref (A 7)])), (A 3, .inr (3, [.ref (A 8)])), (A 4, .inr (3, [.ref (A 9)])), (A 5, .inr (3, [.ref (A 10)])), (A 6, .inl (D.2 0, 10, .inl (L 0))), (A 7, .inl (D.2 0, 10, .inl (L 1))), (A 8, .inl (D.2 0, 15, .inl (L 2))), (A 9, .inl (D.2 0, 15, .inl (L 3))), (A 10, .inl (D.2 0, 15, .inl (L 4)))]
abbrev wWays (D : GG) (A : Nat → Nat) (L : Nat → Nat → Int32) : va_W := [(A 0, .inr (5, [.ref (A 1), .ref (A 2)])), (A 1, .inr (3, [.ref (A 3)])), (A 2, .inr (3, [.ref (A 4)])), (A 3, .inl (D.2 0, 100, .inl (L 0))), (A 4, .inl (D.2 0, 100, .inl (L 1)))]
abbrev wMul (D : GG) (A : Nat → Nat) (n : Nat) (L : Nat → Nat → Int32) : va_W := [(A 0, .inr (2, [.int (nI n), .ref (A 1), .ref (A 2), .ref (A 3), .ref (A 4), .ref (A 5)])), (A 1, .inr (3, [.ref (A 6)])), (A 2, .inr (3, [.ref (A 7)])), (A 3, .inr (3, [.ref (A 8)])), (A 4, .inr (3, [.ref (A 9)])), (A 5, .inr (3, [.ref (A 10)])), (A 6, .inl (D.2 0, 12, .inl (L 0))), (A 7, .inl (D.2 0, 12, .inl (L 1))), (A 8, .inl (D.2 0, 12, .inl (L 2))), (A 9, .inl (D.2 0, 12, .inl (L 3))), (A 10, .inl (D.2 0, 12, .inl (L 4)))]
abbrev wLet (D : GG) (A : Nat → Nat) (n : Nat) (L : Nat → Nat → Int32) : va_W := [(A 0, .inr (1, [.int (nI n), .ref (A 1), .ref (A 2), .ref (A 3), .ref (A 4), .ref (A 5), .ref (A 6), .ref (A 7), .ref (A 8), .ref (A 9), .ref (A 10), .ref (A 11)])), (A 1, .inr (3, [.ref (A 12)])), (A 2, .inr (3, [.ref (A 13)])), (A 3, .inr (3, [.ref (A 14)])), (A 4, .inr (3, [.ref (A 15)])), (A 5, .inr (3, [.ref (A 16)])), (A 6, .inr (3, [.ref (A 17)])), (A 7, .inr (3, [.ref (A 18)])), (A 8, .inr (3, [.ref (A 19)])), (A 9, .inr (3, [.ref (A 20)])), (A 10, .inr (3, [.ref (A 21)])), (A 11, .inr (3, [.ref (A 22)])), (A 12, .inl (D.2 0, 60, .inl (L 0))), (A 13, .inl (D.2 0, 60, .inl (L 1))), (A 14, .inl (D.2 0, 60, .inl (L 2))), (A 15, .inl (D.2 0, 60, .inl (L 3))), (A 16, .inl (D.2 0, 60, .inl (L 4))), (A 17, .inl (D.2 0, 60, .inl (L 5))), (A 18, .inl (D.2 0, 60, .inl (L 6))), (A 19, .inl (D.2 0, 60, .inl (L 7))), (A 20, .inl (D.2 0, 60, .inl (L 8))), (A 21, .inl (D.2 0, 60, .inl (L 9))), (A 22, .inl (D.2 0, 60, .inl (L 10)))]
abbrev wTob (o : Nat) (la wa mu le : Nat → Nat) (nx : Nat) (hr cr : Int32) : va_W := [(o, .inr (4, [.ref (la 0), .ref (wa 0), .ref (mu 0), .ref (le 0), .ref nx, .int hr, .int cr]))]
abbrev wMob (o : Nat) (la : Nat → Nat) (t1 t2 : Nat) : va_W := [(o, .inr (6, [.ref (la 0), .ref t1, .ref t2]))]
abbrev wMod (D : GG) (A : Nat → Nat) (th : Int32) (ns : Nat) (fog : Int32) (nr nm nl : Nat) (L : Nat → Nat → Int32) : va_W := [(A 0, .inr (7, [.int th, .int (nI ns), .ref (A 1), .ref (A 2), .int fog, .int (nI nr), .ref (A 3), .int (nI nm), .int (nI nl), .ref (A 4), .ref (A 5), .ref (A 6), .ref (A 7), .ref (A 8)])), (A 1, .inl (D.2 0, 10, .inl (L 0))), (A 2, .inl (D.2 0, 10, .inl (L 1))), (A 3, .inl (D.2 0, 45, .inl (L 2))), (A 4, .inl (D.2 0, 60, .inl (L 3))), (A 5, .inl (D.2 0, 660, .inl (L 4))), (A 6, .inl (D.2 0, 2, .inl (L 5))), (A 7, .inl (D.2 0, 100, .inl (L 6))), (A 8, .inl (D.2 0, 100, .inl (L 7)))]
theorem sbLand0 {D : GG} {A : Nat → Nat} {ns : Nat} {fog : Int32} {nr : Nat} {L : Nat → Nat → Int32} : Sb (wLand D A ns fog nr L) (wRow D (A 1) (A 6) 10 (L 0)) := by
  unfold Sb
  exact (.cons _ (.cons_cons _ (.cons _ (.cons _ (.cons _ (.cons _ (.cons_cons _ (.cons _ (.cons _ (.cons _ (.cons _ List.Sublist.slnil)))))))))))
theorem frLand0 {D : GG} {A : Nat → Nat} {ns : Nat} {fog : Int32} {nr : Nat} {L : Nat → Nat → Int32} {g : Nat → Int32} : Fr (wLand D A ns fog nr L) (wRow D (A 1) (A 6) 10 (L 0)) (wRow D (A 1) (A 6) 10 g) (wLand D A ns fog nr (sr L 0 g)) :=
  ⟨[(false, (A 0, .inr (0, [.int (nI ns), .ref (A 1), .ref (A 2), .int fog, .int (nI nr), .ref (A 3), .ref (A 4), .ref (A 5)])), (A 0, .inr (0, [.int (nI ns), .ref (A 1), .ref (A 2), .int fog, .int (nI nr), .ref (A 3), .ref (A 4), .ref (A 5)]))), (true, (A 1, .inr (3, [.ref (A 6)])), (A 1, .inr (3, [.ref (A 6)]))), (false, (A 2, .inr (3, [.ref (A 7)])), (A 2, .inr (3, [.ref (A 7)]))), (false, (A 3, .inr (3, [.ref (A 8)])), (A 3, .inr (3, [.ref (A 8)]))), (false, (A 4, .inr (3, [.ref (A 9)])), (A 4, .inr (3, [.ref (A 9)]))), (false, (A 5, .inr (3, [.ref (A 10)])), (A 5, .inr (3, [.ref (A 10)]))), (true, (A 6, .inl (D.2 0, 10, .inl (L 0))), (A 6, .inl (D.2 0, 10, .inl g))), (false, (A 7, .inl (D.2 0, 10, .inl (L 1))), (A 7, .inl (D.2 0, 10, .inl (L 1)))), (false, (A 8, .inl (D.2 0, 15, .inl (L 2))), (A 8, .inl (D.2 0, 15, .inl (L 2)))), (false, (A 9, .inl (D.2 0, 15, .inl (L 3))), (A 9, .inl (D.2 0, 15, .inl (L 3)))), (false, (A 10, .inl (D.2 0, 15, .inl (L 4))), (A 10, .inl (D.2 0, 15, .inl (L 4))))], rfl, rfl, rfl, rfl, by simp⟩
theorem sbLand1 {D : GG} {A : Nat → Nat} {ns : Nat} {fog : Int32} {nr : Nat} {L : Nat → Nat → Int32} : Sb (wLand D A ns fog nr L) (wRow D (A 2) (A 7) 10 (L 1)) := by
  unfold Sb
  exact (.cons _ (.cons _ (.cons_cons _ (.cons _ (.cons _ (.cons _ (.cons _ (.cons_cons _ (.cons _ (.cons _ (.cons _ List.Sublist.slnil)))))))))))
theorem frLand1 {D : GG} {A : Nat → Nat} {ns : Nat} {fog : Int32} {nr : Nat} {L : Nat → Nat → Int32} {g : Nat → Int32} : Fr (wLand D A ns fog nr L) (wRow D (A 2) (A 7) 10 (L 1)) (wRow D (A 2) (A 7) 10 g) (wLand D A ns fog nr (sr L 1 g)) :=
  ⟨[(false, (A 0, .inr (0, [.int (nI ns), .ref (A 1), .ref (A 2), .int fog, .int (nI nr), .ref (A 3), .ref (A 4), .ref (A 5)])), (A 0, .inr (0, [.int (nI ns), .ref (A 1), .ref (A 2), .int fog, .int (nI nr), .ref (A 3), .ref (A 4), .ref (A 5)]))), (false, (A 1, .inr (3, [.ref (A 6)])), (A 1, .inr (3, [.ref (A 6)]))), (true, (A 2, .inr (3, [.ref (A 7)])), (A 2, .inr (3, [.ref (A 7)]))), (false, (A 3, .inr (3, [.ref (A 8)])), (A 3, .inr (3, [.ref (A 8)]))), (false, (A 4, .inr (3, [.ref (A 9)])), (A 4, .inr (3, [.ref (A 9)]))), (false, (A 5, .inr (3, [.ref (A 10)])), (A 5, .inr (3, [.ref (A 10)]))), (false, (A 6, .inl (D.2 0, 10, .inl (L 0))), (A 6, .inl (D.2 0, 10, .inl (L 0)))), (true, (A 7, .inl (D.2 0, 10, .inl (L 1))), (A 7, .inl (D.2 0, 10, .inl g))), (false, (A 8, .inl (D.2 0, 15, .inl (L 2))), (A 8, .inl (D.2 0, 15, .inl (L 2)))), (false, (A 9, .inl (D.2 0, 15, .inl (L 3))), (A 9, .inl (D.2 0, 15, .inl (L 3)))), (false, (A 10, .inl (D.2 0, 15, .inl (L 4))), (A 10, .inl (D.2 0, 15, .inl (L 4))))], rfl, rfl, rfl, rfl, by simp⟩
theorem sbLand2 {D : GG} {A : Nat → Nat} {ns : Nat} {fog : Int32} {nr : Nat} {L : Nat → Nat → Int32} : Sb (wLand D A ns fog nr L) (wRow D (A 3) (A 8) 15 (L 2)) := by
  unfold Sb
  exact (.cons _ (.cons _ (.cons _ (.cons_cons _ (.cons _ (.cons _ (.cons _ (.cons _ (.cons_cons _ (.cons _ (.cons _ List.Sublist.slnil)))))))))))
theorem frLand2 {D : GG} {A : Nat → Nat} {ns : Nat} {fog : Int32} {nr : Nat} {L : Nat → Nat → Int32} {g : Nat → Int32} : Fr (wLand D A ns fog nr L) (wRow D (A 3) (A 8) 15 (L 2)) (wRow D (A 3) (A 8) 15 g) (wLand D A ns fog nr (sr L 2 g)) :=
  ⟨[(false, (A 0, .inr (0, [.int (nI ns), .ref (A 1), .ref (A 2), .int fog, .int (nI nr), .ref (A 3), .ref (A 4), .ref (A 5)])), (A 0, .inr (0, [.int (nI ns), .ref (A 1), .ref (A 2), .int fog, .int (nI nr), .ref (A 3), .ref (A 4), .ref (A 5)]))), (false, (A 1, .inr (3, [.ref (A 6)])), (A 1, .inr (3, [.ref (A 6)]))), (false, (A 2, .inr (3, [.ref (A 7)])), (A 2, .inr (3, [.ref (A 7)]))), (true, (A 3, .inr (3, [.ref (A 8)])), (A 3, .inr (3, [.ref (A 8)]))), (false, (A 4, .inr (3, [.ref (A 9)])), (A 4, .inr (3, [.ref (A 9)]))), (false, (A 5, .inr (3, [.ref (A 10)])), (A 5, .inr (3, [.ref (A 10)]))), (false, (A 6, .inl (D.2 0, 10, .inl (L 0))), (A 6, .inl (D.2 0, 10, .inl (L 0)))), (false, (A 7, .inl (D.2 0, 10, .inl (L 1))), (A 7, .inl (D.2 0, 10, .inl (L 1)))), (true, (A 8, .inl (D.2 0, 15, .inl (L 2))), (A 8, .inl (D.2 0, 15, .inl g))), (false, (A 9, .inl (D.2 0, 15, .inl (L 3))), (A 9, .inl (D.2 0, 15, .inl (L 3)))), (false, (A 10, .inl (D.2 0, 15, .inl (L 4))), (A 10, .inl (D.2 0, 15, .inl (L 4))))], rfl, rfl, rfl, rfl, by simp⟩
theorem sbLand3 {D : GG} {A : Nat → Nat} {ns : Nat} {fog : Int32} {nr : Nat} {L : Nat → Nat → Int32} : Sb (wLand D A ns fog nr L) (wRow D (A 4) (A 9) 15 (L 3)) := by
  unfold Sb
  exact (.cons _ (.cons _ (.cons _ (.cons _ (.cons_cons _ (.cons _ (.cons _ (.cons _ (.cons _ (.cons_cons _ (.cons _ List.Sublist.slnil)))))))))))
theorem frLand3 {D : GG} {A : Nat → Nat} {ns : Nat} {fog : Int32} {nr : Nat} {L : Nat → Nat → Int32} {g : Nat → Int32} : Fr (wLand D A ns fog nr L) (wRow D (A 4) (A 9) 15 (L 3)) (wRow D (A 4) (A 9) 15 g) (wLand D A ns fog nr (sr L 3 g)) :=
  ⟨[(false, (A 0, .inr (0, [.int (nI ns), .ref (A 1), .ref (A 2), .int fog, .int (nI nr), .ref (A 3), .ref (A 4), .ref (A 5)])), (A 0, .inr (0, [.int (nI ns), .ref (A 1), .ref (A 2), .int fog, .int (nI nr), .ref (A 3), .ref (A 4), .ref (A 5)]))), (false, (A 1, .inr (3, [.ref (A 6)])), (A 1, .inr (3, [.ref (A 6)]))), (false, (A 2, .inr (3, [.ref (A 7)])), (A 2, .inr (3, [.ref (A 7)]))), (false, (A 3, .inr (3, [.ref (A 8)])), (A 3, .inr (3, [.ref (A 8)]))), (true, (A 4, .inr (3, [.ref (A 9)])), (A 4, .inr (3, [.ref (A 9)]))), (false, (A 5, .inr (3, [.ref (A 10)])), (A 5, .inr (3, [.ref (A 10)]))), (false, (A 6, .inl (D.2 0, 10, .inl (L 0))), (A 6, .inl (D.2 0, 10, .inl (L 0)))), (false, (A 7, .inl (D.2 0, 10, .inl (L 1))), (A 7, .inl (D.2 0, 10, .inl (L 1)))), (false, (A 8, .inl (D.2 0, 15, .inl (L 2))), (A 8, .inl (D.2 0, 15, .inl (L 2)))), (true, (A 9, .inl (D.2 0, 15, .inl (L 3))), (A 9, .inl (D.2 0, 15, .inl g))), (false, (A 10, .inl (D.2 0, 15, .inl (L 4))), (A 10, .inl (D.2 0, 15, .inl (L 4))))], rfl, rfl, rfl, rfl, by simp⟩
theorem sbLand4 {D : GG} {A : Nat → Nat} {ns : Nat} {fog : Int32} {nr : Nat} {L : Nat → Nat → Int32} : Sb (wLand D A ns fog nr L) (wRow D (A 5) (A 10) 15 (L 4)) := by
  unfold Sb
  exact (.cons _ (.cons _ (.cons _ (.cons _ (.cons _ (.cons_cons _ (.cons _ (.cons _ (.cons _ (.cons _ (.cons_cons _ List.Sublist.slnil)))))))))))
theorem frLand4 {D : GG} {A : Nat → Nat} {ns : Nat} {fog : Int32} {nr : Nat} {L : Nat → Nat → Int32} {g : Nat → Int32} : Fr (wLand D A ns fog nr L) (wRow D (A 5) (A 10) 15 (L 4)) (wRow D (A 5) (A 10) 15 g) (wLand D A ns fog nr (sr L 4 g)) :=
  ⟨[(false, (A 0, .inr (0, [.int (nI ns), .ref (A 1), .ref (A 2), .int fog, .int (nI nr), .ref (A 3), .ref (A 4), .ref (A 5)])), (A 0, .inr (0, [.int (nI ns), .ref (A 1), .ref (A 2), .int fog, .int (nI nr), .ref (A 3), .ref (A 4), .ref (A 5)]))), (false, (A 1, .inr (3, [.ref (A 6)])), (A 1, .inr (3, [.ref (A 6)]))), (false, (A 2, .inr (3, [.ref (A 7)])), (A 2, .inr (3, [.ref (A 7)]))), (false, (A 3, .inr (3, [.ref (A 8)])), (A 3, .inr (3, [.ref (A 8)]))), (false, (A 4, .inr (3, [.ref (A 9)])), (A 4, .inr (3, [.ref (A 9)]))), (true, (A 5, .inr (3, [.ref (A 10)])), (A 5, .inr (3, [.ref (A 10)]))), (false, (A 6, .inl (D.2 0, 10, .inl (L 0))), (A 6, .inl (D.2 0, 10, .inl (L 0)))), (false, (A 7, .inl (D.2 0, 10, .inl (L 1))), (A 7, .inl (D.2 0, 10, .inl (L 1)))), (false, (A 8, .inl (D.2 0, 15, .inl (L 2))), (A 8, .inl (D.2 0, 15, .inl (L 2)))), (false, (A 9, .inl (D.2 0, 15, .inl (L 3))), (A 9, .inl (D.2 0, 15, .inl (L 3)))), (true, (A 10, .inl (D.2 0, 15, .inl (L 4))), (A 10, .inl (D.2 0, 15, .inl g)))], rfl, rfl, rfl, rfl, by simp⟩
theorem sbWays0 {D : GG} {A : Nat → Nat} {L : Nat → Nat → Int32} : Sb (wWays D A L) (wRow D (A 1) (A 3) 100 (L 0)) := by
  unfold Sb
  exact (.cons _ (.cons_cons _ (.cons _ (.cons_cons _ (.cons _ List.Sublist.slnil)))))
theorem frWays0 {D : GG} {A : Nat → Nat} {L : Nat → Nat → Int32} {g : Nat → Int32} : Fr (wWays D A L) (wRow D (A 1) (A 3) 100 (L 0)) (wRow D (A 1) (A 3) 100 g) (wWays D A (sr L 0 g)) :=
  ⟨[(false, (A 0, .inr (5, [.ref (A 1), .ref (A 2)])), (A 0, .inr (5, [.ref (A 1), .ref (A 2)]))), (true, (A 1, .inr (3, [.ref (A 3)])), (A 1, .inr (3, [.ref (A 3)]))), (false, (A 2, .inr (3, [.ref (A 4)])), (A 2, .inr (3, [.ref (A 4)]))), (true, (A 3, .inl (D.2 0, 100, .inl (L 0))), (A 3, .inl (D.2 0, 100, .inl g))), (false, (A 4, .inl (D.2 0, 100, .inl (L 1))), (A 4, .inl (D.2 0, 100, .inl (L 1))))], rfl, rfl, rfl, rfl, by simp⟩
theorem sbWays1 {D : GG} {A : Nat → Nat} {L : Nat → Nat → Int32} : Sb (wWays D A L) (wRow D (A 2) (A 4) 100 (L 1)) := by
  unfold Sb
  exact (.cons _ (.cons _ (.cons_cons _ (.cons _ (.cons_cons _ List.Sublist.slnil)))))
theorem frWays1 {D : GG} {A : Nat → Nat} {L : Nat → Nat → Int32} {g : Nat → Int32} : Fr (wWays D A L) (wRow D (A 2) (A 4) 100 (L 1)) (wRow D (A 2) (A 4) 100 g) (wWays D A (sr L 1 g)) :=
  ⟨[(false, (A 0, .inr (5, [.ref (A 1), .ref (A 2)])), (A 0, .inr (5, [.ref (A 1), .ref (A 2)]))), (false, (A 1, .inr (3, [.ref (A 3)])), (A 1, .inr (3, [.ref (A 3)]))), (true, (A 2, .inr (3, [.ref (A 4)])), (A 2, .inr (3, [.ref (A 4)]))), (false, (A 3, .inl (D.2 0, 100, .inl (L 0))), (A 3, .inl (D.2 0, 100, .inl (L 0)))), (true, (A 4, .inl (D.2 0, 100, .inl (L 1))), (A 4, .inl (D.2 0, 100, .inl g)))], rfl, rfl, rfl, rfl, by simp⟩
theorem sbMul0 {D : GG} {A : Nat → Nat} {n : Nat} {L : Nat → Nat → Int32} : Sb (wMul D A n L) (wRow D (A 1) (A 6) 12 (L 0)) := by
  unfold Sb
  exact (.cons _ (.cons_cons _ (.cons _ (.cons _ (.cons _ (.cons _ (.cons_cons _ (.cons _ (.cons _ (.cons _ (.cons _ List.Sublist.slnil)))))))))))
theorem frMul0 {D : GG} {A : Nat → Nat} {n : Nat} {L : Nat → Nat → Int32} {g : Nat → Int32} : Fr (wMul D A n L) (wRow D (A 1) (A 6) 12 (L 0)) (wRow D (A 1) (A 6) 12 g) (wMul D A n (sr L 0 g)) :=
  ⟨[(false, (A 0, .inr (2, [.int (nI n), .ref (A 1), .ref (A 2), .ref (A 3), .ref (A 4), .ref (A 5)])), (A 0, .inr (2, [.int (nI n), .ref (A 1), .ref (A 2), .ref (A 3), .ref (A 4), .ref (A 5)]))), (true, (A 1, .inr (3, [.ref (A 6)])), (A 1, .inr (3, [.ref (A 6)]))), (false, (A 2, .inr (3, [.ref (A 7)])), (A 2, .inr (3, [.ref (A 7)]))), (false, (A 3, .inr (3, [.ref (A 8)])), (A 3, .inr (3, [.ref (A 8)]))), (false, (A 4, .inr (3, [.ref (A 9)])), (A 4, .inr (3, [.ref (A 9)]))), (false, (A 5, .inr (3, [.ref (A 10)])), (A 5, .inr (3, [.ref (A 10)]))), (true, (A 6, .inl (D.2 0, 12, .inl (L 0))), (A 6, .inl (D.2 0, 12, .inl g))), (false, (A 7, .inl (D.2 0, 12, .inl (L 1))), (A 7, .inl (D.2 0, 12, .inl (L 1)))), (false, (A 8, .inl (D.2 0, 12, .inl (L 2))), (A 8, .inl (D.2 0, 12, .inl (L 2)))), (false, (A 9, .inl (D.2 0, 12, .inl (L 3))), (A 9, .inl (D.2 0, 12, .inl (L 3)))), (false, (A 10, .inl (D.2 0, 12, .inl (L 4))), (A 10, .inl (D.2 0, 12, .inl (L 4))))], rfl, rfl, rfl, rfl, by simp⟩
theorem sbMul1 {D : GG} {A : Nat → Nat} {n : Nat} {L : Nat → Nat → Int32} : Sb (wMul D A n L) (wRow D (A 2) (A 7) 12 (L 1)) := by
  unfold Sb
  exact (.cons _ (.cons _ (.cons_cons _ (.cons _ (.cons _ (.cons _ (.cons _ (.cons_cons _ (.cons _ (.cons _ (.cons _ List.Sublist.slnil)))))))))))
theorem frMul1 {D : GG} {A : Nat → Nat} {n : Nat} {L : Nat → Nat → Int32} {g : Nat → Int32} : Fr (wMul D A n L) (wRow D (A 2) (A 7) 12 (L 1)) (wRow D (A 2) (A 7) 12 g) (wMul D A n (sr L 1 g)) :=
  ⟨[(false, (A 0, .inr (2, [.int (nI n), .ref (A 1), .ref (A 2), .ref (A 3), .ref (A 4), .ref (A 5)])), (A 0, .inr (2, [.int (nI n), .ref (A 1), .ref (A 2), .ref (A 3), .ref (A 4), .ref (A 5)]))), (false, (A 1, .inr (3, [.ref (A 6)])), (A 1, .inr (3, [.ref (A 6)]))), (true, (A 2, .inr (3, [.ref (A 7)])), (A 2, .inr (3, [.ref (A 7)]))), (false, (A 3, .inr (3, [.ref (A 8)])), (A 3, .inr (3, [.ref (A 8)]))), (false, (A 4, .inr (3, [.ref (A 9)])), (A 4, .inr (3, [.ref (A 9)]))), (false, (A 5, .inr (3, [.ref (A 10)])), (A 5, .inr (3, [.ref (A 10)]))), (false, (A 6, .inl (D.2 0, 12, .inl (L 0))), (A 6, .inl (D.2 0, 12, .inl (L 0)))), (true, (A 7, .inl (D.2 0, 12, .inl (L 1))), (A 7, .inl (D.2 0, 12, .inl g))), (false, (A 8, .inl (D.2 0, 12, .inl (L 2))), (A 8, .inl (D.2 0, 12, .inl (L 2)))), (false, (A 9, .inl (D.2 0, 12, .inl (L 3))), (A 9, .inl (D.2 0, 12, .inl (L 3)))), (false, (A 10, .inl (D.2 0, 12, .inl (L 4))), (A 10, .inl (D.2 0, 12, .inl (L 4))))], rfl, rfl, rfl, rfl, by simp⟩
theorem sbMul2 {D : GG} {A : Nat → Nat} {n : Nat} {L : Nat → Nat → Int32} : Sb (wMul D A n L) (wRow D (A 3) (A 8) 12 (L 2)) := by
  unfold Sb
  exact (.cons _ (.cons _ (.cons _ (.cons_cons _ (.cons _ (.cons _ (.cons _ (.cons _ (.cons_cons _ (.cons _ (.cons _ List.Sublist.slnil)))))))))))
theorem frMul2 {D : GG} {A : Nat → Nat} {n : Nat} {L : Nat → Nat → Int32} {g : Nat → Int32} : Fr (wMul D A n L) (wRow D (A 3) (A 8) 12 (L 2)) (wRow D (A 3) (A 8) 12 g) (wMul D A n (sr L 2 g)) :=
  ⟨[(false, (A 0, .inr (2, [.int (nI n), .ref (A 1), .ref (A 2), .ref (A 3), .ref (A 4), .ref (A 5)])), (A 0, .inr (2, [.int (nI n), .ref (A 1), .ref (A 2), .ref (A 3), .ref (A 4), .ref (A 5)]))), (false, (A 1, .inr (3, [.ref (A 6)])), (A 1, .inr (3, [.ref (A 6)]))), (false, (A 2, .inr (3, [.ref (A 7)])), (A 2, .inr (3, [.ref (A 7)]))), (true, (A 3, .inr (3, [.ref (A 8)])), (A 3, .inr (3, [.ref (A 8)]))), (false, (A 4, .inr (3, [.ref (A 9)])), (A 4, .inr (3, [.ref (A 9)]))), (false, (A 5, .inr (3, [.ref (A 10)])), (A 5, .inr (3, [.ref (A 10)]))), (false, (A 6, .inl (D.2 0, 12, .inl (L 0))), (A 6, .inl (D.2 0, 12, .inl (L 0)))), (false, (A 7, .inl (D.2 0, 12, .inl (L 1))), (A 7, .inl (D.2 0, 12, .inl (L 1)))), (true, (A 8, .inl (D.2 0, 12, .inl (L 2))), (A 8, .inl (D.2 0, 12, .inl g))), (false, (A 9, .inl (D.2 0, 12, .inl (L 3))), (A 9, .inl (D.2 0, 12, .inl (L 3)))), (false, (A 10, .inl (D.2 0, 12, .inl (L 4))), (A 10, .inl (D.2 0, 12, .inl (L 4))))], rfl, rfl, rfl, rfl, by simp⟩
theorem sbMul3 {D : GG} {A : Nat → Nat} {n : Nat} {L : Nat → Nat → Int32} : Sb (wMul D A n L) (wRow D (A 4) (A 9) 12 (L 3)) := by
  unfold Sb
  exact (.cons _ (.cons _ (.cons _ (.cons _ (.cons_cons _ (.cons _ (.cons _ (.cons _ (.cons _ (.cons_cons _ (.cons _ List.Sublist.slnil)))))))))))
theorem frMul3 {D : GG} {A : Nat → Nat} {n : Nat} {L : Nat → Nat → Int32} {g : Nat → Int32} : Fr (wMul D A n L) (wRow D (A 4) (A 9) 12 (L 3)) (wRow D (A 4) (A 9) 12 g) (wMul D A n (sr L 3 g)) :=
  ⟨[(false, (A 0, .inr (2, [.int (nI n), .ref (A 1), .ref (A 2), .ref (A 3), .ref (A 4), .ref (A 5)])), (A 0, .inr (2, [.int (nI n), .ref (A 1), .ref (A 2), .ref (A 3), .ref (A 4), .ref (A 5)]))), (false, (A 1, .inr (3, [.ref (A 6)])), (A 1, .inr (3, [.ref (A 6)]))), (false, (A 2, .inr (3, [.ref (A 7)])), (A 2, .inr (3, [.ref (A 7)]))), (false, (A 3, .inr (3, [.ref (A 8)])), (A 3, .inr (3, [.ref (A 8)]))), (true, (A 4, .inr (3, [.ref (A 9)])), (A 4, .inr (3, [.ref (A 9)]))), (false, (A 5, .inr (3, [.ref (A 10)])), (A 5, .inr (3, [.ref (A 10)]))), (false, (A 6, .inl (D.2 0, 12, .inl (L 0))), (A 6, .inl (D.2 0, 12, .inl (L 0)))), (false, (A 7, .inl (D.2 0, 12, .inl (L 1))), (A 7, .inl (D.2 0, 12, .inl (L 1)))), (false, (A 8, .inl (D.2 0, 12, .inl (L 2))), (A 8, .inl (D.2 0, 12, .inl (L 2)))), (true, (A 9, .inl (D.2 0, 12, .inl (L 3))), (A 9, .inl (D.2 0, 12, .inl g))), (false, (A 10, .inl (D.2 0, 12, .inl (L 4))), (A 10, .inl (D.2 0, 12, .inl (L 4))))], rfl, rfl, rfl, rfl, by simp⟩
theorem sbMul4 {D : GG} {A : Nat → Nat} {n : Nat} {L : Nat → Nat → Int32} : Sb (wMul D A n L) (wRow D (A 5) (A 10) 12 (L 4)) := by
  unfold Sb
  exact (.cons _ (.cons _ (.cons _ (.cons _ (.cons _ (.cons_cons _ (.cons _ (.cons _ (.cons _ (.cons _ (.cons_cons _ List.Sublist.slnil)))))))))))
theorem frMul4 {D : GG} {A : Nat → Nat} {n : Nat} {L : Nat → Nat → Int32} {g : Nat → Int32} : Fr (wMul D A n L) (wRow D (A 5) (A 10) 12 (L 4)) (wRow D (A 5) (A 10) 12 g) (wMul D A n (sr L 4 g)) :=
  ⟨[(false, (A 0, .inr (2, [.int (nI n), .ref (A 1), .ref (A 2), .ref (A 3), .ref (A 4), .ref (A 5)])), (A 0, .inr (2, [.int (nI n), .ref (A 1), .ref (A 2), .ref (A 3), .ref (A 4), .ref (A 5)]))), (false, (A 1, .inr (3, [.ref (A 6)])), (A 1, .inr (3, [.ref (A 6)]))), (false, (A 2, .inr (3, [.ref (A 7)])), (A 2, .inr (3, [.ref (A 7)]))), (false, (A 3, .inr (3, [.ref (A 8)])), (A 3, .inr (3, [.ref (A 8)]))), (false, (A 4, .inr (3, [.ref (A 9)])), (A 4, .inr (3, [.ref (A 9)]))), (true, (A 5, .inr (3, [.ref (A 10)])), (A 5, .inr (3, [.ref (A 10)]))), (false, (A 6, .inl (D.2 0, 12, .inl (L 0))), (A 6, .inl (D.2 0, 12, .inl (L 0)))), (false, (A 7, .inl (D.2 0, 12, .inl (L 1))), (A 7, .inl (D.2 0, 12, .inl (L 1)))), (false, (A 8, .inl (D.2 0, 12, .inl (L 2))), (A 8, .inl (D.2 0, 12, .inl (L 2)))), (false, (A 9, .inl (D.2 0, 12, .inl (L 3))), (A 9, .inl (D.2 0, 12, .inl (L 3)))), (true, (A 10, .inl (D.2 0, 12, .inl (L 4))), (A 10, .inl (D.2 0, 12, .inl g)))], rfl, rfl, rfl, rfl, by simp⟩
theorem sbLet0 {D : GG} {A : Nat → Nat} {n : Nat} {L : Nat → Nat → Int32} : Sb (wLet D A n L) (wRow D (A 1) (A 12) 60 (L 0)) := by
  unfold Sb
  exact (.cons _ (.cons_cons _ (.cons _ (.cons _ (.cons _ (.cons _ (.cons _ (.cons _ (.cons _ (.cons _ (.cons _ (.cons _ (.cons_cons _ (.cons _ (.cons _ (.cons _ (.cons _ (.cons _ (.cons _ (.cons _ (.cons _ (.cons _ (.cons _ List.Sublist.slnil)))))))))))))))))))))))
theorem frLet0 {D : GG} {A : Nat → Nat} {n : Nat} {L : Nat → Nat → Int32} {g : Nat → Int32} : Fr (wLet D A n L) (wRow D (A 1) (A 12) 60 (L 0)) (wRow D (A 1) (A 12) 60 g) (wLet D A n (sr L 0 g)) :=
  ⟨[(false, (A 0, .inr (1, [.int (nI n), .ref (A 1), .ref (A 2), .ref (A 3), .ref (A 4), .ref (A 5), .ref (A 6), .ref (A 7), .ref (A 8), .ref (A 9), .ref (A 10), .ref (A 11)])), (A 0, .inr (1, [.int (nI n), .ref (A 1), .ref (A 2), .ref (A 3), .ref (A 4), .ref (A 5), .ref (A 6), .ref (A 7), .ref (A 8), .ref (A 9), .ref (A 10), .ref (A 11)]))), (true, (A 1, .inr (3, [.ref (A 12)])), (A 1, .inr (3, [.ref (A 12)]))), (false, (A 2, .inr (3, [.ref (A 13)])), (A 2, .inr (3, [.ref (A 13)]))), (false, (A 3, .inr (3, [.ref (A 14)])), (A 3, .inr (3, [.ref (A 14)]))), (false, (A 4, .inr (3, [.ref (A 15)])), (A 4, .inr (3, [.ref (A 15)]))), (false, (A 5, .inr (3, [.ref (A 16)])), (A 5, .inr (3, [.ref (A 16)]))), (false, (A 6, .inr (3, [.ref (A 17)])), (A 6, .inr (3, [.ref (A 17)]))), (false, (A 7, .inr (3, [.ref (A 18)])), (A 7, .inr (3, [.ref (A 18)]))), (false, (A 8, .inr (3, [.ref (A 19)])), (A 8, .inr (3, [.ref (A 19)]))), (false, (A 9, .inr (3, [.ref (A 20)])), (A 9, .inr (3, [.ref (A 20)]))), (false, (A 10, .inr (3, [.ref (A 21)])), (A 10, .inr (3, [.ref (A 21)]))), (false, (A 11, .inr (3, [.ref (A 22)])), (A 11, .inr (3, [.ref (A 22)]))), (true, (A 12, .inl (D.2 0, 60, .inl (L 0))), (A 12, .inl (D.2 0, 60, .inl g))), (false, (A 13, .inl (D.2 0, 60, .inl (L 1))), (A 13, .inl (D.2 0, 60, .inl (L 1)))), (false, (A 14, .inl (D.2 0, 60, .inl (L 2))), (A 14, .inl (D.2 0, 60, .inl (L 2)))), (false, (A 15, .inl (D.2 0, 60, .inl (L 3))), (A 15, .inl (D.2 0, 60, .inl (L 3)))), (false, (A 16, .inl (D.2 0, 60, .inl (L 4))), (A 16, .inl (D.2 0, 60, .inl (L 4)))), (false, (A 17, .inl (D.2 0, 60, .inl (L 5))), (A 17, .inl (D.2 0, 60, .inl (L 5)))), (false, (A 18, .inl (D.2 0, 60, .inl (L 6))), (A 18, .inl (D.2 0, 60, .inl (L 6)))), (false, (A 19, .inl (D.2 0, 60, .inl (L 7))), (A 19, .inl (D.2 0, 60, .inl (L 7)))), (false, (A 20, .inl (D.2 0, 60, .inl (L 8))), (A 20, .inl (D.2 0, 60, .inl (L 8)))), (false, (A 21, .inl (D.2 0, 60, .inl (L 9))), (A 21, .inl (D.2 0, 60, .inl (L 9)))), (false, (A 22, .inl (D.2 0, 60, .inl (L 10))), (A 22, .inl (D.2 0, 60, .inl (L 10))))], rfl, rfl, rfl, rfl, by simp⟩
theorem sbLet1 {D : GG} {A : Nat → Nat} {n : Nat} {L : Nat → Nat → Int32} : Sb (wLet D A n L) (wRow D (A 2) (A 13) 60 (L 1)) := by
  unfold Sb
  exact (.cons _ (.cons _ (.cons_cons _ (.cons _ (.cons _ (.cons _ (.cons _ (.cons _ (.cons _ (.cons _ (.cons _ (.cons _ (.cons _ (.cons_cons _ (.cons _ (.cons _ (.cons _ (.cons _ (.cons _ (.cons _ (.cons _ (.cons _ (.cons _ List.Sublist.slnil)))))))))))))))))))))))
theorem frLet1 {D : GG} {A : Nat → Nat} {n : Nat} {L : Nat → Nat → Int32} {g : Nat → Int32} : Fr (wLet D A n L) (wRow D (A 2) (A 13) 60 (L 1)) (wRow D (A 2) (A 13) 60 g) (wLet D A n (sr L 1 g)) :=
  ⟨[(false, (A 0, .inr (1, [.int (nI n), .ref (A 1), .ref (A 2), .ref (A 3), .ref (A 4), .ref (A 5), .ref (A 6), .ref (A 7), .ref (A 8), .ref (A 9), .ref (A 10), .ref (A 11)])), (A 0, .inr (1, [.int (nI n), .ref (A 1), .ref (A 2), .ref (A 3), .ref (A 4), .ref (A 5), .ref (A 6), .ref (A 7), .ref (A 8), .ref (A 9), .ref (A 10), .ref (A 11)]))), (false, (A 1, .inr (3, [.ref (A 12)])), (A 1, .inr (3, [.ref (A 12)]))), (true, (A 2, .inr (3, [.ref (A 13)])), (A 2, .inr (3, [.ref (A 13)]))), (false, (A 3, .inr (3, [.ref (A 14)])), (A 3, .inr (3, [.ref (A 14)]))), (false, (A 4, .inr (3, [.ref (A 15)])), (A 4, .inr (3, [.ref (A 15)]))), (false, (A 5, .inr (3, [.ref (A 16)])), (A 5, .inr (3, [.ref (A 16)]))), (false, (A 6, .inr (3, [.ref (A 17)])), (A 6, .inr (3, [.ref (A 17)]))), (false, (A 7, .inr (3, [.ref (A 18)])), (A 7, .inr (3, [.ref (A 18)]))), (false, (A 8, .inr (3, [.ref (A 19)])), (A 8, .inr (3, [.ref (A 19)]))), (false, (A 9, .inr (3, [.ref (A 20)])), (A 9, .inr (3, [.ref (A 20)]))), (false, (A 10, .inr (3, [.ref (A 21)])), (A 10, .inr (3, [.ref (A 21)]))), (false, (A 11, .inr (3, [.ref (A 22)])), (A 11, .inr (3, [.ref (A 22)]))), (false, (A 12, .inl (D.2 0, 60, .inl (L 0))), (A 12, .inl (D.2 0, 60, .inl (L 0)))), (true, (A 13, .inl (D.2 0, 60, .inl (L 1))), (A 13, .inl (D.2 0, 60, .inl g))), (false, (A 14, .inl (D.2 0, 60, .inl (L 2))), (A 14, .inl (D.2 0, 60, .inl (L 2)))), (false, (A 15, .inl (D.2 0, 60, .inl (L 3))), (A 15, .inl (D.2 0, 60, .inl (L 3)))), (false, (A 16, .inl (D.2 0, 60, .inl (L 4))), (A 16, .inl (D.2 0, 60, .inl (L 4)))), (false, (A 17, .inl (D.2 0, 60, .inl (L 5))), (A 17, .inl (D.2 0, 60, .inl (L 5)))), (false, (A 18, .inl (D.2 0, 60, .inl (L 6))), (A 18, .inl (D.2 0, 60, .inl (L 6)))), (false, (A 19, .inl (D.2 0, 60, .inl (L 7))), (A 19, .inl (D.2 0, 60, .inl (L 7)))), (false, (A 20, .inl (D.2 0, 60, .inl (L 8))), (A 20, .inl (D.2 0, 60, .inl (L 8)))), (false, (A 21, .inl (D.2 0, 60, .inl (L 9))), (A 21, .inl (D.2 0, 60, .inl (L 9)))), (false, (A 22, .inl (D.2 0, 60, .inl (L 10))), (A 22, .inl (D.2 0, 60, .inl (L 10))))], rfl, rfl, rfl, rfl, by simp⟩
theorem sbLet2 {D : GG} {A : Nat → Nat} {n : Nat} {L : Nat → Nat → Int32} : Sb (wLet D A n L) (wRow D (A 3) (A 14) 60 (L 2)) := by
  unfold Sb
  exact (.cons _ (.cons _ (.cons _ (.cons_cons _ (.cons _ (.cons _ (.cons _ (.cons _ (.cons _ (.cons _ (.cons _ (.cons _ (.cons _ (.cons _ (.cons_cons _ (.cons _ (.cons _ (.cons _ (.cons _ (.cons _ (.cons _ (.cons _ (.cons _ List.Sublist.slnil)))))))))))))))))))))))
theorem frLet2 {D : GG} {A : Nat → Nat} {n : Nat} {L : Nat → Nat → Int32} {g : Nat → Int32} : Fr (wLet D A n L) (wRow D (A 3) (A 14) 60 (L 2)) (wRow D (A 3) (A 14) 60 g) (wLet D A n (sr L 2 g)) :=
  ⟨[(false, (A 0, .inr (1, [.int (nI n), .ref (A 1), .ref (A 2), .ref (A 3), .ref (A 4), .ref (A 5), .ref (A 6), .ref (A 7), .ref (A 8), .ref (A 9), .ref (A 10), .ref (A 11)])), (A 0, .inr (1, [.int (nI n), .ref (A 1), .ref (A 2), .ref (A 3), .ref (A 4), .ref (A 5), .ref (A 6), .ref (A 7), .ref (A 8), .ref (A 9), .ref (A 10), .ref (A 11)]))), (false, (A 1, .inr (3, [.ref (A 12)])), (A 1, .inr (3, [.ref (A 12)]))), (false, (A 2, .inr (3, [.ref (A 13)])), (A 2, .inr (3, [.ref (A 13)]))), (true, (A 3, .inr (3, [.ref (A 14)])), (A 3, .inr (3, [.ref (A 14)]))), (false, (A 4, .inr (3, [.ref (A 15)])), (A 4, .inr (3, [.ref (A 15)]))), (false, (A 5, .inr (3, [.ref (A 16)])), (A 5, .inr (3, [.ref (A 16)]))), (false, (A 6, .inr (3, [.ref (A 17)])), (A 6, .inr (3, [.ref (A 17)]))), (false, (A 7, .inr (3, [.ref (A 18)])), (A 7, .inr (3, [.ref (A 18)]))), (false, (A 8, .inr (3, [.ref (A 19)])), (A 8, .inr (3, [.ref (A 19)]))), (false, (A 9, .inr (3, [.ref (A 20)])), (A 9, .inr (3, [.ref (A 20)]))), (false, (A 10, .inr (3, [.ref (A 21)])), (A 10, .inr (3, [.ref (A 21)]))), (false, (A 11, .inr (3, [.ref (A 22)])), (A 11, .inr (3, [.ref (A 22)]))), (false, (A 12, .inl (D.2 0, 60, .inl (L 0))), (A 12, .inl (D.2 0, 60, .inl (L 0)))), (false, (A 13, .inl (D.2 0, 60, .inl (L 1))), (A 13, .inl (D.2 0, 60, .inl (L 1)))), (true, (A 14, .inl (D.2 0, 60, .inl (L 2))), (A 14, .inl (D.2 0, 60, .inl g))), (false, (A 15, .inl (D.2 0, 60, .inl (L 3))), (A 15, .inl (D.2 0, 60, .inl (L 3)))), (false, (A 16, .inl (D.2 0, 60, .inl (L 4))), (A 16, .inl (D.2 0, 60, .inl (L 4)))), (false, (A 17, .inl (D.2 0, 60, .inl (L 5))), (A 17, .inl (D.2 0, 60, .inl (L 5)))), (false, (A 18, .inl (D.2 0, 60, .inl (L 6))), (A 18, .inl (D.2 0, 60, .inl (L 6)))), (false, (A 19, .inl (D.2 0, 60, .inl (L 7))), (A 19, .inl (D.2 0, 60, .inl (L 7)))), (false, (A 20, .inl (D.2 0, 60, .inl (L 8))), (A 20, .inl (D.2 0, 60, .inl (L 8)))), (false, (A 21, .inl (D.2 0, 60, .inl (L 9))), (A 21, .inl (D.2 0, 60, .inl (L 9)))), (false, (A 22, .inl (D.2 0, 60, .inl (L 10))), (A 22, .inl (D.2 0, 60, .inl (L 10))))], rfl, rfl, rfl, rfl, by simp⟩
theorem sbLet3 {D : GG} {A : Nat → Nat} {n : Nat} {L : Nat → Nat → Int32} : Sb (wLet D A n L) (wRow D (A 4) (A 15) 60 (L 3)) := by
  unfold Sb
  exact (.cons _ (.cons _ (.cons _ (.cons _ (.cons_cons _ (.cons _ (.cons _ (.cons _ (.cons _ (.cons _ (.cons _ (.cons _ (.cons _ (.cons _ (.cons _ (.cons_cons _ (.cons _ (.cons _ (.cons _ (.cons _ (.cons _ (.cons _ (.cons _ List.Sublist.slnil)))))))))))))))))))))))
theorem frLet3 {D : GG} {A : Nat → Nat} {n : Nat} {L : Nat → Nat → Int32} {g : Nat → Int32} : Fr (wLet D A n L) (wRow D (A 4) (A 15) 60 (L 3)) (wRow D (A 4) (A 15) 60 g) (wLet D A n (sr L 3 g)) :=
  ⟨[(false, (A 0, .inr (1, [.int (nI n), .ref (A 1), .ref (A 2), .ref (A 3), .ref (A 4), .ref (A 5), .ref (A 6), .ref (A 7), .ref (A 8), .ref (A 9), .ref (A 10), .ref (A 11)])), (A 0, .inr (1, [.int (nI n), .ref (A 1), .ref (A 2), .ref (A 3), .ref (A 4), .ref (A 5), .ref (A 6), .ref (A 7), .ref (A 8), .ref (A 9), .ref (A 10), .ref (A 11)]))), (false, (A 1, .inr (3, [.ref (A 12)])), (A 1, .inr (3, [.ref (A 12)]))), (false, (A 2, .inr (3, [.ref (A 13)])), (A 2, .inr (3, [.ref (A 13)]))), (false, (A 3, .inr (3, [.ref (A 14)])), (A 3, .inr (3, [.ref (A 14)]))), (true, (A 4, .inr (3, [.ref (A 15)])), (A 4, .inr (3, [.ref (A 15)]))), (false, (A 5, .inr (3, [.ref (A 16)])), (A 5, .inr (3, [.ref (A 16)]))), (false, (A 6, .inr (3, [.ref (A 17)])), (A 6, .inr (3, [.ref (A 17)]))), (false, (A 7, .inr (3, [.ref (A 18)])), (A 7, .inr (3, [.ref (A 18)]))), (false, (A 8, .inr (3, [.ref (A 19)])), (A 8, .inr (3, [.ref (A 19)]))), (false, (A 9, .inr (3, [.ref (A 20)])), (A 9, .inr (3, [.ref (A 20)]))), (false, (A 10, .inr (3, [.ref (A 21)])), (A 10, .inr (3, [.ref (A 21)]))), (false, (A 11, .inr (3, [.ref (A 22)])), (A 11, .inr (3, [.ref (A 22)]))), (false, (A 12, .inl (D.2 0, 60, .inl (L 0))), (A 12, .inl (D.2 0, 60, .inl (L 0)))), (false, (A 13, .inl (D.2 0, 60, .inl (L 1))), (A 13, .inl (D.2 0, 60, .inl (L 1)))), (false, (A 14, .inl (D.2 0, 60, .inl (L 2))), (A 14, .inl (D.2 0, 60, .inl (L 2)))), (true, (A 15, .inl (D.2 0, 60, .inl (L 3))), (A 15, .inl (D.2 0, 60, .inl g))), (false, (A 16, .inl (D.2 0, 60, .inl (L 4))), (A 16, .inl (D.2 0, 60, .inl (L 4)))), (false, (A 17, .inl (D.2 0, 60, .inl (L 5))), (A 17, .inl (D.2 0, 60, .inl (L 5)))), (false, (A 18, .inl (D.2 0, 60, .inl (L 6))), (A 18, .inl (D.2 0, 60, .inl (L 6)))), (false, (A 19, .inl (D.2 0, 60, .inl (L 7))), (A 19, .inl (D.2 0, 60, .inl (L 7)))), (false, (A 20, .inl (D.2 0, 60, .inl (L 8))), (A 20, .inl (D.2 0, 60, .inl (L 8)))), (false, (A 21, .inl (D.2 0, 60, .inl (L 9))), (A 21, .inl (D.2 0, 60, .inl (L 9)))), (false, (A 22, .inl (D.2 0, 60, .inl (L 10))), (A 22, .inl (D.2 0, 60, .inl (L 10))))], rfl, rfl, rfl, rfl, by simp⟩
theorem sbLet4 {D : GG} {A : Nat → Nat} {n : Nat} {L : Nat → Nat → Int32} : Sb (wLet D A n L) (wRow D (A 5) (A 16) 60 (L 4)) := by
  unfold Sb
  exact (.cons _ (.cons _ (.cons _ (.cons _ (.cons _ (.cons_cons _ (.cons _ (.cons _ (.cons _ (.cons _ (.cons _ (.cons _ (.cons _ (.cons _ (.cons _ (.cons _ (.cons_cons _ (.cons _ (.cons _ (.cons _ (.cons _ (.cons _ (.cons _ List.Sublist.slnil)))))))))))))))))))))))
theorem frLet4 {D : GG} {A : Nat → Nat} {n : Nat} {L : Nat → Nat → Int32} {g : Nat → Int32} : Fr (wLet D A n L) (wRow D (A 5) (A 16) 60 (L 4)) (wRow D (A 5) (A 16) 60 g) (wLet D A n (sr L 4 g)) :=
  ⟨[(false, (A 0, .inr (1, [.int (nI n), .ref (A 1), .ref (A 2), .ref (A 3), .ref (A 4), .ref (A 5), .ref (A 6), .ref (A 7), .ref (A 8), .ref (A 9), .ref (A 10), .ref (A 11)])), (A 0, .inr (1, [.int (nI n), .ref (A 1), .ref (A 2), .ref (A 3), .ref (A 4), .ref (A 5), .ref (A 6), .ref (A 7), .ref (A 8), .ref (A 9), .ref (A 10), .ref (A 11)]))), (false, (A 1, .inr (3, [.ref (A 12)])), (A 1, .inr (3, [.ref (A 12)]))), (false, (A 2, .inr (3, [.ref (A 13)])), (A 2, .inr (3, [.ref (A 13)]))), (false, (A 3, .inr (3, [.ref (A 14)])), (A 3, .inr (3, [.ref (A 14)]))), (false, (A 4, .inr (3, [.ref (A 15)])), (A 4, .inr (3, [.ref (A 15)]))), (true, (A 5, .inr (3, [.ref (A 16)])), (A 5, .inr (3, [.ref (A 16)]))), (false, (A 6, .inr (3, [.ref (A 17)])), (A 6, .inr (3, [.ref (A 17)]))), (false, (A 7, .inr (3, [.ref (A 18)])), (A 7, .inr (3, [.ref (A 18)]))), (false, (A 8, .inr (3, [.ref (A 19)])), (A 8, .inr (3, [.ref (A 19)]))), (false, (A 9, .inr (3, [.ref (A 20)])), (A 9, .inr (3, [.ref (A 20)]))), (false, (A 10, .inr (3, [.ref (A 21)])), (A 10, .inr (3, [.ref (A 21)]))), (false, (A 11, .inr (3, [.ref (A 22)])), (A 11, .inr (3, [.ref (A 22)]))), (false, (A 12, .inl (D.2 0, 60, .inl (L 0))), (A 12, .inl (D.2 0, 60, .inl (L 0)))), (false, (A 13, .inl (D.2 0, 60, .inl (L 1))), (A 13, .inl (D.2 0, 60, .inl (L 1)))), (false, (A 14, .inl (D.2 0, 60, .inl (L 2))), (A 14, .inl (D.2 0, 60, .inl (L 2)))), (false, (A 15, .inl (D.2 0, 60, .inl (L 3))), (A 15, .inl (D.2 0, 60, .inl (L 3)))), (true, (A 16, .inl (D.2 0, 60, .inl (L 4))), (A 16, .inl (D.2 0, 60, .inl g))), (false, (A 17, .inl (D.2 0, 60, .inl (L 5))), (A 17, .inl (D.2 0, 60, .inl (L 5)))), (false, (A 18, .inl (D.2 0, 60, .inl (L 6))), (A 18, .inl (D.2 0, 60, .inl (L 6)))), (false, (A 19, .inl (D.2 0, 60, .inl (L 7))), (A 19, .inl (D.2 0, 60, .inl (L 7)))), (false, (A 20, .inl (D.2 0, 60, .inl (L 8))), (A 20, .inl (D.2 0, 60, .inl (L 8)))), (false, (A 21, .inl (D.2 0, 60, .inl (L 9))), (A 21, .inl (D.2 0, 60, .inl (L 9)))), (false, (A 22, .inl (D.2 0, 60, .inl (L 10))), (A 22, .inl (D.2 0, 60, .inl (L 10))))], rfl, rfl, rfl, rfl, by simp⟩
theorem sbLet5 {D : GG} {A : Nat → Nat} {n : Nat} {L : Nat → Nat → Int32} : Sb (wLet D A n L) (wRow D (A 6) (A 17) 60 (L 5)) := by
  unfold Sb
  exact (.cons _ (.cons _ (.cons _ (.cons _ (.cons _ (.cons _ (.cons_cons _ (.cons _ (.cons _ (.cons _ (.cons _ (.cons _ (.cons _ (.cons _ (.cons _ (.cons _ (.cons _ (.cons_cons _ (.cons _ (.cons _ (.cons _ (.cons _ (.cons _ List.Sublist.slnil)))))))))))))))))))))))
theorem frLet5 {D : GG} {A : Nat → Nat} {n : Nat} {L : Nat → Nat → Int32} {g : Nat → Int32} : Fr (wLet D A n L) (wRow D (A 6) (A 17) 60 (L 5)) (wRow D (A 6) (A 17) 60 g) (wLet D A n (sr L 5 g)) :=
  ⟨[(false, (A 0, .inr (1, [.int (nI n), .ref (A 1), .ref (A 2), .ref (A 3), .ref (A 4), .ref (A 5), .ref (A 6), .ref (A 7), .ref (A 8), .ref (A 9), .ref (A 10), .ref (A 11)])), (A 0, .inr (1, [.int (nI n), .ref (A 1), .ref (A 2), .ref (A 3), .ref (A 4), .ref (A 5), .ref (A 6), .ref (A 7), .ref (A 8), .ref (A 9), .ref (A 10), .ref (A 11)]))), (false, (A 1, .inr (3, [.ref (A 12)])), (A 1, .inr (3, [.ref (A 12)]))), (false, (A 2, .inr (3, [.ref (A 13)])), (A 2, .inr (3, [.ref (A 13)]))), (false, (A 3, .inr (3, [.ref (A 14)])), (A 3, .inr (3, [.ref (A 14)]))), (false, (A 4, .inr (3, [.ref (A 15)])), (A 4, .inr (3, [.ref (A 15)]))), (false, (A 5, .inr (3, [.ref (A 16)])), (A 5, .inr (3, [.ref (A 16)]))), (true, (A 6, .inr (3, [.ref (A 17)])), (A 6, .inr (3, [.ref (A 17)]))), (false, (A 7, .inr (3, [.ref (A 18)])), (A 7, .inr (3, [.ref (A 18)]))), (false, (A 8, .inr (3, [.ref (A 19)])), (A 8, .inr (3, [.ref (A 19)]))), (false, (A 9, .inr (3, [.ref (A 20)])), (A 9, .inr (3, [.ref (A 20)]))), (false, (A 10, .inr (3, [.ref (A 21)])), (A 10, .inr (3, [.ref (A 21)]))), (false, (A 11, .inr (3, [.ref (A 22)])), (A 11, .inr (3, [.ref (A 22)]))), (false, (A 12, .inl (D.2 0, 60, .inl (L 0))), (A 12, .inl (D.2 0, 60, .inl (L 0)))), (false, (A 13, .inl (D.2 0, 60, .inl (L 1))), (A 13, .inl (D.2 0, 60, .inl (L 1)))), (false, (A 14, .inl (D.2 0, 60, .inl (L 2))), (A 14, .inl (D.2 0, 60, .inl (L 2)))), (false, (A 15, .inl (D.2 0, 60, .inl (L 3))), (A 15, .inl (D.2 0, 60, .inl (L 3)))), (false, (A 16, .inl (D.2 0, 60, .inl (L 4))), (A 16, .inl (D.2 0, 60, .inl (L 4)))), (true, (A 17, .inl (D.2 0, 60, .inl (L 5))), (A 17, .inl (D.2 0, 60, .inl g))), (false, (A 18, .inl (D.2 0, 60, .inl (L 6))), (A 18, .inl (D.2 0, 60, .inl (L 6)))), (false, (A 19, .inl (D.2 0, 60, .inl (L 7))), (A 19, .inl (D.2 0, 60, .inl (L 7)))), (false, (A 20, .inl (D.2 0, 60, .inl (L 8))), (A 20, .inl (D.2 0, 60, .inl (L 8)))), (false, (A 21, .inl (D.2 0, 60, .inl (L 9))), (A 21, .inl (D.2 0, 60, .inl (L 9)))), (false, (A 22, .inl (D.2 0, 60, .inl (L 10))), (A 22, .inl (D.2 0, 60, .inl (L 10))))], rfl, rfl, rfl, rfl, by simp⟩
theorem sbLet6 {D : GG} {A : Nat → Nat} {n : Nat} {L : Nat → Nat → Int32} : Sb (wLet D A n L) (wRow D (A 7) (A 18) 60 (L 6)) := by
  unfold Sb
  exact (.cons _ (.cons _ (.cons _ (.cons _ (.cons _ (.cons _ (.cons _ (.cons_cons _ (.cons _ (.cons _ (.cons _ (.cons _ (.cons _ (.cons _ (.cons _ (.cons _ (.cons _ (.cons _ (.cons_cons _ (.cons _ (.cons _ (.cons _ (.cons _ List.Sublist.slnil)))))))))))))))))))))))
theorem frLet6 {D : GG} {A : Nat → Nat} {n : Nat} {L : Nat → Nat → Int32} {g : Nat → Int32} : Fr (wLet D A n L) (wRow D (A 7) (A 18) 60 (L 6)) (wRow D (A 7) (A 18) 60 g) (wLet D A n (sr L 6 g)) :=
  ⟨[(false, (A 0, .inr (1, [.int (nI n), .ref (A 1), .ref (A 2), .ref (A 3), .ref (A 4), .ref (A 5), .ref (A 6), .ref (A 7), .ref (A 8), .ref (A 9), .ref (A 10), .ref (A 11)])), (A 0, .inr (1, [.int (nI n), .ref (A 1), .ref (A 2), .ref (A 3), .ref (A 4), .ref (A 5), .ref (A 6), .ref (A 7), .ref (A 8), .ref (A 9), .ref (A 10), .ref (A 11)]))), (false, (A 1, .inr (3, [.ref (A 12)])), (A 1, .inr (3, [.ref (A 12)]))), (false, (A 2, .inr (3, [.ref (A 13)])), (A 2, .inr (3, [.ref (A 13)]))), (false, (A 3, .inr (3, [.ref (A 14)])), (A 3, .inr (3, [.ref (A 14)]))), (false, (A 4, .inr (3, [.ref (A 15)])), (A 4, .inr (3, [.ref (A 15)]))), (false, (A 5, .inr (3, [.ref (A 16)])), (A 5, .inr (3, [.ref (A 16)]))), (false, (A 6, .inr (3, [.ref (A 17)])), (A 6, .inr (3, [.ref (A 17)]))), (true, (A 7, .inr (3, [.ref (A 18)])), (A 7, .inr (3, [.ref (A 18)]))), (false, (A 8, .inr (3, [.ref (A 19)])), (A 8, .inr (3, [.ref (A 19)]))), (false, (A 9, .inr (3, [.ref (A 20)])), (A 9, .inr (3, [.ref (A 20)]))), (false, (A 10, .inr (3, [.ref (A 21)])), (A 10, .inr (3, [.ref (A 21)]))), (false, (A 11, .inr (3, [.ref (A 22)])), (A 11, .inr (3, [.ref (A 22)]))), (false, (A 12, .inl (D.2 0, 60, .inl (L 0))), (A 12, .inl (D.2 0, 60, .inl (L 0)))), (false, (A 13, .inl (D.2 0, 60, .inl (L 1))), (A 13, .inl (D.2 0, 60, .inl (L 1)))), (false, (A 14, .inl (D.2 0, 60, .inl (L 2))), (A 14, .inl (D.2 0, 60, .inl (L 2)))), (false, (A 15, .inl (D.2 0, 60, .inl (L 3))), (A 15, .inl (D.2 0, 60, .inl (L 3)))), (false, (A 16, .inl (D.2 0, 60, .inl (L 4))), (A 16, .inl (D.2 0, 60, .inl (L 4)))), (false, (A 17, .inl (D.2 0, 60, .inl (L 5))), (A 17, .inl (D.2 0, 60, .inl (L 5)))), (true, (A 18, .inl (D.2 0, 60, .inl (L 6))), (A 18, .inl (D.2 0, 60, .inl g))), (false, (A 19, .inl (D.2 0, 60, .inl (L 7))), (A 19, .inl (D.2 0, 60, .inl (L 7)))), (false, (A 20, .inl (D.2 0, 60, .inl (L 8))), (A 20, .inl (D.2 0, 60, .inl (L 8)))), (false, (A 21, .inl (D.2 0, 60, .inl (L 9))), (A 21, .inl (D.2 0, 60, .inl (L 9)))), (false, (A 22, .inl (D.2 0, 60, .inl (L 10))), (A 22, .inl (D.2 0, 60, .inl (L 10))))], rfl, rfl, rfl, rfl, by simp⟩
theorem sbLet7 {D : GG} {A : Nat → Nat} {n : Nat} {L : Nat → Nat → Int32} : Sb (wLet D A n L) (wRow D (A 8) (A 19) 60 (L 7)) := by
  unfold Sb
  exact (.cons _ (.cons _ (.cons _ (.cons _ (.cons _ (.cons _ (.cons _ (.cons _ (.cons_cons _ (.cons _ (.cons _ (.cons _ (.cons _ (.cons _ (.cons _ (.cons _ (.cons _ (.cons _ (.cons _ (.cons_cons _ (.cons _ (.cons _ (.cons _ List.Sublist.slnil)))))))))))))))))))))))
theorem frLet7 {D : GG} {A : Nat → Nat} {n : Nat} {L : Nat → Nat → Int32} {g : Nat → Int32} : Fr (wLet D A n L) (wRow D (A 8) (A 19) 60 (L 7)) (wRow D (A 8) (A 19) 60 g) (wLet D A n (sr L 7 g)) :=
  ⟨[(false, (A 0, .inr (1, [.int (nI n), .ref (A 1), .ref (A 2), .ref (A 3), .ref (A 4), .ref (A 5), .ref (A 6), .ref (A 7), .ref (A 8), .ref (A 9), .ref (A 10), .ref (A 11)])), (A 0, .inr (1, [.int (nI n), .ref (A 1), .ref (A 2), .ref (A 3), .ref (A 4), .ref (A 5), .ref (A 6), .ref (A 7), .ref (A 8), .ref (A 9), .ref (A 10), .ref (A 11)]))), (false, (A 1, .inr (3, [.ref (A 12)])), (A 1, .inr (3, [.ref (A 12)]))), (false, (A 2, .inr (3, [.ref (A 13)])), (A 2, .inr (3, [.ref (A 13)]))), (false, (A 3, .inr (3, [.ref (A 14)])), (A 3, .inr (3, [.ref (A 14)]))), (false, (A 4, .inr (3, [.ref (A 15)])), (A 4, .inr (3, [.ref (A 15)]))), (false, (A 5, .inr (3, [.ref (A 16)])), (A 5, .inr (3, [.ref (A 16)]))), (false, (A 6, .inr (3, [.ref (A 17)])), (A 6, .inr (3, [.ref (A 17)]))), (false, (A 7, .inr (3, [.ref (A 18)])), (A 7, .inr (3, [.ref (A 18)]))), (true, (A 8, .inr (3, [.ref (A 19)])), (A 8, .inr (3, [.ref (A 19)]))), (false, (A 9, .inr (3, [.ref (A 20)])), (A 9, .inr (3, [.ref (A 20)]))), (false, (A 10, .inr (3, [.ref (A 21)])), (A 10, .inr (3, [.ref (A 21)]))), (false, (A 11, .inr (3, [.ref (A 22)])), (A 11, .inr (3, [.ref (A 22)]))), (false, (A 12, .inl (D.2 0, 60, .inl (L 0))), (A 12, .inl (D.2 0, 60, .inl (L 0)))), (false, (A 13, .inl (D.2 0, 60, .inl (L 1))), (A 13, .inl (D.2 0, 60, .inl (L 1)))), (false, (A 14, .inl (D.2 0, 60, .inl (L 2))), (A 14, .inl (D.2 0, 60, .inl (L 2)))), (false, (A 15, .inl (D.2 0, 60, .inl (L 3))), (A 15, .inl (D.2 0, 60, .inl (L 3)))), (false, (A 16, .inl (D.2 0, 60, .inl (L 4))), (A 16, .inl (D.2 0, 60, .inl (L 4)))), (false, (A 17, .inl (D.2 0, 60, .inl (L 5))), (A 17, .inl (D.2 0, 60, .inl (L 5)))), (false, (A 18, .inl (D.2 0, 60, .inl (L 6))), (A 18, .inl (D.2 0, 60, .inl (L 6)))), (true, (A 19, .inl (D.2 0, 60, .inl (L 7))), (A 19, .inl (D.2 0, 60, .inl g))), (false, (A 20, .inl (D.2 0, 60, .inl (L 8))), (A 20, .inl (D.2 0, 60, .inl (L 8)))), (false, (A 21, .inl (D.2 0, 60, .inl (L 9))), (A 21, .inl (D.2 0, 60, .inl (L 9)))), (false, (A 22, .inl (D.2 0, 60, .inl (L 10))), (A 22, .inl (D.2 0, 60, .inl (L 10))))], rfl, rfl, rfl, rfl, by simp⟩
theorem sbLet8 {D : GG} {A : Nat → Nat} {n : Nat} {L : Nat → Nat → Int32} : Sb (wLet D A n L) (wRow D (A 9) (A 20) 60 (L 8)) := by
  unfold Sb
  exact (.cons _ (.cons _ (.cons _ (.cons _ (.cons _ (.cons _ (.cons _ (.cons _ (.cons _ (.cons_cons _ (.cons _ (.cons _ (.cons _ (.cons _ (.cons _ (.cons _ (.cons _ (.cons _ (.cons _ (.cons _ (.cons_cons _ (.cons _ (.cons _ List.Sublist.slnil)))))))))))))))))))))))
theorem frLet8 {D : GG} {A : Nat → Nat} {n : Nat} {L : Nat → Nat → Int32} {g : Nat → Int32} : Fr (wLet D A n L) (wRow D (A 9) (A 20) 60 (L 8)) (wRow D (A 9) (A 20) 60 g) (wLet D A n (sr L 8 g)) :=
  ⟨[(false, (A 0, .inr (1, [.int (nI n), .ref (A 1), .ref (A 2), .ref (A 3), .ref (A 4), .ref (A 5), .ref (A 6), .ref (A 7), .ref (A 8), .ref (A 9), .ref (A 10), .ref (A 11)])), (A 0, .inr (1, [.int (nI n), .ref (A 1), .ref (A 2), .ref (A 3), .ref (A 4), .ref (A 5), .ref (A 6), .ref (A 7), .ref (A 8), .ref (A 9), .ref (A 10), .ref (A 11)]))), (false, (A 1, .inr (3, [.ref (A 12)])), (A 1, .inr (3, [.ref (A 12)]))), (false, (A 2, .inr (3, [.ref (A 13)])), (A 2, .inr (3, [.ref (A 13)]))), (false, (A 3, .inr (3, [.ref (A 14)])), (A 3, .inr (3, [.ref (A 14)]))), (false, (A 4, .inr (3, [.ref (A 15)])), (A 4, .inr (3, [.ref (A 15)]))), (false, (A 5, .inr (3, [.ref (A 16)])), (A 5, .inr (3, [.ref (A 16)]))), (false, (A 6, .inr (3, [.ref (A 17)])), (A 6, .inr (3, [.ref (A 17)]))), (false, (A 7, .inr (3, [.ref (A 18)])), (A 7, .inr (3, [.ref (A 18)]))), (false, (A 8, .inr (3, [.ref (A 19)])), (A 8, .inr (3, [.ref (A 19)]))), (true, (A 9, .inr (3, [.ref (A 20)])), (A 9, .inr (3, [.ref (A 20)]))), (false, (A 10, .inr (3, [.ref (A 21)])), (A 10, .inr (3, [.ref (A 21)]))), (false, (A 11, .inr (3, [.ref (A 22)])), (A 11, .inr (3, [.ref (A 22)]))), (false, (A 12, .inl (D.2 0, 60, .inl (L 0))), (A 12, .inl (D.2 0, 60, .inl (L 0)))), (false, (A 13, .inl (D.2 0, 60, .inl (L 1))), (A 13, .inl (D.2 0, 60, .inl (L 1)))), (false, (A 14, .inl (D.2 0, 60, .inl (L 2))), (A 14, .inl (D.2 0, 60, .inl (L 2)))), (false, (A 15, .inl (D.2 0, 60, .inl (L 3))), (A 15, .inl (D.2 0, 60, .inl (L 3)))), (false, (A 16, .inl (D.2 0, 60, .inl (L 4))), (A 16, .inl (D.2 0, 60, .inl (L 4)))), (false, (A 17, .inl (D.2 0, 60, .inl (L 5))), (A 17, .inl (D.2 0, 60, .inl (L 5)))), (false, (A 18, .inl (D.2 0, 60, .inl (L 6))), (A 18, .inl (D.2 0, 60, .inl (L 6)))), (false, (A 19, .inl (D.2 0, 60, .inl (L 7))), (A 19, .inl (D.2 0, 60, .inl (L 7)))), (true, (A 20, .inl (D.2 0, 60, .inl (L 8))), (A 20, .inl (D.2 0, 60, .inl g))), (false, (A 21, .inl (D.2 0, 60, .inl (L 9))), (A 21, .inl (D.2 0, 60, .inl (L 9)))), (false, (A 22, .inl (D.2 0, 60, .inl (L 10))), (A 22, .inl (D.2 0, 60, .inl (L 10))))], rfl, rfl, rfl, rfl, by simp⟩
theorem sbLet9 {D : GG} {A : Nat → Nat} {n : Nat} {L : Nat → Nat → Int32} : Sb (wLet D A n L) (wRow D (A 10) (A 21) 60 (L 9)) := by
  unfold Sb
  exact (.cons _ (.cons _ (.cons _ (.cons _ (.cons _ (.cons _ (.cons _ (.cons _ (.cons _ (.cons _ (.cons_cons _ (.cons _ (.cons _ (.cons _ (.cons _ (.cons _ (.cons _ (.cons _ (.cons _ (.cons _ (.cons _ (.cons_cons _ (.cons _ List.Sublist.slnil)))))))))))))))))))))))
theorem frLet9 {D : GG} {A : Nat → Nat} {n : Nat} {L : Nat → Nat → Int32} {g : Nat → Int32} : Fr (wLet D A n L) (wRow D (A 10) (A 21) 60 (L 9)) (wRow D (A 10) (A 21) 60 g) (wLet D A n (sr L 9 g)) :=
  ⟨[(false, (A 0, .inr (1, [.int (nI n), .ref (A 1), .ref (A 2), .ref (A 3), .ref (A 4), .ref (A 5), .ref (A 6), .ref (A 7), .ref (A 8), .ref (A 9), .ref (A 10), .ref (A 11)])), (A 0, .inr (1, [.int (nI n), .ref (A 1), .ref (A 2), .ref (A 3), .ref (A 4), .ref (A 5), .ref (A 6), .ref (A 7), .ref (A 8), .ref (A 9), .ref (A 10), .ref (A 11)]))), (false, (A 1, .inr (3, [.ref (A 12)])), (A 1, .inr (3, [.ref (A 12)]))), (false, (A 2, .inr (3, [.ref (A 13)])), (A 2, .inr (3, [.ref (A 13)]))), (false, (A 3, .inr (3, [.ref (A 14)])), (A 3, .inr (3, [.ref (A 14)]))), (false, (A 4, .inr (3, [.ref (A 15)])), (A 4, .inr (3, [.ref (A 15)]))), (false, (A 5, .inr (3, [.ref (A 16)])), (A 5, .inr (3, [.ref (A 16)]))), (false, (A 6, .inr (3, [.ref (A 17)])), (A 6, .inr (3, [.ref (A 17)]))), (false, (A 7, .inr (3, [.ref (A 18)])), (A 7, .inr (3, [.ref (A 18)]))), (false, (A 8, .inr (3, [.ref (A 19)])), (A 8, .inr (3, [.ref (A 19)]))), (false, (A 9, .inr (3, [.ref (A 20)])), (A 9, .inr (3, [.ref (A 20)]))), (true, (A 10, .inr (3, [.ref (A 21)])), (A 10, .inr (3, [.ref (A 21)]))), (false, (A 11, .inr (3, [.ref (A 22)])), (A 11, .inr (3, [.ref (A 22)]))), (false, (A 12, .inl (D.2 0, 60, .inl (L 0))), (A 12, .inl (D.2 0, 60, .inl (L 0)))), (false, (A 13, .inl (D.2 0, 60, .inl (L 1))), (A 13, .inl (D.2 0, 60, .inl (L 1)))), (false, (A 14, .inl (D.2 0, 60, .inl (L 2))), (A 14, .inl (D.2 0, 60, .inl (L 2)))), (false, (A 15, .inl (D.2 0, 60, .inl (L 3))), (A 15, .inl (D.2 0, 60, .inl (L 3)))), (false, (A 16, .inl (D.2 0, 60, .inl (L 4))), (A 16, .inl (D.2 0, 60, .inl (L 4)))), (false, (A 17, .inl (D.2 0, 60, .inl (L 5))), (A 17, .inl (D.2 0, 60, .inl (L 5)))), (false, (A 18, .inl (D.2 0, 60, .inl (L 6))), (A 18, .inl (D.2 0, 60, .inl (L 6)))), (false, (A 19, .inl (D.2 0, 60, .inl (L 7))), (A 19, .inl (D.2 0, 60, .inl (L 7)))), (false, (A 20, .inl (D.2 0, 60, .inl (L 8))), (A 20, .inl (D.2 0, 60, .inl (L 8)))), (true, (A 21, .inl (D.2 0, 60, .inl (L 9))), (A 21, .inl (D.2 0, 60, .inl g))), (false, (A 22, .inl (D.2 0, 60, .inl (L 10))), (A 22, .inl (D.2 0, 60, .inl (L 10))))], rfl, rfl, rfl, rfl, by simp⟩
theorem sbLet10 {D : GG} {A : Nat → Nat} {n : Nat} {L : Nat → Nat → Int32} : Sb (wLet D A n L) (wRow D (A 11) (A 22) 60 (L 10)) := by
  unfold Sb
  exact (.cons _ (.cons _ (.cons _ (.cons _ (.cons _ (.cons _ (.cons _ (.cons _ (.cons _ (.cons _ (.cons _ (.cons_cons _ (.cons _ (.cons _ (.cons _ (.cons _ (.cons _ (.cons _ (.cons _ (.cons _ (.cons _ (.cons _ (.cons_cons _ List.Sublist.slnil)))))))))))))))))))))))
theorem frLet10 {D : GG} {A : Nat → Nat} {n : Nat} {L : Nat → Nat → Int32} {g : Nat → Int32} : Fr (wLet D A n L) (wRow D (A 11) (A 22) 60 (L 10)) (wRow D (A 11) (A 22) 60 g) (wLet D A n (sr L 10 g)) :=
  ⟨[(false, (A 0, .inr (1, [.int (nI n), .ref (A 1), .ref (A 2), .ref (A 3), .ref (A 4), .ref (A 5), .ref (A 6), .ref (A 7), .ref (A 8), .ref (A 9), .ref (A 10), .ref (A 11)])), (A 0, .inr (1, [.int (nI n), .ref (A 1), .ref (A 2), .ref (A 3), .ref (A 4), .ref (A 5), .ref (A 6), .ref (A 7), .ref (A 8), .ref (A 9), .ref (A 10), .ref (A 11)]))), (false, (A 1, .inr (3, [.ref (A 12)])), (A 1, .inr (3, [.ref (A 12)]))), (false, (A 2, .inr (3, [.ref (A 13)])), (A 2, .inr (3, [.ref (A 13)]))), (false, (A 3, .inr (3, [.ref (A 14)])), (A 3, .inr (3, [.ref (A 14)]))), (false, (A 4, .inr (3, [.ref (A 15)])), (A 4, .inr (3, [.ref (A 15)]))), (false, (A 5, .inr (3, [.ref (A 16)])), (A 5, .inr (3, [.ref (A 16)]))), (false, (A 6, .inr (3, [.ref (A 17)])), (A 6, .inr (3, [.ref (A 17)]))), (false, (A 7, .inr (3, [.ref (A 18)])), (A 7, .inr (3, [.ref (A 18)]))), (false, (A 8, .inr (3, [.ref (A 19)])), (A 8, .inr (3, [.ref (A 19)]))), (false, (A 9, .inr (3, [.ref (A 20)])), (A 9, .inr (3, [.ref (A 20)]))), (false, (A 10, .inr (3, [.ref (A 21)])), (A 10, .inr (3, [.ref (A 21)]))), (true, (A 11, .inr (3, [.ref (A 22)])), (A 11, .inr (3, [.ref (A 22)]))), (false, (A 12, .inl (D.2 0, 60, .inl (L 0))), (A 12, .inl (D.2 0, 60, .inl (L 0)))), (false, (A 13, .inl (D.2 0, 60, .inl (L 1))), (A 13, .inl (D.2 0, 60, .inl (L 1)))), (false, (A 14, .inl (D.2 0, 60, .inl (L 2))), (A 14, .inl (D.2 0, 60, .inl (L 2)))), (false, (A 15, .inl (D.2 0, 60, .inl (L 3))), (A 15, .inl (D.2 0, 60, .inl (L 3)))), (false, (A 16, .inl (D.2 0, 60, .inl (L 4))), (A 16, .inl (D.2 0, 60, .inl (L 4)))), (false, (A 17, .inl (D.2 0, 60, .inl (L 5))), (A 17, .inl (D.2 0, 60, .inl (L 5)))), (false, (A 18, .inl (D.2 0, 60, .inl (L 6))), (A 18, .inl (D.2 0, 60, .inl (L 6)))), (false, (A 19, .inl (D.2 0, 60, .inl (L 7))), (A 19, .inl (D.2 0, 60, .inl (L 7)))), (false, (A 20, .inl (D.2 0, 60, .inl (L 8))), (A 20, .inl (D.2 0, 60, .inl (L 8)))), (false, (A 21, .inl (D.2 0, 60, .inl (L 9))), (A 21, .inl (D.2 0, 60, .inl (L 9)))), (true, (A 22, .inl (D.2 0, 60, .inl (L 10))), (A 22, .inl (D.2 0, 60, .inl g)))], rfl, rfl, rfl, rfl, by simp⟩
theorem add_m1 (x : Int32) : x + (-1) = x - 1 := (Int32.sub_eq_add_neg x 1).symm
theorem frsRow {D : GG} {o a n : Nat} {f g : Nat → Int32} : Fr (wRow D o a n f) (wRow D o a n f) (wRow D o a n g) (wRow D o a n g) := Fr.self rfl
theorem frsLand {D : GG} {A : Nat → Nat} {ns nr ns' nr' : Nat} {fog fog' : Int32} {L L' : Nat → Nat → Int32} : Fr (wLand D A ns fog nr L) (wLand D A ns fog nr L) (wLand D A ns' fog' nr' L') (wLand D A ns' fog' nr' L') := Fr.self rfl
theorem frsWays {D : GG} {A : Nat → Nat} {L L' : Nat → Nat → Int32} : Fr (wWays D A L) (wWays D A L) (wWays D A L') (wWays D A L') := Fr.self rfl
theorem frsMul {D : GG} {A : Nat → Nat} {n n' : Nat} {L L' : Nat → Nat → Int32} : Fr (wMul D A n L) (wMul D A n L) (wMul D A n' L') (wMul D A n' L') := Fr.self rfl
theorem frsLet {D : GG} {A : Nat → Nat} {n n' : Nat} {L L' : Nat → Nat → Int32} : Fr (wLet D A n L) (wLet D A n L) (wLet D A n' L') (wLet D A n' L') := Fr.self rfl
theorem frsTob {o : Nat} {la wa mu le : Nat → Nat} {nx : Nat} {hr cr hr' cr' : Int32} : Fr (wTob o la wa mu le nx hr cr) (wTob o la wa mu le nx hr cr) (wTob o la wa mu le nx hr' cr') (wTob o la wa mu le nx hr' cr') := Fr.self rfl
theorem frsMod {D : GG} {A : Nat → Nat} {th th' fog fog' : Int32} {ns nr nm nl ns' nr' nm' nl' : Nat} {L L' : Nat → Nat → Int32} : Fr (wMod D A th ns fog nr nm nl L) (wMod D A th ns fog nr nm nl L) (wMod D A th' ns' fog' nr' nm' nl' L') (wMod D A th' ns' fog' nr' nm' nl' L') := Fr.self rfl
