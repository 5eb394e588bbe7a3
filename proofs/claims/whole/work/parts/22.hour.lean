/-! the reference's hour: its state stays in bounds -/
theorem ix_eq {a n : Nat} (ha : n < a) (k : Nat) : nI a * nI k + nI n = nI (a * k + n) := by rw [pk_mul, nI_add]
theorem upd_ne {f : Nat → Int32} {k j : Nat} {v : Int32} (h : j ≠ k) : upd f k v j = f j := pk_un h
theorem rw_ne {n i j : Nat} {f : Nat → Int32} {v : Int32} (hn : n < 2 ^ 31) (hi : i < n) (hj : j < n) (h : j ≠ i) : rg n (rs n f (nI i) v) (nI j) = rg n f (nI j) := by
  rw [rs_k hi hn, rg_k hj hn, rg_k hj hn, upd_ne h]
theorem rw_eq {n i : Nat} {f : Nat → Int32} {v : Int32} (hn : n < 2 ^ 31) (hi : i < n) : rg n (rs n f (nI i) v) (nI i) = v := by
  rw [rs_k hi hn, rg_k hi hn, pk_us]
theorem le_ne {L : Fm} {n : Nat} {x y v : Int32} (w w' : Nat) (hx : vd n x) (hy : vd n y) (hn : n ≤ 60) (hw : w < 11) (hw' : w' < 11) (h : w' ≠ w) : leM (seM L x (nI w) v) y (nI w') = leM L y (nI w') := by
  obtain ⟨l, hl, rfl⟩ := hx
  obtain ⟨k, hk, rfl⟩ := hy
  unfold leM seM
  rw [sr_s, show (11 : Int32) = nI 11 from rfl, ix_eq hw, ix_eq hw']
  exact rw_ne (by decide) (by omega) (by omega) (by omega)
theorem le_eq {L : Fm} {n : Nat} {x y v : Int32} (w : Nat) (hx : vd n x) (hy : vd n y) (hn : n ≤ 60) (hw : w < 11) : leM (seM L x (nI w) v) y (nI w) = v ∨ leM (seM L x (nI w) v) y (nI w) = leM L y (nI w) := by
  obtain ⟨l, hl, rfl⟩ := hx
  obtain ⟨k, hk, rfl⟩ := hy
  unfold leM seM
  rw [sr_s, show (11 : Int32) = nI 11 from rfl, ix_eq hw, ix_eq hw]
  by_cases e : k = l
  · subst e; exact Or.inl (rw_eq (by decide) (by omega))
  · exact Or.inr (rw_ne (by decide) (by omega) (by omega) (by omega))
theorem mu_ne {L : Fm} {n : Nat} {x y v : Int32} (w w' : Nat) (hx : vd n x) (hy : vd n y) (hn : n ≤ 12) (hw : w < 5) (hw' : w' < 5) (h : w' ≠ w) : muM (smM L x (nI w) v) y (nI w') = muM L y (nI w') := by
  obtain ⟨l, hl, rfl⟩ := hx
  obtain ⟨k, hk, rfl⟩ := hy
  unfold muM smM
  rw [sr_s, show (5 : Int32) = nI 5 from rfl, ix_eq hw, ix_eq hw']
  exact rw_ne (by decide) (by omega) (by omega) (by omega)
theorem mu_eq {L : Fm} {n : Nat} {x y v : Int32} (w : Nat) (hx : vd n x) (hy : vd n y) (hn : n ≤ 12) (hw : w < 5) : muM (smM L x (nI w) v) y (nI w) = v ∨ muM (smM L x (nI w) v) y (nI w) = muM L y (nI w) := by
  obtain ⟨l, hl, rfl⟩ := hx
  obtain ⟨k, hk, rfl⟩ := hy
  unfold muM smM
  rw [sr_s, show (5 : Int32) = nI 5 from rfl, ix_eq hw, ix_eq hw]
  by_cases e : k = l
  · subst e; exact Or.inl (rw_eq (by decide) (by omega))
  · exact Or.inr (rw_ne (by decide) (by omega) (by omega) (by omega))
/-- every number that is used as a place is one -/
def okS (L : Fm) (ns nr nm nl : Nat) : Prop := okR L nr ns ∧ (∀ x, vd nm x → vd nr (muM L x 0) ∧ vd ns (muM L x 2) ∧ ¬ muM L x 1 < 0) ∧ ∀ x, vd nl x → vd ns (leM L x 0) ∧ vd ns (leM L x 1) ∧ (leM L x 5 = -1 ∨ vd nm (leM L x 5))
theorem okS_of {L L' : Fm} {ns nr nm nl : Nat} (e2 : L' 2 = L 2) (e3 : L' 3 = L 3) (e4 : L' 4 = L 4) (h : okS L ns nr nm nl) : okS L' ns nr nm nl := by
  unfold okS okR roM muM leM
  rw [e2, e3, e4]
  exact h
theorem okS_g {L : Fm} {ns nr nm nl : Nat} (h : okS L ns nr nm nl) : okG L nl ns := by
  intro x hx
  unfold goM
  by_cases e : leM L x 7 = 1
  · rw [if_pos e]; exact (h.2.2 x hx).1
  · rw [if_neg e]; exact (h.2.2 x hx).2.1
theorem okS_se {L : Fm} {ns nr nm nl : Nat} {x v : Int32} (w : Nat) (hx : vd nl x) (hn : nl ≤ 60) (hw : w < 11) (h0 : w ≠ 0) (h1 : w ≠ 1) (h5 : w = 5 → v = -1 ∨ vd nm v) (h : okS L ns nr nm nl) : okS (seM L x (nI w) v) ns nr nm nl := by
  refine ⟨h.1, h.2.1, fun y hy => ?_⟩
  refine ⟨?_, ?_, ?_⟩
  · rw [show leM (seM L x (nI w) v) y 0 = leM L y 0 from le_ne w 0 hx hy hn hw (by decide) (Ne.symm h0)]; exact (h.2.2 y hy).1
  · rw [show leM (seM L x (nI w) v) y 1 = leM L y 1 from le_ne w 1 hx hy hn hw (by decide) (Ne.symm h1)]; exact (h.2.2 y hy).2.1
  · by_cases e : w = 5
    · subst e
      rcases (le_eq (L := L) (v := v) 5 hx hy hn hw) with q | q
      · rw [show leM (seM L x (nI 5) v) y 5 = v from q]; exact h5 rfl
      · rw [show leM (seM L x (nI 5) v) y 5 = leM L y 5 from q]; exact (h.2.2 y hy).2.2
    · rw [show leM (seM L x (nI w) v) y 5 = leM L y 5 from le_ne w 5 hx hy hn hw (by decide) (Ne.symm e)]; exact (h.2.2 y hy).2.2
theorem okS_sm {L : Fm} {ns nr nm nl : Nat} {x v : Int32} (w : Nat) (hx : vd nm x) (hn : nm ≤ 12) (hw : w < 5) (h0 : w ≠ 0) (h1 : w ≠ 1) (h2 : w = 2 → vd ns v) (h : okS L ns nr nm nl) : okS (smM L x (nI w) v) ns nr nm nl := by
  refine ⟨h.1, fun y hy => ?_, h.2.2⟩
  refine ⟨?_, ?_, ?_⟩
  · rw [show muM (smM L x (nI w) v) y 0 = muM L y 0 from mu_ne w 0 hx hy hn hw (by decide) (Ne.symm h0)]; exact (h.2.1 y hy).1
  · by_cases e : w = 2
    · subst e
      rcases (mu_eq (L := L) (v := v) 2 hx hy hn hw) with q | q
      · rw [show muM (smM L x (nI 2) v) y 2 = v from q]; exact h2 rfl
      · rw [show muM (smM L x (nI 2) v) y 2 = muM L y 2 from q]; exact (h.2.1 y hy).2.1
    · rw [show muM (smM L x (nI w) v) y 2 = muM L y 2 from mu_ne w 2 hx hy hn hw (by decide) (Ne.symm e)]; exact (h.2.1 y hy).2.1
  · rw [show muM (smM L x (nI w) v) y 1 = muM L y 1 from mu_ne w 1 hx hy hn hw (by decide) (Ne.symm h1)]; exact (h.2.1 y hy).2.2
/-- a mule takes letters -/
def takeM (L : Fm) (l m : Int32) : Fm := seM (seM (seM L l 3 1) l 5 m) l 4 (-1)
theorem okS_take {L : Fm} {ns nr nm nl : Nat} {l m : Int32} (hl : vd nl l) (hm : vd nm m) (hn : nl ≤ 60) (h : okS L ns nr nm nl) : okS (takeM L l m) ns nr nm nl :=
  okS_se 4 hl hn (by decide) (by decide) (by decide) (fun q => absurd q (by decide)) (okS_se 5 hl hn (by decide) (by decide) (by decide) (fun _ => Or.inr hm) (okS_se 3 hl hn (by decide) (by decide) (by decide) (fun q => absurd q (by decide)) h))
def tkF (nl : Nat) (fr r m : Int32) : Nat → Nat → Fm → Fm × Nat
  | 0, t, L => (L, t)
  | j + 1, t, L => if nxF L fr r nl = -1 then (L, t) else tkF nl fr r m j (t + 1) (takeM L (nxF L fr r nl) m)
def crI (L : Fm) (r fr one : Int32) : Nat → Fm
  | 0 => L
  | k + 1 => if leM (crI L r fr one k) (nI k) 5 = -1 then crI L r fr one k else if muM (crI L r fr one k) (leM (crI L r fr one k) (nI k) 5) 0 = r then (if muM (crI L r fr one k) (leM (crI L r fr one k) (nI k) 5) 3 = 0 then crI L r fr one k else if muM (crI L r fr one k) (leM (crI L r fr one k) (nI k) 5) 2 = fr then (if leM (crI L r fr one k) one 0 = leM (crI L r fr one k) (nI k) 1 then (if leM (crI L r fr one k) (nI k) 0 = leM (crI L r fr one k) one 1 then sr (crI L r fr one k) 5 (rs 2 (crI L r fr one k 5) 1 (rg 2 (crI L r fr one k 5) 1 + 1)) else crI L r fr one k) else crI L r fr one k) else crI L r fr one k) else crI L r fr one k
def crO (L : Fm) (m r fr : Int32) (nl : Nat) : Nat → Fm
  | 0 => L
  | k + 1 => if leM (crO L m r fr nl k) (nI k) 5 = m then crI (crO L m r fr nl k) r fr (nI k) nl else crO L m r fr nl k
def outG (L : Fm) (m r fr to : Int32) (nl : Nat) : Fm := smM (smM (crO L m r fr nl nl) m 2 to) m 3 (hrsM (smM (crO L m r fr nl nl) m 2 to) r fr)
def so2 (T : Fm × Nat) (m r fr to : Int32) (nl : Nat) : Fm := if nI T.2 = 0 then (if nxF T.1 to r nl = -1 then T.1 else outG T.1 m r fr to nl) else outG T.1 m r fr to nl
def soM (L : Fm) (m : Int32) (nl : Nat) : Fm := so2 (tkF nl (muM L m 2) (muM L m 0) m (muM L m 1).toNatClampNeg 0 L) m (muM L m 0) (muM L m 2) (othM L (muM L m 0) (muM L m 2)) nl
theorem crI_r {L : Fm} {r fr one : Int32} {i : Nat} (hi : i ≠ 5) : ∀ k, crI L r fr one k i = L i
  | 0 => rfl
  | k + 1 => by
    have ih := crI_r (L := L) (r := r) (fr := fr) (one := one) hi k
    rw [crI]
    (repeat' split) <;> first | exact ih | (rw [sr_n hi]; exact ih)
theorem crO_r {L : Fm} {m r fr : Int32} {nl i : Nat} (hi : i ≠ 5) : ∀ k, crO L m r fr nl k i = L i
  | 0 => rfl
  | k + 1 => by
    have ih := crO_r (L := L) (m := m) (r := r) (fr := fr) (nl := nl) hi k
    rw [crO]
    split
    · rw [crI_r hi]; exact ih
    · exact ih
theorem okS_crO {L : Fm} {ns nr nm nl : Nat} {m r fr : Int32} {n : Nat} (k : Nat) (h : okS L ns nr nm nl) : okS (crO L m r fr n k) ns nr nm nl := okS_of (crO_r (by decide) k) (crO_r (by decide) k) (crO_r (by decide) k) h
theorem okS_crI {L : Fm} {ns nr nm nl : Nat} {r fr one : Int32} (k : Nat) (h : okS L ns nr nm nl) : okS (crI L r fr one k) ns nr nm nl := okS_of (crI_r (by decide) k) (crI_r (by decide) k) (crI_r (by decide) k) h
theorem okS_tkF {ns nr nm nl : Nat} {fr r m : Int32} (hm : vd nm m) (hn : nl ≤ 60) : ∀ (j t : Nat) (L : Fm), okS L ns nr nm nl → okS (tkF nl fr r m j t L).1 ns nr nm nl
  | 0, _, _, h => h
  | j + 1, t, L, h => by
    rw [tkF]
    by_cases e : nxF L fr r nl = -1
    · rw [if_pos e]; exact h
    · rw [if_neg e]; exact okS_tkF hm hn j (t + 1) _ (okS_take (nxF_in e (Nat.le_refl _)) hm hn h)
theorem okS_out {L : Fm} {ns nr nm nl : Nat} {m r fr to : Int32} (hm : vd nm m) (ht : vd ns to) (hn : nm ≤ 12) (h : okS L ns nr nm nl) : okS (outG L m r fr to nl) ns nr nm nl :=
  okS_sm 3 hm hn (by decide) (by decide) (by decide) (fun q => absurd q (by decide)) (okS_sm 2 hm hn (by decide) (by decide) (by decide) (fun _ => ht) (okS_crO nl h))
theorem okS_so {L : Fm} {ns nr nm nl : Nat} {m : Int32} (hm : vd nm m) (hn : nm ≤ 12) (h60 : nl ≤ 60) (h : okS L ns nr nm nl) : okS (soM L m nl) ns nr nm nl := by
  have h1 := okS_tkF (fr := muM L m 2) (r := muM L m 0) hm h60 (muM L m 1).toNatClampNeg 0 L h
  have ht : vd ns (othM L (muM L m 0) (muM L m 2)) := othM_vd h.1 (h.2.1 m hm).1
  unfold soM so2
  by_cases e : nI (tkF nl (muM L m 2) (muM L m 0) m (muM L m 1).toNatClampNeg 0 L).2 = 0
  · rw [if_pos e]
    by_cases e2 : nxF (tkF nl (muM L m 2) (muM L m 0) m (muM L m 1).toNatClampNeg 0 L).1 (othM L (muM L m 0) (muM L m 2)) (muM L m 0) nl = -1
    · rw [if_pos e2]; exact h1
    · rw [if_neg e2]; exact okS_out hm ht hn h1
  · rw [if_neg e]; exact okS_out hm ht hn h1
theorem nI_cl {x : Int32} (h : ¬ x < 0) : x = nI x.toNatClampNeg := by
  obtain ⟨j, hj, rfl⟩ := nI_of h
  rw [nI_clamp hj]
theorem cl_lt {x : Int32} (h : ¬ x < 0) : x.toNatClampNeg < 2 ^ 31 := by
  obtain ⟨j, hj, rfl⟩ := nI_of h
  rw [nI_clamp hj]
  exact hj
theorem okW {L : Fm} {ns nr nm nl : Nat} {x : Int32} (h : okS L ns nr nm nl) (hx : vd nl x) (c : ¬ leM L x 5 = -1) : vd nm (leM L x 5) := (h.2.2 x hx).2.2.elim (fun q => absurd q c) id
