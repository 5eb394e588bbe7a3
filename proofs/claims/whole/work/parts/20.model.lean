/-! the reference: numbers below a bound, its tables, its small answers -/
theorem rg_vp {n : Nat} {f : Nat → Int32} {x : Int32} (h : vp_in x n) : rg n f x = f x.toNatClampNeg := by unfold rg; rw [if_neg h]
theorem rs_vp {n : Nat} {f : Nat → Int32} {x v : Int32} (h : vp_in x n) : rs n f x v = upd f x.toNatClampNeg v := by unfold rs; rw [if_neg h]
def vd (n : Nat) (x : Int32) : Prop := ∃ k : Nat, k < n ∧ x = nI k
theorem vd_k {n k : Nat} (h : k < n) : vd n (nI k) := ⟨k, h, rfl⟩
theorem vd_in {n m : Nat} {x : Int32} (h : vd n x) (hn : n ≤ m) (hm : m < 2 ^ 31) : vp_in x m := by
  obtain ⟨k, hk, rfl⟩ := h
  exact vp_in_nI (by omega) hm
theorem vd_mul {n a w c m : Nat} {x : Int32} (h : vd n x) (hw : a * n ≤ m) (hc : w < a) (hm : m < 2 ^ 31) : vp_in (nI a * x + nI w) m := by
  obtain ⟨k, hk, rfl⟩ := h
  rw [pk_mul, nI_add]
  refine vp_in_nI ?_ hm
  have h1 : a * (k + 1) ≤ a * n := Nat.mul_le_mul_left a hk
  rw [Nat.mul_add] at h1
  omega
theorem ixr {n : Nat} {x : Int32} (h : vd n x) (hn : n ≤ 15) (w : Nat) (hw : w < 3) : vp_in (3 * x + nI w) 45 := vd_mul (a := 3) (c := 0) h (by omega) hw (by decide)
theorem ixm {n : Nat} {x : Int32} (h : vd n x) (hn : n ≤ 12) (w : Nat) (hw : w < 5) : vp_in (5 * x + nI w) 60 := vd_mul (a := 5) (c := 0) h (by omega) hw (by decide)
theorem ixl {n : Nat} {x : Int32} (h : vd n x) (hn : n ≤ 60) (w : Nat) (hw : w < 11) : vp_in (11 * x + nI w) 660 := vd_mul (a := 11) (c := 0) h (by omega) hw (by decide)
theorem ixs {n : Nat} {x y : Int32} (h : vd n x) (k : vd n y) (hn : n ≤ 10) : vp_in (10 * x + y) 100 := by
  obtain ⟨j, hj, rfl⟩ := k
  exact vd_mul (a := 10) (c := 0) h (by omega) (by omega) (by decide)
def roM (L : Fm) (r w : Int32) : Int32 := rg 45 (L 2) (3 * r + w)
def muM (L : Fm) (m w : Int32) : Int32 := rg 60 (L 3) (5 * m + w)
def leM (L : Fm) (l w : Int32) : Int32 := rg 660 (L 4) (11 * l + w)
def smM (L : Fm) (m w v : Int32) : Fm := sr L 3 (rs 60 (L 3) (5 * m + w) v)
def seM (L : Fm) (l w v : Int32) : Fm := sr L 4 (rs 660 (L 4) (11 * l + w) v)
def bHm (st s : Int32) : Bool := decide ((st >>> (s &&& 31)) &&& 1 = 1)
def latM (L : Fm) (nl : Nat) (st w v : Int32) : Int32 := cI (fun k => leM L (nI k) 3 == st && (w == -1 || leM L (nI k) w == v)) nl
def stdM (L : Fm) (nm : Nat) (s : Int32) : Int32 := cI (fun k => muM L (nI k) 2 == s && muM L (nI k) 3 == 0) nm
def stM (L : Fm) (fog : Int32) (nm nl : Nat) (s w : Int32) : Int32 := if w = 0 then rg 10 (L 0) s else if w = 1 then latM L nl 0 4 s else if w = 2 then stdM L nm s else if w = 3 then bitC (rg 10 (L 1) s) else (fog >>> (s &&& 31)) &&& 1
def othM (L : Fm) (r s : Int32) : Int32 := if roM L r 0 = s then roM L r 1 else roM L r 0
def hrsM (L : Fm) (r s : Int32) : Int32 := roM L r 2 + (if 0 < rg 10 (L 0) (othM L r s) - rg 10 (L 0) s then rg 10 (L 0) (othM L r s) - rg 10 (L 0) s else 0) / 200
def onM (L : Fm) (nm : Nat) (r w : Int32) : Int32 := cI (fun k => muM L (nI k) 0 == r && (w == 0 || !(decide (muM L (nI k) 3 ≤ 0)))) nm
def litFM (L : Fm) (fog kn : Int32) : Nat → Int32
  | 0 => kn
  | k + 1 => if bHm kn (nI k) = true ∧ ¬ bHm fog (nI k) = true then litFM L fog kn k ||| (rg 10 (L 1) (nI k) &&& (fog ^^^ (-1))) else litFM L fog kn k
def litM (L : Fm) (ns : Nat) (fog kn : Int32) : Int32 := litFM L fog kn ns
def goM (L : Fm) (l : Int32) : Int32 := if leM L l 7 = 1 then leM L l 0 else leM L l 1
def endM (L : Fm) (l st : Int32) : Fm := seM (seM L l 3 st) l 9 (rg 2 (L 5) 0)
def layM (L : Fm) (l s : Int32) : Fm := seM (seM (seM L l 3 0) l 5 (-1)) l 4 s
def unM (L : Fm) (l s : Int32) : Fm × Bool := if goM (layM L l s) l = s then (if leM (layM L l s) l 7 = 1 then (endM (layM L l s) l 3, false) else (endM (layM L l s) l 2, true)) else (layM L l s, false)
def fiM (L : Fm) (f t : Int32) : Int32 := rg 100 (L 7) (10 * f + t)
def wfM (L : Fm) (l s r : Int32) : Bool := leM L l 3 == 0 && leM L l 4 == s && fiM L s (goM L l) == r
def nxF (L : Fm) (s r : Int32) : Nat → Int32
  | 0 => -1
  | k + 1 => if wfM L (nI k) s r = true then (if nxF L s r k = -1 then nI k else if leM L (nI k) 2 ≤ leM L (nxF L s r k) 2 then nxF L s r k else nI k) else nxF L s r k
def okR (L : Fm) (nr ns : Nat) : Prop := ∀ x, vd nr x → vd ns (roM L x 0) ∧ vd ns (roM L x 1)
def okM (L : Fm) (nm nr ns : Nat) : Prop := ∀ x, vd nm x → vd nr (muM L x 0) ∧ vd ns (muM L x 2)
def okG (L : Fm) (nl ns : Nat) : Prop := ∀ x, vd nl x → vd ns (goM L x)
theorem othM_vd {L : Fm} {nr ns : Nat} {r s : Int32} (h : okR L nr ns) (hr : vd nr r) : vd ns (othM L r s) := by
  unfold othM
  by_cases e : roM L r 0 = s
  · rw [if_pos e]; exact (h r hr).2
  · rw [if_neg e]; exact (h r hr).1
theorem nxF_vd {L : Fm} {s r : Int32} : ∀ k : Nat, nxF L s r k = -1 ∨ vd k (nxF L s r k)
  | 0 => Or.inl rfl
  | k + 1 => by
    have up : vd k (nxF L s r k) → vd (k + 1) (nxF L s r k) := fun ⟨j, hj, e⟩ => ⟨j, by omega, e⟩
    unfold nxF
    by_cases h1 : wfM L (nI k) s r = true
    · rw [if_pos h1]
      by_cases h2 : nxF L s r k = -1
      · rw [if_pos h2]; exact Or.inr ⟨k, by omega, rfl⟩
      · rw [if_neg h2]
        by_cases h3 : leM L (nI k) 2 ≤ leM L (nxF L s r k) 2
        · rw [if_pos h3]; exact (nxF_vd k).elim Or.inl (fun q => Or.inr (up q))
        · rw [if_neg h3]; exact Or.inr ⟨k, by omega, rfl⟩
    · rw [if_neg h1]; exact (nxF_vd k).elim Or.inl (fun q => Or.inr (up q))
theorem vd_up {n m : Nat} {x : Int32} (h : vd n x) (k : n ≤ m) : vd m x := by
  obtain ⟨j, hj, e⟩ := h
  exact ⟨j, by omega, e⟩
theorem nxF_in {L : Fm} {s r : Int32} {k n : Nat} (h : ¬ nxF L s r k = -1) (hk : k ≤ n) : vd n (nxF L s r k) := (nxF_vd k).elim (fun q => absurd q h) (fun q => vd_up q hk)
theorem ixv {n : Nat} {x w : Int32} (h : vd n x) (hn : n ≤ 60) (hw : w = -1 ∨ vd 11 w) (c : ¬ w = -1) : vp_in (11 * x + w) 660 := by
  rcases hw with e | ⟨k, hk, rfl⟩
  · exact absurd e c
  · exact ixl h hn k hk
