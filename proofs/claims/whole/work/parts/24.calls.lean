/-! the reference's other calls -/
theorem inB_iff {x a b : Int32} : inB x a b = true ↔ ¬ x < a ∧ ¬ b < x := by simp [inB]
theorem inB_cl {x : Int32} {b : Nat} (hb : b < 2 ^ 31) (h : inB x 0 (nI b) = true) : x.toNatClampNeg ≤ b ∧ x = nI x.toNatClampNeg := by
  obtain ⟨h1, h2⟩ := inB_iff.mp h
  obtain ⟨j, hj, rfl⟩ := nI_of h1
  rw [nI_clamp hj]
  exact ⟨Nat.not_lt.mp fun q => h2 ((nI_ltI hb hj).mpr q), rfl⟩
theorem inB_cl1 {x : Int32} {b : Nat} (hb : b < 2 ^ 31) (h : inB x 1 (nI b) = true) : x.toNatClampNeg ≤ b ∧ x = nI x.toNatClampNeg := by
  obtain ⟨h1, h2⟩ := inB_iff.mp h
  refine inB_cl hb (inB_iff.mpr ⟨fun q => h1 (Int32.lt_trans q (by decide)), h2⟩)
theorem inB_vd {x : Int32} {n : Nat} (hn : n < 2 ^ 31) (h : inB x 0 (nI n - 1) = true) : vd n x := by
  obtain ⟨h1, h2⟩ := inB_iff.mp h
  obtain ⟨j, hj, rfl⟩ := nI_of h1
  cases n with
  | zero => exact absurd (Int32.lt_of_lt_of_le (show nI 0 - 1 < 0 by decide) (nI_pos' hj)) h2
  | succ n =>
    rw [nI_pred] at h2
    exact ⟨j, by have := mt (nI_ltI (a := n) (b := j) (by omega) hj).mpr h2; omega, rfl⟩
theorem inB_v {x : Int32} {b : Nat} (hb : b < 2 ^ 30) (h : inB x 0 (nI b) = true) : vd (b + 1) x := by
  obtain ⟨h1, h2⟩ := inB_cl (by omega) h
  exact ⟨_, by omega, h2⟩
theorem vd_lt {x : Int32} {n : Nat} (a : Nat) (ha : a < 2 ^ 31) (hn : n < 2 ^ 31) (h : vd n x) (c : ¬ nI a ≤ x) : vd a x := by
  obtain ⟨k, hk, rfl⟩ := h
  exact ⟨k, by have := mt (nI_leI ha (by omega : k < 2 ^ 31)).mpr c; omega, rfl⟩
theorem vd_sub {x : Int32} {n : Nat} (a : Nat) (ha : a < 2 ^ 31) (hn : n < 2 ^ 31) (h : vd n x) (c : nI a ≤ x) : vd (n - a) (x - nI a) := by
  obtain ⟨k, hk, rfl⟩ := h
  have := (nI_leI ha (by omega : k < 2 ^ 31)).mp c
  exact ⟨k - a, by omega, pk_sub this⟩
theorem ixrv {n : Nat} {x w : Int32} (h : vd n x) (hn : n ≤ 15) (hw : vd 3 w) : vp_in (3 * x + w) 45 := by
  obtain ⟨j, hj, rfl⟩ := hw
  exact ixr h hn j hj
theorem ixmv {n : Nat} {x w : Int32} (h : vd n x) (hn : n ≤ 12) (hw : vd 5 w) : vp_in (5 * x + w) 60 := by
  obtain ⟨j, hj, rfl⟩ := hw
  exact ixm h hn j hj
theorem ixlv {n : Nat} {x w : Int32} (h : vd n x) (hn : n ≤ 60) (hw : vd 11 w) : vp_in (11 * x + w) 660 := by
  obtain ⟨j, hj, rfl⟩ := hw
  exact ixl h hn j hj
theorem okR_v {L : Fm} {nr ns : Nat} {r w : Int32} (h : okR L nr ns) (hr : vd nr r) (hw : vd 2 w) : vd ns (roM L r w) := by
  obtain ⟨j, hj, rfl⟩ := hw
  exact okR_e h hr hj
def cnM (L : Fm) (ns nr nm nl : Nat) (w : Int32) : Int32 := if w = 0 then rg 2 (L 5) 0 else if w = 1 then nI ns else if w = 2 then nI nr else if w = 3 then nI nm else if w = 4 then nI nl else if w = 5 then latM L nl (w - 5) (-1) 0 else if w = 6 then latM L nl (w - 5) (-1) 0 else if w = 7 then latM L nl (w - 5) (-1) 0 else if w = 8 then latM L nl (w - 5) (-1) 0 else if w = 9 then rg 2 (L 5) 1 else latM L nl (w - 5) (-1) 0
def trM (L : Fm) (nm : Nat) (r w : Int32) : Int32 := if 2 ≤ w then (if 4 ≤ w then (if w = 5 then onM L nm r 1 else onM L nm r 0) else hrsM L r (roM L r (w - 2))) else roM L r w
def tmM (L : Fm) (nl : Nat) (m w : Int32) : Int32 := if 4 ≤ w then (if w = 4 then latM L nl 1 5 m else muM L m 4) else muM L m w
def tlM (L : Fm) (l w : Int32) : Int32 := if w = 10 then bitC (leM L l 10) else leM L l w
def ctM (L : Fm) (ns nr nm nl : Nat) (w : Int32) : Int32 × Int32 := if inB w 0 9 = true then (cnM L ns nr nm nl w, 0) else (0, 1)
def pst (L : Fm) (fog : Int32) (ns nm nl : Nat) (s w : Int32) : Int32 × Int32 := if inB s 0 (nI ns - 1) = true then (if inB w 0 4 = true then (stM L fog nm nl s w, 0) else (0, 1)) else (0, 1)
def prd (L : Fm) (nr nm : Nat) (r w : Int32) : Int32 × Int32 := if inB r 0 (nI nr - 1) = true then (if inB w 0 5 = true then (trM L nm r w, 0) else (0, 1)) else (0, 1)
def pmu (L : Fm) (nm nl : Nat) (m w : Int32) : Int32 × Int32 := if inB m 0 (nI nm - 1) = true then (if inB w 0 5 = true then (tmM L nl m w, 0) else (0, 1)) else (0, 1)
def ple (L : Fm) (nl : Nat) (l w : Int32) : Int32 × Int32 := if inB l 0 (nI nl - 1) = true then (if inB w 0 10 = true then (tlM L l w, 0) else (0, 1)) else (0, 1)
def paF (L : Fm) (ns : Nat) (fog : Int32) (nr nm nl : Nat) : Nat → Fm × Int32
  | 0 => (L, 0)
  | k + 1 => (hoM (paF L ns fog nr nm nl k).1 ns fog nr nm nl, (paF L ns fog nr nm nl k).2 + (hr1 (paF L ns fog nr nm nl k).1 ns nr nm nl).2)
theorem okS_pa {L : Fm} {ns nr nm nl : Nat} {fog : Int32} (hn : nm ≤ 12) (h60 : nl ≤ 60) (h : okS L ns nr nm nl) : ∀ k, okS (paF L ns fog nr nm nl k).1 ns nr nm nl
  | 0 => h
  | k + 1 => okS_ho hn h60 (okS_pa hn h60 h k)
def pps (L : Fm) (ns : Nat) (fog : Int32) (nr nm nl : Nat) (p : Int32) : Int32 × Int32 × Fm := if inB p 1 100 = true then ((paF L ns fog nr nm nl p.toNatClampNeg).2, 0, (paF L ns fog nr nm nl p.toNatClampNeg).1) else (0, 1, L)
def pwy (L : Fm) (ns nr nm : Nat) (a b w : Int32) : Int32 × Int32 × Fm := if inB a 0 (nI ns - 1) = true then (if inB b 0 (nI ns - 1) = true then (if inB w 0 1 = true then (if w = 1 then fiM (rkM L ns nr nm) a b else if rg 100 (rkM L ns nr nm 6) (10 * a + b) < 99999 then rg 100 (rkM L ns nr nm 6) (10 * a + b) else -1, 0, rkM L ns nr nm) else (0, 1, L)) else (0, 1, L)) else (0, 1, L)
def fiR (L : Fm) (ns : Nat) (fog to : Int32) : Nat → Nat → Int32 → Int32
  | 0, _, kn => if bHm kn to = true then nI ns else -1
  | j + 1, k, kn => if bHm kn to = true then nI k else fiR L ns fog to j (k + 1) (litM L ns fog kn)
def pfi (L : Fm) (ns : Nat) (fog a b : Int32) : Int32 × Int32 := if inB a 0 (nI ns - 1) = true then (if inB b 0 (nI ns - 1) = true then (fiR L ns fog b ns 0 (1 <<< (a &&& 31)), 0) else (0, 1)) else (0, 1)
def pas (L : Fm) (ns : Nat) (h : Int32) : Int32 × Int32 × Nat × Fm := if inB h 0 4000 = true then (if nI ns = 10 then (0, 2, ns, L) else (nI ns, 0, ns + 1, sr L 0 (rs 10 (L 0) (nI ns) h))) else (0, 1, ns, L)
def sgM (g a b v : Int32) : Int32 := if v = 0 then (g &&& (((1 : Int32) <<< (b &&& 31)) ^^^ (-1))) ||| 0 else (g &&& (((1 : Int32) <<< (b &&& 31)) ^^^ (-1))) ||| ((1 : Int32) <<< (b &&& 31))
def ss1 (L : Fm) (a b v : Int32) : Fm := sr L 1 (rs 10 (L 1) a (sgM (rg 10 (L 1) a) a b v))
def pss (L : Fm) (ns : Nat) (a b v : Int32) : Int32 × Int32 × Fm := if inB a 0 (nI ns - 1) = true then (if inB b 0 (nI ns - 1) = true then (if a = b then (0, 2, L) else (bitC (rg 10 (ss1 (ss1 L a b v) b a v 1) a), 0, ss1 (ss1 L a b v) b a v)) else (0, 1, L)) else (0, 1, L)
def psf (fog : Int32) (ns : Nat) (a v : Int32) : Int32 × Int32 × Int32 := if inB a 0 (nI ns - 1) = true then (bitC (sgM fog 0 a v), 0, sgM fog 0 a v) else (0, 1, fog)
def evM (L : Fm) (ns : Nat) (fog kn : Int32) : Nat → Int32
  | 0 => kn
  | k + 1 => litM L ns fog (evM L ns fog kn k)
def rc1 (L : Fm) (l : Int32) : Fm := seM (seM L l 6 1) l 10 (1 <<< (leM (seM L l 6 1) l 0 &&& 31))
def prc (L : Fm) (ns : Nat) (fog : Int32) (nl : Nat) (l : Int32) : Int32 × Int32 × Fm := if inB l 0 (nI nl - 1) = true then (if leM L l 6 = 1 then (0, 2, L) else if leM L l 3 ≤ 1 then (bitC (evM (rc1 L l) ns fog (leM (rc1 L l) l 10) ns) - 1, 0, rc1 L l) else (0, 2, L)) else (0, 1, L)
