/-! the reference's ways -/
theorem gt2 {k : Nat} (h : k < 2) : ¬ (1 : Int32) < nI k := nI_nlt (a := 1) (b := k) (by omega) (by decide)
theorem okR_of {L L' : Fm} {nr ns : Nat} (e : L' 2 = L 2) (h : okR L nr ns) : okR L' nr ns := by
  unfold okR roM
  rw [e]
  exact h
theorem okR_e {L : Fm} {nr ns e : Nat} {r : Int32} (h : okR L nr ns) (hr : vd nr r) (he : e < 2) : vd ns (roM L r (nI e)) := by
  rcases (show e = 0 ∨ e = 1 by omega) with rfl | rfl
  · exact (h r hr).1
  · exact (h r hr).2
theorem sr6 (L : Fm) (g : Nat → Int32) : sr L 6 g 2 = L 2 := rfl
theorem sr7 (L : Fm) (g : Nat → Int32) : sr L 7 g 2 = L 2 := rfl
def rk0 (L : Fm) : Nat → Fm
  | 0 => L
  | k + 1 => sr (sr (rk0 L k) 6 (rs 100 (rk0 L k 6) (nI k) (if nI k / 10 = nI k - nI k / 10 * 10 then 0 else 99999))) 7 (rs 100 (rk0 L k 7) (nI k) (-1))
def rkE (L : Fm) (r : Int32) : Nat → Fm
  | 0 => L
  | e + 1 => sr (rkE L r e) 6 (rs 100 (rkE L r e 6) (10 * roM (rkE L r e) r (nI e) + roM (rkE L r e) r (nI (1 - e))) (if hrsM (rkE L r e) r (roM (rkE L r e) r (nI e)) < rg 100 (rkE L r e 6) (10 * roM (rkE L r e) r (nI e) + roM (rkE L r e) r (nI (1 - e))) then hrsM (rkE L r e) r (roM (rkE L r e) r (nI e)) else rg 100 (rkE L r e 6) (10 * roM (rkE L r e) r (nI e) + roM (rkE L r e) r (nI (1 - e)))))
def rk1 (L : Fm) (nm : Nat) : Nat → Fm
  | 0 => L
  | k + 1 => if onM (rk1 L nm k) nm (nI k) 0 = 0 then rk1 L nm k else rkE (rk1 L nm k) (nI k) 2
def rj3 (L : Fm) (v a : Nat) : Nat → Fm
  | 0 => L
  | b + 1 => sr (rj3 L v a b) 6 (rs 100 (rj3 L v a b 6) (10 * nI a + nI b) (if rg 100 (rj3 L v a b 6) (10 * nI a + nI v) + rg 100 (rj3 L v a b 6) (10 * nI v + nI b) < rg 100 (rj3 L v a b 6) (10 * nI a + nI b) then rg 100 (rj3 L v a b 6) (10 * nI a + nI v) + rg 100 (rj3 L v a b 6) (10 * nI v + nI b) else rg 100 (rj3 L v a b 6) (10 * nI a + nI b)))
def rj2 (L : Fm) (ns v : Nat) : Nat → Fm
  | 0 => L
  | a + 1 => rj3 (rj2 L ns v a) v a ns
def rj1 (L : Fm) (ns : Nat) : Nat → Fm
  | 0 => L
  | v + 1 => rj2 (rj1 L ns v) ns v ns
def itM (L : Fm) (r f : Int32) (e t : Nat) : Int32 := hrsM L r f + rg 100 (L 6) (10 * roM L r (nI (1 - e)) + nI t)
def rfT (L : Fm) (r f : Int32) (e : Nat) : Nat → Fm
  | 0 => L
  | t + 1 => if f = nI t then rfT L r f e t else if 99999 ≤ itM (rfT L r f e t) r f e t then rfT L r f e t else if itM (rfT L r f e t) r f e t = rg 100 (rfT L r f e t 6) (10 * f + nI t) then sr (rfT L r f e t) 7 (rs 100 (rfT L r f e t 7) (10 * f + nI t) r) else rfT L r f e t
def rfE (L : Fm) (r : Int32) (ns : Nat) : Nat → Fm
  | 0 => L
  | e + 1 => rfT (rfE L r ns e) r (roM (rfE L r ns e) r (nI e)) e ns
def rfR (ns nm : Nat) : Nat → Fm → Fm
  | 0, L => L
  | j + 1, L => rfR ns nm j (if onM L nm (nI j) 0 = 0 then L else rfE L (nI j) ns 2)
def rkM (L : Fm) (ns nr nm : Nat) : Fm := rfR ns nm nr (rj1 (rk1 (rk0 L 100) nm nr) ns ns)
theorem rk0_2 (L : Fm) : ∀ k, rk0 L k 2 = L 2
  | 0 => rfl
  | k + 1 => by rw [rk0, sr7, sr6, rk0_2 L k]
theorem rkE_2 (L : Fm) (r : Int32) : ∀ k, rkE L r k 2 = L 2
  | 0 => rfl
  | k + 1 => by rw [rkE, sr6, rkE_2 L r k]
theorem rk1_2 (L : Fm) (nm : Nat) : ∀ k, rk1 L nm k 2 = L 2
  | 0 => rfl
  | k + 1 => by
    rw [rk1]
    by_cases h : onM (rk1 L nm k) nm (nI k) 0 = 0
    · rw [if_pos h, rk1_2 L nm k]
    · rw [if_neg h, rkE_2, rk1_2 L nm k]
theorem rj3_2 (L : Fm) (v a : Nat) : ∀ k, rj3 L v a k 2 = L 2
  | 0 => rfl
  | k + 1 => by rw [rj3, sr6, rj3_2 L v a k]
theorem rj2_2 (L : Fm) (ns v : Nat) : ∀ k, rj2 L ns v k 2 = L 2
  | 0 => rfl
  | k + 1 => by rw [rj2, rj3_2, rj2_2 L ns v k]
theorem rj1_2 (L : Fm) (ns : Nat) : ∀ k, rj1 L ns k 2 = L 2
  | 0 => rfl
  | k + 1 => by rw [rj1, rj2_2, rj1_2 L ns k]
theorem rfT_2 (L : Fm) (r f : Int32) (e : Nat) : ∀ k, rfT L r f e k 2 = L 2
  | 0 => rfl
  | k + 1 => by
    have ih := rfT_2 L r f e k
    rw [rfT]
    by_cases h1 : f = nI k
    · rw [if_pos h1, ih]
    · rw [if_neg h1]
      by_cases h2 : 99999 ≤ itM (rfT L r f e k) r f e k
      · rw [if_pos h2, ih]
      · rw [if_neg h2]
        by_cases h3 : itM (rfT L r f e k) r f e k = rg 100 (rfT L r f e k 6) (10 * f + nI k)
        · rw [if_pos h3, sr7, ih]
        · rw [if_neg h3, ih]
theorem rfE_2 (L : Fm) (r : Int32) (ns : Nat) : ∀ k, rfE L r ns k 2 = L 2
  | 0 => rfl
  | k + 1 => by rw [rfE, rfT_2, rfE_2 L r ns k]
