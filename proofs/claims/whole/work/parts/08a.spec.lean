/-! letters in order; mules; land; ways -/
def pio (ur : Nat → Int32) (u x : Int32) : Nat → (Nat → Int32) → (Nat → Int32)
  | 0, o => rs 60 o (nI 0) x
  | r + 1, o => if u ≤ rg 60 ur (rg 60 o (nI (r + 1) - 1)) then rs 60 o (nI (r + 1)) x else pio ur u x r (rs 60 o (nI (r + 1)) (rg 60 o (nI (r + 1) - 1)))
def uwC (L : Nat → Nat → Int32) (m : Int32) : Bool := !(decide (rg 12 (L 3) m ≤ 0))
def oppC (L : Nat → Nat → Int32) (a b : Int32) : Bool := rg 12 (L 0) a == rg 12 (L 0) b && !(rg 12 (L 2) a == rg 12 (L 2) b)
def stndC (L : Nat → Nat → Int32) (n : Nat) (s : Int32) : Int32 := cI (fun k => rg 12 (L 2) (nI k) == s && !(uwC L (nI k))) n
def ofRC (L : Nat → Nat → Int32) (n : Nat) (r : Int32) : Int32 := cI (fun k => rg 12 (L 0) (nI k) == r) n
def onWC (L : Nat → Nat → Int32) (n : Nat) (r : Int32) : Int32 := cI (fun k => rg 12 (L 0) (nI k) == r && uwC L (nI k)) n
def othC (L : Nat → Nat → Int32) (r e : Int32) : Int32 := if e = rg 15 (L 2) r then rg 15 (L 3) r else rg 15 (L 2) r
def hrsC (L : Nat → Nat → Int32) (r h t : Int32) : Int32 := rg 15 (L 4) r + (if 0 < rg 10 (L 0) t - rg 10 (L 0) h then rg 10 (L 0) t - rg 10 (L 0) h else 0) / 200
def litF (L : Nat → Nat → Int32) (fog kn : Int32) : Nat → Int32
  | 0 => kn
  | k + 1 => if bH (kn &&& (fog ^^^ (-1))) (nI k) = true then litF L fog kn k ||| (rg 10 (L 1) (nI k) &&& (fog ^^^ (-1))) else litF L fog kn k
def litC (L : Nat → Nat → Int32) (ns : Nat) (fog kn : Int32) : Int32 := litF L fog kn ns
def evF (L : Nat → Nat → Int32) (ns : Nat) (fog s : Int32) : Nat → Int32
  | 0 => bW 0 s
  | k + 1 => litC L ns fog (evF L ns fog s k)
def fireL (L : Nat → Nat → Int32) (ns : Nat) (fog to : Int32) : Nat → Nat → Int32 → Int32
  | 0, _, _ => -1
  | j + 1, k, lit => if bH lit to = true then nI k else fireL L ns fog to j (k + 1) (litC L ns fog lit)
def hoC (W : Nat → Nat → Int32) (f t : Int32) : Int32 := rg 100 (W 0) (f * 10 + t)
def fiC (W : Nat → Nat → Int32) (f t : Int32) : Int32 := rg 100 (W 1) (f * 10 + t)
def shoC (W : Nat → Nat → Int32) (f t s : Int32) : Nat → Nat → Int32 := if hoC W f t ≤ s then W else sr W 0 (rs 100 (W 0) (f * 10 + t) s)
def jw3 (W : Nat → Nat → Int32) (via f : Nat) : Nat → Nat → Nat → Int32
  | 0 => W
  | t + 1 => shoC (jw3 W via f t) (nI f) (nI t) (hoC (jw3 W via f t) (nI f) (nI via) + hoC (jw3 W via f t) (nI via) (nI t))
def jw2 (W : Nat → Nat → Int32) (n via : Nat) : Nat → Nat → Nat → Int32
  | 0 => W
  | f + 1 => jw3 (jw2 W n via f) via f n
def jw1 (W : Nat → Nat → Int32) (n : Nat) : Nat → Nat → Nat → Int32
  | 0 => W
  | v + 1 => jw2 (jw1 W n v) n v n
def bgF (W L : Nat → Nat → Int32) (r f : Int32) : Nat → Nat → Nat → Int32
  | 0 => W
  | k + 1 => if hrsC L r f (othC L r f) + hoC (bgF W L r f k) (othC L r f) (nI k) = hoC (bgF W L r f k) f (nI k) then sr (bgF W L r f k) 1 (rs 100 (bgF W L r f k 1) (f * 10 + nI k) r) else bgF W L r f k
def fnd1 (W L M : Nat → Nat → Int32) (nm : Nat) : Nat → Nat → Nat → Int32
  | 0 => W
  | k + 1 => if ofRC M nm (nI k) ≤ 0 then fnd1 W L M nm k else shoC (shoC (fnd1 W L M nm k) (rg 15 (L 2) (nI k)) (rg 15 (L 3) (nI k)) (hrsC L (nI k) (rg 15 (L 2) (nI k)) (rg 15 (L 3) (nI k)))) (rg 15 (L 3) (nI k)) (rg 15 (L 2) (nI k)) (hrsC L (nI k) (rg 15 (L 3) (nI k)) (rg 15 (L 2) (nI k)))
def fnd2 (L M : Nat → Nat → Int32) (ns nm : Nat) : Nat → (Nat → Nat → Int32) → (Nat → Nat → Int32)
  | 0, W => W
  | j + 1, W => fnd2 L M ns nm j (if ofRC M nm (nI j) ≤ 0 then W else bgF (bgF W L (nI j) (rg 15 (L 2) (nI j)) ns) L (nI j) (rg 15 (L 3) (nI j)) ns)
def findC (W L M : Nat → Nat → Int32) (ns nr nm : Nat) : Nat → Nat → Int32 := fnd2 L M ns nm nr (jw1 (fnd1 W L M nm nr) ns ns)
