/-! ways in numbers: a table of hours, shortened in place, phase by phase -/
abbrev Mx : Type := Nat → Nat → Nat
def upm (D : Mx) (f t s : Nat) : Mx := fun a b => if a = f ∧ b = t then min (D a b) s else D a b
def phs (D : Mx) (n v : Nat) : Mx := fun a b => if a < n ∧ b < n then min (D a b) (D a v + D v b) else D a b
def cl (D : Mx) (n : Nat) : Nat → Mx
  | 0 => D
  | k + 1 => phs (cl D n k) n k
def ip3 (D : Mx) (v f : Nat) : Nat → Mx
  | 0 => D
  | t + 1 => upm (ip3 D v f t) f t (ip3 D v f t f v + ip3 D v f t v t)
def ip2 (D : Mx) (n v : Nat) : Nat → Mx
  | 0 => D
  | f + 1 => ip3 (ip2 D n v f) v f n
def ip1 (D : Mx) (n : Nat) : Nat → Mx
  | 0 => D
  | v + 1 => ip2 (ip1 D n v) n v n
theorem ip3_at {D : Mx} {v f : Nat} (h : D v v = 0) : ∀ k a b, ip3 D v f k a b = if a = f ∧ b < k then min (D a b) (D a v + D v b) else D a b
  | 0, a, b => by rw [if_neg (by omega)]; rfl
  | k + 1, a, b => by
    have e1 : ip3 D v f k f v = D f v := by
      rw [ip3_at h k f v]
      split
      · rw [h]; omega
      · rfl
    have e2 : ip3 D v f k v k = D v k := by rw [ip3_at h k v k, if_neg (by omega)]
    have e3 := ip3_at (f := f) h k a b
    show (if a = f ∧ b = k then min (ip3 D v f k a b) (ip3 D v f k f v + ip3 D v f k v k) else ip3 D v f k a b) = _
    rw [e1, e2, e3]
    by_cases h1 : a = f
    · subst h1
      by_cases h2 : b = k
      · subst h2
        rw [if_pos ⟨rfl, rfl⟩, if_neg (by omega), if_pos ⟨rfl, by omega⟩]
      · rw [if_neg (by omega)]
        by_cases h3 : b < k
        · rw [if_pos ⟨rfl, h3⟩, if_pos ⟨rfl, by omega⟩]
        · rw [if_neg (by omega), if_neg (by omega)]
    · rw [if_neg (by omega), if_neg (by omega), if_neg (by omega)]
theorem ip2_at {D : Mx} {n v : Nat} (h : D v v = 0) : ∀ k a b, ip2 D n v k a b = if a < k ∧ b < n then min (D a b) (D a v + D v b) else D a b
  | 0, a, b => by rw [if_neg (by omega)]; rfl
  | k + 1, a, b => by
    have hv : ∀ b, ip2 D n v k v b = D v b := fun b => by
      rw [ip2_at h k v b]
      split
      · rw [h]; omega
      · rfl
    have hk : ∀ b, ip2 D n v k k b = D k b := fun b => by rw [ip2_at h k k b, if_neg (by omega)]
    show ip3 (ip2 D n v k) v k n a b = _
    rw [ip3_at (by rw [hv]; exact h)]
    by_cases h1 : a = k
    · subst h1
      rw [hk, hk, hv]
      by_cases h2 : b < n
      · rw [if_pos ⟨rfl, h2⟩, if_pos ⟨by omega, h2⟩]
      · rw [if_neg (by omega), if_neg (by omega)]
    · rw [if_neg (by omega), ip2_at h k a b]
      by_cases h2 : a < k ∧ b < n
      · rw [if_pos h2, if_pos ⟨by omega, h2.2⟩]
      · rw [if_neg h2, if_neg (by omega)]
theorem cl_diag {D : Mx} {n : Nat} (h : ∀ a, D a a = 0) : ∀ k a, cl D n k a a = 0
  | 0, a => h a
  | k + 1, a => by
    show (if a < n ∧ a < n then min (cl D n k a a) _ else cl D n k a a) = 0
    rw [cl_diag h k a]
    split <;> omega
theorem ip1_cl {D : Mx} {n : Nat} (h : ∀ a, D a a = 0) : ∀ k, ip1 D n k = cl D n k
  | 0 => rfl
  | k + 1 => by
    show ip2 (ip1 D n k) n k n = phs (cl D n k) n k
    rw [ip1_cl h k]
    funext a b
    rw [ip2_at (cl_diag h k k)]
    rfl
theorem cl_le {D : Mx} {n : Nat} : ∀ k a b, cl D n k a b ≤ D a b
  | 0, _, _ => Nat.le_refl _
  | k + 1, a, b => by
    have := cl_le (D := D) (n := n) k a b
    show (if a < n ∧ b < n then min (cl D n k a b) _ else cl D n k a b) ≤ _
    split <;> omega
theorem cl_mono {D E : Mx} {n : Nat} (h : ∀ a b, D a b ≤ E a b) : ∀ k a b, cl D n k a b ≤ cl E n k a b
  | 0, a, b => h a b
  | k + 1, a, b => by
    have h1 := cl_mono (n := n) h k a b
    have h2 := cl_mono (n := n) h k a k
    have h3 := cl_mono (n := n) h k k b
    show (if a < n ∧ b < n then min (cl D n k a b) (cl D n k a k + cl D n k k b) else cl D n k a b) ≤ (if a < n ∧ b < n then min (cl E n k a b) (cl E n k a k + cl E n k k b) else cl E n k a b)
    split <;> omega
theorem cl_tri {D : Mx} {n : Nat} (h : ∀ a, D a a = 0) : ∀ k, k ≤ n → ∀ a b c, a < n → b < n → c < k → cl D n k a b ≤ cl D n k a c + cl D n k c b
  | 0, _, _, _, _, _, _, hc => absurd hc (by omega)
  | k + 1, hk, a, b, c, ha, hb, hc => by
    have ih := cl_tri (n := n) h k (by omega)
    have d := cl_diag (n := n) h k k
    have e : ∀ x y, x < n → y < n → cl D n (k + 1) x y = min (cl D n k x y) (cl D n k x k + cl D n k k y) := fun x y hx hy => if_pos ⟨hx, hy⟩
    rw [e a b ha hb, e a c ha (by omega), e c b (by omega) hb]
    by_cases hck : c = k
    · subst hck
      omega
    · have h1 := ih a b c ha hb (by omega)
      have h2 := ih k b c (by omega) hb (by omega)
      have h3 := ih a k c ha (by omega) (by omega)
      omega
theorem cl_fix {D : Mx} {n : Nat} (h : ∀ a b c, a < n → b < n → c < n → D a b ≤ D a c + D c b) : ∀ k, k ≤ n → cl D n k = D
  | 0, _ => rfl
  | k + 1, hk => by
    show phs (cl D n k) n k = D
    rw [cl_fix h k (by omega)]
    funext a b
    show (if a < n ∧ b < n then min (D a b) (D a k + D k b) else D a b) = D a b
    split
    · have := h a b k (by omega) (by omega) (by omega)
      omega
    · rfl
/-- what is far stays far: more rows change nothing -/
theorem cl_grow {D : Mx} {n m F : Nat} (hnm : n ≤ m) (h0 : ∀ a, D a a = 0) (hF : ∀ a b, D a b ≤ F) (hf : ∀ a b, a ≠ b → n ≤ a ∨ n ≤ b → D a b = F) :
    (∀ k, k ≤ n → cl D m k = cl D n k) ∧ ∀ k a b, a ≠ b → n ≤ a ∨ n ≤ b → cl D n k a b = F := by
  have hk : ∀ k a b, a ≠ b → n ≤ a ∨ n ≤ b → cl D n k a b = F := by
    intro k
    induction k with
    | zero => exact hf
    | succ k ih =>
      intro a b h1 h2
      show (if a < n ∧ b < n then _ else cl D n k a b) = F
      rw [if_neg (by omega)]
      exact ih a b h1 h2
  refine ⟨fun k => ?_, hk⟩
  induction k with
  | zero => intro _; rfl
  | succ k ih =>
    intro h1
    show phs (cl D m k) m k = phs (cl D n k) n k
    rw [ih (by omega)]
    funext a b
    show (if a < m ∧ b < m then min (cl D n k a b) (cl D n k a k + cl D n k k b) else cl D n k a b) = (if a < n ∧ b < n then min (cl D n k a b) (cl D n k a k + cl D n k k b) else cl D n k a b)
    by_cases h2 : a < n ∧ b < n
    · rw [if_pos h2, if_pos (by omega)]
    · rw [if_neg h2]
      by_cases h3 : a < m ∧ b < m
      · rw [if_pos h3]
        by_cases h4 : a = b
        · subst h4
          rw [cl_diag h0]
          omega
        · have e := hk k a b h4 (by omega)
          rcases (show n ≤ a ∨ n ≤ b by omega) with h5 | h5
          · have e2 := hk k a k (by omega) (Or.inl h5)
            omega
          · have e2 := hk k k b (by omega) (Or.inr h5)
            omega
      · rw [if_neg h3]
theorem cl_all {D : Mx} {n m F : Nat} (hnm : n ≤ m) (h0 : ∀ a, D a a = 0) (hF : ∀ a b, D a b ≤ F) (hf : ∀ a b, a ≠ b → n ≤ a ∨ n ≤ b → D a b = F) : cl D m m = cl D n n := by
  obtain ⟨g1, g2⟩ := cl_grow hnm h0 hF hf
  have key : ∀ j, n + j ≤ m → cl D m (n + j) = cl D n n := by
    intro j
    induction j with
    | zero => intro _; exact g1 n (Nat.le_refl _)
    | succ j ih =>
      intro h1
      show phs (cl D m (n + j)) m (n + j) = cl D n n
      rw [ih (by omega)]
      funext a b
      show (if a < m ∧ b < m then min (cl D n n a b) (cl D n n a (n + j) + cl D n n (n + j) b) else cl D n n a b) = cl D n n a b
      have d := cl_diag (n := n) h0 n (n + j)
      have hle : cl D n n a b ≤ F := Nat.le_trans (cl_le n a b) (hF a b)
      split
      · by_cases h2 : a = n + j
        · subst h2; omega
        · have e2 := g2 n a (n + j) h2 (Or.inr (by omega))
          omega
      · rfl
  have := key (m - n) (by omega)
  rwa [show n + (m - n) = m by omega] at this
/-! roads that count: for each one whether, its ends, its hours both ways -/
abbrev Rd : Type := (Nat → Bool) × (Nat → Nat) × (Nat → Nat) × (Nat → Nat) × (Nat → Nat)
def rdD (G : Rd) (D : Mx) : Nat → Mx
  | 0 => D
  | k + 1 => if G.1 k = true then upm (upm (rdD G D k) (G.2.1 k) (G.2.2.1 k) (G.2.2.2.1 k)) (G.2.2.1 k) (G.2.1 k) (G.2.2.2.2 k) else rdD G D k
def iD (F : Nat) : Mx := fun a b => if a = b then 0 else F
/-- roads that count, below nr, have two ends below n, and hours 1 to 40 -/
def okG1 (G : Rd) (nr n : Nat) : Prop := ∀ k, k < nr → G.1 k = true → G.2.1 k < n ∧ G.2.2.1 k < n ∧ G.2.1 k ≠ G.2.2.1 k ∧ (1 ≤ G.2.2.2.1 k ∧ G.2.2.2.1 k ≤ 40) ∧ 1 ≤ G.2.2.2.2 k ∧ G.2.2.2.2 k ≤ 40
theorem upm_le (D : Mx) (f t s a b : Nat) : upm D f t s a b ≤ D a b := by
  show (if a = f ∧ b = t then min (D a b) s else D a b) ≤ _
  split <;> omega
theorem upm_at (D : Mx) (f t s : Nat) : upm D f t s f t ≤ s := by
  show (if f = f ∧ t = t then min (D f t) s else D f t) ≤ _
  rw [if_pos ⟨rfl, rfl⟩]
  omega
theorem upm_ne {D : Mx} {f t s a b : Nat} (h : ¬ (a = f ∧ b = t)) : upm D f t s a b = D a b := if_neg h
theorem rdD_le {G : Rd} {D : Mx} : ∀ k a b, rdD G D k a b ≤ D a b
  | 0, _, _ => Nat.le_refl _
  | k + 1, a, b => by
    have ih := rdD_le (G := G) (D := D) k a b
    show (if G.1 k = true then upm (upm (rdD G D k) (G.2.1 k) (G.2.2.1 k) (G.2.2.2.1 k)) (G.2.2.1 k) (G.2.1 k) (G.2.2.2.2 k) else rdD G D k) a b ≤ _
    split
    · exact Nat.le_trans (Nat.le_trans (upm_le _ _ _ _ _ _) (upm_le _ _ _ _ _ _)) ih
    · exact ih
theorem upm_mono {D E : Mx} {f t s : Nat} (h : ∀ a b, D a b ≤ E a b) (a b : Nat) : upm D f t s a b ≤ upm E f t s a b := by
  have := h a b
  show (if a = f ∧ b = t then min (D a b) s else D a b) ≤ (if a = f ∧ b = t then min (E a b) s else E a b)
  split <;> omega
theorem rdD_mono {G : Rd} {D E : Mx} (h : ∀ a b, D a b ≤ E a b) : ∀ k a b, rdD G D k a b ≤ rdD G E k a b
  | 0, a, b => h a b
  | k + 1, a, b => by
    have ih := rdD_mono (G := G) h k
    show (if G.1 k = true then upm (upm (rdD G D k) (G.2.1 k) (G.2.2.1 k) (G.2.2.2.1 k)) (G.2.2.1 k) (G.2.1 k) (G.2.2.2.2 k) else rdD G D k) a b ≤ (if G.1 k = true then upm (upm (rdD G E k) (G.2.1 k) (G.2.2.1 k) (G.2.2.2.1 k)) (G.2.2.1 k) (G.2.1 k) (G.2.2.2.2 k) else rdD G E k) a b
    split
    · exact upm_mono (fun a b => upm_mono ih a b) a b
    · exact ih a b
/-- a bound below all roads and below D is below all -/
theorem rdD_ge {G : Rd} {D C : Mx} (h : ∀ a b, C a b ≤ D a b) : ∀ k, (∀ j, j < k → G.1 j = true → C (G.2.1 j) (G.2.2.1 j) ≤ G.2.2.2.1 j ∧ C (G.2.2.1 j) (G.2.1 j) ≤ G.2.2.2.2 j) → ∀ a b, C a b ≤ rdD G D k a b
  | 0, _, a, b => h a b
  | k + 1, hr, a, b => by
    have ih := rdD_ge h k (fun j hj => hr j (by omega)) a b
    show C a b ≤ (if G.1 k = true then upm (upm (rdD G D k) (G.2.1 k) (G.2.2.1 k) (G.2.2.2.1 k)) (G.2.2.1 k) (G.2.1 k) (G.2.2.2.2 k) else rdD G D k) a b
    split
    · rename_i hc
      obtain ⟨h1, h2⟩ := hr k (by omega) hc
      show C a b ≤ (if a = G.2.2.1 k ∧ b = G.2.1 k then min (if a = G.2.1 k ∧ b = G.2.2.1 k then min (rdD G D k a b) (G.2.2.2.1 k) else rdD G D k a b) (G.2.2.2.2 k) else (if a = G.2.1 k ∧ b = G.2.2.1 k then min (rdD G D k a b) (G.2.2.2.1 k) else rdD G D k a b))
      by_cases e1 : a = G.2.2.1 k ∧ b = G.2.1 k
      · rw [if_pos e1]
        rw [e1.1, e1.2] at ih ⊢
        split
        · rename_i e2
          have h3 : C (G.2.2.1 k) (G.2.1 k) = C (G.2.1 k) (G.2.2.1 k) := congr (congrArg C e2.1) e2.2
          omega
        · omega
      · rw [if_neg e1]
        split
        · rename_i e2
          rw [e2.1, e2.2] at ih ⊢
          omega
        · exact ih
    · exact ih
theorem rdD_road {G : Rd} {D : Mx} : ∀ k j, j < k → G.1 j = true → rdD G D k (G.2.1 j) (G.2.2.1 j) ≤ G.2.2.2.1 j ∧ rdD G D k (G.2.2.1 j) (G.2.1 j) ≤ G.2.2.2.2 j
  | 0, j, h, _ => absurd h (by omega)
  | k + 1, j, h, hc => by
    have e : rdD G D (k + 1) = (if G.1 k = true then upm (upm (rdD G D k) (G.2.1 k) (G.2.2.1 k) (G.2.2.2.1 k)) (G.2.2.1 k) (G.2.1 k) (G.2.2.2.2 k) else rdD G D k) := rfl
    by_cases hj : j = k
    · subst hj
      rw [e, if_pos hc]
      exact ⟨Nat.le_trans (upm_le _ _ _ _ _ _) (upm_at _ _ _ _), upm_at _ _ _ _⟩
    · have ih := rdD_road (D := D) k j (by omega) hc
      rw [e]
      split
      · exact ⟨Nat.le_trans (Nat.le_trans (upm_le _ _ _ _ _ _) (upm_le _ _ _ _ _ _)) ih.1, Nat.le_trans (Nat.le_trans (upm_le _ _ _ _ _ _) (upm_le _ _ _ _ _ _)) ih.2⟩
      · exact ih
theorem rdD_diag {G : Rd} {D : Mx} (h : ∀ a, D a a = 0) (k a : Nat) : rdD G D k a a = 0 := Nat.le_zero.mp (by rw [← h a]; exact rdD_le k a a)
/-- a road begins each entry that isn't D's own -/
theorem rdD_src {G : Rd} {D : Mx} : ∀ k a b, rdD G D k a b = D a b ∨ ∃ j, j < k ∧ G.1 j = true ∧ ((a = G.2.1 j ∧ b = G.2.2.1 j ∧ rdD G D k a b = G.2.2.2.1 j) ∨ (a = G.2.2.1 j ∧ b = G.2.1 j ∧ rdD G D k a b = G.2.2.2.2 j))
  | 0, _, _ => Or.inl rfl
  | k + 1, a, b => by
    have up : (rdD G D k a b = D a b ∨ ∃ j, j < k ∧ G.1 j = true ∧ ((a = G.2.1 j ∧ b = G.2.2.1 j ∧ rdD G D k a b = G.2.2.2.1 j) ∨ (a = G.2.2.1 j ∧ b = G.2.1 j ∧ rdD G D k a b = G.2.2.2.2 j))) → ∀ x, x = rdD G D k a b → (x = D a b ∨ ∃ j, j < k + 1 ∧ G.1 j = true ∧ ((a = G.2.1 j ∧ b = G.2.2.1 j ∧ x = G.2.2.2.1 j) ∨ (a = G.2.2.1 j ∧ b = G.2.1 j ∧ x = G.2.2.2.2 j))) := by
      intro h x e
      subst e
      exact h.imp id (fun ⟨j, h1, h2⟩ => ⟨j, by omega, h2⟩)
    have ih := up (rdD_src (D := D) k a b)
    have e : rdD G D (k + 1) = (if G.1 k = true then upm (upm (rdD G D k) (G.2.1 k) (G.2.2.1 k) (G.2.2.2.1 k)) (G.2.2.1 k) (G.2.1 k) (G.2.2.2.2 k) else rdD G D k) := rfl
    by_cases hc : G.1 k = true
    · have ev : rdD G D (k + 1) a b = (if a = G.2.2.1 k ∧ b = G.2.1 k then min (if a = G.2.1 k ∧ b = G.2.2.1 k then min (rdD G D k a b) (G.2.2.2.1 k) else rdD G D k a b) (G.2.2.2.2 k) else (if a = G.2.1 k ∧ b = G.2.2.1 k then min (rdD G D k a b) (G.2.2.2.1 k) else rdD G D k a b)) := by rw [e, if_pos hc]; rfl
      have three : rdD G D (k + 1) a b = rdD G D k a b ∨ (a = G.2.1 k ∧ b = G.2.2.1 k ∧ rdD G D (k + 1) a b = G.2.2.2.1 k) ∨ (a = G.2.2.1 k ∧ b = G.2.1 k ∧ rdD G D (k + 1) a b = G.2.2.2.2 k) := by
        rw [ev]
        by_cases e1 : a = G.2.2.1 k ∧ b = G.2.1 k
        · rw [if_pos e1]
          by_cases e2 : a = G.2.1 k ∧ b = G.2.2.1 k
          · rw [if_pos e2]; omega
          · rw [if_neg e2]; omega
        · rw [if_neg e1]
          by_cases e2 : a = G.2.1 k ∧ b = G.2.2.1 k
          · rw [if_pos e2]; omega
          · rw [if_neg e2]; omega
      rcases three with h1 | h1 | h1
      · exact ih _ h1
      · exact Or.inr ⟨k, by omega, hc, Or.inl h1⟩
      · exact Or.inr ⟨k, by omega, hc, Or.inr h1⟩
    · exact ih _ (by rw [e, if_neg hc])
