/-! the reference's ways are the same -/
theorem ix10 {a b : Nat} : (10 : Int32) * nI a + nI b = nI (a * 10 + b) := by
  rw [show (10 : Int32) = nI 10 from rfl, pk_mul, nI_add, Nat.mul_comm]
theorem rg10 {f : Nat → Int32} {a b : Nat} (ha : a < 10) (hb : b < 10) : rg 100 f ((10 : Int32) * nI a + nI b) = f (a * 10 + b) := by
  rw [ix10]
  exact rg_k (by omega) (by decide)
theorem rs10 {f : Nat → Int32} {a b : Nat} {v : Int32} (ha : a < 10) (hb : b < 10) : rs 100 f ((10 : Int32) * nI a + nI b) v = upd f (a * 10 + b) v := by
  rw [ix10]
  exact rs_k (by omega) (by decide)
theorem mn_MW {f : Nat → Int32} {D : Mx} {x y s : Nat} (h : MW f D) (hD : ∀ a b, D a b ≤ 99999) (hx : x < 10) (hy : y < 10) (hs : s < 2 ^ 31) : MW (rs 100 f ((10 : Int32) * nI x + nI y) (if nI s < rg 100 f ((10 : Int32) * nI x + nI y) then nI s else rg 100 f ((10 : Int32) * nI x + nI y))) (upm D x y s) := by
  have hxy := hD x y
  intro a b ha hb
  rw [rs10 hx hy, rg10 hx hy, h x y hx hy, upd_at hy hb]
  show _ = nI (if a = x ∧ b = y then min (D a b) s else D a b)
  by_cases e : a = x ∧ b = y
  · rw [if_pos e, if_pos e, e.1, e.2]
    by_cases c : nI s < nI (D x y)
    · rw [if_pos c]
      have := (nI_ltI hs (by omega)).mp c
      rw [Nat.min_eq_right (by omega)]
    · rw [if_neg c]
      have : ¬ s < D x y := fun q => c ((nI_ltI hs (by omega)).mpr q)
      rw [Nat.min_eq_left (by omega)]
  · rw [if_neg e, if_neg e]
    exact h a b ha hb
theorem rk0_6 (L : Fm) : ∀ k, k ≤ 100 → ∀ i, rk0 L k 6 i = if i < k then (if i / 10 = i % 10 then 0 else 99999) else L 6 i
  | 0, _, i => by rw [if_neg (by omega)]; rfl
  | k + 1, hk, i => by
    have ih := rk0_6 L k (by omega) i
    have e1 : nI k / 10 = nI (k / 10) := pk_div (by omega) (by decide) (by decide)
    have e2 : nI k - nI k / 10 * 10 = nI (k % 10) := pk_rem (by omega) (by decide) (by decide)
    show sr (sr (rk0 L k) 6 (rs 100 (rk0 L k 6) (nI k) (if nI k / 10 = nI k - nI k / 10 * 10 then 0 else 99999))) 7 (rs 100 (rk0 L k 7) (nI k) (-1)) 6 i = _
    rw [sr_n (by decide), sr_s, rs_k (by omega) (by decide), e2, e1]
    by_cases h : i = k
    · subst h
      rw [pk_us, if_pos (show i < i + 1 by omega)]
      by_cases c : i / 10 = i % 10
      · rw [if_pos c, if_pos (show nI (i / 10) = nI (i % 10) by rw [c])]
      · rw [if_neg c, if_neg (fun q => c ((nI_eq (by omega) (by omega)).mp q))]
    · rw [pk_un h, ih]
      by_cases c : i < k
      · rw [if_pos c, if_pos (show i < k + 1 by omega)]
      · rw [if_neg c, if_neg (show ¬ i < k + 1 by omega)]
theorem rk0_7 (L : Fm) : ∀ k, k ≤ 100 → ∀ i, rk0 L k 7 i = if i < k then -1 else L 7 i
  | 0, _, i => by rw [if_neg (by omega)]; rfl
  | k + 1, hk, i => by
    have ih := rk0_7 L k (by omega) i
    show sr (sr (rk0 L k) 6 (rs 100 (rk0 L k 6) (nI k) (if nI k / 10 = nI k - nI k / 10 * 10 then 0 else 99999))) 7 (rs 100 (rk0 L k 7) (nI k) (-1)) 7 i = _
    rw [sr_s, rs_k (by omega) (by decide)]
    by_cases h : i = k
    · subst h
      rw [pk_us, if_pos (by omega)]
    · rw [pk_un h, ih]
      by_cases c : i < k
      · rw [if_pos c, if_pos (by omega)]
      · rw [if_neg c, if_neg (by omega)]
theorem rk0_q (L : Fm) {i : Nat} (h6 : i ≠ 6) (h7 : i ≠ 7) : ∀ k, rk0 L k i = L i
  | 0 => rfl
  | k + 1 => by rw [rk0, sr_n h7, sr_n h6]; exact rk0_q L h6 h7 k
theorem rkE_q (L : Fm) (r : Int32) {i : Nat} (h6 : i ≠ 6) : ∀ k, rkE L r k i = L i
  | 0 => rfl
  | k + 1 => by rw [rkE, sr_n h6]; exact rkE_q L r h6 k
theorem rk1_q (L : Fm) (nm : Nat) {i : Nat} (h6 : i ≠ 6) : ∀ k, rk1 L nm k i = L i
  | 0 => rfl
  | k + 1 => by
    rw [rk1]
    split
    · exact rk1_q L nm h6 k
    · rw [rkE_q _ _ h6]; exact rk1_q L nm h6 k
theorem rj3_q (L : Fm) (v a : Nat) {i : Nat} (h6 : i ≠ 6) : ∀ k, rj3 L v a k i = L i
  | 0 => rfl
  | k + 1 => by rw [rj3, sr_n h6]; exact rj3_q L v a h6 k
theorem rj2_q (L : Fm) (ns v : Nat) {i : Nat} (h6 : i ≠ 6) : ∀ k, rj2 L ns v k i = L i
  | 0 => rfl
  | k + 1 => by rw [rj2, rj3_q _ _ _ h6]; exact rj2_q L ns v h6 k
theorem rj1_q (L : Fm) (ns : Nat) {i : Nat} (h6 : i ≠ 6) : ∀ k, rj1 L ns k i = L i
  | 0 => rfl
  | k + 1 => by rw [rj1, rj2_q _ _ _ h6]; exact rj1_q L ns h6 k
theorem rfT_q (L : Fm) (r f : Int32) (e : Nat) {i : Nat} (h7 : i ≠ 7) : ∀ k, rfT L r f e k i = L i
  | 0 => rfl
  | k + 1 => by
    have ih := rfT_q L r f e h7 k
    rw [rfT]
    split
    · exact ih
    · split
      · exact ih
      · split
        · rw [sr_n h7]; exact ih
        · exact ih
theorem rfE_q (L : Fm) (r : Int32) (ns : Nat) {i : Nat} (h7 : i ≠ 7) : ∀ k, rfE L r ns k i = L i
  | 0 => rfl
  | k + 1 => by rw [rfE, rfT_q _ _ _ _ h7]; exact rfE_q L r ns h7 k
theorem rfR_q (ns nm : Nat) {i : Nat} (h7 : i ≠ 7) : ∀ (j : Nat) (L : Fm), rfR ns nm j L i = L i
  | 0, _ => rfl
  | j + 1, L => by
    rw [rfR, rfR_q ns nm h7 j]
    split
    · rfl
    · exact rfE_q _ _ _ h7 _
theorem rkM_q (L : Fm) (ns nr nm : Nat) {i : Nat} (h6 : i ≠ 6) (h7 : i ≠ 7) : rkM L ns nr nm i = L i := by
  unfold rkM
  rw [rfR_q ns nm h7, rj1_q _ _ h6, rk1_q _ _ h6, rk0_q _ h6 h7]
/-- the reference's tables tell the roads that G does -/
def okH (G : Rd) (L : Fm) (ns nr nm : Nat) : Prop := ∀ k, k < nr → roM L (nI k) 0 = nI (G.2.1 k) ∧ roM L (nI k) 1 = nI (G.2.2.1 k) ∧ hrsM L (nI k) (nI (G.2.1 k)) = nI (G.2.2.2.1 k) ∧ hrsM L (nI k) (nI (G.2.2.1 k)) = nI (G.2.2.2.2 k) ∧ (onM L nm (nI k) 0 = 0 ↔ G.1 k = false) ∧ G.2.1 k < ns ∧ G.2.2.1 k < ns ∧ G.2.1 k ≠ G.2.2.1 k ∧ G.2.2.2.1 k ≤ 40 ∧ G.2.2.2.2 k ≤ 40
theorem okH_of {G : Rd} {L X : Fm} {ns nr nm : Nat} (h0 : X 0 = L 0) (h2 : X 2 = L 2) (h3 : X 3 = L 3) (h : okH G L ns nr nm) : okH G X ns nr nm := by
  unfold okH hrsM othM roM onM muM at *
  rw [h0, h2, h3]
  exact h
theorem rkE_MW {G : Rd} {L : Fm} {D : Mx} {ns nr nm k : Nat} (hn : ns ≤ 10) (hH : okH G L ns nr nm) (hk : k < nr) (h : MW (L 6) D) (hD : ∀ a b, D a b ≤ 99999) : MW (rkE L (nI k) 2 6) (upm (upm D (G.2.1 k) (G.2.2.1 k) (G.2.2.2.1 k)) (G.2.2.1 k) (G.2.1 k) (G.2.2.2.2 k)) := by
  obtain ⟨r0, r1, h0, h1, -, a1, b1, -, w1, w2⟩ := hH k hk
  obtain ⟨X, hX⟩ : ∃ X, X = rkE L (nI k) 1 := ⟨_, rfl⟩
  have x6 : MW (X 6) (upm D (G.2.1 k) (G.2.2.1 k) (G.2.2.2.1 k)) := by
    have e : X 6 = rs 100 (L 6) (10 * roM L (nI k) 0 + roM L (nI k) 1) (if hrsM L (nI k) (roM L (nI k) 0) < rg 100 (L 6) (10 * roM L (nI k) 0 + roM L (nI k) 1) then hrsM L (nI k) (roM L (nI k) 0) else rg 100 (L 6) (10 * roM L (nI k) 0 + roM L (nI k) 1)) := by rw [hX]; exact sr_s _ _ _
    rw [e, r0, r1, h0]
    exact mn_MW h hD (by omega) (by omega) (by omega)
  have hHX := okH_of (G := G) (X := X) (ns := ns) (nr := nr) (nm := nm) (by rw [hX]; exact rkE_q L _ (by decide) 1) (by rw [hX]; exact rkE_q L _ (by decide) 1) (by rw [hX]; exact rkE_q L _ (by decide) 1) hH
  obtain ⟨s0, s1, t0, t1, -⟩ := hHX k hk
  have e2 : rkE L (nI k) 2 6 = rs 100 (X 6) (10 * roM X (nI k) 1 + roM X (nI k) 0) (if hrsM X (nI k) (roM X (nI k) 1) < rg 100 (X 6) (10 * roM X (nI k) 1 + roM X (nI k) 0) then hrsM X (nI k) (roM X (nI k) 1) else rg 100 (X 6) (10 * roM X (nI k) 1 + roM X (nI k) 0)) := by rw [hX]; exact sr_s _ _ _
  rw [e2, s0, s1, t1]
  exact mn_MW x6 (fun a b => Nat.le_trans (upm_le _ _ _ _ _ _) (hD a b)) (by omega) (by omega) (by omega)
theorem rk1_MW {G : Rd} {L : Fm} {D : Mx} {ns nr nm : Nat} (hn : ns ≤ 10) (hH : okH G L ns nr nm) (h : MW (L 6) D) (hD : ∀ a b, D a b ≤ 99999) : ∀ k, k ≤ nr → MW (rk1 L nm k 6) (rdD G D k)
  | 0, _ => h
  | k + 1, hk => by
    have ih := rk1_MW hn hH h hD k (by omega)
    have e : rdD G D (k + 1) = (if G.1 k = true then upm (upm (rdD G D k) (G.2.1 k) (G.2.2.1 k) (G.2.2.2.1 k)) (G.2.2.1 k) (G.2.1 k) (G.2.2.2.2 k) else rdD G D k) := rfl
    have hX := okH_of (G := G) (ns := ns) (nr := nr) (nm := nm) (rk1_q L nm (by decide) k) (rk1_q L nm (by decide) k) (rk1_q L nm (by decide) k) hH
    have hc := (hX k (by omega)).2.2.2.2.1
    rw [rk1, e]
    by_cases c : onM (rk1 L nm k) nm (nI k) 0 = 0
    · rw [if_pos c, if_neg (by rw [hc.mp c]; exact Bool.false_ne_true)]
      exact ih
    · have c2 : G.1 k = true := by
        cases q : G.1 k with
        | true => rfl
        | false => exact absurd (hc.mpr q) c
      rw [if_neg c, if_pos c2]
      exact rkE_MW hn hX (by omega) ih (fun a b => Nat.le_trans (rdD_le k a b) (hD a b))
theorem rj3_MW {L : Fm} {D : Mx} {v f : Nat} (h : MW (L 6) D) (hD : ∀ a b, D a b ≤ 99999) (hv : v < 10) (hf : f < 10) : ∀ k, k ≤ 10 → MW (rj3 L v f k 6) (ip3 D v f k)
  | 0, _ => h
  | k + 1, hk => by
    have ih := rj3_MW h hD hv hf k (by omega)
    have b : ∀ a b, ip3 D v f k a b ≤ 99999 := fun a b => Nat.le_trans (ip3_le k a b) (hD a b)
    have b1 := b f v
    have b2 := b v k
    have e : rg 100 (rj3 L v f k 6) (10 * nI f + nI v) + rg 100 (rj3 L v f k 6) (10 * nI v + nI k) = nI (ip3 D v f k f v + ip3 D v f k v k) := by
      rw [rg10 hf hv, rg10 hv (by omega), ih f v hf hv, ih v k hv (by omega), nI_add]
    rw [rj3, sr_s, e]
    exact mn_MW ih b hf (by omega) (by omega)
theorem rj2_MW {L : Fm} {D : Mx} {n v : Nat} (h : MW (L 6) D) (hD : ∀ a b, D a b ≤ 99999) (hn : n ≤ 10) (hv : v < 10) : ∀ k, k ≤ 10 → MW (rj2 L n v k 6) (ip2 D n v k)
  | 0, _ => h
  | k + 1, hk => by
    have ih := rj2_MW h hD hn hv k (by omega)
    exact rj3_MW (v := v) (f := k) ih (fun a b => Nat.le_trans (ip2_le k a b) (hD a b)) hv (by omega) n hn
theorem rj1_MW {L : Fm} {D : Mx} {n : Nat} (h : MW (L 6) D) (hD : ∀ a b, D a b ≤ 99999) (hn : n ≤ 10) : ∀ k, k ≤ 10 → MW (rj1 L n k 6) (ip1 D n k)
  | 0, _ => h
  | k + 1, hk => by
    have ih := rj1_MW h hD hn k (by omega)
    exact rj2_MW (n := n) (v := k) ih (fun a b => Nat.le_trans (ip1_le k a b) (hD a b)) hn (by omega) n hn
theorem rfT_at {L : Fm} {D : Mx} {r f c w e : Nat} (h : MW (L 6) D) (hD : ∀ a b, D a b ≤ 99999) (hf : f < 10) (hc : c < 10) (hw : w ≤ 40) (eo : roM L (nI r) (nI (1 - e)) = nI c) (eh : hrsM L (nI r) (nI f) = nI w) : ∀ k, k ≤ 10 → ∀ a b, a < 10 → b < 10 → rfT L (nI r) (nI f) e k 7 (a * 10 + b) = if a = f ∧ b < k ∧ f ≠ b ∧ w + D c b < 99999 ∧ w + D c b = D f b then nI r else L 7 (a * 10 + b)
  | 0, _, a, b, _, _ => by rw [if_neg (by omega)]; rfl
  | k + 1, hk, a, b, ha, hb => by
    have ih := rfT_at h hD hf hc hw eo eh k (by omega) a b ha hb
    have d1 := hD c k
    have d2 := hD f k
    obtain ⟨X, hX⟩ : ∃ X, X = rfT L (nI r) (nI f) e k := ⟨_, rfl⟩
    have x0 : X 0 = L 0 := by rw [hX]; exact rfT_q L _ _ _ (by decide) k
    have x2 : X 2 = L 2 := by rw [hX]; exact rfT_q L _ _ _ (by decide) k
    have x6 : X 6 = L 6 := by rw [hX]; exact rfT_q L _ _ _ (by decide) k
    have ei : itM X (nI r) (nI f) e k = nI (w + D c k) := by
      have e1 : hrsM X (nI r) (nI f) = nI w := by
        rw [← eh]
        unfold hrsM othM roM
        rw [x0, x2]
      have e2 : roM X (nI r) (nI (1 - e)) = nI c := by
        rw [← eo]
        unfold roM
        rw [x2]
      unfold itM
      rw [e1, e2, x6, rg10 hc (by omega), h c k hc (by omega), nI_add]
    have ef : rg 100 (X 6) (10 * nI f + nI k) = nI (D f k) := by rw [x6, rg10 hf (by omega), h f k hf (by omega)]
    rw [rfT, ← hX, ei, ef]
    rw [← hX] at ih
    have keep : ¬ (f ≠ k ∧ w + D c k < 99999 ∧ w + D c k = D f k) → X 7 (a * 10 + b) = if a = f ∧ b < k + 1 ∧ f ≠ b ∧ w + D c b < 99999 ∧ w + D c b = D f b then nI r else L 7 (a * 10 + b) := by
      intro hno
      rw [ih]
      by_cases c3 : a = f ∧ b < k ∧ f ≠ b ∧ w + D c b < 99999 ∧ w + D c b = D f b
      · rw [if_pos c3, if_pos ⟨c3.1, by omega, c3.2.2⟩]
      · rw [if_neg c3, if_neg (fun q => c3 ⟨q.1, by
          have : b ≠ k := fun e => hno (by rw [← e]; exact q.2.2)
          omega, q.2.2⟩)]
    by_cases c1 : nI f = nI k
    · rw [if_pos c1]
      exact keep (fun q => q.1 ((nI_eq (by omega) (by omega)).mp c1))
    · have c1' : f ≠ k := fun q => c1 (by rw [q])
      rw [if_neg c1]
      by_cases c2 : (99999 : Int32) ≤ nI (w + D c k)
      · rw [if_pos c2]
        have := (nI_leI (a := 99999) (by decide) (by omega)).mp c2
        exact keep (fun q => by omega)
      · rw [if_neg c2]
        have c2' : ¬ 99999 ≤ w + D c k := fun q => c2 ((nI_leI (a := 99999) (by decide) (by omega)).mpr q)
        by_cases c4 : nI (w + D c k) = nI (D f k)
        · have c4' := (nI_eq (by omega) (by omega)).mp c4
          rw [if_pos c4, sr_s, rs10 hf (by omega), upd_at (by omega) hb]
          by_cases c5 : a = f ∧ b = k
          · rw [if_pos c5, if_pos ⟨c5.1, by omega, by rw [c5.2]; exact ⟨c1', by omega, c4'⟩⟩]
          · rw [if_neg c5, ih]
            by_cases c3 : a = f ∧ b < k ∧ f ≠ b ∧ w + D c b < 99999 ∧ w + D c b = D f b
            · rw [if_pos c3, if_pos ⟨c3.1, by omega, c3.2.2⟩]
            · rw [if_neg c3, if_neg (fun q => c3 ⟨q.1, by
                have : b ≠ k := fun e => c5 ⟨q.1, e⟩
                omega, q.2.2⟩)]
        · rw [if_neg c4]
          exact keep (fun q => c4 (by rw [q.2.2]))
theorem rfE_at {G : Rd} {L : Fm} {D : Mx} {ns nr nm j : Nat} (hn : ns ≤ 10) (hH : okH G L ns nr nm) (hj : j < nr) (hc : G.1 j = true) (h : MW (L 6) D) (hD : ∀ a b, D a b ≤ 99999) (hfar : ∀ x b, ns ≤ b → x ≠ b → D x b = 99999) {a b : Nat} (ha : a < 10) (hb : b < 10) : rfE L (nI j) ns 2 7 (a * 10 + b) = if isR G D a b j = true then nI j else L 7 (a * 10 + b) := by
  obtain ⟨r0, r1, h0, h1, -, a1, b1, ab, w1, w2⟩ := hH j hj
  obtain ⟨X, hX⟩ : ∃ X, X = rfE L (nI j) ns 1 := ⟨_, rfl⟩
  have eX : X = rfT L (nI j) (roM L (nI j) 0) 0 ns := hX
  rw [r0] at eX
  have e2 : rfE L (nI j) ns 2 = rfT X (nI j) (roM X (nI j) 1) 1 ns := by rw [hX]; rfl
  have hHX := okH_of (G := G) (X := X) (ns := ns) (nr := nr) (nm := nm) (by rw [hX]; exact rfE_q L _ _ (by decide) 1) (by rw [hX]; exact rfE_q L _ _ (by decide) 1) (by rw [hX]; exact rfE_q L _ _ (by decide) 1) hH
  obtain ⟨s0, s1, t0, t1, -⟩ := hHX j hj
  have x6 : X 6 = L 6 := by rw [hX]; exact rfE_q L _ _ (by decide) 1
  rw [e2, s1, rfT_at (c := G.2.1 j) (w := G.2.2.2.2 j) (e := 1) (by rw [x6]; exact h) hD (by omega) (by omega) w2 s0 t1 ns hn a b ha hb, eX, rfT_at (c := G.2.2.1 j) (w := G.2.2.2.1 j) (e := 0) h hD (by omega) (by omega) w1 r1 h0 ns hn a b ha hb]
  by_cases p : isR G D a b j = true
  · rw [if_pos p]
    obtain ⟨-, hd⟩ := isR_iff.mp p
    have hbn : b < ns := by
      rcases Nat.lt_or_ge b ns with q | q
      · exact q
      · exfalso
        rcases hd with ⟨e1, e2, e3, e4⟩ | ⟨e1, e2, e3, e4⟩
        · have f1 := hfar (G.2.2.1 j) b q (by omega)
          omega
        · have f1 := hfar (G.2.1 j) b q (by omega)
          omega
    rcases hd with ⟨e1, e3⟩ | ⟨e1, e3⟩
    · rw [if_neg (fun q => ab (by rw [← e1, ← q.1])), if_pos ⟨e1, hbn, by rw [← e1]; exact e3⟩]
    · rw [if_pos ⟨e1, hbn, by rw [← e1]; exact e3⟩]
  · rw [if_neg p, if_neg, if_neg]
    · exact fun q => p (isR_iff.mpr ⟨hc, Or.inl ⟨q.1, by rw [q.1]; exact q.2.2⟩⟩)
    · exact fun q => p (isR_iff.mpr ⟨hc, Or.inr ⟨q.1, by rw [q.1]; exact q.2.2⟩⟩)
theorem rfR_at {G : Rd} {D : Mx} {ns nr nm : Nat} (hn : ns ≤ 10) (hD : ∀ a b, D a b ≤ 99999) (hfar : ∀ x b, ns ≤ b → x ≠ b → D x b = 99999) {a b : Nat} (ha : a < 10) (hb : b < 10) : ∀ j, j ≤ nr → ∀ L : Fm, okH G L ns nr nm → MW (L 6) D → rfR ns nm j L 7 (a * 10 + b) = lw (isR G D a b) j (L 7 (a * 10 + b))
  | 0, _, _, _, _ => rfl
  | j + 1, hj, L, hH, h => by
    have hcc := (hH j (by omega)).2.2.2.2.1
    rw [rfR, lw]
    by_cases c : onM L nm (nI j) 0 = 0
    · rw [if_pos c, rfR_at hn hD hfar ha hb j (by omega) L hH h, if_neg]
      intro q
      have := (isR_iff.mp q).1
      rw [hcc.mp c] at this
      exact Bool.noConfusion this
    · have c2 : G.1 j = true := by
        cases q : G.1 j with
        | true => rfl
        | false => exact absurd (hcc.mpr q) c
      rw [if_neg c, rfR_at hn hD hfar ha hb j (by omega) _ (okH_of (rfE_q L _ _ (by decide) 2) (rfE_q L _ _ (by decide) 2) (rfE_q L _ _ (by decide) 2) hH) (by rw [rfE_q L _ _ (by decide) 2]; exact h), rfE_at hn hH (by omega) c2 h hD hfar ha hb]
theorem rkM_at {G : Rd} {L : Fm} {ns nr nm : Nat} (hn : ns ≤ 10) (hH : okH G L ns nr nm) (hG : okG1 G nr ns) : MW (rkM L ns nr nm 6) (Dw 99999 G nr) ∧ ∀ a b, a < 10 → b < 10 → rkM L ns nr nm 7 (a * 10 + b) = Fst G nr a b := by
  have z6 : MW (rk0 L 100 6) (iD 99999) := by
    intro a b ha hb
    rw [rk0_6 L 100 (Nat.le_refl _), if_pos (by omega), show (a * 10 + b) / 10 = a by omega, show (a * 10 + b) % 10 = b by omega]
    show _ = nI (if a = b then 0 else 99999)
    split <;> rfl
  have h1 := rk1_MW hn (okH_of (rk0_q L (by decide) (by decide) 100) (rk0_q L (by decide) (by decide) 100) (rk0_q L (by decide) (by decide) 100) hH) z6 (iD_le 99999) nr (Nat.le_refl _)
  have h2 := rj1_MW (n := ns) h1 (fun a b => Nat.le_trans (rdD_le nr a b) (iD_le 99999 a b)) hn ns hn
  rw [ip1_cl (rdD_diag (iD_diag 99999) nr), Dw_at hG hn] at h2
  refine ⟨by unfold rkM; rw [rfR_q ns nm (by decide)]; exact h2, fun a b ha hb => ?_⟩
  have hfar : ∀ x b, ns ≤ b → x ≠ b → Dw 99999 G nr x b = 99999 := fun x b hb2 hxb => by
    rw [← Dw_at hG hn]
    exact (cl_grow (Nat.le_refl ns) (rdD_diag (iD_diag 99999) nr) (fun a b => Nat.le_trans (rdD_le nr a b) (iD_le 99999 a b)) (fun a b hab h2 => rdD_far hG hab h2)).2 ns x b hxb (Or.inr hb2)
  have hX : okH G (rj1 (rk1 (rk0 L 100) nm nr) ns ns) ns nr nm := okH_of (by rw [rj1_q _ _ (by decide), rk1_q _ _ (by decide), rk0_q _ (by decide) (by decide)]) (by rw [rj1_q _ _ (by decide), rk1_q _ _ (by decide), rk0_q _ (by decide) (by decide)]) (by rw [rj1_q _ _ (by decide), rk1_q _ _ (by decide), rk0_q _ (by decide) (by decide)]) hH
  unfold rkM
  rw [rfR_at hn (Dw_le 99999 G nr) hfar ha hb nr (Nat.le_refl _) _ hX h2, rj1_q _ _ (by decide), rk1_q _ _ (by decide), rk0_7 L 100 (Nat.le_refl _), if_pos (by omega)]
  unfold Fst
  exact lw_congr nr (fun r hr => isR_isF hG hr) (-1)
