/-! the class's ways are the ways out of the roads that count -/
def MW (f : Nat → Int32) (D : Mx) : Prop := ∀ a b, a < 10 → b < 10 → f (a * 10 + b) = nI (D a b)
theorem ho_at {W : Fm} {a b : Nat} (ha : a < 10) (hb : b < 10) : hoC W (nI a) (nI b) = W 0 (a * 10 + b) := by
  unfold hoC
  rw [show nI a * 10 + nI b = nI (a * 10 + b) from by rw [show (10 : Int32) = nI 10 from rfl, pk_mul, nI_add]]
  exact rg_k (by omega) (by decide)
theorem fi_at {W : Fm} {a b : Nat} (ha : a < 10) (hb : b < 10) : fiC W (nI a) (nI b) = W 1 (a * 10 + b) := by
  unfold fiC
  rw [show nI a * 10 + nI b = nI (a * 10 + b) from by rw [show (10 : Int32) = nI 10 from rfl, pk_mul, nI_add]]
  exact rg_k (by omega) (by decide)
theorem set_at {f : Nat → Int32} {a b : Nat} {v : Int32} (ha : a < 10) (hb : b < 10) : rs 100 f (nI a * 10 + nI b) v = upd f (a * 10 + b) v := by
  rw [show nI a * 10 + nI b = nI (a * 10 + b) from by rw [show (10 : Int32) = nI 10 from rfl, pk_mul, nI_add]]
  exact rs_k (by omega) (by decide)
theorem upd_at {f : Nat → Int32} {a b c d : Nat} {v : Int32} (hb : b < 10) (hd : d < 10) : upd f (a * 10 + b) v (c * 10 + d) = if c = a ∧ d = b then v else f (c * 10 + d) := by
  by_cases h : c = a ∧ d = b
  · rw [if_pos h, h.1, h.2]; exact pk_us
  · rw [if_neg h]; exact pk_un (by omega)
theorem sho_1 {W : Fm} {f t s : Int32} : shoC W f t s 1 = W 1 := by
  unfold shoC
  split
  · rfl
  · exact sr_n (by decide)
theorem sho_MW {W : Fm} {D : Mx} {f t s : Nat} (h : MW (W 0) D) (hD : ∀ a b, D a b ≤ 1000000) (hf : f < 10) (ht : t < 10) (hs : s < 2 ^ 31) : MW (shoC W (nI f) (nI t) (nI s) 0) (upm D f t s) := by
  have hft := hD f t
  intro a b ha hb
  unfold shoC
  rw [ho_at hf ht, h f t hf ht]
  show _ = nI (if a = f ∧ b = t then min (D a b) s else D a b)
  by_cases c : nI (D f t) ≤ nI s
  · rw [if_pos c, h a b ha hb]
    have c2 := (nI_leI (by omega) hs).mp c
    split
    · rename_i e
      rw [e.1, e.2, Nat.min_eq_left c2]
    · rfl
  · rw [if_neg c, sr_s, set_at hf ht, upd_at ht hb]
    have c2 : ¬ D f t ≤ s := fun q => c ((nI_leI (by omega) hs).mpr q)
    split
    · rename_i e
      rw [e.1, e.2, Nat.min_eq_right (by omega)]
    · exact h a b ha hb
theorem ip3_le {D : Mx} {v f : Nat} : ∀ k a b, ip3 D v f k a b ≤ D a b
  | 0, _, _ => Nat.le_refl _
  | k + 1, a, b => Nat.le_trans (upm_le _ _ _ _ _ _) (ip3_le k a b)
theorem ip2_le {D : Mx} {n v : Nat} : ∀ k a b, ip2 D n v k a b ≤ D a b
  | 0, _, _ => Nat.le_refl _
  | k + 1, a, b => Nat.le_trans (ip3_le n a b) (ip2_le k a b)
theorem ip1_le {D : Mx} {n : Nat} : ∀ k a b, ip1 D n k a b ≤ D a b
  | 0, _, _ => Nat.le_refl _
  | k + 1, a, b => Nat.le_trans (ip2_le n a b) (ip1_le k a b)
theorem jw3_MW {W : Fm} {D : Mx} {v f : Nat} (h : MW (W 0) D) (hD : ∀ a b, D a b ≤ 1000000) (hv : v < 10) (hf : f < 10) : ∀ k, k ≤ 10 → MW (jw3 W v f k 0) (ip3 D v f k) ∧ jw3 W v f k 1 = W 1
  | 0, _ => ⟨h, rfl⟩
  | k + 1, hk => by
    obtain ⟨h1, h2⟩ := jw3_MW h hD hv hf k (by omega)
    have b : ∀ a b, ip3 D v f k a b ≤ 1000000 := fun a b => Nat.le_trans (ip3_le k a b) (hD a b)
    have b1 := b f v
    have b2 := b v k
    rw [jw3, ho_at hf hv, ho_at hv (by omega), h1 f v hf hv, h1 v k hv (by omega), nI_add]
    exact ⟨sho_MW h1 b hf (by omega) (by omega), sho_1.trans h2⟩
theorem jw2_MW {W : Fm} {D : Mx} {n v : Nat} (h : MW (W 0) D) (hD : ∀ a b, D a b ≤ 1000000) (hn : n ≤ 10) (hv : v < 10) : ∀ k, k ≤ 10 → MW (jw2 W n v k 0) (ip2 D n v k) ∧ jw2 W n v k 1 = W 1
  | 0, _ => ⟨h, rfl⟩
  | k + 1, hk => by
    obtain ⟨h1, h2⟩ := jw2_MW h hD hn hv k (by omega)
    obtain ⟨h3, h4⟩ := jw3_MW (v := v) (f := k) h1 (fun a b => Nat.le_trans (ip2_le k a b) (hD a b)) hv (by omega) n hn
    exact ⟨h3, h4.trans h2⟩
theorem jw1_MW {W : Fm} {D : Mx} {n : Nat} (h : MW (W 0) D) (hD : ∀ a b, D a b ≤ 1000000) (hn : n ≤ 10) : ∀ k, k ≤ 10 → MW (jw1 W n k 0) (ip1 D n k) ∧ jw1 W n k 1 = W 1
  | 0, _ => ⟨h, rfl⟩
  | k + 1, hk => by
    obtain ⟨h1, h2⟩ := jw1_MW h hD hn k (by omega)
    obtain ⟨h3, h4⟩ := jw2_MW (n := n) (v := k) h1 (fun a b => Nat.le_trans (ip1_le k a b) (hD a b)) hn (by omega) n hn
    exact ⟨h3, h4.trans h2⟩
/-- stations and roads as they are -/
def okL (L : Fm) (ns nr : Nat) : Prop := ns ≤ 10 ∧ nr ≤ 15 ∧ (∀ k, k < ns → ∃ h, h ≤ 4000 ∧ L 0 k = nI h) ∧ ∀ k, k < nr → ∃ a b w, a < ns ∧ b < ns ∧ a ≠ b ∧ 1 ≤ w ∧ w ≤ 20 ∧ L 2 k = nI a ∧ L 3 k = nI b ∧ L 4 k = nI w
theorem climb {x y : Nat} (hx : x ≤ 4000) (hy : y ≤ 4000) : (if 0 < nI x - nI y then nI x - nI y else 0) / 200 = nI ((x - y) / 200) := by
  have e : (if 0 < nI x - nI y then nI x - nI y else 0) = nI (x - y) := by
    rcases Nat.lt_or_ge x y with h | h
    · rw [if_neg (fun q => Int32.lt_irrefl (Int32.lt_trans q (pk_sneg (by omega) h))), show x - y = 0 by omega]
      rfl
    · rw [pk_sub h]
      by_cases h0 : x - y = 0
      · rw [h0]; decide
      · rw [if_pos (show (0 : Int32) < nI (x - y) from nI_lt (a := 0) (by omega) (by omega))]
  rw [e]
  exact pk_div (by omega) (by decide) (by decide)
theorem hrs_at {L : Fm} {ns nr k a b w : Nat} (h : okL L ns nr) (hk : k < nr) (ha : a < ns) (hb : b < ns) (hw1 : 1 ≤ w) (hw : w ≤ 20) (e4 : L 4 k = nI w) : ∃ x, 1 ≤ x ∧ x ≤ 40 ∧ hrsC L (nI k) (nI a) (nI b) = nI x := by
  obtain ⟨h10, h15, hh, -⟩ := h
  obtain ⟨p, hp, ep⟩ := hh a ha
  obtain ⟨q, hq, eq⟩ := hh b hb
  refine ⟨w + (q - p) / 200, by omega, by omega, ?_⟩
  unfold hrsC
  rw [rg_k (by omega) (by decide), rg_k (by omega) (by decide), rg_k (by omega) (by decide), e4, ep, eq, climb hq hp, nI_add]
/-- the roads that count, with their ends and hours -/
def gC (L M : Fm) (nm : Nat) : Rd := (fun k => !(decide (ofRC M nm (nI k) ≤ 0)), fun k => (rg 15 (L 2) (nI k)).toNatClampNeg, fun k => (rg 15 (L 3) (nI k)).toNatClampNeg, fun k => (hrsC L (nI k) (rg 15 (L 2) (nI k)) (rg 15 (L 3) (nI k))).toNatClampNeg, fun k => (hrsC L (nI k) (rg 15 (L 3) (nI k)) (rg 15 (L 2) (nI k))).toNatClampNeg)
theorem gC_at {L M : Fm} {ns nr nm k : Nat} (h : okL L ns nr) (hk : k < nr) : (gC L M nm).2.1 k < ns ∧ (gC L M nm).2.2.1 k < ns ∧ (gC L M nm).2.1 k ≠ (gC L M nm).2.2.1 k ∧ (1 ≤ (gC L M nm).2.2.2.1 k ∧ (gC L M nm).2.2.2.1 k ≤ 40) ∧ (1 ≤ (gC L M nm).2.2.2.2 k ∧ (gC L M nm).2.2.2.2 k ≤ 40) ∧ rg 15 (L 2) (nI k) = nI ((gC L M nm).2.1 k) ∧ rg 15 (L 3) (nI k) = nI ((gC L M nm).2.2.1 k) ∧
    hrsC L (nI k) (nI ((gC L M nm).2.1 k)) (nI ((gC L M nm).2.2.1 k)) = nI ((gC L M nm).2.2.2.1 k) ∧ hrsC L (nI k) (nI ((gC L M nm).2.2.1 k)) (nI ((gC L M nm).2.1 k)) = nI ((gC L M nm).2.2.2.2 k) := by
  obtain ⟨a, b, w, ha, hb, hab, hw1, hw2, e2, e3, e4⟩ := h.2.2.2 k hk
  have h10 := h.1
  have h15 := h.2.1
  obtain ⟨x, hx1, hx2, ex⟩ := hrs_at h hk ha hb hw1 hw2 e4
  obtain ⟨y, hy1, hy2, ey⟩ := hrs_at h hk hb ha hw1 hw2 e4
  have r2 : rg 15 (L 2) (nI k) = nI a := by rw [rg_k (by omega) (by decide)]; exact e2
  have r3 : rg 15 (L 3) (nI k) = nI b := by rw [rg_k (by omega) (by decide)]; exact e3
  have g1 : (gC L M nm).2.1 k = a := by show (rg 15 (L 2) (nI k)).toNatClampNeg = a; rw [r2, nI_clamp (by omega)]
  have g2 : (gC L M nm).2.2.1 k = b := by show (rg 15 (L 3) (nI k)).toNatClampNeg = b; rw [r3, nI_clamp (by omega)]
  have g3 : (gC L M nm).2.2.2.1 k = x := by show (hrsC L (nI k) (rg 15 (L 2) (nI k)) (rg 15 (L 3) (nI k))).toNatClampNeg = x; rw [r2, r3, ex, nI_clamp (by omega)]
  have g4 : (gC L M nm).2.2.2.2 k = y := by show (hrsC L (nI k) (rg 15 (L 3) (nI k)) (rg 15 (L 2) (nI k))).toNatClampNeg = y; rw [r2, r3, ey, nI_clamp (by omega)]
  rw [g1, g2, g3, g4]
  exact ⟨ha, hb, hab, ⟨hx1, hx2⟩, ⟨hy1, hy2⟩, r2, r3, ex, ey⟩
theorem gC_ok {L M : Fm} {ns nr nm : Nat} (h : okL L ns nr) : okG1 (gC L M nm) nr ns := fun k hk _ => by
  obtain ⟨h1, h2, h3, h4, h5, -⟩ := gC_at (M := M) (nm := nm) h hk
  exact ⟨h1, h2, h3, h4, h5⟩
theorem gC_1 {L M : Fm} {nm k : Nat} : (gC L M nm).1 k = true ↔ ¬ ofRC M nm (nI k) ≤ 0 := by
  show (!(decide (ofRC M nm (nI k) ≤ 0))) = true ↔ _
  simp
theorem fnd1_MW {W L M : Fm} {D : Mx} {ns nr nm : Nat} (h : MW (W 0) D) (hD : ∀ a b, D a b ≤ 1000000) (hL : okL L ns nr) : ∀ k, k ≤ nr → MW (fnd1 W L M nm k 0) (rdD (gC L M nm) D k) ∧ fnd1 W L M nm k 1 = W 1
  | 0, _ => ⟨h, rfl⟩
  | k + 1, hk => by
    obtain ⟨h1, h2⟩ := fnd1_MW h hD hL k (by omega)
    obtain ⟨g1, g2, g3, ⟨g4, g5⟩, ⟨g6, g7⟩, r2, r3, r4, r5⟩ := gC_at (M := M) (nm := nm) hL (show k < nr by omega)
    have h10 := hL.1
    have bd : ∀ a b, rdD (gC L M nm) D k a b ≤ 1000000 := fun a b => Nat.le_trans (rdD_le k a b) (hD a b)
    have e : rdD (gC L M nm) D (k + 1) = (if (gC L M nm).1 k = true then upm (upm (rdD (gC L M nm) D k) ((gC L M nm).2.1 k) ((gC L M nm).2.2.1 k) ((gC L M nm).2.2.2.1 k)) ((gC L M nm).2.2.1 k) ((gC L M nm).2.1 k) ((gC L M nm).2.2.2.2 k) else rdD (gC L M nm) D k) := rfl
    rw [fnd1, e]
    by_cases c : ofRC M nm (nI k) ≤ 0
    · rw [if_pos c, if_neg (fun q => gC_1.mp q c)]
      exact ⟨h1, h2⟩
    · rw [if_neg c, if_pos (gC_1.mpr c), r2, r3, r4, r5]
      exact ⟨sho_MW (sho_MW h1 bd (by omega) (by omega) (by omega)) (fun a b => Nat.le_trans (upm_le _ _ _ _ _ _) (bd a b)) (by omega) (by omega) (by omega), sho_1.trans (sho_1.trans h2)⟩
/-! first roads -/
theorem oth_a {L M : Fm} {ns nr nm k : Nat} (h : okL L ns nr) (hk : k < nr) : othC L (nI k) (nI ((gC L M nm).2.1 k)) = nI ((gC L M nm).2.2.1 k) := by
  obtain ⟨-, -, -, -, -, r2, r3, -⟩ := gC_at (M := M) (nm := nm) h hk
  unfold othC
  rw [if_pos r2.symm, r3]
theorem oth_b {L M : Fm} {ns nr nm k : Nat} (h : okL L ns nr) (hk : k < nr) : othC L (nI k) (nI ((gC L M nm).2.2.1 k)) = nI ((gC L M nm).2.1 k) := by
  obtain ⟨g1, g2, g3, -, -, r2, r3, -⟩ := gC_at (M := M) (nm := nm) h hk
  have h10 := h.1
  unfold othC
  rw [if_neg, r2]
  rw [r2, nI_eq (by omega) (by omega)]
  exact fun q => g3 q.symm
theorem bg_0 {W L : Fm} {r f : Int32} : ∀ k, bgF W L r f k 0 = W 0
  | 0 => rfl
  | k + 1 => by
    rw [bgF]
    split
    · rw [sr_n (by decide)]; exact bg_0 k
    · exact bg_0 k
theorem bg_at {W L : Fm} {D : Mx} {r f c w : Nat} (h : MW (W 0) D) (hD : ∀ a b, D a b ≤ 1000000) (hf : f < 10) (hc : c < 10) (hw : w ≤ 40) (eo : othC L (nI r) (nI f) = nI c) (eh : hrsC L (nI r) (nI f) (nI c) = nI w) : ∀ k, k ≤ 10 → ∀ a b, a < 10 → b < 10 → bgF W L (nI r) (nI f) k 1 (a * 10 + b) = if a = f ∧ b < k ∧ w + D c b = D f b then nI r else W 1 (a * 10 + b)
  | 0, _, a, b, _, _ => by rw [if_neg (by omega)]; rfl
  | k + 1, hk, a, b, ha, hb => by
    have ih := bg_at h hD hf hc hw eo eh k (by omega) a b ha hb
    have d1 := hD c k
    have d2 := hD f k
    have hx : (hrsC L (nI r) (nI f) (othC L (nI r) (nI f)) + hoC (bgF W L (nI r) (nI f) k) (othC L (nI r) (nI f)) (nI k) = hoC (bgF W L (nI r) (nI f) k) (nI f) (nI k)) ↔ w + D c k = D f k := by
      rw [eo, eh, ho_at hc (by omega), ho_at hf (by omega), bg_0, h c k hc (by omega), h f k hf (by omega), nI_add]
      exact nI_eq (by omega) (by omega)
    rw [bgF]
    by_cases c1 : w + D c k = D f k
    · rw [if_pos (hx.mpr c1), sr_s, set_at hf (by omega), upd_at (by omega) hb]
      by_cases c2 : a = f ∧ b = k
      · rw [if_pos c2, if_pos ⟨c2.1, by omega, by rw [c2.2]; exact c1⟩]
      · rw [if_neg c2, ih]
        by_cases c3 : a = f ∧ b < k ∧ w + D c b = D f b
        · rw [if_pos c3, if_pos ⟨c3.1, by omega, c3.2.2⟩]
        · rw [if_neg c3, if_neg (fun q => c3 ⟨q.1, by omega, q.2.2⟩)]
    · rw [if_neg (fun q => c1 (hx.mp q)), ih]
      by_cases c3 : a = f ∧ b < k ∧ w + D c b = D f b
      · rw [if_pos c3, if_pos ⟨c3.1, by omega, c3.2.2⟩]
      · rw [if_neg c3, if_neg (fun q => c3 ⟨q.1, by
          have : b ≠ k := fun e => c1 (by rw [← e]; exact q.2.2)
          omega, q.2.2⟩)]
theorem fnd2_at {L M : Fm} {ns nr nm : Nat} (hL : okL L ns nr) : ∀ j, j ≤ nr → ∀ W : Fm, MW (W 0) (Dw 1000000 (gC L M nm) nr) → fnd2 L M ns nm j W 0 = W 0 ∧ ∀ a b, a < 10 → b < 10 → fnd2 L M ns nm j W 1 (a * 10 + b) = lw (isF (gC L M nm) (Dw 1000000 (gC L M nm) nr) a b) j (W 1 (a * 10 + b))
  | 0, _, _, _ => ⟨rfl, fun _ _ _ _ => rfl⟩
  | j + 1, hj, W, h => by
    obtain ⟨g1, g2, g3, ⟨g4, g5⟩, ⟨g6, g7⟩, r2, r3, r4, r5⟩ := gC_at (M := M) (nm := nm) hL (show j < nr by omega)
    have h10 := hL.1
    have hD := Dw_le 1000000 (gC L M nm) nr
    rw [fnd2]
    by_cases c : ofRC M nm (nI j) ≤ 0
    · rw [if_pos c]
      obtain ⟨i1, i2⟩ := fnd2_at hL j (by omega) W h
      refine ⟨i1, fun a b ha hb => ?_⟩
      rw [i2 a b ha hb, lw, if_neg]
      intro q
      exact gC_1.mp (isF_iff.mp q).1 c
    · rw [if_neg c, r2, r3]
      have e0 : ∀ X : Fm, MW (X 0) (Dw 1000000 (gC L M nm) nr) → ∀ f, MW (bgF X L (nI j) f ns 0) (Dw 1000000 (gC L M nm) nr) := fun X hX f => by rw [bg_0]; exact hX
      obtain ⟨i1, i2⟩ := fnd2_at hL j (by omega) _ (e0 _ (e0 W h (nI ((gC L M nm).2.1 j))) (nI ((gC L M nm).2.2.1 j)))
      refine ⟨by rw [i1, bg_0, bg_0], fun a b ha hb => ?_⟩
      rw [i2 a b ha hb, lw]
      congr 1
      rw [bg_at (e0 W h _) hD (by omega) (by omega) g7 (oth_b hL (by omega)) r5 ns h10 a b ha hb, bg_at h hD (by omega) (by omega) g5 (oth_a hL (by omega)) r4 ns h10 a b ha hb]
      have far : ∀ x, ns ≤ b → x ≠ b → Dw 1000000 (gC L M nm) nr x b = 1000000 := fun x hb2 hxb => by
        rw [← Dw_at (gC_ok hL) h10]
        exact (cl_grow (Nat.le_refl ns) (rdD_diag (iD_diag 1000000) nr) (fun a b => Nat.le_trans (rdD_le nr a b) (iD_le 1000000 a b)) (fun a b hab h2 => rdD_far (gC_ok hL) hab h2)).2 ns x b hxb (Or.inr hb2)
      by_cases p : isF (gC L M nm) (Dw 1000000 (gC L M nm) nr) a b j = true
      · rw [if_pos p]
        obtain ⟨hc, hd⟩ := isF_iff.mp p
        have hbn : b < ns := by
          rcases Nat.lt_or_ge b ns with q | q
          · exact q
          · exfalso
            rcases hd with ⟨e1, e2⟩ | ⟨e1, e2⟩
            · have f1 := far _ q (show (gC L M nm).2.2.1 j ≠ b by omega)
              have f2 := hD a b
              omega
            · have f1 := far _ q (show (gC L M nm).2.1 j ≠ b by omega)
              have f2 := hD a b
              omega
        rcases hd with ⟨e1, e2⟩ | ⟨e1, e2⟩
        · rw [if_neg (fun q => g3 (by rw [← e1, ← q.1])), if_pos ⟨e1, hbn, by rw [← e1]; exact e2⟩]
        · rw [if_pos ⟨e1, hbn, by rw [← e1]; exact e2⟩]
      · rw [if_neg p, if_neg, if_neg]
        · exact fun q => p (isF_iff.mpr ⟨gC_1.mpr c, Or.inl ⟨q.1, by rw [q.1]; exact q.2.2⟩⟩)
        · exact fun q => p (isF_iff.mpr ⟨gC_1.mpr c, Or.inr ⟨q.1, by rw [q.1]; exact q.2.2⟩⟩)
/-- the class's ways, as they are to be -/
def okY (W L M : Fm) (nr nm : Nat) : Prop := MW (W 0) (Dw 1000000 (gC L M nm) nr) ∧ ∀ a b, a < 10 → b < 10 → W 1 (a * 10 + b) = Fst (gC L M nm) nr a b
theorem okY_find {W L M N : Fm} {ns nr nm mm : Nat} (hL : okL L ns nr) (hY : okY W L M nr nm) (hmore : moreG (gC L M nm) (gC L N mm) nr nr) : okY (findC W L N ns nr mm) L N nr mm := by
  have h10 := hL.1
  have hle := Dw_le 1000000 (gC L M nm) nr
  obtain ⟨f1, f2⟩ := fnd1_MW (M := N) (nm := mm) hY.1 hle hL nr (Nat.le_refl _)
  obtain ⟨j1, j2⟩ := jw1_MW (n := ns) f1 (fun a b => Nat.le_trans (rdD_le nr a b) (hle a b)) h10 ns h10
  rw [ip1_cl (rdD_diag (Dw_diag 1000000 (gC L M nm) nr) nr), Dw_step hmore (gC_ok hL) h10] at j1
  obtain ⟨k1, k2⟩ := fnd2_at (M := N) (nm := mm) hL nr (Nat.le_refl _) _ j1
  refine ⟨by unfold findC; rw [k1]; exact j1, fun a b ha hb => ?_⟩
  unfold findC
  rw [k2 a b ha hb, j2, f2, hY.2 a b ha hb]
  exact Fst_step hmore (gC_ok hL) (gC_ok hL) h10 ha hb
theorem agD {G H : Rd} {F : Nat} : ∀ nr, (∀ j, j < nr → G.1 j = H.1 j ∧ G.2.1 j = H.2.1 j ∧ G.2.2.1 j = H.2.2.1 j ∧ G.2.2.2.1 j = H.2.2.2.1 j ∧ G.2.2.2.2 j = H.2.2.2.2 j) → rdD G (iD F) nr = rdD H (iD F) nr
  | 0, _ => rfl
  | k + 1, h => by
    obtain ⟨h1, h2, h3, h4, h5⟩ := h k (by omega)
    rw [rdD, rdD, h1, h2, h3, h4, h5, agD k (fun j hj => h j (by omega))]
theorem agW {G H : Rd} {F nr : Nat} (h : ∀ j, j < nr → G.1 j = H.1 j ∧ G.2.1 j = H.2.1 j ∧ G.2.2.1 j = H.2.2.1 j ∧ G.2.2.2.1 j = H.2.2.2.1 j ∧ G.2.2.2.2 j = H.2.2.2.2 j) : Dw F G nr = Dw F H nr := by unfold Dw; rw [agD nr h]
theorem agF {G H : Rd} {nr : Nat} (h : ∀ j, j < nr → G.1 j = H.1 j ∧ G.2.1 j = H.2.1 j ∧ G.2.2.1 j = H.2.2.1 j ∧ G.2.2.2.1 j = H.2.2.2.1 j ∧ G.2.2.2.2 j = H.2.2.2.2 j) (a b : Nat) : Fst G nr a b = Fst H nr a b := by
  unfold Fst
  rw [agW h]
  exact lw_congr nr (fun r hr => by
    obtain ⟨h1, h2, h3, h4, h5⟩ := h r hr
    unfold isF
    rw [h1, h2, h3, h4, h5]) (-1)
/-- a road more, on which is no mule -/
theorem noD {G : Rd} {nr F : Nat} (h : G.1 nr = false) : Dw F G (nr + 1) = Dw F G nr := by
  unfold Dw
  rw [rdD, if_neg (by rw [h]; exact Bool.false_ne_true)]
theorem noF {G : Rd} {nr a b : Nat} (h : G.1 nr = false) : Fst G (nr + 1) a b = Fst G nr a b := by
  unfold Fst
  rw [noD h, lw, if_neg]
  intro q
  have := (isF_iff.mp q).1
  rw [h] at this
  exact Bool.noConfusion this
