/-! advising -/
theorem clm {a n m : Nat} (h : a * n ≤ m) (hm : m < 2 ^ 31) : (nI a * nI n).toNatClampNeg = a * n := by
  rw [pk_mul]
  exact nI_clamp (by omega)
theorem mu_at {L : Fm} {k w : Nat} (h : 5 * k + w < 60) : muM L (nI k) (nI w) = L 3 (5 * k + w) := by
  unfold muM
  rw [show (5 : Int32) * nI k + nI w = nI (5 * k + w) from by rw [show (5 : Int32) * nI k = nI (5 * k) from pk_mul 5 k, nI_add]]
  exact rg_k h (by decide)
theorem pm3 {L : Fm} {nm i : Nat} {a b c : Int32} (hn : nm < 12) : pmT L nm a b c 3 i = if 5 * nm ≤ i ∧ i < 5 * nm + 5 then ar5 a b c (0 + (i - 5 * nm)) else L 3 i := by
  have e : ((5 : Int32) * nI nm).toNatClampNeg = 5 * nm := clm (a := 5) (m := 60) (by omega) (by decide)
  show va_cpy (ar5 a b c) (L 3) (0 : Int32).toNatClampNeg ((5 : Int32) * nI nm).toNatClampNeg (5 : Int32).toNatClampNeg i = _
  rw [e]
  rfl
theorem pmT_old {L : Fm} {nm k w : Nat} {a b c : Int32} (hn : nm < 12) (hk : k < nm) (hw : w < 5) : muM (pmT L nm a b c) (nI k) (nI w) = muM L (nI k) (nI w) := by
  rw [mu_at (by omega), mu_at (by omega), pm3 hn, if_neg (by omega)]
theorem pmT_new {L : Fm} {nm w : Nat} {a b c : Int32} (hn : nm < 12) (hw : w < 5) : muM (pmT L nm a b c) (nI nm) (nI w) = ar5 a b c w := by
  rw [mu_at (by omega), pm3 hn, if_pos (by omega), show 0 + (5 * nm + w - 5 * nm) = w by omega]
theorem okS_pm {L : Fm} {ns nr nm nl : Nat} {a b c : Int32} (hn : nm < 12) (ha : vd nr a) (hb : ¬ b < 0) (hc : vd ns c) (h : okS L ns nr nm nl) : okS (pmT L nm a b c) ns nr (nm + 1) nl := by
  refine ⟨h.1, fun x hx => ?_, fun x hx => ⟨(h.2.2 x hx).1, (h.2.2 x hx).2.1, (h.2.2 x hx).2.2.imp id (fun z => vd_up z (by omega))⟩⟩
  obtain ⟨k, hk, rfl⟩ := hx
  by_cases e : k = nm
  · subst e
    have e0 : muM (pmT L k a b c) (nI k) 0 = a := pmT_new (w := 0) hn (by decide)
    have e1 : muM (pmT L k a b c) (nI k) 1 = b := pmT_new (w := 1) hn (by decide)
    have e2 : muM (pmT L k a b c) (nI k) 2 = c := pmT_new (w := 2) hn (by decide)
    rw [e0, e1, e2]
    exact ⟨ha, hc, hb⟩
  · have hk2 : k < nm := by omega
    have e0 : muM (pmT L nm a b c) (nI k) 0 = muM L (nI k) 0 := pmT_old (w := 0) hn hk2 (by decide)
    have e1 : muM (pmT L nm a b c) (nI k) 1 = muM L (nI k) 1 := pmT_old (w := 1) hn hk2 (by decide)
    have e2 : muM (pmT L nm a b c) (nI k) 2 = muM L (nI k) 2 := pmT_old (w := 2) hn hk2 (by decide)
    rw [e0, e1, e2]
    exact h.2.1 _ ⟨k, hk2, rfl⟩
theorem okS_rs {L M : Fm} {ns nr nm nl : Nat} (h : okS L ns nr nm nl) (h2 : okS M ns nr nm nl) : okS (rsM L M) ns nr nm nl := ⟨h2.1, h.2.1, h.2.2⟩
theorem okS_dn {L P M : Fm} {ns nr nm nl : Nat} (e4 : P 4 = L 4) (h : okS L ns nr nm nl) (h1 : okS P ns nr (nm + 1) nl) (h2 : okS M ns nr (nm + 1) nl) : okS (rsM P M) ns nr nm nl :=
  ⟨h2.1, fun x hx => h1.2.1 x (vd_up hx (by omega)), fun x hx => by
    have := h.2.2 x hx
    unfold leM at this ⊢
    rw [show rsM P M 4 = L 4 from e4]
    exact this⟩
def adP (L : Fm) (nm k : Nat) : Fm := pmT L nm (nI k) 6 (roM L (nI k) 0)
def adS (L : Fm) (ns : Nat) (fog : Int32) (nr nm nl : Nat) (h : Int32) : Nat → Int32 × Int32 × Fm
  | 0 => (-1, (cbM L ns fog nr nm nl h).1, (cbM L ns fog nr nm nl h).2)
  | k + 1 => (if (adS L ns fog nr nm nl h k).2.1 < (cbM (adP (adS L ns fog nr nm nl h k).2.2 nm k) ns fog nr (nm + 1) nl h).1 then nI k else (adS L ns fog nr nm nl h k).1, if (adS L ns fog nr nm nl h k).2.1 < (cbM (adP (adS L ns fog nr nm nl h k).2.2 nm k) ns fog nr (nm + 1) nl h).1 then (cbM (adP (adS L ns fog nr nm nl h k).2.2 nm k) ns fog nr (nm + 1) nl h).1 else (adS L ns fog nr nm nl h k).2.1, (cbM (adP (adS L ns fog nr nm nl h k).2.2 nm k) ns fog nr (nm + 1) nl h).2)
theorem okS_adP {L : Fm} {ns nr nm nl k : Nat} (hn : nm < 12) (hk : k < nr) (h : okS L ns nr nm nl) : okS (adP L nm k) ns nr (nm + 1) nl := okS_pm hn ⟨k, hk, rfl⟩ (by decide) (h.1 _ ⟨k, hk, rfl⟩).1 h
theorem okS_ad {L : Fm} {ns nr nm nl : Nat} {fog h : Int32} (hn : nm < 12) (h60 : nl ≤ 60) (h0 : okS L ns nr nm nl) : ∀ k, k ≤ nr → okS (adS L ns fog nr nm nl h k).2.2 ns nr nm nl
  | 0, _ => okS_rs h0 (okS_pa (by omega) h60 h0 _)
  | k + 1, hk => okS_dn (L := (adS L ns fog nr nm nl h k).2.2) (P := adP (adS L ns fog nr nm nl h k).2.2 nm k) rfl (okS_ad hn h60 h0 k (by omega)) (okS_adP hn (by omega) (okS_ad hn h60 h0 k (by omega))) (okS_pa (by omega) h60 (okS_adP hn (by omega) (okS_ad hn h60 h0 k (by omega))) _)
def pad (L : Fm) (ns : Nat) (fog : Int32) (nr nm nl : Nat) (h : Int32) : Int32 × Int32 × Fm := if inB h 1 50 = true then (if nI nm = 12 then (0, 2, L) else ((adS L ns fog nr nm nl h nr).1, 0, (adS L ns fog nr nm nl h nr).2.2)) else (0, 1, L)
theorem not12 {nm : Nat} (b12 : nm ≤ 12) (c : ¬ nI nm = 12) : nm < 12 := by
  have : nm ≠ 12 := fun q => c (by rw [q]; rfl)
  omega
theorem in_pos {h : Int32} (c : inB h 1 50 = true) : ¬ h < 0 := fun q => (inB_iff.mp c).1 (Int32.lt_trans q (by decide))
