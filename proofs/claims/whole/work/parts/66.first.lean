/-! the first state: the class's and the reference's are one -/
theorem w5i_at {L : Fm} {x : Nat} (hx : x < 10) : ∀ k, k ≤ 10 → ∀ a b, a < 10 → b < 10 → w5i L x k 0 (a * 10 + b) = (if a = x ∧ b < k then (if a = b then 0 else 1000000) else L 0 (a * 10 + b)) ∧ w5i L x k 1 (a * 10 + b) = (if a = x ∧ b < k then -1 else L 1 (a * 10 + b))
  | 0, _, a, b, _, _ => by
    rw [if_neg (show ¬ (a = x ∧ b < 0) by omega), if_neg (show ¬ (a = x ∧ b < 0) by omega)]
    exact ⟨rfl, rfl⟩
  | k + 1, hk, a, b, ha, hb => by
    obtain ⟨e1, e2⟩ := w5i_at (L := L) hx k (by omega) a b ha hb
    have r0 : w5i L x (k + 1) 0 = rs 100 (w5i L x k 0) (nI x * 10 + nI k) (if nI x = nI k then 0 else 1000000) := rfl
    have r1 : w5i L x (k + 1) 1 = rs 100 (w5i L x k 1) (nI x * 10 + nI k) (-1) := rfl
    rw [r0, r1, set_at hx (by omega), set_at hx (by omega), upd_at (by omega) hb, upd_at (by omega) hb, e1, e2]
    by_cases h : a = x ∧ b = k
    · obtain ⟨h1, h2⟩ := h
      subst h1
      subst h2
      rw [if_pos (show a = a ∧ b = b from ⟨rfl, rfl⟩), if_pos (show a = a ∧ b = b from ⟨rfl, rfl⟩), if_pos (show a = a ∧ b < b + 1 by omega), if_pos (show a = a ∧ b < b + 1 by omega)]
      refine ⟨?_, rfl⟩
      by_cases q : a = b
      · rw [if_pos q, if_pos (show nI a = nI b by rw [q])]
      · rw [if_neg q, if_neg (show ¬ nI a = nI b from fun z => q ((nI_eq (by omega) (by omega)).mp z))]
    · rw [if_neg h, if_neg h]
      by_cases g : a = x ∧ b < k
      · rw [if_pos g, if_pos g, if_pos (show a = x ∧ b < k + 1 by omega), if_pos (show a = x ∧ b < k + 1 by omega)]
        exact ⟨rfl, rfl⟩
      · rw [if_neg g, if_neg g, if_neg (show ¬ (a = x ∧ b < k + 1) by omega), if_neg (show ¬ (a = x ∧ b < k + 1) by omega)]
        exact ⟨rfl, rfl⟩
theorem w5o_at : ∀ x, x ≤ 10 → ∀ a b, a < 10 → b < 10 → w5o (fun _ => z0) x 0 (a * 10 + b) = (if a < x then (if a = b then 0 else 1000000) else 0) ∧ w5o (fun _ => z0) x 1 (a * 10 + b) = (if a < x then -1 else 0)
  | 0, _, a, b, _, _ => by
    rw [if_neg (show ¬ a < 0 by omega), if_neg (show ¬ a < 0 by omega)]
    exact ⟨rfl, rfl⟩
  | x + 1, hx, a, b, ha, hb => by
    obtain ⟨e1, e2⟩ := w5i_at (L := w5o (fun _ => z0) x) (x := x) (by omega) 10 (Nat.le_refl _) a b ha hb
    obtain ⟨f1, f2⟩ := w5o_at x (by omega) a b ha hb
    have r : w5o (fun _ => z0) (x + 1) = w5i (w5o (fun _ => z0) x) x 10 := rfl
    rw [r, e1, e2, f1, f2]
    by_cases h : a = x
    · rw [if_pos (show a = x ∧ b < 10 from ⟨h, hb⟩), if_pos (show a = x ∧ b < 10 from ⟨h, hb⟩), if_pos (show a < x + 1 by omega), if_pos (show a < x + 1 by omega)]
      exact ⟨rfl, rfl⟩
    · rw [if_neg (show ¬ (a = x ∧ b < 10) from fun q => h q.1), if_neg (show ¬ (a = x ∧ b < 10) from fun q => h q.1)]
      by_cases g : a < x
      · rw [if_pos g, if_pos g, if_pos (show a < x + 1 by omega), if_pos (show a < x + 1 by omega)]
        exact ⟨rfl, rfl⟩
      · rw [if_neg g, if_neg g, if_neg (show ¬ a < x + 1 by omega), if_neg (show ¬ a < x + 1 by omega)]
        exact ⟨rfl, rfl⟩
theorem Dw_none (G : Rd) : Dw 1000000 G 0 = iD 1000000 := by
  show cl (iD 1000000) 10 10 = iD 1000000
  refine cl_fix (fun a b c _ _ _ => ?_) 10 (Nat.le_refl _)
  show (if a = b then 0 else 1000000) ≤ (if a = c then 0 else 1000000) + (if c = b then 0 else 1000000)
  repeat' split
  all_goals omega
theorem SY0 : SY W50 (fun _ => z0) (fun _ => z0) (fun _ => z0) 0 0 (fun _ => z0) 0 0 0 0 0 := by
  refine ⟨⟨⟨by omega, by omega, fun k h => absurd h (by omega), fun k h => absurd h (by omega)⟩, ⟨fun a b ha hb => ?_, fun a b ha hb => ?_⟩, ⟨by omega, fun k h => absurd h (by omega)⟩, by omega, fun k h => absurd h (by omega), fun l m h => absurd h (by omega), ⟨fun i h => absurd h (by omega), fun l h => absurd h (by omega), fun i j x y _ h2 => absurd h2 (by omega)⟩, ⟨fun k h => absurd h (by omega), fun k c h => absurd h (by omega)⟩, fun j c h => absurd h (by omega), fun j c h => absurd h (by omega), nI_0.symm, ?_, ?_⟩, fun k i h => absurd h (by omega), fun k _ _ => ⟨rfl, rfl⟩⟩
  · show w5o (fun _ => z0) 10 0 (a * 10 + b) = _
    rw [(w5o_at 10 (Nat.le_refl _) a b ha hb).1, if_pos ha, Dw_none]
    show (if a = b then (0 : Int32) else 1000000) = nI (if a = b then 0 else 1000000)
    split <;> rfl
  · show w5o (fun _ => z0) 10 1 (a * 10 + b) = _
    rw [(w5o_at 10 (Nat.le_refl _) a b ha hb).2, if_pos ha]
    rfl
  · show rg 2 z0 (nI 0) = nI 0
    rw [rg_k (by decide) (by decide)]
    rfl
  · show rg 2 z0 (nI 1) = 0
    rw [rg_k (by decide) (by decide)]
    rfl
