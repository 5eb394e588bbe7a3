/-! constructors -/
def nA (o : Nat) (g : Nat → Nat) : Nat → Nat := fun i => cond (Nat.beq i 0) o (g i)
theorem maxn {n : Nat} (hn : n ≤ 100) : (if (0 : Int32) < nI n then nI n else 0) = nI n := by
  by_cases h : (0 : Int32) < nI n
  · rw [if_pos h]
  · rw [if_neg h]
    exact (Int32.le_antisymm (Int32.not_lt.mp h) (nI_pos' (by omega))).symm
