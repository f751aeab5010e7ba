/-! the class -/
theorem nI_n0 {n : Nat} (h : n < 2147483648) : ¬ nI n < 0 := Int32.not_lt.mpr (Int32.le_iff_toInt_le.mpr (by rw [nI_toInt h]; exact Int.natCast_nonneg _))
/-- the rows of a MAP or TREE, in the class: L places, nz of them taken -/
def rOK (L nz : Nat) : Prop := 16 ≤ L ∧ L ≤ 2000 ∧ nz ≤ L ∧ nz ≤ 1000
