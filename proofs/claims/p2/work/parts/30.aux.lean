/-! the class -/
theorem nI_n0 {n : Nat} (h : n < 2147483648) : ¬ nI n < 0 := Int32.not_lt.mpr (Int32.le_iff_toInt_le.mpr (by rw [nI_toInt h]; exact Int.natCast_nonneg _))
/-- the rows of a MAP or TREE, in the class: L places, nz of them taken -/
def rOK (L nz : Nat) : Prop := 16 ≤ L ∧ L ≤ 2000 ∧ nz ≤ L ∧ nz ≤ 1000
theorem mm_min {x y z : Int32} (h : z = if y < x then y else x) : (z = x ∧ x.toInt ≤ y.toInt) ∨ (z = y ∧ y.toInt < x.toInt) := by
  by_cases hc : y < x
  · rw [if_pos hc] at h
    exact Or.inr ⟨h, Int32.lt_iff_toInt_lt.mp hc⟩
  · rw [if_neg hc] at h
    exact Or.inl ⟨h, Int.not_lt.mp (fun z => hc (Int32.lt_iff_toInt_lt.mpr z))⟩
theorem mm_max {x y z : Int32} (h : z = if y < x then x else y) : (z = x ∧ y.toInt < x.toInt) ∨ (z = y ∧ x.toInt ≤ y.toInt) := by
  by_cases hc : y < x
  · rw [if_pos hc] at h
    exact Or.inl ⟨h, Int32.lt_iff_toInt_lt.mp hc⟩
  · rw [if_neg hc] at h
    exact Or.inr ⟨h, Int.not_lt.mp (fun z => hc (Int32.lt_iff_toInt_lt.mpr z))⟩
def insP (L nz L2 n2 : Nat) : Prop := rOK L2 n2 ∧ nz ≤ n2 ∧ n2 ≤ nz + 1 ∧ (L2 = L ∨ (nz = L ∧ L2 = 2 * L))
def p2N (n : Nat) : Prop := ∃ j : Nat, n = 2 ^ j
/-- a Hash: tb its table -/
def hOK (tb L nz cap : Nat) : Prop := rOK L nz ∧ p2N L ∧ cap ≤ 1000 ∧ ((tb = 0 ∧ nz = 0 ∧ L = 16) ∨ (1 ≤ tb ∧ tb ≤ 2048 ∧ p2N tb ∧ nz * 4 ≤ tb * 3 ∧ (L = 16 ∨ L ≤ tb)))
