/-! the class -/
theorem nI_n0 {n : Nat} (h : n < 2147483648) : ¬ nI n < 0 := Int32.not_lt.mpr (Int32.le_iff_toInt_le.mpr (by rw [nI_toInt h]; exact Int.natCast_nonneg _))
/-- the rows of a MAP or TREE, in the class: L places, nz of them taken -/
def rOK (L nz : Nat) : Prop := 16 ≤ L ∧ L ≤ 2000 ∧ nz ≤ L ∧ nz ≤ 1000
theorem mm_min {x y z : Int32} (h : z = if y < x then y else x) : (z = x ∧ x.toInt ≤ y.toInt) ∨ (z = y ∧ y.toInt < x.toInt) := by
  by_cases hc : y < x
  · rw [if_pos hc] at h
    exact Or.inr ⟨h, Int32.lt_iff_toInt_lt.mp hc⟩
  · rw [if_neg hc] at h
    exact Or.inl ⟨h, Int.not_lt.mp (fun z => hc (Int32.lt_iff_toInt_lt.mpr z))⟩
theorem mm_max {x y z : Int32} (h : z = if y < x then x else y) : (z = x ∧ y.toInt < x.toInt) ∨ (z = y ∧ x.toInt ≤ y.toInt) := by
  by_cases hc : y < x
  · rw [if_pos hc] at h
    exact Or.inl ⟨h, Int32.lt_iff_toInt_lt.mp hc⟩
  · rw [if_neg hc] at h
    exact Or.inr ⟨h, Int.not_lt.mp (fun z => hc (Int32.lt_iff_toInt_lt.mpr z))⟩
def insP (L nz L2 n2 : Nat) : Prop := rOK L2 n2 ∧ nz ≤ n2 ∧ n2 ≤ nz + 1 ∧ (L2 = L ∨ (nz = L ∧ L2 = 2 * L ∧ n2 = nz + 1))
def p2N (n : Nat) : Prop := ∃ j : Nat, n = 2 ^ j
/-- a Hash: tb its table -/
def hOK (tb L nz cap : Nat) : Prop := rOK L nz ∧ p2N L ∧ cap ≤ 1000 ∧ ((tb = 0 ∧ nz = 0 ∧ L = 16) ∨ (1 ≤ tb ∧ tb ≤ 2048 ∧ p2N tb ∧ nz * 4 ≤ tb * 3 ∧ (L = 16 ∨ L ≤ tb)))
theorem nI_nlt1 {n : Nat} (h1 : 1 ≤ n) (h2 : n < 2147483648) : ¬ nI n < 1 := Int32.not_lt.mpr (Int32.le_iff_toInt_le.mpr (by rw [nI_toInt h2, show (1 : Int32).toInt = 1 from rfl]; omega))
theorem nI_ltm {n : Nat} (h : n < 1048576) : nI n < 1048576 := Int32.lt_iff_toInt_lt.mpr (by rw [nI_toInt (by omega), show (1048576 : Int32).toInt = 1048576 from rfl]; omega)
/-- what 'enter' does to a Hash -/
def enP (tb L nz cap t2 L2 n2 : Nat) : Prop := hOK t2 L2 n2 cap ∧ nz ≤ n2 ∧ n2 ≤ nz + 1 ∧ (L2 = L ∨ (nz = L ∧ L2 = 2 * L)) ∧ ((tb = 0 ∧ t2 ≤ 2048) ∨ t2 = tb ∨ (t2 = tb * 2 ∧ ((tb < 64 ∧ 8 ≤ nz) ∨ tb * 3 < (nz + 1) * 4)))
theorem p2_gt {a b : Nat} (ha : p2N a) (hb : p2N b) (h : b < a) : 2 * b ≤ a := by
  obtain ⟨i, rfl⟩ := ha
  obtain ⟨j, rfl⟩ := hb
  have h1 : j < i := (Nat.pow_lt_pow_iff_right (by omega)).mp h
  have h2 : 2 ^ (j + 1) ≤ 2 ^ i := Nat.pow_le_pow_right (by omega) h1
  rw [Nat.pow_succ] at h2
  omega
theorem en_p {L nz L2 n2 : Nat} (h : p2N L) (hm : L2 = L ∨ (nz = L ∧ L2 = 2 * L ∧ n2 = nz + 1)) : p2N L2 := by
  rcases hm with rfl | ⟨-, rfl, -⟩
  · exact h
  · exact p2_dbl h
theorem en_L {L nz L2 n2 T : Nat} (hp : p2N L) (hT : p2N T) (h5 : L = 16 ∨ L ≤ T) (h4 : n2 * 4 ≤ T * 3) (hm : L2 = L ∨ (nz = L ∧ L2 = 2 * L ∧ n2 = nz + 1)) : L2 = 16 ∨ L2 ≤ T := by
  rcases hm with rfl | ⟨h1, rfl, h3⟩
  · exact h5
  · exact Or.inr (p2_gt hT hp (by omega))
theorem rOK_le {L nz n2 : Nat} (h : rOK L nz) (h2 : n2 ≤ nz) : rOK L n2 := by
  unfold rOK at *
  omega
theorem hOK_le {tb L nz n2 cap : Nat} (h : hOK tb L nz cap) (h2 : n2 ≤ nz) : hOK tb L n2 cap := by
  obtain ⟨h1, h3, h4, h5⟩ := h
  refine ⟨rOK_le h1 h2, h3, h4, ?_⟩
  rcases h5 with ⟨g1, g2, g3⟩ | ⟨g1, g2, g3, g4, g5⟩
  · exact Or.inl ⟨g1, by omega, g3⟩
  · exact Or.inr ⟨g1, g2, g3, by omega, g5⟩
theorem hOK_tb {tb L nz cap : Nat} (h : hOK tb L nz cap) : tb ≤ 2048 := by
  obtain ⟨-, -, -, h5⟩ := h
  rcases h5 with ⟨g1, -, -⟩ | ⟨-, g2, -⟩ <;> omega
