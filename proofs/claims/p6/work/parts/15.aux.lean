theorem p2_lt {t k : Nat} (h : ∃ j : Nat, t = 2 ^ j) (hk : t < 2 ^ (k + 1)) : t ≤ 2 ^ k := by
  obtain ⟨j, rfl⟩ := h
  have h1 : j < k + 1 := (Nat.pow_lt_pow_iff_right (by omega)).mp hk
  exact Nat.pow_le_pow_right (by omega) (by omega)
theorem p2_512 {t : Nat} (h : ∃ j : Nat, t = 2 ^ j) (hk : t < 1024) : t ≤ 512 := p2_lt (k := 9) h hk
theorem p2_1024 {t : Nat} (h : ∃ j : Nat, t = 2 ^ j) (hk : t < 2048) : t ≤ 1024 := p2_lt (k := 10) h hk
theorem p2_dbl {t : Nat} (h : ∃ j : Nat, t = 2 ^ j) : ∃ j : Nat, 2 * t = 2 ^ j := by
  obtain ⟨j, rfl⟩ := h
  exact ⟨j + 1, by rw [Nat.pow_succ]; omega⟩
theorem p2_dbl' {t : Nat} (h : ∃ j : Nat, t = 2 ^ j) : ∃ j : Nat, t * 2 = 2 ^ j := by rw [Nat.mul_comm]; exact p2_dbl h
theorem p2_one : ∃ j : Nat, 1 = 2 ^ j := ⟨0, rfl⟩
theorem outR_tr {a2 b2 d2 : Nat → Int32} {r : Nat} (h : outR a2 b2 r) (h2 : outR b2 d2 r) : outR a2 d2 r := fun q hq => (h2 q hq).trans (h q hq)
