theorem rt_lt {kd pa : Nat → Int32} {dep : Nat → Nat} {n o : Nat} (hF : rF kd pa dep) (ho : o < 16) : rtN kd pa n o < 16 := by
  induction n generalizing o with
  | zero => exact ho
  | succ n ih =>
    by_cases h : (kd o).toInt = 4
    · obtain ⟨p, hp, ep, -⟩ := hF o ho (Or.inl h)
      rw [rtN_up h ep hp]
      exact ih hp
    · rw [rtN_top h]
      exact ho
theorem rt_kd {kd pa : Nat → Int32} {dep : Nat → Nat} {n o : Nat} (hF : rF kd pa dep) (ho : o < 16) (hd : dep o < n) (hk : 1 ≤ (kd o).toInt ∧ (kd o).toInt ≤ 4) : 1 ≤ (kd (rtN kd pa n o)).toInt ∧ (kd (rtN kd pa n o)).toInt ≤ 3 := by
  induction n generalizing o with
  | zero => exact absurd hd (Nat.not_lt_zero _)
  | succ n ih =>
    by_cases h : (kd o).toInt = 4
    · obtain ⟨p, hp, ep, hq, h1, h4, -⟩ := hF o ho (Or.inl h)
      rw [rtN_up h ep hp]
      exact ih hp (by omega) ⟨h1, h4⟩
    · rw [rtN_top h]
      omega
