theorem rt_lt {kd pa : Nat → Int32} {dep : Nat → Nat} {n o : Nat} (hF : rF kd pa dep) (ho : o < 16) : rtN kd pa n o < 16 := by
  induction n generalizing o with
  | zero => exact ho
  | succ n ih =>
    by_cases h : (kd o).toInt = 4
    · obtain ⟨p, hp, ep, -⟩ := hF o ho (Or.inl h)
      rw [rtN_up h ep hp]
      exact ih hp
    · rw [rtN_top h]
      exact ho
theorem rt_kd {kd pa : Nat → Int32} {dep : Nat → Nat} {n o : Nat} (hF : rF kd pa dep) (ho : o < 16) (hd : dep o < n) (hk : 1 ≤ (kd o).toInt ∧ (kd o).toInt ≤ 4) : 1 ≤ (kd (rtN kd pa n o)).toInt ∧ (kd (rtN kd pa n o)).toInt ≤ 3 := by
  induction n generalizing o with
  | zero => exact absurd hd (Nat.not_lt_zero _)
  | succ n ih =>
    by_cases h : (kd o).toInt = 4
    · obtain ⟨p, hp, ep, hq, h1, h4, -⟩ := hF o ho (Or.inl h)
      rw [rtN_up h ep hp]
      exact ih hp (by omega) ⟨h1, h4⟩
    · rw [rtN_top h]
      omega
def thP (a1 : Nat → Int32) (p : Int32) : Prop := ∃ o9 : Nat, o9 < 16 ∧ p = nI o9 ∧ ¬ (a1 o9).toInt = 0
def mpP (a1 : Nat → Int32) (p : Int32) : Prop := ∃ o9 : Nat, o9 < 16 ∧ p = nI o9 ∧ 1 ≤ (a1 o9).toInt ∧ (a1 o9).toInt ≤ 4
theorem mp_i {a1 : Nat → Int32} {o : Nat} (ho : o < 16) (h1 : 1 ≤ (a1 o).toInt) (h2 : (a1 o).toInt ≤ 4) : mpP a1 (nI o) := ⟨o, ho, rfl, h1, h2⟩
