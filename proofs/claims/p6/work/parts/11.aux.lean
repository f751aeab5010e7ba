theorem tx_band {x : Int32} {tb : Nat} (h1 : 1 ≤ tb) (h2 : tb ≤ 2048) (h3 : ∃ j : Nat, tb = 2 ^ j) : ∃ b : Nat, b < tb ∧ x &&& nI (tb - 1) = nI b := by
  obtain ⟨j, hj⟩ := h3
  refine ⟨x.toBitVec.toNat % 2 ^ j, by rw [hj]; exact Nat.mod_lt _ (Nat.two_pow_pos j), ?_⟩
  exact pk_and x j (by rw [pk_tn (by omega), hj])
/-- nothing of a2 has changed but in the rows of r -/
def outR (a2 b2 : Nat → Int32) (r : Nat) : Prop := ∀ q : Nat, (q < 4200 * r ∨ 4200 * r + 4200 ≤ q) → b2 q = a2 q
theorem outR_rf {a2 : Nat → Int32} {r : Nat} : outR a2 a2 r := fun _ _ => rfl
theorem outR_up {a2 b2 : Nat → Int32} {r k : Nat} {x : Int32} (h : outR a2 b2 r) (hk : k < 4200) : outR a2 (upd b2 (4200 * r + k) x) r := fun q hq => (pk_un (by omega)).trans (h q hq)
theorem outR_up' {a2 b2 : Nat → Int32} {r k j : Nat} {x : Int32} (h : outR a2 b2 r) (hj : j = 4200 * r + k) (hk : k < 4200) : outR a2 (upd b2 j x) r := by
  subst hj
  exact outR_up h hk
