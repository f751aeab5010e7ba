theorem bq_get {bq : Nat → Option Nat} {o y : Nat} {r : Option Nat} (ho : o < 16) (hb : bq o = some y) (h : bqAt bq (nI o) r) : r = some y := by
  rcases h with ⟨j, hj, e, h2⟩ | ⟨h1, -⟩
  · rw [← (nI_eq (by omega) (by omega)).mp e, hb] at h2
    exact h2
  · exact absurd rfl (h1 o ho)
theorem bq_not {bq : Nat → Option Nat} {p : Int32} {r : Option Nat} (hno : ∀ j : Nat, j < 16 → p = nI j → bq j = none) (h : bqAt bq p r) : r = none := by
  rcases h with ⟨j, hj, e, h2⟩ | ⟨-, h1⟩
  · rw [h2]; exact hno j hj e
  · exact h1
theorem ct_no {bq : Nat → Option Nat} {b k : Nat} (hb : b ≤ k) (hk : k < 100) (hno : ∀ j : Nat, j < 16 → nI k = nI (b + j) → bq j = none) : ∀ j : Nat, j < 16 → nI (k - b) = nI j → bq j = none := fun j hj e => hno j hj (by rw [← (nI_eq (by omega) (by omega)).mp e, show b + (k - b) = k by omega])
