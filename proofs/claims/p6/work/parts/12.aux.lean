/-- the keys of r from k on, up to i, have come one place down -/
def shR (a b : Nat → Int32) (r k i : Nat) : Prop := ∀ j : Nat, j < 1000 → b (4200 * r + j) = a (4200 * r + (if k ≤ j ∧ j < i then j + 1 else j))
theorem shR_rf {a : Nat → Int32} {r k : Nat} : shR a a r k k := fun j _ => by rw [if_neg (by omega)]
theorem shR_up {a b : Nat → Int32} {r k i : Nat} {x : Int32} (h : shR a b r k i) (hk : k ≤ i) (hi : i + 1 < 1000) : shR a (upd (upd b (4200 * r + i) (b (4200 * r + (i + 1)))) (4200 * r + 1000 + i) x) r k (i + 1) := fun j hj => by
  rw [pk_un (by omega)]
  rcases Nat.lt_trichotomy j i with h1 | h1 | h1
  · rw [pk_un (by omega), h j hj]
    by_cases hc : k ≤ j
    · rw [if_pos ⟨hc, h1⟩, if_pos ⟨hc, by omega⟩]
    · rw [if_neg (by omega), if_neg (by omega)]
  · subst h1
    rw [pk_us, h (j + 1) hi, if_neg (by omega), if_pos ⟨hk, by omega⟩]
  · rw [pk_un (by omega), h j hj, if_neg (by omega), if_neg (by omega)]
theorem shR_hi {a b : Nat → Int32} {r k i m j : Nat} {x : Int32} (h : shR a b r k i) (hj : j = 4200 * r + m) (hm : 1000 ≤ m) : shR a (upd b j x) r k i := fun q hq => by
  subst hj
  rw [pk_un (by omega)]
  exact h q hq
theorem cnt_sh {f g : Nat → Bool} {k n : Nat} (hk : k ≤ n) (h : ∀ j, j < n → g j = f (if k ≤ j then j + 1 else j)) : cntN f (n + 1) = cntN g n + (if f k then 1 else 0) := by
  induction n with
  | zero =>
    obtain rfl : k = 0 := by omega
    rfl
  | succ n ih =>
    by_cases hc : k = n + 1
    · subst hc
      rw [cnt_ext (f := g) (g := f) (fun i hi => by rw [h i hi, if_neg (by omega)])]
      rfl
    · have h1 := ih (by omega) (fun j hj => h j (by omega))
      have h2 := h n (by omega)
      rw [if_pos (by omega)] at h2
      show cntN f (n + 1) + (if f (n + 1) then 1 else 0) = cntN g n + (if g n then 1 else 0) + (if f k then 1 else 0)
      rw [h1, h2]
      omega
