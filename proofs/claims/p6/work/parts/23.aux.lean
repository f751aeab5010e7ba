def fullO (a1 : Nat → Int32) : Prop := ∀ j : Nat, j < 16 → ¬ (a1 j).toInt = 0
/-- what make takes -/
def mkG (p0 p1 p2 : Int32) : Prop := (p0.toInt = 0 ∧ p1.toInt ≤ 1000 ∧ 0 ≤ p2.toInt ∧ p2.toInt ≤ 3) ∨ (p0.toInt = 1 ∧ 0 ≤ p1.toInt ∧ p1.toInt ≤ 1000 ∧ 0 ≤ p2.toInt ∧ p2.toInt ≤ 1) ∨ (p0.toInt = 2 ∧ 0 ≤ p1.toInt ∧ p1.toInt ≤ 3)
/-- make: c is what it throws, xx the place -/
def mkR (a1 : Nat → Int32) (p0 p1 p2 c : Int32) (xx : Nat) : Prop := (c = 1 ∧ (p0.toInt < 0 ∨ 2 < p0.toInt)) ∨ (0 ≤ p0.toInt ∧ p0.toInt ≤ 2 ∧ ((c = 3 ∧ p0.toInt = 0 ∧ p1.toInt < 0) ∨ (¬ (p0.toInt = 0 ∧ p1.toInt < 0) ∧ ((c = 1 ∧ ¬ mkG p0 p1 p2) ∨ (mkG p0 p1 p2 ∧ ((c = 2 ∧ fullO a1) ∨ (c = 0 ∧ xx < 16 ∧ (a1 xx).toInt = 0 ∧ ∀ j : Nat, j < xx → ¬ (a1 j).toInt = 0)))))))
/-- j goes when o is dropped -/
def dgB (a1 a8 : Nat → Int32) (o j : Nat) : Bool := !(decide (j = o)) && hgN a1 a8 17 j (nI o)
theorem dg_o {a1 a8 : Nat → Int32} {o i : Nat} (h : ((i : Nat) : Int) = ((o : Nat) : Int)) : dgB a1 a8 o i = false := by
  obtain rfl : i = o := by omega
  unfold dgB
  rw [decide_eq_true rfl]
  rfl
theorem dg_0 {a1 a8 : Nat → Int32} {o i : Nat} (h : (a1 i).toInt = 0) : dgB a1 a8 o i = false := by
  unfold dgB
  rw [hg_no (n := 16) (by omega) (by omega), Bool.and_false]
theorem dg_n {a1 a8 : Nat → Int32} {o i : Nat} {r : Int32} (hn : ¬ ((i : Nat) : Int) = ((o : Nat) : Int)) (hr : r = tz (hgN a1 a8 17 i (nI o))) (h : r.toInt = 0) : dgB a1 a8 o i = false := by
  rw [hr] at h
  unfold dgB
  rw [tz_0 h, Bool.and_false]
theorem dg_y {a1 a8 : Nat → Int32} {o i : Nat} {r : Int32} (hn : ¬ ((i : Nat) : Int) = ((o : Nat) : Int)) (hr : r = tz (hgN a1 a8 17 i (nI o))) (h : ¬ r.toInt = 0) : dgB a1 a8 o i = true := by
  rw [hr] at h
  unfold dgB
  rw [tz_1 h, Bool.and_true, decide_eq_false (by omega)]
  rfl
theorem dg_if {P : Prop} [Decidable P] {i j : Nat} {x y : Int32} (h : j = i → ¬ P) : (if j < i ∧ P then x else y) = if j < i + 1 ∧ P then x else y := by
  by_cases hj : j = i
  · rw [if_neg (fun z => h hj z.2), if_neg (fun z => h hj z.2)]
  · by_cases hp : P
    · by_cases hl : j < i
      · rw [if_pos ⟨hl, hp⟩, if_pos ⟨by omega, hp⟩]
      · rw [if_neg (fun z => hl z.1), if_neg (fun z => hl (by have := z.1; omega))]
    · rw [if_neg (fun z => hp z.2), if_neg (fun z => hp z.2)]
theorem dg_all {P : Prop} [Decidable P] {i j : Nat} {x y : Int32} (h : j < i) : (if j < i ∧ P then x else y) = if P then x else y := by
  by_cases hp : P
  · rw [if_pos ⟨h, hp⟩, if_pos hp]
  · rw [if_neg (fun z => hp z.2), if_neg hp]
