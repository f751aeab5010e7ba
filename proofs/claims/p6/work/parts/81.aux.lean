theorem bd_H {D : va_G} {U : State} {H : Heap} {bq : Nat → Option Nat} {ow rx cr : Nat → Nat} {a1 a4 a8 a11 : Nat → Int32} {j y : Nat} (h : bdI D U H bq ow rx cr a1 a4 a8 a11 j y) (hk : (a1 j).toInt = 1) : hsI D U H ow cr j y := by
  rcases h with ⟨k, g⟩ | ⟨k, g⟩ | ⟨k, g⟩ | ⟨k, g⟩
  · exact g
  all_goals exact absurd hk (by omega)
theorem bd_L {D : va_G} {U : State} {H : Heap} {bq : Nat → Option Nat} {ow rx cr : Nat → Nat} {a1 a4 a8 a11 : Nat → Int32} {j y : Nat} (h : bdI D U H bq ow rx cr a1 a4 a8 a11 j y) (hk : (a1 j).toInt = 2) : lkI D U H ow j y := by
  rcases h with ⟨k, g⟩ | ⟨k, g⟩ | ⟨k, g⟩ | ⟨k, g⟩
  · exact absurd hk (by omega)
  · exact g
  all_goals exact absurd hk (by omega)
theorem bd_S {D : va_G} {U : State} {H : Heap} {bq : Nat → Option Nat} {ow rx cr : Nat → Nat} {a1 a4 a8 a11 : Nat → Int32} {j y : Nat} (h : bdI D U H bq ow rx cr a1 a4 a8 a11 j y) (hk : (a1 j).toInt = 3 ∨ (a1 j).toInt = 4) : stI D H ow rx a1 a4 a8 a11 j y := by
  rcases h with ⟨k, g⟩ | ⟨k, g⟩ | ⟨k, g⟩ | ⟨k, g⟩
  · exact absurd hk (by omega)
  · exact absurd hk (by omega)
  · exact g
  · exact absurd hk (by omega)
theorem bd_C {D : va_G} {U : State} {H : Heap} {bq : Nat → Option Nat} {ow rx cr : Nat → Nat} {a1 a4 a8 a11 : Nat → Int32} {j y : Nat} (h : bdI D U H bq ow rx cr a1 a4 a8 a11 j y) (hk : (a1 j).toInt = 5) : cuI D H bq ow a8 j y := by
  rcases h with ⟨k, g⟩ | ⟨k, g⟩ | ⟨k, g⟩ | ⟨k, g⟩
  · exact absurd hk (by omega)
  · exact absurd hk (by omega)
  · exact absurd hk (by omega)
  · exact g
theorem bd_kind {D : va_G} {U : State} {H : Heap} {bq : Nat → Option Nat} {ow rx cr : Nat → Nat} {a1 a4 a8 a11 : Nat → Int32} {j y : Nat} (h : bdI D U H bq ow rx cr a1 a4 a8 a11 j y) : (a1 j).toInt = 1 ∨ (a1 j).toInt = 2 ∨ ((a1 j).toInt = 3 ∨ (a1 j).toInt = 4) ∨ (a1 j).toInt = 5 := by
  rcases h with ⟨k, g⟩ | ⟨k, g⟩ | ⟨k, g⟩ | ⟨k, g⟩
  · exact Or.inl k
  · exact Or.inr (Or.inl k)
  · exact Or.inr (Or.inr (Or.inl k))
  · exact Or.inr (Or.inr (Or.inr k))
