theorem kpH_ok {tb L nz cap t2 L2 n2 : Nat} (hH : hOK tb L nz cap) (h : kpH tb L nz cap t2 L2 n2) : hOK t2 L2 n2 cap ∧ hPS tb L ≤ hPS t2 L2 ∧ hPC tb L ≤ hPC t2 L2 := by
  rcases h with ⟨rfl, rfl, h⟩ | h
  · exact ⟨hOK_le hH h, Nat.le_refl _, Nat.le_refl _⟩
  · exact ⟨h.1, hPS_mono h hH⟩
theorem kpL_ok {L nz L2 n2 : Nat} (hR : rOK L nz) (h : kpL L nz L2 n2) : rOK L2 n2 ∧ L ≤ L2 ∧ lgN L ≤ lgN L2 := by
  rcases h with ⟨rfl, h⟩ | h
  · exact ⟨rOK_le hR h, Nat.le_refl _, Nat.le_refl _⟩
  · exact ⟨ln_ok h, ln_mono hR h⟩
