theorem ln_mono {L nz L2 n2 : Nat} (hR : rOK L nz) (h : lnP L nz L2 n2) : L ≤ L2 ∧ lgN L ≤ lgN L2 := by
  have h1 : L2 = L ∨ L2 = 2 * L := by unfold lnP at h; omega
  have h0 : 1 ≤ L := by unfold rOK at hR; omega
  have h2 := lgN_two h0 h1
  omega
theorem ln_ok {L nz L2 n2 : Nat} (h : lnP L nz L2 n2) : rOK L2 n2 := by
  unfold lnP at h
  exact h.1
theorem lg_rok {L nz : Nat} (h : rOK L nz) : lgN L ≤ 11 ∧ L ≤ 2000 ∧ nz ≤ 1000 := by
  unfold rOK at h
  exact ⟨lgN_le (by omega), by omega, by omega⟩
