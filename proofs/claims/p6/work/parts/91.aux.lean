theorem vb_iff {t : Bool} {tu o : Int} {p1 p2 p3 : Int32} (h : tu = 0 ↔ t = false) : ((p1.toInt < 1 ∨ 4 < p1.toInt) ∨ (p1.toInt = 1 ∧ ((tu = 0 ∧ rkI o p3 < rkI o p2) ∨ (¬ tu = 0 ∧ rkI o p2 < rkI o p3)))) ↔ ((p1.toInt < 1 ∨ 4 < p1.toInt) ∨ (p1.toInt = 1 ∧ ocI t o p3 p2 < 0)) := by
  rw [oc_lt]
  cases t with
  | false =>
    have h0 : tu = 0 := h.mpr rfl
    have e : ((false = false ∧ rkI o p3 < rkI o p2) ∨ (false = true ∧ rkI o p2 < rkI o p3)) ↔ rkI o p3 < rkI o p2 := by simp
    rw [e]
    constructor <;> intro z <;> omega
  | true =>
    have h0 : ¬ tu = 0 := fun z => absurd (h.mp z) (by decide)
    have e : ((true = false ∧ rkI o p3 < rkI o p2) ∨ (true = true ∧ rkI o p2 < rkI o p3)) ↔ rkI o p2 < rkI o p3 := by simp
    rw [e]
    constructor <;> intro z <;> omega
theorem tn_iff {b : Bool} {w t2 tu : Int} (h : tu = 0 ↔ b = false) (h4 : w = 4 → (t2 = 0 ↔ ¬ tu = 0)) (hn : ¬ w = 4 → (t2 = 0 ↔ tu = 0)) : t2 = 0 ↔ (if w = 4 then !b else b) = false := by
  by_cases hw : w = 4
  · rw [if_pos hw, h4 hw, h]
    cases b <;> simp
  · rw [if_neg hw, hn hw, h]
theorem cuR_one {a1 : Nat → Int32} {p0 c d : Int32} {o x q y : Nat} (h : cuR a1 p0 c o x) (g : cuR a1 p0 d q y) : (c = 0 ↔ d = 0) ∧ (c = 0 → o = q ∧ x = y) := by
  have no : ∀ {c d : Int32} {o x q y : Nat}, cuR a1 p0 c o x → cuR a1 p0 d q y → c = 0 → d = 0 ∧ o = q ∧ x = y := fun {c d o x q y} h g hc => by
    subst hc
    rcases h with ⟨z, -⟩ | ⟨h1, h2, h3, ⟨z, -⟩ | ⟨h4, ⟨z, -⟩ | ⟨-, h5, h6, h7⟩⟩⟩
    · exact absurd z (by decide)
    · exact absurd z (by decide)
    · exact absurd z (by decide)
    · rcases g with ⟨-, g1⟩ | ⟨g1, g2, g3, ⟨-, g4⟩ | ⟨g4, ⟨-, g5⟩ | ⟨gd, g5, g6, g7⟩⟩⟩
      · exact absurd (g1 o h1 h2) h3
      · obtain rfl : o = q := (nI_eq (by omega) (by omega)).mp (h2.symm.trans g2)
        omega
      · exact absurd h6 ((show ∀ j : Nat, j < 16 → ¬ (a1 j).toInt = 0 from g5) _ h5)
      · refine ⟨gd, (nI_eq (by omega) (by omega)).mp (h2.symm.trans g2), ?_⟩
        rcases (show x < y ∨ x = y ∨ y < x by omega) with hl | hl | hl
        · exact absurd h6 (g7 x hl)
        · exact hl
        · exact absurd g6 (h7 y hl)
  exact ⟨⟨fun z => (no h g z).1, fun z => (no g h z).1⟩, fun z => (no h g z).2⟩
theorem vwR_one {a1 a4 a8 a11 : Nat → Int32} {p0 p1 p2 p3 c d : Int32} {o x q y : Nat} (h : vwR a1 a4 a8 a11 p0 p1 p2 p3 c o x) (g : vwR a1 a4 a8 a11 p0 p1 p2 p3 d q y) : (c = 0 ↔ d = 0) ∧ (c = 0 → o = q ∧ x = y) := by
  have no : ∀ {c d : Int32} {o x q y : Nat}, vwR a1 a4 a8 a11 p0 p1 p2 p3 c o x → vwR a1 a4 a8 a11 p0 p1 p2 p3 d q y → c = 0 → d = 0 ∧ o = q ∧ x = y := fun {c d o x q y} h g hc => by
    subst hc
    rcases h with ⟨z, -⟩ | ⟨h1, h2, h3, ⟨z, -⟩ | ⟨h4, ⟨z, -⟩ | ⟨h8, ⟨z, -⟩ | ⟨-, h5, h6, h7⟩⟩⟩⟩
    · exact absurd z (by decide)
    · exact absurd z (by decide)
    · exact absurd z (by decide)
    · exact absurd z (by decide)
    · rcases g with ⟨-, g1⟩ | ⟨g1, g2, g3, ⟨-, g4⟩ | ⟨g4, ⟨-, g8⟩ | ⟨g8, ⟨-, g5⟩ | ⟨gd, g5, g6, g7⟩⟩⟩⟩
      · exact absurd (g1 o h1 h2) h3
      · obtain rfl : o = q := (nI_eq (by omega) (by omega)).mp (h2.symm.trans g2)
        omega
      · obtain rfl : o = q := (nI_eq (by omega) (by omega)).mp (h2.symm.trans g2)
        exact absurd g8 h8
      · exact absurd h6 ((show ∀ j : Nat, j < 16 → ¬ (a1 j).toInt = 0 from g5) _ h5)
      · refine ⟨gd, (nI_eq (by omega) (by omega)).mp (h2.symm.trans g2), ?_⟩
        rcases (show x < y ∨ x = y ∨ y < x by omega) with hl | hl | hl
        · exact absurd h6 (g7 x hl)
        · exact hl
        · exact absurd g6 (h7 y hl)
  exact ⟨⟨fun z => (no h g z).1, fun z => (no g h z).1⟩, fun z => (no h g z).2⟩
