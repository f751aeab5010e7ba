set_option maxHeartbeats 1000000 in
theorem u_X7_make (l : Launch) (hlt : l.stackTraces = false) (dC : Nat → ClassId) (dI : Nat → Nat → Nat) (sz T0 : Nat) {a0 qb : Nat} {cq : ClassId} {bq : Nat → Option Nat} {ow rx cr : Nat → Nat} {a1 a4 a8 a11 : Nat → Int32} (hF : ∃ dep : Nat → Nat, rF a1 a8 dep ∧ ∀ o : Nat, o < 16 → dep o < 17) (p0 : Int32) (p1 : Int32) (p2 : Int32) : vx_Met l yX7_make wqX7_make ({ frames := 7, cells := 6, slots := 49, locals := 140 }) (va_Pc [.ref a0, .int p0, .int p1, .int p2] (aPre (dC, dI) a0 qb cq bq ow rx cr a1 a4 a8 a11 sz T0)) (va_Qi (fun (r : Int32) (u : Nat × (Nat → Option Nat) × (Nat → Nat) × (Nat → Nat) × (Nat → Nat)) => r = nI u.1 ∧ mkR a1 p0 p1 p2 0 u.1) (fun (u : Nat × (Nat → Option Nat) × (Nat → Nat) × (Nat → Nat) × (Nat → Nat)) (t : State) => aPostG (dC, dI) a0 qb cq ow cr sz T0 u.2.1 u.2.2.1 u.2.2.2.1 u.2.2.2.2 (upd a1 u.1 (p0 + 1)) (upd a4 u.1 p1) (upd a8 u.1 (-1)) a11 t) (aA ow sz)) (vx_X (fun (_ : (Nat → Nat) × (Nat → Nat)) => True) (fun (E : String) (u : (Nat → Nat) × (Nat → Nat)) (t : State) => ((E = "java/lang/IllegalArgumentException" ∧ mkR a1 p0 p1 p2 1 0) ∨ (E = "java/lang/IllegalStateException" ∧ mkR a1 p0 p1 p2 2 0) ∨ (E = "java/lang/NegativeArraySizeException" ∧ mkR a1 p0 p1 p2 3 0)) ∧ aPost (dC, dI) a0 qb cq bq ow rx cr a1 a4 a8 a11 sz T0 u t) (aA ow sz)) 6 49 (aA ow sz) := by
  refine vx_sel (fun a s hp => ?_)
  obtain ⟨rfl, hp⟩ := hp
  obtain ⟨rfl, rfl, hI⟩ := id hp
  have h6 := hI.1.2.2.2.2.2.1
  by_cases h0 : p0.toInt < 0 ∨ 2 < p0.toInt
  · exact uk_no l hlt dC dI hp hF h0
  · rcases (show p0.toInt = 0 ∨ p0.toInt = 1 ∨ p0.toInt = 2 by omega) with h | h | h
    · obtain rfl : p0 = 0 := Int32.toInt_inj.mp h
      exact uk_H l hlt dC dI hp hF
    · obtain rfl : p0 = 1 := Int32.toInt_inj.mp h
      exact uk_L l hlt dC dI hp hF
    · obtain rfl : p0 = 2 := Int32.toInt_inj.mp h
      exact uk_S l hlt dC dI hp hF
set_option maxHeartbeats 1000000 in
theorem u_X7_view (l : Launch) (hlt : l.stackTraces = false) (dC : Nat → ClassId) (dI : Nat → Nat → Nat) (sz T0 : Nat) {a0 qb : Nat} {cq : ClassId} {bq : Nat → Option Nat} {ow rx cr : Nat → Nat} {a1 a4 a8 a11 : Nat → Int32} (hF : ∃ dep : Nat → Nat, rF a1 a8 dep ∧ ∀ o : Nat, o < 16 → dep o < 17) (p0 : Int32) (p1 : Int32) (p2 : Int32) (p3 : Int32) : vx_Met l yX7_view wqX7_view ({ frames := 7, cells := 4, slots := 26, locals := 180 }) (va_Pc [.ref a0, .int p0, .int p1, .int p2, .int p3] (aPre (dC, dI) a0 qb cq bq ow rx cr a1 a4 a8 a11 sz T0)) (va_Qi (fun (r : Int32) (u : Nat × Nat × (Nat → Option Nat) × (Nat → Nat) × (Nat → Nat) × (Nat → Nat)) => r = nI u.2.1 ∧ vwR a1 a4 a8 a11 p0 p1 p2 p3 0 u.1 u.2.1) (fun (u : Nat × Nat × (Nat → Option Nat) × (Nat → Nat) × (Nat → Nat) × (Nat → Nat)) (t : State) => aPostG (dC, dI) a0 qb cq ow cr sz T0 u.2.2.1 u.2.2.2.1 u.2.2.2.2.1 u.2.2.2.2.2 (upd a1 u.2.1 4) a4 (upd (upd a8 u.2.1 (-1)) u.2.1 (nI u.1)) (upd a11 u.2.1 p1) t) (aA ow sz)) (vx_X (fun (_ : (Nat → Nat) × (Nat → Nat)) => True) (fun (E : String) (u : (Nat → Nat) × (Nat → Nat)) (t : State) => ((E = "java/util/NoSuchElementException" ∧ ∃ o xx : Nat, vwR a1 a4 a8 a11 p0 p1 p2 p3 1 o xx) ∨ (E = "java/lang/ClassCastException" ∧ ∃ o xx : Nat, vwR a1 a4 a8 a11 p0 p1 p2 p3 2 o xx) ∨ (E = "java/lang/IllegalArgumentException" ∧ ∃ o xx : Nat, vwR a1 a4 a8 a11 p0 p1 p2 p3 3 o xx) ∨ (E = "java/lang/IllegalStateException" ∧ ∃ o xx : Nat, vwR a1 a4 a8 a11 p0 p1 p2 p3 4 o xx)) ∧ aPost (dC, dI) a0 qb cq bq ow rx cr a1 a4 a8 a11 sz T0 u t) (aA ow sz)) 4 26 (aA ow sz) := by
  refine vx_sel (fun a s hp => ?_)
  obtain ⟨rfl, hp⟩ := hp
  obtain ⟨rfl, rfl, hI⟩ := id hp
  have h6 := hI.1.2.2.2.2.2.1
  by_cases h0 : ∃ j : Nat, j < 16 ∧ p0 = nI j ∧ ¬ bq j = none
  ·
    obtain ⟨j, hj, rfl, hbn⟩ := h0
    obtain ⟨y0, hb⟩ : ∃ z, bq j = some z := Option.ne_none_iff_exists'.mp hbn
    rcases bd_kind (h6 j y0 hj hb) with hk | hk | hk | hk
    · exact uw_notH l hlt dC dI hp hF hj hb hk
    · exact uw_notL l hlt dC dI hp hF hj hb hk
    · exact uw_S l hlt dC dI hp hF hj hb hk
    · exact uw_notC l hlt dC dI hp hF hj hb hk
  · exact uw_none l hlt dC dI hp hF (fun j hj e => Classical.byContradiction (fun z => h0 ⟨j, hj, e, z⟩))
set_option maxHeartbeats 1000000 in
theorem u_X7_cursor (l : Launch) (hlt : l.stackTraces = false) (dC : Nat → ClassId) (dI : Nat → Nat → Nat) (sz T0 : Nat) {a0 qb : Nat} {cq : ClassId} {bq : Nat → Option Nat} {ow rx cr : Nat → Nat} {a1 a4 a8 a11 : Nat → Int32} (hF : ∃ dep : Nat → Nat, rF a1 a8 dep ∧ ∀ o : Nat, o < 16 → dep o < 17) (p0 : Int32) : vx_Met l yX7_cursor wqX7_cursor ({ frames := 7, cells := 4, slots := 26, locals := 140 }) (va_Pc [.ref a0, .int p0] (aPre (dC, dI) a0 qb cq bq ow rx cr a1 a4 a8 a11 sz T0)) (va_Qi (fun (r : Int32) (u : Nat × Nat × (Nat → Option Nat) × (Nat → Nat) × (Nat → Nat) × (Nat → Nat)) => r = nI u.2.1 ∧ cuR a1 p0 0 u.1 u.2.1) (fun (u : Nat × Nat × (Nat → Option Nat) × (Nat → Nat) × (Nat → Nat) × (Nat → Nat)) (t : State) => aPostG (dC, dI) a0 qb cq ow cr sz T0 u.2.2.1 u.2.2.2.1 u.2.2.2.2.1 u.2.2.2.2.2 (upd a1 u.2.1 5) a4 (upd (upd a8 u.2.1 (-1)) u.2.1 (nI u.1)) a11 t) (aA ow sz)) (vx_X (fun (_ : (Nat → Nat) × (Nat → Nat)) => True) (fun (E : String) (u : (Nat → Nat) × (Nat → Nat)) (t : State) => ((E = "java/util/NoSuchElementException" ∧ ∃ o xx : Nat, cuR a1 p0 1 o xx) ∨ (E = "java/lang/ClassCastException" ∧ ∃ o xx : Nat, cuR a1 p0 2 o xx) ∨ (E = "java/lang/IllegalStateException" ∧ ∃ o xx : Nat, cuR a1 p0 3 o xx)) ∧ aPost (dC, dI) a0 qb cq bq ow rx cr a1 a4 a8 a11 sz T0 u t) (aA ow sz)) 4 26 (aA ow sz) := by
  refine vx_sel (fun a s hp => ?_)
  obtain ⟨rfl, hp⟩ := hp
  obtain ⟨rfl, rfl, hI⟩ := id hp
  have h6 := hI.1.2.2.2.2.2.1
  by_cases h0 : ∃ j : Nat, j < 16 ∧ p0 = nI j ∧ ¬ bq j = none
  ·
    obtain ⟨j, hj, rfl, hbn⟩ := h0
    obtain ⟨y0, hb⟩ : ∃ z, bq j = some z := Option.ne_none_iff_exists'.mp hbn
    rcases bd_kind (h6 j y0 hj hb) with hk | hk | hk | hk
    · exact ur_H l hlt dC dI hp hF hj hb hk
    · exact ur_L l hlt dC dI hp hF hj hb hk
    · exact ur_S l hlt dC dI hp hF hj hb hk
    · exact ur_notC l hlt dC dI hp hF hj hb hk
  · exact ur_none l hlt dC dI hp hF (fun j hj e => Classical.byContradiction (fun z => h0 ⟨j, hj, e, z⟩))
set_option maxHeartbeats 1000000 in
theorem u_X7_drop (l : Launch) (hlt : l.stackTraces = false) (dC : Nat → ClassId) (dI : Nat → Nat → Nat) (sz T0 : Nat) {a0 qb : Nat} {cq : ClassId} {bq : Nat → Option Nat} {ow rx cr : Nat → Nat} {a1 a4 a8 a11 : Nat → Int32} (hF : ∃ dep : Nat → Nat, rF a1 a8 dep ∧ ∀ o : Nat, o < 16 → dep o < 17) (p0 : Int32) : vx_Met l yX7_drop wqX7_drop ({ frames := 7, cells := 2, slots := 22, locals := 140 }) (va_Pc [.ref a0, .int p0] (aPre (dC, dI) a0 qb cq bq ow rx cr a1 a4 a8 a11 sz T0)) (va_Qi (fun (r : Int32) (u : Nat × (Nat → Option Nat)) => r = nI (1 + cntN (dgB a1 a8 u.1) 16) ∧ u.1 < 16 ∧ p0 = nI u.1 ∧ ¬ (a1 u.1).toInt = 0) (fun (u : Nat × (Nat → Option Nat)) (t : State) => ∀ b1 : Nat → Int32, (∀ j : Nat, j < 16 → b1 j = if j = u.1 ∨ dgB a1 a8 u.1 j = true then 0 else a1 j) → aPostG (dC, dI) a0 qb cq ow cr sz T0 u.2 ow rx cr b1 a4 a8 a11 t) (aA ow sz)) (vx_X (fun (_ : (Nat → Nat) × (Nat → Nat)) => True) (fun (E : String) (u : (Nat → Nat) × (Nat → Nat)) (t : State) => (E = "java/util/NoSuchElementException" ∧ ∀ o : Nat, o < 16 → p0 = nI o → (a1 o).toInt = 0) ∧ aPost (dC, dI) a0 qb cq bq ow rx cr a1 a4 a8 a11 sz T0 u t) (aA ow sz)) 2 22 (aA ow sz) := by
  refine vx_sel (fun a s hp => ?_)
  obtain ⟨rfl, hp⟩ := hp
  obtain ⟨rfl, rfl, hI⟩ := id hp
  have h6 := hI.1.2.2.2.2.2.1
  by_cases h0 : ∃ j : Nat, j < 16 ∧ p0 = nI j ∧ ¬ bq j = none
  ·
    obtain ⟨j, hj, rfl, hbn⟩ := h0
    obtain ⟨y0, hb⟩ : ∃ z, bq j = some z := Option.ne_none_iff_exists'.mp hbn
    exact ud_yes l hlt dC dI hp hF hj hb
  · exact ud_none l hlt dC dI hp hF (fun j hj e => Classical.byContradiction (fun z => h0 ⟨j, hj, e, z⟩))
