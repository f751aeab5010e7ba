theorem rF_rank16 {kd pa : Nat → Int32} {dep : Nat → Nat} (hF : rF kd pa dep) : ∃ d2 : Nat → Nat, rF kd pa d2 ∧ ∀ o : Nat, o < 16 → d2 o < 16 := by
  refine ⟨fun o => cntN (fun j => decide (dep j < dep o)) 16, fun o ho hk => ?_, fun o ho => ?_⟩
  · obtain ⟨p, hp, ep, hd, h1, h4, h3⟩ := hF o ho hk
    exact ⟨p, hp, ep, cnt_lt hp (fun i _ hi => decide_eq_true (by have := of_decide_eq_true hi; omega)) (decide_eq_false (by omega)) (decide_eq_true hd), h1, h4, h3⟩
  · have h := cnt_lt (f := fun j => decide (dep j < dep o)) (g := fun _ => true) ho (fun _ _ _ => rfl) (decide_eq_false (Nat.lt_irrefl _)) rfl
    rw [show cntN (fun _ => true) 16 = 16 from by decide] at h
    exact h
theorem rt_fuel {kd pa : Nat → Int32} {dep : Nat → Nat} (hF : rF kd pa dep) {n m k : Nat} (hk : k < 16) (h1 : dep k < n) (h2 : dep k < m) : rtN kd pa n k = rtN kd pa m k := by
  induction n generalizing m k with
  | zero => exact absurd h1 (Nat.not_lt_zero _)
  | succ n ih =>
    cases m with
    | zero => exact absurd h2 (Nat.not_lt_zero _)
    | succ m =>
      by_cases h : (kd k).toInt = 4
      · obtain ⟨p, hp, ep, hd, -, -, -⟩ := hF k hk (Or.inl h)
        rw [rtN_up h ep hp, rtN_up h ep hp]
        exact ih hp (by omega) (by omega)
      · rw [rtN_top h, rtN_top h]
theorem tn_fuel {kd pa wa : Nat → Int32} {dep : Nat → Nat} (hF : rF kd pa dep) {n m k : Nat} {b : Bool} (hk : k < 16) (h1 : dep k < n) (h2 : dep k < m) : tnN kd pa wa n k b = tnN kd pa wa m k b := by
  induction n generalizing m k b with
  | zero => exact absurd h1 (Nat.not_lt_zero _)
  | succ n ih =>
    cases m with
    | zero => exact absurd h2 (Nat.not_lt_zero _)
    | succ m =>
      by_cases h : (kd k).toInt = 4
      · obtain ⟨p, hp, ep, hd, -, -, -⟩ := hF k hk (Or.inl h)
        rw [tnN_up h ep hp rfl, tnN_up h ep hp rfl]
        exact ih hp (by omega) (by omega)
      · rw [tnN_top h, tnN_top h]
theorem tn_not {kd pa wa : Nat → Int32} {dep : Nat → Nat} (hF : rF kd pa dep) {n k : Nat} {b : Bool} (hk : k < 16) (h1 : dep k < n) : tnN kd pa wa n k (!b) = !(tnN kd pa wa n k b) := by
  induction n generalizing k b with
  | zero => exact absurd h1 (Nat.not_lt_zero _)
  | succ n ih =>
    by_cases h : (kd k).toInt = 4
    · obtain ⟨p, hp, ep, hd, -, -, -⟩ := hF k hk (Or.inl h)
      rw [tnN_up h ep hp rfl, tnN_up h ep hp rfl]
      by_cases hw : (wa k).toInt = 4
      · rw [if_pos hw, if_pos hw]
        exact ih hp (by omega)
      · rw [if_neg hw, if_neg hw]
        exact ih hp (by omega)
    · rw [tnN_top h, tnN_top h]
/-- a new part of o at xx: its root is o's, and how it lies -/
theorem new_part {a1 a8 a11 b1 b8 b11 : Nat → Int32} {dep : Nat → Nat} {o xx : Nat} (hF0 : rF a1 a8 dep) (ho : o < 16) (hx : (a1 xx).toInt = 0) (hk : 1 ≤ (a1 o).toInt ∧ (a1 o).toInt ≤ 4) (e1 : ∀ j : Nat, j ≠ xx → b1 j = a1 j) (e8 : ∀ j : Nat, j ≠ xx → b8 j = a8 j) (e11 : ∀ j : Nat, j ≠ xx → b11 j = a11 j) (h4 : (b1 xx).toInt = 4) (h8 : b8 xx = nI o) :
    rtN b1 b8 17 xx = rtN a1 a8 17 o ∧ tnN b1 b8 b11 17 xx false = (if (b11 xx).toInt = 4 then !(tnN a1 a8 a11 17 o false) else tnN a1 a8 a11 17 o false) := by
  obtain ⟨d2, hF, hd⟩ := rF_rank16 hF0
  have hox : o ≠ xx := fun z => by rw [z] at hk; omega
  have hS : clS a1 a8 (fun o => o < 16 ∧ o ≠ xx) := fun o ho h4 => by
    obtain ⟨p, hp, ep, -, hk1, -, -⟩ := hF o ho.1 (Or.inl h4)
    exact ⟨p, hp, ep, hp, fun z => by rw [z] at hk1; omega⟩
  obtain ⟨eR, -⟩ := rt_ext (n := 16) (o := o) hS (kd' := b1) (pa' := b8) (fun o ho => e1 o ho.2) (fun o ho => e8 o ho.2) ⟨ho, hox⟩
  refine ⟨?_, ?_⟩
  · rw [rtN_up (n := 16) h4 h8 ho, eR]
    exact rt_fuel hF ho (hd o ho) (by have := hd o ho; omega)
  · rw [tnN_up (n := 16) h4 h8 ho rfl, tn_ext (n := 16) (o := o) hS (kd' := b1) (pa' := b8) (wa := a11) (wa' := b11) (fun o ho => e1 o ho.2) (fun o ho => e8 o ho.2) (fun o ho _ => e11 o ho.2) ⟨ho, hox⟩, tn_fuel hF ho (m := 17) (hd o ho) (by have := hd o ho; omega)]
    by_cases hw : (b11 xx).toInt = 4
    · rw [if_pos hw, if_pos hw]
      exact tn_not hF ho (by have := hd o ho; omega)
    · rw [if_neg hw, if_neg hw]
theorem cmp_neg {a b : Int} : cmpI a b < 0 ↔ a < b := by
  unfold cmpI
  by_cases h : a < b
  · rw [if_pos h]
    exact ⟨fun _ => h, fun _ => by decide⟩
  · rw [if_neg h]
    by_cases h2 : a = b
    · rw [if_pos h2]
      constructor <;> intro z <;> omega
    · rw [if_neg h2]
      constructor <;> intro z <;> omega
theorem cmp_pos {a b : Int} : - cmpI a b < 0 ↔ b < a := by
  unfold cmpI
  by_cases h : a < b
  · rw [if_pos h]
    constructor <;> intro z <;> omega
  · rw [if_neg h]
    by_cases h2 : a = b
    · rw [if_pos h2]
      constructor <;> intro z <;> omega
    · rw [if_neg h2]
      constructor <;> intro z <;> omega
theorem oc_lt {t : Bool} {o : Int} {x y : Int32} : ocI t o x y < 0 ↔ (t = false ∧ rkI o x < rkI o y) ∨ (t = true ∧ rkI o y < rkI o x) := by
  unfold ocI
  cases t with
  | false =>
    rw [if_neg (by decide), cmp_neg]
    exact ⟨fun h => Or.inl ⟨rfl, h⟩, fun h => h.elim (fun h => h.2) (fun h => by cases h.1)⟩
  | true =>
    rw [if_pos rfl, cmp_pos]
    exact ⟨fun h => Or.inr ⟨rfl, h⟩, fun h => h.elim (fun h => by cases h.1) (fun h => h.2)⟩
theorem mkR_one {a1 : Nat → Int32} {p0 p1 p2 c d : Int32} {x y : Nat} (h : mkR a1 p0 p1 p2 c x) (g : mkR a1 p0 p1 p2 d y) : c = d ∧ (c = 0 → x = y) := by
  have key : (c = 0 → d = 0 → x = y) := fun hc hd => by
    subst hc; subst hd
    rcases h with ⟨z, -⟩ | ⟨-, -, ⟨z, -⟩ | ⟨-, ⟨z, -⟩ | ⟨-, ⟨z, -⟩ | ⟨-, h1, h2, h3⟩⟩⟩⟩
    · exact absurd z (by decide)
    · exact absurd z (by decide)
    · exact absurd z (by decide)
    · exact absurd z (by decide)
    · rcases g with ⟨z, -⟩ | ⟨-, -, ⟨z, -⟩ | ⟨-, ⟨z, -⟩ | ⟨-, ⟨z, -⟩ | ⟨-, g1, g2, g3⟩⟩⟩⟩
      · exact absurd z (by decide)
      · exact absurd z (by decide)
      · exact absurd z (by decide)
      · exact absurd z (by decide)
      · rcases (show x < y ∨ x = y ∨ y < x by omega) with hl | hl | hl
        · exact absurd h2 (g3 x hl)
        · exact hl
        · exact absurd g2 (h3 y hl)
  have e : c = d := by
    rcases h with ⟨hc, h1⟩ | ⟨h0, h2, ⟨hc, h3, h4⟩ | ⟨h5, ⟨hc, h6⟩ | ⟨h6, ⟨hc, h7⟩ | ⟨hc, h7, h8, h9⟩⟩⟩⟩ <;> rcases g with ⟨gc, g1⟩ | ⟨g0, g2, ⟨gc, g3, g4⟩ | ⟨g5, ⟨gc, g6⟩ | ⟨g6, ⟨gc, g7⟩ | ⟨gc, g7, g8, g9⟩⟩⟩⟩ <;> first
      | exact hc.trans gc.symm
      | (exfalso; omega)
      | exact absurd g6 h6
      | exact absurd h6 g6
      | exact absurd g8 ((show ∀ j : Nat, j < 16 → ¬ (a1 j).toInt = 0 from h7) _ g7)
      | exact absurd h8 ((show ∀ j : Nat, j < 16 → ¬ (a1 j).toInt = 0 from g7) _ h7)
  exact ⟨e, fun hc => key hc (e.symm.trans hc)⟩
