/-! what hangs on what, in the class -/
def obW (D : va_G) (y : Nat) (w : Int32) (H : Heap) : Prop :=
  (∃ v0 v2 v3 v4 v5 : Value, va_at D vwCl (y, .inr (2, [v0, .int w, v2, v3, v4, v5])) H) ∨ (∃ v0 v1 v3 v4 v5 v6 : Value, va_at D vwCl (y, .inr (3, [v0, v1, .int w, v3, v4, v5, v6])) H) ∨ (∃ v0 v1 v3 v4 : Value, va_at D vwCl (y, .inr (4, [v0, v1, .int w, v3, v4])) H) ∨ (∃ v0 v1 v3 v4 v5 v6 : Value, va_at D vwCl (y, .inr (6, [v0, v1, .int w, v3, v4, v5, v6])) H)
theorem obW.lt {D : va_G} {y : Nat} {w : Int32} {H : Heap} (h : obW D y w H) : y < H.size := by
  rcases h with ⟨_, _, _, _, _, h⟩ | ⟨_, _, _, _, _, _, h⟩ | ⟨_, _, _, _, h⟩ | ⟨_, _, _, _, _, _, h⟩ <;> exact h.lt
theorem obW.kept {D : va_G} {y : Nat} {w : Int32} {H H1 : Heap} (h : obW D y w H) (hq : H1[y]? = H[y]?) : obW D y w H1 := by
  rcases h with ⟨a, b, c, d, e, h⟩ | ⟨a, b, c, d, e, f, h⟩ | ⟨a, b, c, d, h⟩ | ⟨a, b, c, d, e, f, h⟩
  · exact Or.inl ⟨a, b, c, d, e, h.kept hq⟩
  · exact Or.inr (Or.inl ⟨a, b, c, d, e, f, h.kept hq⟩)
  · exact Or.inr (Or.inr (Or.inl ⟨a, b, c, d, h.kept hq⟩))
  · exact Or.inr (Or.inr (Or.inr ⟨a, b, c, d, e, f, h.kept hq⟩))
def bdW (D : va_G) (bq : Nat → Option Nat) (wh : Nat → Int32) (H : Heap) : Prop := ∀ j y : Nat, j < 16 → bq j = some y → obW D y (wh j) H
def pk_PreRB (D : va_G) (ws : va_W) (tys : List (ClassId × FieldType)) (bq : Nat → Option Nat) (wh : Nat → Int32) (sz : Nat) (U : State) : Prop := pk_PreR D ws tys sz U ∧ bdW D bq wh U.heap
theorem pk_blindRB {av : List Value} {D : va_G} {ws : va_W} {tys : List (ClassId × FieldType)} {bq : Nat → Option Nat} {wh : Nat → Int32} {sz : Nat} : FrameBlind (va_Pc av (pk_PreRB D ws tys bq wh sz)) := fun a U g mk q => by
  have h := pk_blindR (av := av) (D := D) (ws := ws) (tys := tys) (sz := sz) a U g mk ⟨q.1, q.2.1⟩
  exact ⟨h.1, h.2, q.2.2⟩
theorem pk_callRB {s : State} {H : Heap} {av : List Value} {D : va_G} {ws : va_W} {tys : List (ClassId × FieldType)} {bq : Nat → Option Nat} {wh : Nat → Int32} (hP : va_P D vwCl ws H) (hK : va_K D vwCl tys s) (hB : bdW D bq wh H) :
    ∀ U : State, U.heap = H → s.WarmedH U.vm → va_Pc av (pk_PreRB D ws tys bq wh H.size) av.toArray U := fun U hU hW => by
  have h := pk_callR (av := av) hP hK U hU hW
  exact ⟨h.1, h.2, by rw [hU]; exact hB⟩
def pk_PreXB (D : va_G) (ws : va_W) (tys : List (ClassId × FieldType)) (bq : Nat → Option Nat) (wh : Nat → Int32) (sz : Nat) (U : State) : Prop := pk_PreX D ws tys sz U ∧ bdW D bq wh U.heap
theorem pk_blindXB {av : List Value} {D : va_G} {ws : va_W} {tys : List (ClassId × FieldType)} {bq : Nat → Option Nat} {wh : Nat → Int32} {sz : Nat} : FrameBlind (va_Pc av (pk_PreXB D ws tys bq wh sz)) := fun a U g mk q => by
  have h := pk_blindX (av := av) (D := D) (ws := ws) (tys := tys) (sz := sz) a U g mk ⟨q.1, q.2.1⟩
  exact ⟨h.1, h.2, q.2.2⟩
/-- the place that a number names, if something stands there -/
def bqI (bq : Nat → Option Nat) (p : Int32) : Option Nat := if 0 ≤ p.toInt ∧ p.toInt < 16 ∧ ¬ bq p.toInt.toNat = none then some p.toInt.toNat else none
theorem bqI_none {bq : Nat → Option Nat} {p : Int32} (h : bqAt bq p none) : bqI bq p = none := by
  unfold bqI
  refine if_neg (fun z => z.2.2 (bq_none h p.toInt.toNat (by omega) ?_))
  apply Int32.toInt_inj.mp
  rw [nI_toInt (by omega)]
  omega
theorem bqI_some {bq : Nat → Option Nat} {j y : Nat} (hj : j < 16) (h : bq j = some y) : bqI bq (nI j) = some j := by
  unfold bqI
  rw [nI_toInt (by omega)]
  have e : ((j : Nat) : Int).toNat = j := by omega
  rw [e, if_pos ⟨by omega, by omega, by rw [h]; exact fun z => by cases z⟩]
def ipN (bq : Nat → Option Nat) (wh : Nat → Int32) : Nat → Int32 → Int32 → Bool
  | 0, x, o => decide (x = o)
  | n + 1, x, o => if x = o then true else match bqI bq x with
    | none => false
    | some j => ipN bq wh n (wh j) o
theorem ip_eq {bq : Nat → Option Nat} {wh : Nat → Int32} {n : Nat} {x o : Int32} (h : x = o) : ipN bq wh n x o = true := by
  cases n with
  | zero => exact decide_eq_true h
  | succ n => exact if_pos h
theorem ip_no {bq : Nat → Option Nat} {wh : Nat → Int32} {n : Nat} {x o : Int32} (h : ¬ x = o) (hb : bqI bq x = none) : ipN bq wh n x o = false := by
  cases n with
  | zero => exact decide_eq_false h
  | succ n =>
    unfold ipN
    rw [if_neg h, hb]
theorem ip_up {bq : Nat → Option Nat} {wh : Nat → Int32} {n j : Nat} {x o : Int32} (h : ¬ x = o) (hb : bqI bq x = some j) : ipN bq wh (n + 1) x o = ipN bq wh n (wh j) o := by
  rw [ipN, if_neg h, hb]
theorem tz_nar {b : Bool} : vp_nar .boolean (tz b) = tz b := by cases b <;> rfl
theorem va_P1 {D : va_G} {cl : List vw_C} {q : Nat × va_E} {H : Heap} (h : va_at D cl q H) : va_P D cl [q] H := fun k x hk => by
  cases k with
  | zero => cases hk; exact h
  | succ k => simp at hk
/-- the objects of the places are none of the atlas's own two cells -/
theorem bdW_kept {D : va_G} {bq : Nat → Option Nat} {wh : Nat → Int32} {H0 H : Heap} {A : Nat → Prop} {locs : List Loc} (hB : bdW D bq wh H0) (hn : ∀ j y : Nat, j < 16 → bq j = some y → ¬ A y) (hS : va_S A H0 H locs) : bdW D bq wh H := fun j y hj hy => (hB j y hj hy).kept (hS.2.1 y (hB j y hj hy).lt (hn j y hj hy))
theorem up_if {α : Type} {f g : Nat → Option α} {i j : Nat} {P : Nat → Bool} (h : ∀ j : Nat, g j = if j < i ∧ P j = true then none else f j) (hp : P i = true) : va_up g i none j = if j < i + 1 ∧ P j = true then none else f j := by
  by_cases hj : j = i
  · subst hj
    rw [va_up_self, if_pos ⟨by omega, hp⟩]
  · rw [va_up_ne _ _ hj, h j]
    by_cases hc : j < i ∧ P j = true
    · rw [if_pos hc, if_pos ⟨by omega, hc.2⟩]
    · rw [if_neg hc, if_neg (fun z => hc ⟨by have := z.1; omega, z.2⟩)]
theorem up_no {α : Type} {f g : Nat → Option α} {i j : Nat} {P : Nat → Bool} (h : ∀ j : Nat, g j = if j < i ∧ P j = true then none else f j) (hp : P i = false) : g j = if j < i + 1 ∧ P j = true then none else f j := by
  rw [h j]
  by_cases hc : j < i ∧ P j = true
  · rw [if_pos hc, if_pos ⟨by omega, hc.2⟩]
  · rw [if_neg hc, if_neg (fun z => hc ⟨by
      have h1 := z.1
      have h2 : j ≠ i := fun e => by rw [e] at z; rw [hp] at z; exact absurd z.2 (by decide)
      omega, z.2⟩)]
