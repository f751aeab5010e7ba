/-! the atlas: its places -/
theorem ro_callq {p : Program} {l : Launch} {e : Env} {R : Room} {s : State} {m : MethodId} {args : Array Value} {below : List Frame} {meth : Method} {c : Code} {H : Heap} {locs : List Loc} {cells slots : Nat} {Q : State → Prop} {pc : Nat} {ls : Array Slot} {rest st0 : List Value} {a : Array Value} {S : Type} {post : Option Nat → S → Prop} (hr : va_Run p l e R s m args below meth c H locs cells slots 0 0 (F0 m pc ls st0) rest (va_Qq post (fun _ t => t.heap.size = H.size) ro_A a) ro_A)
    (kk : ∀ (r : Option Nat) (u : S), post r u → W p l e R s m args below meth c H locs cells slots Q (F0 m (pc + 3) ls (va_rf r :: rest))) : W p l e R s m args below meth c H locs cells slots Q (F0 m pc ls st0) := by
  intro T hT X
  obtain ⟨v, st₀, t, T', L, h0, X', hL, e1, e2, ⟨⟨r, u, hv, hp, hb⟩, hz, hk⟩, st⟩ := hr T hT X
  cases hv
  rw [h0] at hk
  cases ro_locs hL
  rw [List.append_nil] at X'
  obtain ⟨t2, a1, b1⟩ := kk r u hp T' (by rw [e1]; exact ro_heap hb hk) X'
  exact ⟨t2, st t2 a1, b1⟩
/-- what stands at place p -/
def bqAt (bq : Nat → Option Nat) (p : Int32) (r : Option Nat) : Prop := (∃ j : Nat, j < 16 ∧ p = nI j ∧ r = bq j) ∨ ((∀ j : Nat, j < 16 → ¬ p = nI j) ∧ r = none)
theorem bq_out {bq : Nat → Option Nat} {p : Int32} (h : p.toInt < 0 ∨ 16 ≤ p.toInt) : bqAt bq p none := Or.inr ⟨fun j hj e => by
  have h2 := nI_toInt (n := j) (by omega)
  rw [← e] at h2
  omega, rfl⟩
theorem bq_none {bq : Nat → Option Nat} {p : Int32} (h : bqAt bq p none) : ∀ j : Nat, j < 16 → p = nI j → bq j = none := fun j hj e => by
  rcases h with ⟨i, hi, e2, h3⟩ | ⟨h1, -⟩
  · rw [e] at e2
    rw [(nI_eq (by omega) (by omega)).mp e2]
    exact h3.symm
  · exact absurd e (h1 j hj)
theorem bq_some {bq : Nat → Option Nat} {p : Int32} {y : Nat} (h : bqAt bq p (some y)) : ∃ j : Nat, j < 16 ∧ p = nI j ∧ bq j = some y := by
  rcases h with ⟨i, hi, e2, h3⟩ | ⟨-, h1⟩
  · exact ⟨i, hi, e2, h3.symm⟩
  · cases h1
theorem bq_is {bq : Nat → Option Nat} {o y r : Nat} (ho : o < 16) (hb : bq o = some y) (h : ∃ j : Nat, j < 16 ∧ nI o = nI j ∧ bq j = some r) : r = y := by
  obtain ⟨j, hj, e, h2⟩ := h
  rw [← (nI_eq (by omega) (by omega)).mp e, hb] at h2
  exact (Option.some.inj h2).symm
theorem bq_no {bq : Nat → Option Nat} {o y : Nat} {P : Prop} (ho : o < 16) (hb : bq o = some y) (h : ∀ j : Nat, j < 16 → nI o = nI j → bq j = none) : P := by
  have h2 := h o ho rfl
  rw [hb] at h2
  cases h2
/-- a and b in their ranges -/
def rgH (a b : Int32) : Prop := 0 ≤ a.toInt ∧ a.toInt ≤ 1000 ∧ 0 ≤ b.toInt ∧ b.toInt ≤ 3
def rgL (a b : Int32) : Prop := 0 ≤ a.toInt ∧ a.toInt ≤ 1000 ∧ 0 ≤ b.toInt ∧ b.toInt ≤ 1
def rgS (a _b : Int32) : Prop := 0 ≤ a.toInt ∧ a.toInt ≤ 3
theorem tx_ry {r : Int32} {P : Prop} (h : (r.toInt = 1 ∧ P) ∨ (r.toInt = 0 ∧ ¬ P)) (h0 : ¬ r.toInt = 0) : P := h.elim (fun h => h.2) (fun h => absurd h.1 h0)
theorem tx_rn {r : Int32} {P : Prop} (h : (r.toInt = 1 ∧ P) ∨ (r.toInt = 0 ∧ ¬ P)) (h0 : r.toInt = 0) : ¬ P := h.elim (fun h => absurd h.1 (by omega)) (fun h => h.2)
