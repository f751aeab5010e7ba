def mK1 (k f : Int32) (nz tb fi : Nat) : Prop := k.toInt = 1 → f = nI fi ∧ fi ≤ 1000 ∧ ((tb = 0 ∧ nz = 0) ∨ (1 ≤ tb ∧ tb ≤ 2048 ∧ (∃ j : Nat, tb = 2 ^ j) ∧ nz * 4 ≤ tb * 3))
def mK2 (k f : Int32) (nz fi : Nat) : Prop := k.toInt = 2 → f = nI fi ∧ fi ≤ 1000 ∧ (0 < fi → nz ≤ fi)
def mKT (k b : Int32) (nz tb : Nat) : Prop := 0 < nz → k.toInt = 1 → 1 ≤ tb ∧ tb ≤ 2048 ∧ (∃ j : Nat, tb = 2 ^ j) ∧ b = nI tb
/-- the rows of a MAP or TREE: k its kind, f what it was made with, z its size, b its table -/
def mOK (k f z b : Int32) : Prop := ∃ nz tb fi : Nat, z = nI nz ∧ b = nI tb ∧ nz ≤ 1000 ∧ mK1 k f nz tb fi ∧ mK2 k f nz fi
theorem mo_le {k f b : Int32} {nz e : Nat} (h : mOK k f (nI nz) b) (hz : nz ≤ 1000) (he : e ≤ nz) : mOK k f (nI e) b := by
  obtain ⟨n, tb, fi, h1, h2, h3, h4, h5⟩ := h
  obtain rfl : nz = n := (nI_eq (by omega) (by omega)).mp h1
  refine ⟨e, tb, fi, rfl, h2, by omega, fun h => ?_, fun h => ?_⟩
  · obtain ⟨g1, g2, g3⟩ := h4 h
    refine ⟨g1, g2, ?_⟩
    rcases g3 with g | ⟨g4, g5, g6, g7⟩
    · exact Or.inl ⟨g.1, by omega⟩
    · exact Or.inr ⟨g4, g5, g6, by omega⟩
  · obtain ⟨g1, g2, g3⟩ := h5 h
    exact ⟨g1, g2, fun h => by have := g3 h; omega⟩
theorem mo_us {k f z b : Int32} {a : Nat → Int32} {r : Nat} (h : mOK k f z b) : mOK k f ((upd a r z) r) b := by
  rw [pk_us]
  exact h
theorem mo_go {k f z b : Int32} (h : mOK k f z b) : ∃ nz tb : Nat, z = nI nz ∧ nz ≤ 1000 ∧ mKT k b nz tb ∧ (∀ e : Nat, e ≤ nz → mOK k f (nI e) b) := by
  have h0 := h
  obtain ⟨n, tb, fi, h1, h2, h3, h4, h5⟩ := h
  refine ⟨n, tb, h1, h3, fun hn hk => ?_, fun e he => mo_le (by rw [← h1]; exact h0) h3 he⟩
  rcases (h4 hk).2.2 with g | g
  · omega
  · exact ⟨g.1, g.2.1, g.2.2.1, h2⟩
/-- what a call may do to the rows of r: it counts d changes, or leaves keys and size as they are -/
def rsR (r d : Nat) (a2 a3 a6 a7 b2 b3 b6 b7 : Nat → Int32) : Prop := outR a2 b2 r ∧ (∀ q : Nat, q ≠ r → b3 q = a3 q ∧ b6 q = a6 q ∧ b7 q = a7 q) ∧ b7 r = a7 r + nI d ∧ (d = 0 → b3 r = a3 r ∧ ∀ i : Nat, i < 1000 → b2 (4200 * r + i) = a2 (4200 * r + i))
theorem rs_rf {r : Nat} {a2 a3 a6 a7 : Nat → Int32} : rsR r 0 a2 a3 a6 a7 a2 a3 a6 a7 := ⟨outR_rf, fun _ _ => ⟨rfl, rfl, rfl⟩, by rw [show nI 0 = 0 from rfl, Int32.add_zero], fun _ => ⟨rfl, fun _ _ => rfl⟩⟩
theorem rs_tr {r d e : Nat} {a2 a3 a6 a7 b2 b3 b6 b7 c2 c3 c6 c7 : Nat → Int32} (h : rsR r d a2 a3 a6 a7 b2 b3 b6 b7) (k : rsR r e b2 b3 b6 b7 c2 c3 c6 c7) : rsR r (d + e) a2 a3 a6 a7 c2 c3 c6 c7 :=
  ⟨outR_tr h.1 k.1, fun q hq => ⟨(k.2.1 q hq).1.trans (h.2.1 q hq).1, (k.2.1 q hq).2.1.trans (h.2.1 q hq).2.1, (k.2.1 q hq).2.2.trans (h.2.1 q hq).2.2⟩, by rw [k.2.2.1, h.2.2.1, Int32.add_assoc, nI_add], fun hd => ⟨(k.2.2.2 (by omega)).1.trans (h.2.2.2 (by omega)).1, fun i hi => ((k.2.2.2 (by omega)).2 i hi).trans ((h.2.2.2 (by omega)).2 i hi)⟩⟩
theorem rs_1 {r : Nat} {a2 a3 a6 a7 b2 b6 : Nat → Int32} {z : Int32} (h : outR a2 b2 r) (h6 : ∀ q : Nat, q ≠ r → b6 q = a6 q) : rsR r 1 a2 a3 a6 a7 b2 (upd a3 r z) b6 (upd a7 r (a7 r + 1)) :=
  ⟨h, fun q hq => ⟨pk_un hq, h6 q hq, pk_un hq⟩, pk_us, fun h => absurd h (by omega)⟩
theorem rs_t {r : Nat} {a2 a3 a6 a7 b2 b7 : Nat → Int32} (h : (b2 = a2 ∧ b7 = a7) ∨ (outR a2 b2 r ∧ b7 = upd a7 r (a7 r + 1))) : ∃ d : Nat, d ≤ 1 ∧ rsR r d a2 a3 a6 a7 b2 a3 a6 b7 := by
  rcases h with ⟨rfl, rfl⟩ | ⟨h, rfl⟩
  · exact ⟨0, by omega, rs_rf⟩
  · exact ⟨1, by omega, h, fun q hq => ⟨rfl, rfl, pk_un hq⟩, pk_us, fun h => absurd h (by omega)⟩
theorem rs_v {r d m j : Nat} {x : Int32} {a2 a3 a6 a7 b2 b3 b6 b7 : Nat → Int32} (h : rsR r d a2 a3 a6 a7 b2 b3 b6 b7) (hj : j = 4200 * r + m) (h1 : 1000 ≤ m) (h2 : m < 4200) : rsR r d a2 a3 a6 a7 (upd b2 j x) b3 b6 b7 :=
  ⟨outR_up' h.1 hj h2, h.2.1, h.2.2.1, fun hd => ⟨(h.2.2.2 hd).1, fun i hi => (pk_un (by omega)).trans ((h.2.2.2 hd).2 i hi)⟩⟩
theorem cnt_io {a1 a2 b2 a4 a8 a9 a10 a11 : Nat → Int32} {o r n : Nat} (hr : rtN a1 a8 17 o = r) (hn : n ≤ 1000) (h : ∀ i : Nat, i < 1000 → b2 (4200 * r + i) = a2 (4200 * r + i)) : cntN (inO a1 b2 a4 a8 a9 a10 a11 o) n = cntN (inO a1 a2 a4 a8 a9 a10 a11 o) n := cnt_ext (fun i hi => by
  unfold inO
  rw [hr, h i (by omega)])
theorem cnt_go {a1 a2 b2 a4 a8 a9 a10 a11 : Nat → Int32} {o r n k : Nat} (hr : rtN a1 a8 17 o = r) (hn : n ≤ 1000) (hk : k < n) (h : shR a2 b2 r k (n - 1)) : cntN (inO a1 a2 a4 a8 a9 a10 a11 o) n ≤ cntN (inO a1 b2 a4 a8 a9 a10 a11 o) (n - 1) + 1 := by
  obtain ⟨m, rfl⟩ : ∃ m, n = m + 1 := ⟨n - 1, by omega⟩
  have h1 := cnt_sh (f := inO a1 a2 a4 a8 a9 a10 a11 o) (g := inO a1 b2 a4 a8 a9 a10 a11 o) (k := k) (n := m) (by omega) (fun j hj => by
    unfold inO
    rw [hr, h j (by omega)]
    by_cases hc : k ≤ j
    · rw [if_pos ⟨hc, by omega⟩, if_pos hc]
    · rw [if_neg (by omega), if_neg hc])
  rw [h1, show m + 1 - 1 = m by omega]
  split <;> omega
theorem nI_m1 {k : Nat} (h : k < 2147483648) : (nI k + -1).toInt = (k : Int) - 1 := by
  rw [Int32.toInt_add, nI_toInt h, show (-1 : Int32).toInt = -1 from rfl, tx_bm (by omega) (by omega)]
  omega
theorem nI_nat {x : Int32} {n : Nat} (h0 : 0 ≤ x.toInt) (h1 : x.toInt < n) (hn : n ≤ 100000) : ∃ k : Nat, k < n ∧ x = nI k := vp_in_of (tx_in h0 h1) (by omega)
theorem nI_s1 {k : Nat} (h : k < 2147483648) : (nI k - 1).toInt = (k : Int) - 1 := by
  rw [Int32.toInt_sub, nI_toInt h, show (1 : Int32).toInt = 1 from rfl, tx_bm (by omega) (by omega)]
theorem at_i {x z : Int32} {nz : Nat} (h : x = -1 ∨ ∃ j : Nat, j < nz ∧ x = nI j) (hz : z = nI nz) (hn : nz ≤ 1000) : x = -1 ∨ ∃ j : Nat, nI j = x ∧ (j : Int) < z.toInt := by
  rcases h with h | ⟨j, hj, e⟩
  · exact Or.inl h
  · refine Or.inr ⟨j, e.symm, ?_⟩
    rw [hz, nI_toInt (by omega)]
    omega
theorem w_join {p : Program} {l : Launch} {e : Env} {R : Room} {s : State} {m : MethodId} {args : Array Value} {below : List Frame} {meth : Method} {c : Code} {H : Heap} {locs : List Loc} {cells slots : Nat} {Q : State → Prop} {g : JFrame} {α : Type} {hh : α → Heap} {lc : α → List Loc} {F : α → JFrame} {Pre : α → Prop} (h1 : ∀ a, Pre a → W p l e R s m args below meth c (hh a) (lc a) cells slots Q (F a)) (h2 : (∀ a, Pre a → W p l e R s m args below meth c (hh a) (lc a) cells slots Q (F a)) → W p l e R s m args below meth c H locs cells slots Q g) : W p l e R s m args below meth c H locs cells slots Q g := h2 h1
