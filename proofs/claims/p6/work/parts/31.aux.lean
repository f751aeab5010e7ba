/-! what the heap holds in all: how many slots really came -/
def hT (H : Heap) : Nat := H.foldl (fun n c => n + c.slots.size) 0
section HT
variable {p : Program} {l : Launch} {e : Env} {R : Room} {s : State} {m : MethodId} {args : Array Value} {below : List Frame} {meth : Method} {c : Code} {H : Heap} {locs : List Loc} {cells slots : Nat} {Q : State → Prop} {g : JFrame}
theorem tx_used {T : State} (X : Stand p l e R s m args below meth c T locs cells slots) : s.slotsUsed = hT s.heap ∧ T.slotsUsed = hT T.heap := by
  have h0 : s.slotsTrue = true := by
    have h := X.room
    simp only [State.hasRoom, Bool.and_eq_true] at h
    exact h.2
  have h1 := X.book
  simp only [State.slotsTrue, beq_iff_eq] at h0 h1
  exact ⟨h0, h1⟩
theorem W.book (kk : H.size ≤ s.heap.size + cells → hT H ≤ hT s.heap + slots → W p l e R s m args below meth c H locs cells slots Q g) : W p l e R s m args below meth c H locs cells slots Q g := fun T hH X => by
  have h1 := X.heapSize
  have h2 := X.used
  obtain ⟨h3, h4⟩ := tx_used X
  rw [h3, h4, hH] at h2
  rw [hH] at h1
  exact kk h1 h2 T hH X
theorem W.tight {k n : Nat} (hz : H.size ≤ s.heap.size + k) (hn : hT H ≤ hT s.heap + n) (kk : W p l e R s m args below meth c H locs k n Q g) : W p l e R s m args below meth c H locs cells slots Q g := fun T hH X => by
  obtain ⟨h3, h4⟩ := tx_used X
  obtain ⟨g1, g2, g3, g4, g5, g6⟩ := X.same
  have g4' : T.slotsUsed = s.slotsUsed + (((T.setVm s.vm).heap.toList.drop s.heap.size).map (·.slots.size)).sum := g4
  rw [h3, h4, hH] at g4'
  refine kk T hH ⟨X.admits, X.cas, X.clock, X.frames, X.room, X.hears, X.method, X.code, X.here, X.tail, X.warmed, X.limits, X.bytes, g1, g2, ?_, g4, by omega, g6⟩
  show T.heap.size ≤ _
  rw [hH]
  exact hz
end HT
def pk_PreT (D : va_G) (ws : va_W) (tys : List (ClassId × FieldType)) (sz T0 : Nat) (U : State) : Prop := pk_Pre D ws tys sz U ∧ hT U.heap = T0
theorem pk_blindT {av : List Value} {D : va_G} {ws : va_W} {tys : List (ClassId × FieldType)} {sz T0 : Nat} : FrameBlind (va_Pc av (pk_PreT D ws tys sz T0)) := fun a U g mk q => by
  have h := pk_blind (av := av) (D := D) (ws := ws) (tys := tys) (sz := sz) a U g mk ⟨q.1, q.2.1⟩
  exact ⟨h.1, h.2, q.2.2⟩
theorem pk_callT {s : State} {H : Heap} {A : Nat → Prop} {av : List Value} {D : va_G} {ws : va_W} {tys : List (ClassId × FieldType)} (hP : va_P D vwCl ws H) (hK : va_K D vwCl tys s) (hD : va_D A ws) :
    ∀ U : State, U.heap = H → s.WarmedH U.vm → va_Pc av (pk_PreT D ws tys H.size (hT H)) av.toArray U := fun U hU hW => by
  have h := pk_call (av := av) hP hK hD U hU hW
  exact ⟨h.1, h.2, by rw [hU]⟩
/-- the logarithm of a length -/
def lgN (n : Nat) : Nat := Nat.log2 n
theorem lgN_dbl {n : Nat} (h : 1 ≤ n) : lgN (n * 2) = lgN n + 1 := by
  unfold lgN
  rw [Nat.log2_def (n * 2), if_pos (by omega), show n * 2 / 2 = n by omega]
theorem lgN_dbl' {n : Nat} (h : 1 ≤ n) : lgN (2 * n) = lgN n + 1 := by rw [Nat.mul_comm]; exact lgN_dbl h
theorem lgN_le {n : Nat} (h : n < 2 ^ 12) : lgN n ≤ 11 := by
  unfold lgN
  by_cases h0 : n = 0
  · subst h0; decide
  · have := (Nat.log2_lt h0 (k := 12)).mpr h
    omega
theorem lgN_two {L L2 : Nat} (h1 : 1 ≤ L) (h : L2 = L ∨ L2 = 2 * L) : lgN L2 = lgN L ∨ lgN L2 = lgN L + 1 := by
  rcases h with rfl | rfl
  · exact Or.inl rfl
  · exact Or.inr (lgN_dbl' h1)
/-- what a Hash has cost so far: slots, cells -/
def hPS (tb L : Nat) : Nat := if tb = 0 then 4 * L else 1100 + 7 * tb + 40 * min tb 16 + 4 * L
def hPC (tb L : Nat) : Nat := if tb = 0 then 2 * lgN L else 1 + 5 * lgN tb + 2 * lgN L
theorem hPS_0 {tb L : Nat} (h : tb = 0) : hPS tb L = 4 * L := if_pos h
theorem hPS_1 {tb L : Nat} (h : 1 ≤ tb) : hPS tb L = 1100 + 7 * tb + 40 * min tb 16 + 4 * L := if_neg (by omega)
theorem hPC_0 {tb L : Nat} (h : tb = 0) : hPC tb L = 2 * lgN L := if_pos h
theorem hPC_1 {tb L : Nat} (h : 1 ≤ tb) : hPC tb L = 1 + 5 * lgN tb + 2 * lgN L := if_neg (by omega)
theorem en_L' {L nz L2 n2 T : Nat} (hp : p2N L) (hT : p2N T) (h5 : L = 16 ∨ L ≤ T) (h4 : nz * 4 ≤ T * 3) (hm : L2 = L ∨ (nz = L ∧ L2 = 2 * L ∧ n2 = nz + 1)) : L2 = 16 ∨ L2 ≤ T := by
  rcases hm with rfl | ⟨h1, rfl, h3⟩
  · exact h5
  · have h0 : 1 ≤ L := by
      obtain ⟨j, rfl⟩ := hp
      exact Nat.one_le_two_pow
    exact Or.inr (p2_gt hT hp (by omega))
/-! methods that change nothing -/
def ro_A : Nat → Prop := fun _ => False
def pk_PreR (D : va_G) (ws : va_W) (tys : List (ClassId × FieldType)) (sz : Nat) (U : State) : Prop := U.heap.size = sz ∧ va_P D vwCl ws U.heap ∧ va_K D vwCl tys U
theorem pk_blindR {av : List Value} {D : va_G} {ws : va_W} {tys : List (ClassId × FieldType)} {sz : Nat} : FrameBlind (va_Pc av (pk_PreR D ws tys sz)) := fun a U g mk q => by
  obtain ⟨q0, q1, qP, qK⟩ := q
  exact ⟨q0, q1, qP, va_K.moved (u := U) (U := U.calling g mk a) (Vm.Alike.refl U.vm) qK⟩
theorem pk_callR {s : State} {H : Heap} {av : List Value} {D : va_G} {ws : va_W} {tys : List (ClassId × FieldType)} (hP : va_P D vwCl ws H) (hK : va_K D vwCl tys s) :
    ∀ U : State, U.heap = H → s.WarmedH U.vm → va_Pc av (pk_PreR D ws tys H.size) av.toArray U := fun U hU hW => ⟨rfl, by rw [hU], by rw [hU]; exact hP, va_K.moved hW.alike hK⟩
section RO
variable {p : Program} {l : Launch} {e : Env} {R : Room} {s : State} {m : MethodId} {args : Array Value} {below : List Frame} {meth : Method} {c : Code} {H : Heap} {locs : List Loc} {cells slots : Nat} {Q : State → Prop}
variable {pc : Nat} {ls : Array Slot} {rest st0 : List Value} {a : Array Value}
theorem ro_heap {H K : Heap} (hz : K.size = H.size) (hk : ∀ q : Nat, q < H.size → ¬ ro_A q → K[q]? = H[q]?) : K = H := by
  apply Array.ext_getElem?
  intro i
  by_cases h : i < H.size
  · exact hk i h (fun z => z)
  · rw [Array.getElem?_eq_none (by omega), Array.getElem?_eq_none (by omega)]
theorem ro_locs {L : List Loc} (h : ∀ q ∈ L, ro_A q.base) : L = [] := by
  cases L with
  | nil => rfl
  | cons x y => exact (h x List.mem_cons_self).elim
theorem ro_calli {S : Type} {post : Int32 → S → Prop} (hr : va_Run p l e R s m args below meth c H locs cells slots 0 0 (F0 m pc ls st0) rest (va_Qi post (fun _ t => t.heap.size = H.size) ro_A a) ro_A)
    (kk : ∀ (r : Int32) (u : S), post r u → W p l e R s m args below meth c H locs cells slots Q (F0 m (pc + 3) ls (.int r :: rest))) : W p l e R s m args below meth c H locs cells slots Q (F0 m pc ls st0) := by
  intro T hT X
  obtain ⟨v, st₀, t, T', L, h0, X', hL, e1, e2, ⟨⟨r, u, hv, hp, hb⟩, hz, hk⟩, st⟩ := hr T hT X
  cases hv
  rw [h0] at hk
  cases ro_locs hL
  rw [List.append_nil] at X'
  obtain ⟨t2, a1, b1⟩ := kk r u hp T' (by rw [e1]; exact ro_heap hb hk) X'
  exact ⟨t2, st t2 a1, b1⟩
theorem ro_calll {S : Type} {post : Int64 → S → Prop} (hr : va_Run p l e R s m args below meth c H locs cells slots 0 0 (F0 m pc ls st0) rest (va_Ql post (fun _ t => t.heap.size = H.size) ro_A a) ro_A)
    (kk : ∀ (r : Int64) (u : S), post r u → W p l e R s m args below meth c H locs cells slots Q (F0 m (pc + 3) ls (.long r :: rest))) : W p l e R s m args below meth c H locs cells slots Q (F0 m pc ls st0) := by
  intro T hT X
  obtain ⟨v, st₀, t, T', L, h0, X', hL, e1, e2, ⟨⟨r, u, hv, hp, hb⟩, hz, hk⟩, st⟩ := hr T hT X
  cases hv
  rw [h0] at hk
  cases ro_locs hL
  rw [List.append_nil] at X'
  obtain ⟨t2, a1, b1⟩ := kk r u hp T' (by rw [e1]; exact ro_heap hb hk) X'
  exact ⟨t2, st t2 a1, b1⟩
theorem ro_callv {S : Type} {post : S → Prop} (hr : va_Run p l e R s m args below meth c H locs cells slots 0 0 (F0 m pc ls st0) rest (va_Qv post (fun _ t => t.heap.size = H.size) ro_A a) ro_A)
    (kk : ∀ (u : S), post u → W p l e R s m args below meth c H locs cells slots Q (F0 m (pc + 3) ls rest)) : W p l e R s m args below meth c H locs cells slots Q (F0 m pc ls st0) := by
  intro T hT X
  obtain ⟨v, st₀, t, T', L, h0, X', hL, e1, e2, ⟨⟨u, hv, hp, hb⟩, hz, hk⟩, st⟩ := hr T hT X
  cases hv
  rw [h0] at hk
  cases ro_locs hL
  rw [List.append_nil] at X'
  obtain ⟨t2, a1, b1⟩ := kk u hp T' (by rw [e1]; exact ro_heap hb hk) X'
  exact ⟨t2, st t2 a1, b1⟩
theorem ro_callr {S : Type} {post : S → Prop} {B : S → Nat → State → Prop} (hB : ∀ u x t, B u x t → t.heap.size = H.size) (hr : va_Run p l e R s m args below meth c H locs cells slots 0 0 (F0 m pc ls st0) rest (va_Qr post B ro_A a) ro_A)
    (kk : ∀ (r : Nat) (u : S) (t : State), post u → B u r t → W p l e R s m args below meth c H locs cells slots Q (F0 m (pc + 3) ls (.ref r :: rest))) : W p l e R s m args below meth c H locs cells slots Q (F0 m pc ls st0) := by
  intro T hT X
  obtain ⟨v, st₀, t, T', L, h0, X', hL, e1, e2, ⟨⟨u, r, hv, hp, hb⟩, hz, hk⟩, st⟩ := hr T hT X
  cases hv
  rw [h0] at hk
  cases ro_locs hL
  rw [List.append_nil] at X'
  obtain ⟨t2, a1, b1⟩ := kk r u t hp hb T' (by rw [e1]; exact ro_heap (hB u r t hb) hk) X'
  exact ⟨t2, st t2 a1, b1⟩
end RO
