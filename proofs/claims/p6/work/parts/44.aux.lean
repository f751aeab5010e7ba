/-! read-only methods that may throw; what a throw costs; two objects -/
theorem hT_same {s t : State} {L : List Loc} {k n : Nat} (h0 : s.slotsTrue = true) (h : s.sameButNew t L k n) : hT t.heap ≤ hT s.heap + n ∧ t.heap.size ≤ s.heap.size + k := by
  have h1 := State.slotsTrue_of_sameButNew h0 h
  simp only [State.slotsTrue, beq_iff_eq] at h0 h1
  obtain ⟨-, -, h3, h4, h5, -⟩ := h
  unfold hT
  rw [← h0, ← h1]
  exact ⟨by omega, h3⟩
def roN (sz : Nat) : Nat → Prop := fun q => sz ≤ q
def pk_PreXR (D : va_G) (ws : va_W) (tys : List (ClassId × FieldType)) (sz : Nat) (U : State) : Prop := U.heap.size = sz ∧ va_P D vwCl ws U.heap ∧ va_K D vwCl tys U ∧ p_N U ∧ p_Z (roN sz) U U.heap
theorem pk_blindXR {av : List Value} {D : va_G} {ws : va_W} {tys : List (ClassId × FieldType)} {sz : Nat} : FrameBlind (va_Pc av (pk_PreXR D ws tys sz)) := fun a U g mk q => by
  obtain ⟨q0, q1, qP, qK, qN, qZ⟩ := q
  exact ⟨q0, q1, qP, va_K.moved (u := U) (U := U.calling g mk a) (Vm.Alike.refl U.vm) qK, p_N.warm (s := U) (U := U.calling g mk a) qN (State.WarmedH.refl U), p_Z.moved (u := U) (U := U.calling g mk a) qZ (Vm.Alike.refl U.vm)⟩
theorem pk_callXR {s : State} {H : Heap} {av : List Value} {D : va_G} {ws : va_W} {tys : List (ClassId × FieldType)} (hP : va_P D vwCl ws H) (hK : va_K D vwCl tys s) (hN : p_N s) (hZ : p_Z (roN H.size) s H) :
    ∀ U : State, U.heap = H → s.WarmedH U.vm → va_Pc av (pk_PreXR D ws tys H.size) av.toArray U := fun U hU hW => ⟨rfl, by rw [hU], by rw [hU]; exact hP, va_K.moved hW.alike hK, hN.warm hW, by rw [hU]; exact hZ.moved hW.alike⟩
section ROX
variable {p : Program} {l : Launch} {e : Env} {R : Room} {s : State} {m : MethodId} {args : Array Value} {below : List Frame} {meth : Method} {c : Code} {H : Heap} {locs : List Loc} {cells slots : Nat} {Q : State → Prop}
variable {pc : Nat} {ls : Array Slot} {rest st0 : List Value} {a : Array Value} {A0 : Nat → Prop} {H0 : Heap} {mc ms : Nat}
theorem rox_keep {st t T' : State} {L : List Loc} (h0 : st.heap = H) (e1 : T'.heap = t.heap) (hS : va_S A0 H0 H locs) (hA0 : ∀ q, H.size ≤ q → A0 q) (hL : ∀ q ∈ L, roN H.size q.base) (hF : va_F (roN H.size) st t) :
    H.size ≤ T'.heap.size ∧ (∀ q : Nat, q < H.size → T'.heap[q]? = H[q]?) ∧ va_S A0 H0 T'.heap (locs ++ L) := by
  obtain ⟨hz, hk⟩ := hF
  rw [h0] at hz hk
  have hk2 : ∀ q : Nat, q < H.size → T'.heap[q]? = H[q]? := fun q h => by rw [e1]; exact hk q h (fun z => absurd z (Nat.not_le.mpr h))
  refine ⟨by rw [e1]; exact hz, hk2, Nat.le_trans hS.1 (by rw [e1]; exact hz), fun q h1 h2 => ?_, fun q hq => ?_⟩
  · rw [hk2 q (Nat.lt_of_lt_of_le h1 hS.1)]
    exact hS.2.1 q h1 h2
  · rcases List.mem_append.mp hq with h | h
    · exact hS.2.2 q h
    · exact hA0 _ (hL q h)
theorem rox_calli {S SX : Type} {post : Int32 → S → Prop} {px : SX → Prop} {BX : String → SX → State → Prop} (hr : vx_Run p l e R s m args below meth c H locs cells slots mc ms (F0 m pc ls st0) rest (va_Qi post (fun _ t => t.heap.size = H.size) (roN H.size) a) (vx_X px BX (roN H.size)) (roN H.size)) (hS : va_S A0 H0 H locs) (hA0 : ∀ q, H.size ≤ q → A0 q)
    (kx : ∀ (E : String) (ce : Cell) (q9 : Addr) (u : SX) (t : State) (H1 : Heap) (locs1 : List Loc), t.heap = H1 → s.vm.Alike t.vm → px u → BX E u t → H.size ≤ H1.size → (∀ q : Nat, q < H.size → H1[q]? = H[q]?) → va_S A0 H0 H1 locs1 → H1[q9]? = some ce → ce.vm = .none → s.vm.findClass E = some ce.cls → vx_W p l e R s m args below meth c H1 locs1 (cells + mc) (slots + ms) Q (F0 m pc ls rest) q9)
    (kk : ∀ (r : Int32) (u : S) (locs1 : List Loc), post r u → va_S A0 H0 H locs1 → W p l e R s m args below meth c H locs1 (cells + mc) (slots + ms) Q (F0 m (pc + 3) ls (.int r :: rest))) : W p l e R s m args below meth c H locs cells slots Q (F0 m pc ls st0) := by
  intro T hT X
  rcases hr T hT X with ⟨v, st₀, t, T', L, h0, X', hL, e1, e2, ⟨⟨r, u, hv, hp, hb⟩, hF⟩, st⟩ | ⟨q, st₀, t, T', L, E, ce, h0, X', hL, e1, e2, ⟨u, hp, hb, hF⟩, hce, hcv, hcl, st⟩
  · cases hv
    obtain ⟨k1, k2, k3⟩ := rox_keep h0 e1 hS hA0 hL hF
    have hH : T'.heap = H := ro_heap (by rw [e1]; exact hb) (fun q h _ => k2 q h)
    rw [hH] at k3
    obtain ⟨t2, a1, b1⟩ := kk r u (locs ++ L) hp k3 T' hH X'
    exact ⟨t2, st t2 a1, b1⟩
  · obtain ⟨k1, k2, k3⟩ := rox_keep h0 e1 hS hA0 hL hF
    obtain ⟨t2, a1, b1⟩ := kx E ce q u t T'.heap (locs ++ L) e1.symm (by rw [← e2]; exact X'.warmed.alike) hp hb k1 k2 k3 (by rw [e1]; exact hce) hcv hcl T' rfl X'
    exact ⟨t2, st.trans a1, b1⟩
theorem rox_callv {S SX : Type} {post : S → Prop} {px : SX → Prop} {BX : String → SX → State → Prop} (hr : vx_Run p l e R s m args below meth c H locs cells slots mc ms (F0 m pc ls st0) rest (va_Qv post (fun _ t => t.heap.size = H.size) (roN H.size) a) (vx_X px BX (roN H.size)) (roN H.size)) (hS : va_S A0 H0 H locs) (hA0 : ∀ q, H.size ≤ q → A0 q)
    (kx : ∀ (E : String) (ce : Cell) (q9 : Addr) (u : SX) (t : State) (H1 : Heap) (locs1 : List Loc), t.heap = H1 → s.vm.Alike t.vm → px u → BX E u t → H.size ≤ H1.size → (∀ q : Nat, q < H.size → H1[q]? = H[q]?) → va_S A0 H0 H1 locs1 → H1[q9]? = some ce → ce.vm = .none → s.vm.findClass E = some ce.cls → vx_W p l e R s m args below meth c H1 locs1 (cells + mc) (slots + ms) Q (F0 m pc ls rest) q9)
    (kk : ∀ (u : S) (locs1 : List Loc), post u → va_S A0 H0 H locs1 → W p l e R s m args below meth c H locs1 (cells + mc) (slots + ms) Q (F0 m (pc + 3) ls rest)) : W p l e R s m args below meth c H locs cells slots Q (F0 m pc ls st0) := by
  intro T hT X
  rcases hr T hT X with ⟨v, st₀, t, T', L, h0, X', hL, e1, e2, ⟨⟨u, hv, hp, hb⟩, hF⟩, st⟩ | ⟨q, st₀, t, T', L, E, ce, h0, X', hL, e1, e2, ⟨u, hp, hb, hF⟩, hce, hcv, hcl, st⟩
  · cases hv
    obtain ⟨k1, k2, k3⟩ := rox_keep h0 e1 hS hA0 hL hF
    have hH : T'.heap = H := ro_heap (by rw [e1]; exact hb) (fun q h _ => k2 q h)
    rw [hH] at k3
    obtain ⟨t2, a1, b1⟩ := kk u (locs ++ L) hp k3 T' hH X'
    exact ⟨t2, st t2 a1, b1⟩
  · obtain ⟨k1, k2, k3⟩ := rox_keep h0 e1 hS hA0 hL hF
    obtain ⟨t2, a1, b1⟩ := kx E ce q u t T'.heap (locs ++ L) e1.symm (by rw [← e2]; exact X'.warmed.alike) hp hb k1 k2 k3 (by rw [e1]; exact hce) hcv hcl T' rfl X'
    exact ⟨t2, st.trans a1, b1⟩
theorem rox_callr {S SX : Type} {post : S → Prop} {B : S → Nat → State → Prop} {px : SX → Prop} {BX : String → SX → State → Prop} (hB : ∀ u x t, B u x t → t.heap.size = H.size) (hr : vx_Run p l e R s m args below meth c H locs cells slots mc ms (F0 m pc ls st0) rest (va_Qr post B (roN H.size) a) (vx_X px BX (roN H.size)) (roN H.size)) (hS : va_S A0 H0 H locs) (hA0 : ∀ q, H.size ≤ q → A0 q)
    (kx : ∀ (E : String) (ce : Cell) (q9 : Addr) (u : SX) (t : State) (H1 : Heap) (locs1 : List Loc), t.heap = H1 → s.vm.Alike t.vm → px u → BX E u t → H.size ≤ H1.size → (∀ q : Nat, q < H.size → H1[q]? = H[q]?) → va_S A0 H0 H1 locs1 → H1[q9]? = some ce → ce.vm = .none → s.vm.findClass E = some ce.cls → vx_W p l e R s m args below meth c H1 locs1 (cells + mc) (slots + ms) Q (F0 m pc ls rest) q9)
    (kk : ∀ (r : Nat) (u : S) (t : State) (locs1 : List Loc), post u → B u r t → va_S A0 H0 H locs1 → W p l e R s m args below meth c H locs1 (cells + mc) (slots + ms) Q (F0 m (pc + 3) ls (.ref r :: rest))) : W p l e R s m args below meth c H locs cells slots Q (F0 m pc ls st0) := by
  intro T hT X
  rcases hr T hT X with ⟨v, st₀, t, T', L, h0, X', hL, e1, e2, ⟨⟨u, r, hv, hp, hb⟩, hF⟩, st⟩ | ⟨q, st₀, t, T', L, E, ce, h0, X', hL, e1, e2, ⟨u, hp, hb, hF⟩, hce, hcv, hcl, st⟩
  · cases hv
    obtain ⟨k1, k2, k3⟩ := rox_keep h0 e1 hS hA0 hL hF
    have hH : T'.heap = H := ro_heap (by rw [e1]; exact hB u r t hb) (fun q h _ => k2 q h)
    rw [hH] at k3
    obtain ⟨t2, a1, b1⟩ := kk r u t (locs ++ L) hp hb k3 T' hH X'
    exact ⟨t2, st t2 a1, b1⟩
  · obtain ⟨k1, k2, k3⟩ := rox_keep h0 e1 hS hA0 hL hF
    obtain ⟨t2, a1, b1⟩ := kx E ce q u t T'.heap (locs ++ L) e1.symm (by rw [← e2]; exact X'.warmed.alike) hp hb k1 k2 k3 (by rw [e1]; exact hce) hcv hcl T' rfl X'
    exact ⟨t2, st.trans a1, b1⟩
/-- what was thrown has cost no more than what came up to here -/
theorem vx_tightQ {Qc : Array Value → State → Outcome → State → Prop} {XC XC0 : String → State → State → Prop} {free : Addr → Prop} {k0 n0 : Nat} {T t : State} (X : Stand p l e R s m args below meth c T locs cells slots) (h1 : k0 ≤ mc) (h2 : n0 ≤ ms) (hx : ∀ E t, XC0 E s t → t.heap.size ≤ s.heap.size + k0 → hT t.heap ≤ hT s.heap + n0 → XC E s t)
    (hq : vx_MQ below Qc XC0 args s k0 n0 free t) : vx_MQ below Qc XC args s mc ms free t := by
  obtain ⟨o, b1, b2, b3⟩ := hq
  have h0 : s.slotsTrue = true := by
    have h := X.room
    simp only [State.hasRoom, Bool.and_eq_true] at h
    exact h.2
  refine ⟨o, b1, b2, ?_⟩
  rcases b3 with ⟨g1, L, ⟨g2, g3, g4⟩, g5⟩ | ⟨q, g1, E, ce, L, g2, g3, g4, g5, g6, g7, g8⟩
  · exact Or.inl ⟨g1, L, ⟨g2, g3, g4.mono h1 h2⟩, g5⟩
  · obtain ⟨z1, z2⟩ := hT_same h0 g7
    exact Or.inr ⟨q, g1, E, ce, L, hx E t g2 z2 z1, g3, g4, g5, g6, g7.mono h1 h2, g8⟩
theorem vx_tightX {Qc : Array Value → State → Outcome → State → Prop} {XC XC0 : String → State → State → Prop} {free : Addr → Prop} {g : JFrame} (k0 n0 : Nat) (h1 : k0 ≤ mc) (h2 : n0 ≤ ms) (hx : ∀ E t, XC0 E s t → t.heap.size ≤ s.heap.size + k0 → hT t.heap ≤ hT s.heap + n0 → XC E s t)
    (kk : W p l e R s m args below meth c H locs cells slots (vx_MQ below Qc XC0 args s k0 n0 free) g) : W p l e R s m args below meth c H locs cells slots (vx_MQ below Qc XC args s mc ms free) g := fun T hT X => by
  obtain ⟨t, a1, b1⟩ := kk T hT X
  exact ⟨t, a1, vx_tightQ X h1 h2 hx b1⟩
theorem vx_tightO {Qc : Array Value → State → Outcome → State → Prop} {XC XC0 : String → State → State → Prop} {free : Addr → Prop} {g : JFrame} {q : Addr} (k0 n0 : Nat) (h1 : k0 ≤ mc) (h2 : n0 ≤ ms) (hx : ∀ E t, XC0 E s t → t.heap.size ≤ s.heap.size + k0 → hT t.heap ≤ hT s.heap + n0 → XC E s t)
    (kk : vx_W p l e R s m args below meth c H locs cells slots (vx_MQ below Qc XC0 args s k0 n0 free) g q) : vx_W p l e R s m args below meth c H locs cells slots (vx_MQ below Qc XC args s mc ms free) g q := fun T hT X => by
  obtain ⟨t, a1, b1⟩ := kk T hT X
  exact ⟨t, a1, vx_tightQ X h1 h2 hx b1⟩
/-- fewer cells and slots, where what came is known -/
theorem vx_tightW {g : JFrame} {q : Addr} {k n : Nat} (hz : H.size ≤ s.heap.size + k) (hn : hT H ≤ hT s.heap + n) (kk : vx_W p l e R s m args below meth c H locs k n Q g q) : vx_W p l e R s m args below meth c H locs cells slots Q g q := fun T hH X => by
  obtain ⟨h3, h4⟩ := tx_used X
  obtain ⟨g1, g2, g3, g4, g5, g6⟩ := X.same
  have g4' : T.slotsUsed = s.slotsUsed + (((T.setVm s.vm).heap.toList.drop s.heap.size).map (·.slots.size)).sum := g4
  rw [h3, h4, hH] at g4'
  refine kk T hH ⟨X.admits, X.cas, X.clock, X.frames, X.room, X.hears, X.method, X.code, X.here, X.tail, X.warmed, X.limits, X.bytes, g1, g2, ?_, g4, by omega, g6⟩
  show T.heap.size ≤ _
  rw [hH]
  exact hz
end ROX
theorem hPS_mono {tb L nz cap t2 L2 n2 : Nat} (h : enP tb L nz cap t2 L2 n2) (hH : hOK tb L nz cap) : hPS tb L ≤ hPS t2 L2 ∧ hPC tb L ≤ hPC t2 L2 := by
  obtain ⟨-, h1, h2, h3, h4⟩ := h
  have hL1 : 1 ≤ L := by have := hH.1.1; omega
  have hl := lgN_two (L := L) (L2 := L2) hL1 (by omega)
  by_cases h0 : tb = 0
  · rw [hPS_0 h0, hPC_0 h0]
    by_cases h5 : t2 = 0
    · rw [hPS_0 h5, hPC_0 h5]
      omega
    · rw [hPS_1 (tb := t2) (by omega), hPC_1 (tb := t2) (by omega)]
      omega
  · rw [hPS_1 (tb := tb) (by omega), hPC_1 (tb := tb) (by omega), hPS_1 (tb := t2) (by omega), hPC_1 (tb := t2) (by omega)]
    have hl2 := lgN_two (L := tb) (L2 := t2) (by omega) (by omega)
    omega
theorem hPS_le {tb L nz cap : Nat} (h : hOK tb L nz cap) : hPS tb L ≤ 25000 ∧ hPC tb L ≤ 100 := by
  have h2 := hOK_tb h
  have h1 := h.1
  unfold rOK at h1
  have g1 := lgN_le (n := L) (by omega)
  have g2 := lgN_le (n := tb) (by omega)
  by_cases h0 : tb = 0
  · rw [hPS_0 h0, hPC_0 h0]
    omega
  · rw [hPS_1 (tb := tb) (by omega), hPC_1 (tb := tb) (by omega)]
    omega
theorem tx_hv2 {p : Program} {l : Launch} {e : Env} {R : Room} {s : State} {m : MethodId} {args : Array Value} {below : List Frame} {meth : Method} {c : Code} {H H0 : Heap} {locs : List Loc} {cells slots : Nat} {Q : State → Prop} {g : JFrame} (hH : H = H0) (k : W p l e R s m args below meth c H locs cells slots Q g) : W p l e R s m args below meth c H0 locs cells slots Q g := by
  subst hH
  exact k
