/-! contracts put together: whichever fits the start -/
def rmLe (a b : Room) : Prop := a.frames ≤ b.frames ∧ a.cells ≤ b.cells ∧ a.slots ≤ b.slots ∧ a.locals ≤ b.locals
theorem room_le {s : State} {pl : Platform} {a b : Room} (h : rmLe a b) (hr : s.hasRoom pl b = true) : s.hasRoom pl a = true := by
  obtain ⟨h1, h2, h3, h4⟩ := h
  simp only [State.hasRoom, Bool.and_eq_true, decide_eq_true_eq] at hr ⊢
  obtain ⟨⟨⟨⟨g0, g1, g2, g3, g4, g5⟩, g6⟩, g7⟩, g8⟩ := hr
  exact ⟨⟨⟨⟨by omega, by omega, by omega, by omega, by omega, g5⟩, by omega⟩, by omega⟩, g8⟩
theorem vx_union {l : Launch} {y : MethodName} {ws : List Cond} {rm' : Room} {Pc' : Array Value → State → Prop} {Qc' : Array Value → State → Outcome → State → Prop} {XC' : String → State → State → Prop} {mc' ms' : Nat} {free' : Addr → Prop}
    (h : ∀ (a : Array Value) (s : State), Pc' a s → ∃ (rm : Room) (Pc : Array Value → State → Prop) (Qc : Array Value → State → Outcome → State → Prop) (XC : String → State → State → Prop) (mc ms : Nat) (free : Addr → Prop), vx_Met l y ws rm Pc Qc XC mc ms free ∧ Pc a s ∧ rmLe rm rm' ∧ mc ≤ mc' ∧ ms ≤ ms' ∧
      (∀ o t, Qc a s o t → s.WarmedH t.vm → t.heap.size ≤ s.heap.size + mc → hT t.heap ≤ hT s.heap + ms → Qc' a s o t) ∧ (∀ E t, XC E s t → s.WarmedH t.vm → t.heap.size ≤ s.heap.size + mc → hT t.heap ≤ hT s.heap + ms → XC' E s t) ∧ ∀ q, free q → free' q) : vx_Met l y ws rm' Pc' Qc' XC' mc' ms' free' := by
  intro p e ha hc hk s m args below hf happ hP hK
  obtain ⟨rm, Pc, Qc, XC, mc, ms, free, hM, hP2, hrm, hmc, hms, hq, hx, hfr⟩ := h args s hP
  obtain ⟨hrun, hable, halone, hname, hhears, hinit, hroom, hpre⟩ := (Spec.appliesLoose_iff hf).mp happ
  have h0 : s.slotsTrue = true := by
    have h9 := hroom
    simp only [State.hasRoom, Bool.and_eq_true] at h9
    exact h9.2
  obtain ⟨n, o, b1, b2, b3, b4⟩ := hM p e ha hc hk s m args below hf ((Spec.appliesLoose_iff hf).mpr ⟨hrun, hable, halone, hname, hhears, hinit, room_le hrm hroom, hpre⟩) hP2 hK
  refine ⟨n, o, b1, b2, b3, ?_⟩
  rcases b4 with ⟨g1, L, ⟨g2, g3, g4⟩, g5⟩ | ⟨q, g1, E, ce, L, g2, g3, g4, g5, g6, g7, g8⟩
  · obtain ⟨z1, z2⟩ := hT_same h0 g4
    exact Or.inl ⟨hq _ _ g1 g3 z2 z1, L, ⟨g2, g3, g4.mono hmc hms⟩, fun q h9 => hfr _ (g5 q h9)⟩
  · obtain ⟨z1, z2⟩ := hT_same h0 g7
    exact Or.inr ⟨q, g1, E, ce, L, hx _ _ g2 g6 z2 z1, g3, g4, g5, g6, g7.mono hmc hms, fun z h9 => hfr _ (g8 z h9)⟩
