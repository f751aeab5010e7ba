/-! THE CLAIM OUT OF ONE WALK OF THE LAW'S BODY. Your part is whole_start (and what it stands on); all else here is the same for every law, but numbers. -/
def R_law : String := "KeyAtlasLaw"
def lw_P (b : Addr) (xs : List Int32) (args : Array Value) (s : State) : Prop := args = #[.ref b] ∧ s.IntsAt b xs ∧ xs.length ≤ 2560 ∧ (Jvm.Cond.and given_1 narrow_1).before args s = true
def lw_Q (_ : Array Value) (s : State) (o : Outcome) (t : State) : Prop := o = .returned (some (.int 1)) ∧ Framed s o t [] 601024 7293034
def lw_Z (below : List Frame) (a : Array Value) (s : State) : State → Prop := fun t => ∃ o, t.status = .running ∧ Ended t below o ∧ lw_Q a s o t
/-- the law's own end, with 1 on the stack, nothing written that was there before, its room as the claim has it -/
theorem lw_ret {p : Program} {l : Launch} {e : Env} {s : State} {m : MethodId} {below : List Frame} {meth : Method} {c : Code} {b : Nat} (hx : p.tables.exec = Jvm.exec) (hb : c.code = code) (hr : meth.sig.returnType = ret) (hlocks : meth.locks = false) {pc : Nat} {H : Heap} {ls : Array Slot} (hdg : decode code pc = .ok (.ireturn, 1)) : W p l e room_1 s m #[Value.ref b] below meth c H [] 601024 7293034 (lw_Z below #[Value.ref b] s) (F0 m pc ls [.int 1]) := by
  intro T hT X
  obtain ⟨fs, hret, hrun, hended, hW, hframe⟩ := X.leave (v := some (.int 1)) (hlocks := hlocks) (fun h => by rw [hr] at h; cases h)
  have hmeth' : T.vm.method? m = some meth := X.method'
  refine ⟨T.setFrames fs, ?_, .returned (some (.int 1)), hrun, hended, rfl, ⟨_, rfl⟩, hW, hframe⟩
  jvm_step X.here [X.here.top, hx, hb, hdg, hmeth', hr, ret, narrow_b1]
  (try refine ⟨rfl, ?_⟩); (try refine ⟨rfl, ?_⟩)
  first | (intro acts; rw [hret _ acts rfl rfl rfl]) | rw [hret _ _ rfl rfl rfl]
  exact Steps.refl _
/-- what holds at the law's entry: the machine, the code, the tables' words (any of lw_tbl by 'hts w (by decide +kernel)'), the script of L ints xs at the cell b, what the Statement gives of the start (any of its parts by flat_of_before) -/
def lw_At (p : Program) (s : State) (m : MethodId) (meth : Method) (c : Code) (b L : Nat) (xs : Nat → Int32) : Prop :=
  p.tables.exec = Jvm.exec ∧ c.code = code ∧ meth.sig.returnType = ret ∧ c.maxLocals = 8 ∧ s.vm.findClass R_law = some m.cls ∧ (∀ w ∈ lw_tbl, w.before #[Value.ref b] s = true) ∧ va_X b L xs s s.heap ∧ b < s.heap.size ∧ meth.locks = false ∧ (Jvm.Cond.and given_1 narrow_1).before #[Value.ref b] s = true
theorem p1_in0 : ∀ w ∈ u_ws RJx3273f TJx3273f 6, w ∈ lw_tbl := by decide +kernel
theorem p1_in1 : ∀ w ∈ u_ws RJxde1cd TJxde1cd 6, w ∈ lw_tbl := by decide +kernel
theorem p1_in2 : ∀ w ∈ u_ws RX1 TX1 6, w ∈ lw_tbl := by decide +kernel
theorem p1_in3 : ∀ w ∈ u_ws RX2 TX2 7, w ∈ lw_tbl := by decide +kernel
theorem p1_in4 : ∀ w ∈ u_ws RX4 TX4 5, w ∈ lw_tbl := by decide +kernel
theorem p1_in5 : ∀ w ∈ u_ws RX5 TX5 4, w ∈ lw_tbl := by decide +kernel
theorem p1_in6 : ∀ w ∈ u_ws RX6 TX6 7, w ∈ lw_tbl := by decide +kernel
theorem p1_in7 : ∀ w ∈ u_ws RX7 TX7 1, w ∈ lw_tbl := by decide +kernel
theorem p1_in8 : ∀ w ∈ u_ws RX8 TX8 17, w ∈ lw_tbl := by decide +kernel
theorem p1_known {s : State} {args : Array Value} (hts : ∀ w ∈ lw_tbl, w.before args s = true) : ∃ (dC : Nat → ClassId) (dI : Nat → Nat → Nat), ∀ (k : Nat) (q : vw_C), vwCl[k]? = some q → u_Kn s q.1 q.2.1 q.2.2 (dC k) (dI k) := by
  obtain ⟨k0, i0, h0⟩ := u_known (C := RJx3273f) (T := TJx3273f) (N := 6) (n := 6) hts p1_in0 (hts (.instantiable RJx3273f 6) (by decide +kernel))
  obtain ⟨k1, i1, h1⟩ := u_known (C := RJxde1cd) (T := TJxde1cd) (N := 6) (n := 6) hts p1_in1 (hts (.instantiable RJxde1cd 6) (by decide +kernel))
  obtain ⟨k2, i2, h2⟩ := u_known (C := RX1) (T := TX1) (N := 6) (n := 6) hts p1_in2 (hts (.instantiable RX1 6) (by decide +kernel))
  obtain ⟨k3, i3, h3⟩ := u_known (C := RX2) (T := TX2) (N := 7) (n := 7) hts p1_in3 (hts (.instantiable RX2 7) (by decide +kernel))
  obtain ⟨k4, i4, h4⟩ := u_known (C := RX4) (T := TX4) (N := 5) (n := 5) hts p1_in4 (hts (.instantiable RX4 5) (by decide +kernel))
  obtain ⟨k5, i5, h5⟩ := u_known (C := RX5) (T := TX5) (N := 4) (n := 4) hts p1_in5 (hts (.instantiable RX5 4) (by decide +kernel))
  obtain ⟨k6, i6, h6⟩ := u_known (C := RX6) (T := TX6) (N := 7) (n := 7) hts p1_in6 (hts (.instantiable RX6 7) (by decide +kernel))
  obtain ⟨k7, i7, h7⟩ := u_known (C := RX7) (T := TX7) (N := 1) (n := 1) hts p1_in7 (hts (.instantiable RX7 1) (by decide +kernel))
  obtain ⟨k8, i8, h8⟩ := u_known (C := RX8) (T := TX8) (N := 17) (n := 17) hts p1_in8 (hts (.instantiable RX8 17) (by decide +kernel))
  refine ⟨fun k => if k = 0 then k0 else if k = 1 then k1 else if k = 2 then k2 else if k = 3 then k3 else if k = 4 then k4 else if k = 5 then k5 else if k = 6 then k6 else if k = 7 then k7 else k8, fun k => if k = 0 then i0 else if k = 1 then i1 else if k = 2 then i2 else if k = 3 then i3 else if k = 4 then i4 else if k = 5 then i5 else if k = 6 then i6 else if k = 7 then i7 else i8, ?_⟩
  intro k q hq
  match k, hq with
  | 0, hq => cases hq; exact h0
  | 1, hq => cases hq; exact h1
  | 2, hq => cases hq; exact h2
  | 3, hq => cases hq; exact h3
  | 4, hq => cases hq; exact h4
  | 5, hq => cases hq; exact h5
  | 6, hq => cases hq; exact h6
  | 7, hq => cases hq; exact h7
  | 8, hq => cases hq; exact h8
  | k + 9, hq => simp [vwCl] at hq
theorem p1_str {s : State} {args : Array Value} {own tx : String} {k : Nat} (h1 : (Cond.stringRef own k tx).before args s = true) (h2 : (Cond.exactly (.string own k) "java/lang/String").before args s = true) : ∃ a, vk_R own k tx a s := by
  obtain ⟨a, c, cA, kA, q1, -⟩ := Cond.exactly_spec (args := args) (first := s) (o := none) (s := s) (idx := []) (t := .string own k) (cls := "java/lang/String") h2
  exact ⟨a, vk_R.of h1 q1⟩
theorem p1_xwin : ∀ w ∈ p_xw, w ∈ lw_tbl := by decide +kernel
theorem p1_nein : ∀ x ∈ p_ne, Cond.methodLinkNest x.1 x.2.1 x.2.2 "KeyAtlas" ∈ lw_tbl := by decide +kernel
theorem p1_st1 : ∀ x ∈ p_st, Cond.stringRef x.1 x.2.1 x.2.2 ∈ lw_tbl := by decide +kernel
theorem p1_st2 : ∀ x ∈ p_st, Cond.exactly (.string x.1 x.2.1) "java/lang/String" ∈ flatC (Jvm.Cond.and given_1 narrow_1) := by decide +kernel
theorem p1_nc1 : ∀ x ∈ p_nc, Cond.not (.castable x.1 x.2) ∈ flatC (Jvm.Cond.and given_1 narrow_1) := by decide +kernel
theorem p1_nx1 : ∀ x ∈ p_nx, Cond.not (.castable x.1 x.2) ∈ flatC (Jvm.Cond.and given_1 narrow_1) := by decide +kernel
theorem p1_N {s : State} {args : Array Value} (hts : ∀ w ∈ lw_tbl, w.before args s = true) (hgf : ∀ w ∈ flatC (Jvm.Cond.and given_1 narrow_1), w.before args s = true) : p_N s :=
  ⟨va_AO.of (hts (.arrayOver (.object "KeyAtlas$Body")) (by decide +kernel)), fun w hw => va_Nw.of (List.all_eq_true.mp p_xw_tab w hw) (hts w (p1_xwin w hw)), fun x hx => va_Nw.of rfl (hts _ (p1_nein x hx)), fun x hx => p1_str (hts _ (p1_st1 x hx)) (hgf _ (p1_st2 x hx)), fun x hx => va_Nc.of (hgf _ (p1_nc1 x hx))⟩
theorem p1_M {s : State} {args : Array Value} (hgf : ∀ w ∈ flatC (Jvm.Cond.and given_1 narrow_1), w.before args s = true) : p_M s := fun x hx => va_Nc.of (hgf _ (p1_nx1 x hx))
theorem p1_Z {s : State} {args : Array Value} (hts : ∀ w ∈ lw_tbl, w.before args s = true) (hgf : ∀ w ∈ flatC (Jvm.Cond.and given_1 narrow_1), w.before args s = true) : p_Z (fun q : Nat => s.heap.size ≤ q) s s.heap :=
  ⟨vx_Zqof (hts (.laysStatic Bundle.tN "UNASSIGNED_STACK" Bundle.steD) (by decide +kernel)) (hts (.initialized Bundle.tN) (by decide +kernel)) (hgf (.isRef (.static Bundle.tN "UNASSIGNED_STACK" Bundle.steD)) (by decide +kernel)) (fun a h => Nat.not_le.mpr h),
   vx_Zqof (hts (.laysStatic Bundle.tN "SUPPRESSED_SENTINEL" Bundle.listD) (by decide +kernel)) (hts (.initialized Bundle.tN) (by decide +kernel)) (hgf (.isRef (.static Bundle.tN "SUPPRESSED_SENTINEL" Bundle.listD)) (by decide +kernel)) (fun a h => Nat.not_le.mpr h)⟩
