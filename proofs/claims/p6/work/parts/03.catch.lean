/-! what is thrown over a frame is caught by a row of the method's own table (own rows: the printed ones name laws that the rounds' library lacks) -/
section TXA
variable {e : Env} {f : JFrame} {a : Addr} {cell : Cell}
/-- a row that covers the place and names a class: it is linked, and takes what can be assigned to it -/
theorem tx_row {S : State} {x : ExceptionTableEntry} {t : List ExceptionTableEntry} {k : ClassId} {Q : Handler → Pre} {E : CtlPost} {d : Bool} {acts : List Action} (hx : covers x f.pc = true) (h0 : x.catchType ≠ 0)
    (hl : S.vm.ClassLinks e.platform f.method.cls x.catchType k) (hcell : S.heap[a]? = some cell) (hst : ∀ z, cell.vm ≠ .statics z) (hc : ∃ z, S.vm.classes[cell.cls]? = some z) (hk : ∃ z, S.vm.classes[k]? = some z) :
    wp (findHandler.go f a (x :: t)) Q E e d acts S ↔
      if S.vm.assignable cell.cls k = true then Q (.found x.handlerPc) d acts (S.setVm (S.vm.noted f.method.cls x.catchType (.cls k))) else wp (findHandler.go f a t) Q E e d acts (S.setVm (S.vm.noted f.method.cls x.catchType (.cls k))) := by
  have hn : S.vm.Alike (S.vm.noted f.method.cls x.catchType (.cls k)) := (Vm.Alike.refl S.vm).noted _ _ _
  obtain ⟨z1, hz1⟩ := hc
  obtain ⟨z2, hz2⟩ := hk
  obtain ⟨y1, hy1, -⟩ := hn.2.2 _ _ hz1
  obtain ⟨y2, hy2, -⟩ := hn.2.2 _ _ hz2
  have hag : (S.vm.noted f.method.cls x.catchType (.cls k)).assignable cell.cls k = S.vm.assignable cell.cls k := by rw [hn.assignable]
  obtain ⟨h1, h2⟩ := (resolveClass_links e.toSetting hl).op (op := VmOp.resolveClass f.method.cls x.catchType) rfl
  simp only [covers] at hx
  cases hf : S.vm.assignable cell.cls k <;> rw [hf] at hag <;> simp [findHandler.go, hx, h0, h1, h2, hcell, hst, hy1, hy2, hag, VmOp.dirties, VmOp.acts]
/-- rows ahead that don't take it, then one that does -/
theorem tx_find {s0 : State} (hst : ∀ z, cell.vm ≠ .statics z) (hc : ∃ z, s0.vm.classes[cell.cls]? = some z) {x : ExceptionTableEntry} {suf : List ExceptionTableEntry} (hx : covers x f.pc = true) (h0 : x.catchType ≠ 0)
    {kx : ClassId} (hlx : s0.vm.ClassLinks e.platform f.method.cls x.catchType kx) (hfit : s0.vm.assignable cell.cls kx = true) (pre : List ExceptionTableEntry) :
    ∀ S : State, s0.WarmedH S.vm → S.heap[a]? = some cell → (∀ z ∈ pre, covers z f.pc = false ∨ (z.catchType ≠ 0 ∧ ∃ kz, s0.vm.ClassLinks e.platform f.method.cls z.catchType kz ∧ s0.vm.assignable cell.cls kz = false)) →
      ∃ v1 : Vm, s0.WarmedH v1 ∧ ∀ (Q : Handler → Pre) (E : CtlPost) (d : Bool) (acts : List Action), wp (findHandler.go f a (pre ++ x :: suf)) Q E e d acts S ↔ Q (.found x.handlerPc) d acts (S.setVm v1) := by
  obtain ⟨z0, hz0⟩ := hc
  induction pre with
  | nil =>
    intro S hW hcell _
    obtain ⟨z1, hz1, -⟩ := hW.alike.2.2 _ _ hz0
    obtain ⟨dk, _, _, kt, hd, _, _, _, _, hkt, _, hop⟩ := hlx.here
    obtain ⟨z2, hz2, -⟩ := hW.alike.2.2 _ _ hkt
    refine ⟨_, hW.noted hd hop (State.rightAt_cls hlx), fun Q E d acts => ?_⟩
    rw [List.nil_append, tx_row hx h0 (hW.classLinks hlx) hcell hst ⟨z1, hz1⟩ ⟨z2, hz2⟩, if_pos (by rw [hW.alike.assignable]; exact hfit)]
  | cons y ys ih =>
    intro S hW hcell hp
    have hp2 := fun z hz => hp z (List.mem_cons_of_mem _ hz)
    rcases hp y List.mem_cons_self with hn | ⟨hy0, ky, hly, hno⟩
    · obtain ⟨v1, h1, h2⟩ := ih S hW hcell hp2
      exact ⟨v1, h1, fun Q E d acts => by rw [List.cons_append, W.findHandler_go_skip hn]; exact h2 Q E d acts⟩
    · by_cases hcv : covers y f.pc = true
      · obtain ⟨z1, hz1, -⟩ := hW.alike.2.2 _ _ hz0
        obtain ⟨dk, _, _, kt, hd, _, _, _, _, hkt, _, hop⟩ := hly.here
        obtain ⟨z2, hz2, -⟩ := hW.alike.2.2 _ _ hkt
        obtain ⟨v1, h1, h2⟩ := ih (S.setVm (S.vm.noted f.method.cls y.catchType (.cls ky))) (hW.noted hd hop (State.rightAt_cls hly)) hcell hp2
        refine ⟨v1, h1, fun Q E d acts => ?_⟩
        rw [List.cons_append, tx_row hcv hy0 (hW.classLinks hly) hcell hst ⟨z1, hz1⟩ ⟨z2, hz2⟩, if_neg (by rw [hW.alike.assignable, hno]; exact Bool.false_ne_true)]
        exact h2 Q E d acts
      · obtain ⟨v1, h1, h2⟩ := ih S hW hcell hp2
        exact ⟨v1, h1, fun Q E d acts => by rw [List.cons_append, W.findHandler_go_skip (by simpa using hcv)]; exact h2 Q E d acts⟩
end TXA
section TXB
variable {p : Program} {l : Launch} {e : Env} {R : Room} {s : State} {m : MethodId} {args : Array Value} {below : List Frame} {meth : Method} {c : Code} {H : Heap} {locs : List Loc} {cells slots : Nat} {Q : State → Prop} {pc : Nat} {ls : Array Slot} {rest : List Value}
/-- caught by the row x of this method's table; the rows ahead don't take it -/
theorem tx_catch {own name : String} {E : String} {ce : Cell} {q : Addr} (hown : s.vm.findClass own = some m.cls) (pre : List ExceptionTableEntry) (x : ExceptionTableEntry) (suf : List ExceptionTableEntry) (hsplit : c.exceptionTable.toList = pre ++ x :: suf)
    (hpass : ∀ z ∈ pre, covers z pc = false ∨ (z.catchType ≠ 0 ∧ ∃ nm : String, (Cond.classLink own z.catchType nm).before args s = true ∧ va_Nc E nm s)) (hx : covers x pc = true) (h0 : x.catchType ≠ 0)
    (hlink : (Cond.classLink own x.catchType name).before args s = true) (hcast : va_Nw (.castable E name) s) (hcell : H[q]? = some ce) (hv : ce.vm = .none) (hcl : s.vm.findClass E = some ce.cls)
    (kk : W p l e R s m args below meth c H locs cells slots Q (F0 m x.handlerPc ls [.ref q])) : vx_W p l e R s m args below meth c H locs cells slots Q (F0 m pc ls rest) q := by
  intro T hT X
  have hpl : e.platform.magicAccessors = ({} : Platform).magicAccessors := by rw [X.admits.platform]
  obtain ⟨c3, c4, hc3, hc4, hasg⟩ := Cond.castable_spec (args := #[]) hcast
  cases Option.some.inj (hc3.symm.trans hcl)
  obtain ⟨c5, hc5, hcl5⟩ := Cond.classLink_spec hown hlink e.platform hpl
  cases Option.some.inj (hc4.symm.trans hc5)
  have hst : ∀ z, ce.vm ≠ .statics z := fun z h => by rw [hv] at h; cases h
  obtain ⟨v1, hW1, hq⟩ := tx_find (e := e) (f := F0 m pc ls rest) (a := q) (cell := ce) (s0 := s) (suf := suf) hst (Vm.classAt_of_findClass hcl) hx h0 hcl5 hasg pre ((T.setTop (F0 m pc ls rest)).pushFrame (.throwing q)) X.warmed (by show T.heap[q]? = _; rw [hT]; exact hcell) (fun z hz => by
    rcases hpass z hz with h | ⟨hz0, nm, hl1, a8, b8, h1, h2, h3⟩
    · exact Or.inl h
    · obtain ⟨c6, hc6, hcl6⟩ := Cond.classLink_spec hown hl1 e.platform hpl
      cases Option.some.inj (h1.symm.trans hcl)
      cases Option.some.inj (h2.symm.trans hc6)
      exact Or.inr ⟨hz0, _, hcl6, h3⟩)
  obtain ⟨t, a1, b1⟩ := kk (T.setVm v1) hT (X.noted hW1)
  refine ⟨t, ?_, b1⟩
  have hA : At T (F0 m pc ls rest).method c below := X.here
  obtain ⟨hgo, hw⟩ := hA.throwing q
  refine Steps.head hgo hw ?_
  have hfi : ∀ (Q : Handler → Pre) (E : CtlPost) (d : Bool) (acts : List Action), wp (findHandler (F0 m pc ls rest) q) Q E e d acts ((T.setTop (F0 m pc ls rest)).pushFrame (.throwing q)) ↔ Q (.found x.handlerPc) d acts (((T.setTop (F0 m pc ls rest)).pushFrame (.throwing q)).setVm v1) := fun Q E d acts => by
    rw [W.findHandler_eq (meth := meth) (code := c) X.method' X.code, hsplit]
    exact hq Q E d acts
  have hstep : ∀ r : List Frame, (stepThrowing e ((T.setTop (F0 m pc ls rest)).pushFrame (.throwing q)) q (.java (F0 m pc ls rest) :: r)).1 = (((T.setTop (F0 m pc ls rest)).pushFrame (.throwing q)).setVm v1).setFrames (.java (F0 m x.handlerPc ls [.ref q]) :: r) := fun r => by
    simp only [stepThrowing, searchFrame, vmDo]
    generalize hr : Sem.go _ e false [] _ = res
    obtain ⟨as, rfl, -⟩ := Sem.eq_ok_of hr (a := Handler.found x.handlerPc) (s' := ((T.setTop (F0 m pc ls rest)).pushFrame (.throwing q)).setVm v1) (acts' := []) (by simp [hfi _ _ _ _])
    rfl
  rw [stepThread_throwing (frames_entered hA.top _), hstep]
  obtain ⟨g0, hg0⟩ := Option.isSome_iff_exists.mp hA.top
  obtain ⟨r, hr⟩ := State.topJava?_eq_some.mp hg0
  have hr1 : (T.setVm v1).frames = .java g0 :: r := hr
  rw [State.setTop_of_frames _ hr1] at a1
  have hfin : (((T.setTop (F0 m pc ls rest)).pushFrame (.throwing q)).setVm v1).setFrames (.java (F0 m x.handlerPc ls [.ref q]) :: T.frames.tail) = (T.setVm v1).setFrames (.java (F0 m x.handlerPc ls [.ref q]) :: r) := by
    rw [hr, List.tail_cons, State.pushFrame, State.setTop_of_frames _ hr, State.setFrames_setFrames]
    exact State.setFrames_setFrames (T.setVm v1) _ _
  rw [hfin]
  exact a1
end TXB
