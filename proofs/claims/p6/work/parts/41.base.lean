/-! what the class's methods need of the tables beside their words; calls of inherited methods that may throw -/
def p_Z (A : Nat → Prop) (U : State) (H : Heap) : Prop := vx_Zq Bundle.tN "UNASSIGNED_STACK" Bundle.steD A U H ∧ vx_Zq Bundle.tN "SUPPRESSED_SENTINEL" Bundle.listD A U H
theorem p_Z.moved {A : Nat → Prop} {u U : State} {H : Heap} (h : p_Z A u H) (hvm : u.vm.Alike U.vm) : p_Z A U H := ⟨vx_Zq.moved hvm h.1, vx_Zq.moved hvm h.2⟩
theorem p_Z.kept {A : Nat → Prop} {U : State} {H H1 : Heap} (h : p_Z A U H) (hq : ∀ a : Nat, a < H.size → ¬ A a → H1[a]? = H[a]?) : p_Z A U H1 := ⟨vx_Zq.kept h.1 hq, vx_Zq.kept h.2 hq⟩
theorem p_Z.narrow {A B : Nat → Prop} {U : State} {H : Heap} (h : p_Z A U H) (hAB : ∀ q, B q → A q) : p_Z B U H := ⟨vx_Zq.narrow h.1 hAB, vx_Zq.narrow h.2 hAB⟩
def p_xw : List Cond := [.declares ⟨"KeyAtlas$Keyed", "find", "(I)I"⟩, .declares ⟨"KeyAtlas$Keyed", "enter", "(II)V"⟩, .castable "java/lang/IllegalArgumentException" "java/lang/IllegalArgumentException", .castable "java/lang/NegativeArraySizeException" "java/lang/NegativeArraySizeException", .castable "java/util/NoSuchElementException" "java/util/NoSuchElementException", .castable "java/lang/IllegalStateException" "java/lang/IllegalStateException", .castable "java/lang/ClassCastException" "java/lang/ClassCastException", .castable "java/lang/UnsupportedOperationException" "java/lang/UnsupportedOperationException", .castable "java/lang/IndexOutOfBoundsException" "java/lang/IndexOutOfBoundsException", .declares (Bundle.initS "java/lang/RuntimeException"), .declares (Bundle.initS "java/lang/Exception"), .declares (Bundle.initS "java/lang/Throwable"), .castable RX1 "KeyAtlas$Body", .castable RX2 "KeyAtlas$Body", .castable RX4 "KeyAtlas$Body", .castable RX6 "KeyAtlas$Body", .castable RX2 "KeyAtlas$Keyed", .castable RX4 "KeyAtlas$Keyed", .castable RX6 "KeyAtlas$Keyed"]
theorem p_xw_warm {s U : State} (hW : s.WarmedH U.vm) : ∀ w ∈ p_xw, va_Nw w s → va_Nw w U := by
  intro w hw h
  simp only [p_xw, List.mem_cons, List.not_mem_nil, or_false] at hw
  rcases hw with rfl | rfl | rfl | rfl | rfl | rfl | rfl | rfl | rfl | rfl | rfl | rfl | rfl | rfl | rfl | rfl | rfl | rfl | rfl <;> first | exact va_Nw.warmC hW h | exact va_Nw.warmD hW h
theorem p_xw_tab : p_xw.all Cond.onTables = true := by decide +kernel
def p_ne : List (String × Nat × MethodName) := [(RX2, 5, yX5_init), (RX4, 5, yX5_init), (RX6, 7, yX5_init)]
def p_st : List (String × Nat × String) := [(RX7, 17, "no such kind"), (RX7, 24, "capacity below 0"), (RX7, 31, "a or b out of range"), (RX7, 53, "no such op"), (RX7, 66, "op is not for this kind"), (RX7, 144, "no such kind of view"), (RX7, 151, "b before a"), (RX7, 172, "stale"), (RX7, 190, "no such part"), (RX7, 194, "no such key"), (RX7, 221, "nothing is counted by that number"), (RX7, 241, "no such object"), (RX7, 246, "not a map"), (RX7, 249, "not a tree or submap"), (RX7, 251, "not a cursor"), (RX7, 253, "full"), (RX1, 46, "none is next"), (RX1, 60, "none is passed"), (RX3, 30, "key is not of this part"), (RX3, 40, "full"), (RX3, 82, "empty"), (RX3, 88, "a map into itself")]
def p_nc : List (String × String) := [(RX1, "KeyAtlas$Keyed"), (RX1, RX6), (RX2, RX6), (RX4, RX6), (RX2, RX1), (RX4, RX1), (RX6, RX1)]
def p_N (U : State) : Prop := va_AO "KeyAtlas$Body" U ∧ (∀ w ∈ p_xw, va_Nw w U) ∧ (∀ x ∈ p_ne, va_Nw (.methodLinkNest x.1 x.2.1 x.2.2 "KeyAtlas") U) ∧ (∀ x ∈ p_st, ∃ a, vk_R x.1 x.2.1 x.2.2 a U) ∧ (∀ x ∈ p_nc, va_Nc x.1 x.2 U)
theorem p_N.ao {U : State} (h : p_N U) : va_AO "KeyAtlas$Body" U := h.1
theorem p_N.xw {U : State} (h : p_N U) : ∀ w ∈ p_xw, va_Nw w U := h.2.1
theorem p_N.n2 {U : State} (h : p_N U) : va_Nw (.methodLinkNest RX2 5 yX5_init "KeyAtlas") U := h.2.2.1 (RX2, 5, yX5_init) (List.mem_of_getElem? (l := p_ne) (i := 0) rfl)
theorem p_N.n4 {U : State} (h : p_N U) : va_Nw (.methodLinkNest RX4 5 yX5_init "KeyAtlas") U := h.2.2.1 (RX4, 5, yX5_init) (List.mem_of_getElem? (l := p_ne) (i := 1) rfl)
theorem p_N.n6 {U : State} (h : p_N U) : va_Nw (.methodLinkNest RX6 7 yX5_init "KeyAtlas") U := h.2.2.1 (RX6, 7, yX5_init) (List.mem_of_getElem? (l := p_ne) (i := 2) rfl)
theorem p_N.st {U : State} (h : p_N U) {x : String × Nat × String} (k : Nat) (hk : p_st[k]? = some x) : ∃ a, vk_R x.1 x.2.1 x.2.2 a U := h.2.2.2.1 x (List.mem_of_getElem? hk)
theorem p_N.stX3_30 {U : State} (h : p_N U) : ∃ a, vk_R RX3 30 "key is not of this part" a U := h.st (x := (RX3, 30, "key is not of this part")) 18 rfl
theorem p_N.stX3_40 {U : State} (h : p_N U) : ∃ a, vk_R RX3 40 "full" a U := h.st (x := (RX3, 40, "full")) 19 rfl
theorem p_N.stX3_82 {U : State} (h : p_N U) : ∃ a, vk_R RX3 82 "empty" a U := h.st (x := (RX3, 82, "empty")) 20 rfl
theorem p_N.stX3_88 {U : State} (h : p_N U) : ∃ a, vk_R RX3 88 "a map into itself" a U := h.st (x := (RX3, 88, "a map into itself")) 21 rfl
theorem p_R_warm {own tx : String} {k : Nat} {s U : State} (hW : s.WarmedH U.vm) (h : ∃ a, vk_R own k tx a s) : ∃ a, vk_R own k tx a U := by
  obtain ⟨a, h⟩ := h
  exact ⟨a, vk_R.warm hW h⟩
theorem p_N.warm {s U : State} (h : p_N s) (hW : s.WarmedH U.vm) : p_N U := ⟨va_AO.moved hW.alike h.1, fun w hw => p_xw_warm hW w hw (h.2.1 w hw), fun x hx => va_Nw.warmM hW (h.2.2.1 x hx), fun x hx => p_R_warm hW (h.2.2.2.1 x hx), fun x hx => va_Nc.moved hW.alike (h.2.2.2.2 x hx)⟩
def pk_PreX (D : va_G) (ws : va_W) (tys : List (ClassId × FieldType)) (sz : Nat) (U : State) : Prop := U.heap.size = sz ∧ va_P D vwCl ws U.heap ∧ va_K D vwCl tys U ∧ va_D (fun _ => True) ws ∧ p_N U ∧ p_Z (va_A ws sz) U U.heap
theorem pk_blindX {av : List Value} {D : va_G} {ws : va_W} {tys : List (ClassId × FieldType)} {sz : Nat} : FrameBlind (va_Pc av (pk_PreX D ws tys sz)) := fun a U g mk q => by
  obtain ⟨q0, q1, qP, qK, qD, qN, qZ⟩ := q
  exact ⟨q0, q1, qP, va_K.moved (u := U) (U := U.calling g mk a) (Vm.Alike.refl U.vm) qK, qD, p_N.warm (s := U) (U := U.calling g mk a) qN (State.WarmedH.refl U), p_Z.moved (u := U) (U := U.calling g mk a) qZ (Vm.Alike.refl U.vm)⟩
theorem pk_callX {s : State} {H : Heap} {A : Nat → Prop} {av : List Value} {D : va_G} {ws : va_W} {tys : List (ClassId × FieldType)} (hP : va_P D vwCl ws H) (hK : va_K D vwCl tys s) (hD : va_D A ws) (hN : p_N s) (hZ : p_Z (va_A ws H.size) s H) :
    ∀ U : State, U.heap = H → s.WarmedH U.vm → va_Pc av (pk_PreX D ws tys H.size) av.toArray U := fun U hU hW => ⟨rfl, by rw [hU], by rw [hU]; exact hP, va_K.moved hW.alike hK, hD.weaken (fun _ _ _ _ => trivial), hN.warm hW, by rw [hU]; exact hZ.moved hW.alike⟩
def pk_PreRX (D : va_G) (ws : va_W) (tys : List (ClassId × FieldType)) (sz : Nat) (U : State) : Prop := pk_PreR D ws tys sz U ∧ p_N U
theorem pk_blindRX {av : List Value} {D : va_G} {ws : va_W} {tys : List (ClassId × FieldType)} {sz : Nat} : FrameBlind (va_Pc av (pk_PreRX D ws tys sz)) := fun a U g mk q => by
  have h := pk_blindR (av := av) (D := D) (ws := ws) (tys := tys) (sz := sz) a U g mk ⟨q.1, q.2.1⟩
  exact ⟨h.1, h.2, p_N.warm (s := U) (U := U.calling g mk a) q.2.2 (State.WarmedH.refl U)⟩
theorem pk_callRX {s : State} {H : Heap} {av : List Value} {D : va_G} {ws : va_W} {tys : List (ClassId × FieldType)} (hP : va_P D vwCl ws H) (hK : va_K D vwCl tys s) (hN : p_N s) :
    ∀ U : State, U.heap = H → s.WarmedH U.vm → va_Pc av (pk_PreRX D ws tys H.size) av.toArray U := fun U hU hW => by
  have h := pk_callR (av := av) hP hK U hU hW
  exact ⟨h.1, h.2, hN.warm hW⟩
def pk_PreXT (D : va_G) (ws : va_W) (tys : List (ClassId × FieldType)) (sz T0 : Nat) (U : State) : Prop := pk_PreX D ws tys sz U ∧ hT U.heap = T0
theorem pk_blindXT {av : List Value} {D : va_G} {ws : va_W} {tys : List (ClassId × FieldType)} {sz T0 : Nat} : FrameBlind (va_Pc av (pk_PreXT D ws tys sz T0)) := fun a U g mk q => by
  have h := pk_blindX (av := av) (D := D) (ws := ws) (tys := tys) (sz := sz) a U g mk ⟨q.1, q.2.1⟩
  exact ⟨h.1, h.2, q.2.2⟩
theorem pk_callXT {s : State} {H : Heap} {A : Nat → Prop} {av : List Value} {D : va_G} {ws : va_W} {tys : List (ClassId × FieldType)} (hP : va_P D vwCl ws H) (hK : va_K D vwCl tys s) (hD : va_D A ws) (hN : p_N s) (hZ : p_Z (va_A ws H.size) s H) :
    ∀ U : State, U.heap = H → s.WarmedH U.vm → va_Pc av (pk_PreXT D ws tys H.size (hT H)) av.toArray U := fun U hU hW => by
  have h := pk_callX (av := av) hP hK hD hN hZ U hU hW
  exact ⟨h.1, h.2, by rw [hU]⟩
theorem tx_hat {args : Array Value} {s : State} {L : List Cond} (h1 : ∀ w ∈ p_xw, va_Nw w s) (h2 : ∀ w ∈ L.filter goodWord, w.before args s = true) (h3 : ∀ w ∈ L.filter (fun w => !goodWord w), w ∈ p_xw) : ∀ w ∈ L, w.before args s = true :=
  vx_hat h2 h3 (fun w hw => va_Nw.use (List.all_eq_true.mp p_xw_tab w hw) (h1 w hw))
section VXU
variable {p : Program} {l : Launch} {e : Env} {R : Room} {s : State} {m : MethodId} {args : Array Value} {below : List Frame} {meth : Method} {c : Code}
theorem vx_callVU {T : State} {locs : List Loc} {cells slots : Nat} (X : Stand p l e R s m args below meth c T locs cells slots) (hexec : p.tables.exec = Jvm.exec) {own C owner : String} {index : Nat} {x y : MethodName}
    (hown : s.vm.findClass own = some m.cls) (hlink : (Cond.methodLink own index x).before args s = true) (hsame : (Cond.sameMethod x.cls owner x.name x.desc).before args s = true)
    (hd0 : va_Decl s ⟨owner, x.name, x.desc⟩) (howner : owner ≠ "java/lang/invoke/MethodHandle" ∧ owner ≠ "java/lang/invoke/VarHandle")
    (hsel : (Cond.selects C x y).before args s = true) (hinst : (Cond.instanceMethod y).before args s = true)
    {W9 : Nat} {Pre : Pt → Array Value → Prop} {Post : Pt → Array Value → Option Value → Pt → Prop} {PostX : Pt → Array Value → Addr → Pt → Prop} (hK : vx_Back l R p e below s args y 3 W9 Pre Post PostX)
    {b : Addr} {cellB : Cell} (hcell : T.heap[b]? = some cellB) (hobj : cellB.vm.isStatics = false) (hcls : s.vm.findClass C = some cellB.cls)
    {g : JFrame} (hg : g.method = m) (hsize : g.locals.size = c.maxLocals) {argsL rest : List Value} (hlen : ∀ sig, parseMethodDescriptor x.desc = some sig → argsL.length = sig.parameters.length)
    (hstack : g.stack = argsL.reverse ++ .ref b :: rest) (hW : 2 * g.monitorRoom + (rest.map fun v => v.category).sum ≤ W9) (hdg : decode c.code g.pc = .ok (.invokevirtual index, 3))
    (hpre : ∀ vm₁, s.WarmedH vm₁ → Pre ⟨T.setVm vm₁, locs, cells, slots⟩ (Value.ref b :: argsL).toArray) :
    (∃ (v : Option Value) (vm₁ : Vm) (B : Pt), s.WarmedH vm₁ ∧ Stand p l e R s m args below meth c B.U B.locs B.cells B.slots ∧ Post ⟨T.setVm vm₁, locs, cells, slots⟩ (Value.ref b :: argsL).toArray v B ∧
      ∀ target, Steps p.tables e below (B.U.setTop { g with pc := g.pc + 3, stack := v.toList ++ rest }) target → Steps p.tables e below (T.setTop g) target) ∨
    (∃ (q : Addr) (vm₁ : Vm) (B : Pt), s.WarmedH vm₁ ∧ Stand p l e R s m args below meth c B.U B.locs B.cells B.slots ∧ PostX ⟨T.setVm vm₁, locs, cells, slots⟩ (Value.ref b :: argsL).toArray q B ∧
      Steps p.tables e below (T.setTop g) ((B.U.setTop { g with stack := rest }).pushFrame (.throwing q))) := by
  obtain ⟨r0, r, hn, hrm, hstR, hsigR⟩ := hd0
  obtain ⟨cn, ck, r1, hcn, hck, hni, hf, hn1⟩ := Cond.sameMethod_found hsame
  cases hn.symm.trans hn1
  obtain ⟨mk, methM, hnamed, hmethM, -, habM⟩ := Cond.instanceMethod_spec hinst
  obtain ⟨c2, r2, m2, q1, q2, q3, q4, kP, hkP, hkPi⟩ := Cond.selects_spec hsel
  cases hcls.symm.trans q1
  cases hf.symm.trans q2
  cases hnamed.symm.trans q3
  have hselP : selectMethod e.platform s.vm cellB.cls r0 = .method mk := by rw [Launch.admits_selectMethod X.admits]; exact q4
  obtain ⟨vm₁, X₁, hstep₁⟩ := X.invokevirtualUp hexec hown hlink hsame howner hn hrm hstR (a := b) (cell := cellB) hcell
    (fun z h => by rw [h] at hobj; cases hobj) hselP hmethM habM hkP hkPi (g := g) hg (argsL := argsL) (rest := rest) (hlen _ hsigR) hstack hdg
  rcases hK m meth c ⟨T.setVm vm₁, locs, cells, slots⟩ { g with stack := rest } (.invokevirtual index) mk (Value.ref b :: argsL).toArray X₁ hg hsize hdg hW (X₁.named hnamed) (hpre vm₁ X₁.warmed) with ⟨v, B, X', hpost, hsteps⟩ | ⟨q, B, X', hpost, hsteps⟩
  · exact Or.inl ⟨v, vm₁, B, X₁.warmed, X', hpost, fun target h => hstep₁ _ fun acts => by rw [doInvoke_state]; exact hsteps.trans h⟩
  · exact Or.inr ⟨q, vm₁, B, X₁.warmed, X', hpost, hstep₁ _ fun acts => by rw [doInvoke_state]; exact hsteps⟩
theorem vx_runU {x y : MethodName} {bytes cc : ByteArray} {maxL nL mc ms n index : Nat} {ret : Option FieldType} {ws : List Cond} {rm : Room} {Pc : Array Value → State → Prop} {Qc : Array Value → State → Outcome → State → Prop} {XC : String → State → State → Prop} {free : Addr → Prop} {Ts : List Cond} {own C owner : String} {b : Addr} {As rest : List Value} {g : JFrame} {H : Heap} {locs : List Loc} {cells slots : Nat}
    (S : CallFix p m c cc nL s args Ts own) (hM : vx_Met l y ws rm Pc Qc XC mc ms free) (cw : va_CU R s args own C owner index x y bytes maxL ret ws rm mc ms n) (hp : PreV s H C b Pc As)
    (hg : g.method = m) (hn : As.length = n) (hsize : g.locals.size = nL) (hstack : g.stack = As.reverse ++ .ref b :: rest) (hW : 2 * g.monitorRoom + (rest.map fun v => v.category).sum ≤ 8) (hdg : decode cc g.pc = .ok (.invokevirtual index, 3)) (hf : cells + mc ≤ R.cells ∧ slots + ms ≤ R.slots) :
    vx_Run p l e R s m args below meth c H locs cells slots mc ms g rest (Qc (Value.ref b :: As).toArray) XC free := by
  obtain ⟨hrc, hrs, hfr, hlo, hws, hcw⟩ := cw.back
  have hini := cw.init
  have hK : vx_Back l R p e below s args y 3 8 (PreOf R mc ms Pc) (PostOf Qc mc ms free) (vx_Post XC mc ms free) := vx_back (bytes := bytes) (maxL := maxL) (ret := ret) hM hp.1 hrc hrs hfr hlo hws hcw (fun a' U hW => word_at hW (Or.inl (by first | rfl | simp [Cond.onTables, Cond.keeps, Cond.steady])) hini)
  obtain ⟨hx, hb, hml, ho, -⟩ := S
  obtain ⟨-, ⟨cellB, hcB, hoB, hclB⟩, hPc⟩ := hp
  intro T hT X
  rcases vx_callVU X hx (C := C) (owner := owner) ho cw.link cw.same cw.decl cw.notMH cw.sel cw.inst hK (by rw [hT]; exact hcB) hoB hclB hg (hsize.trans hml.symm) (argsL := As) (rest := rest) (fun sig h => hn.trans (cw.len sig h)) hstack hW (by rw [hb]; exact hdg)
    (fun vm₁ hW₁ => ⟨hf.1, hf.2, hPc (T.setVm vm₁) hT hW₁⟩) with ⟨v, vm₁, ⟨U', l2, c2, s2⟩, hW₁, X', ⟨g', mk, t, L, e1, e2, hq, h1, hL, h2, h3⟩, st⟩ | ⟨q, vm₁, ⟨U', l2, c2, s2⟩, hW₁, X', ⟨g', mk, t, L, E, ce, e1, e2, hq, hce, hcv, hcl, h1, hL, h2, h3⟩, st⟩
  · dsimp only [Pt.U, Pt.locs, Pt.cells, Pt.slots] at X' e1 e2 h1 h2 h3 st
    subst h1; subst h2; subst h3
    exact Or.inl ⟨v, (T.setVm vm₁).calling g' mk (Value.ref b :: As).toArray, t, U', L, hT, X', hL, e1, e2, hq, st⟩
  · dsimp only [Pt.U, Pt.locs, Pt.cells, Pt.slots] at X' e1 e2 h1 h2 h3 st hcl
    subst h1; subst h2; subst h3
    exact Or.inr ⟨q, (T.setVm vm₁).calling g' mk (Value.ref b :: As).toArray, t, U', L, E, ce, hT, X', hL, e1, e2, hq, hce, hcv, vx_cls hW₁ hcl, st⟩
end VXU
