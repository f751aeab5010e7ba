set_option maxRecDepth 20000 in
theorem gX1_hasNext_X3_size_u37X4 : GoodIn wsX1_hasNext (va_wsU RX1 37 RX4 "KeyAtlas$Keyed" ⟨"KeyAtlas$Keyed", "size", "()I"⟩ yX3_size wsX3_size) := goodIn_app (goodIn_of _ (by decide +kernel)) ggX1_hasNext_X3_size
set_option maxRecDepth 20000 in
theorem gX1_pass_X3_placeOf_u51X4 : GoodIn wqX1_pass (va_wsU RX1 51 RX4 "KeyAtlas$Keyed" ⟨"KeyAtlas$Keyed", "placeOf", "(I)I"⟩ yX3_placeOf wsX3_placeOf) := goodIn_app (goodIn_of _ (by decide +kernel)) ggX1_pass_X3_placeOf
set_option maxRecDepth 20000 in
theorem gX1_takePassedOut_X3_placeOf_u51X4 : GoodIn wsX1_takePassedOut (va_wsU RX1 51 RX4 "KeyAtlas$Keyed" ⟨"KeyAtlas$Keyed", "placeOf", "(I)I"⟩ yX3_placeOf wsX3_placeOf) := goodIn_app (goodIn_of _ (by decide +kernel)) ggX1_takePassedOut_X3_placeOf
set_option maxRecDepth 20000 in
theorem ggX1_takePassedOut_X3_leave : GoodIn wsX1_takePassedOut wsX3_leave := goodIn_r _ [92, 93, 94, 95, 96, 37, 97, 39, 48, 98, 99, 100, 101, 102, 103, 130, 131, 132, 133, 134, 135, 136, 137, 138, 139, 140, 141, 142, 143, 144, 145, 146, 147, 148, 149, 150, 151, 152] rfl (by decide +kernel)
set_option maxRecDepth 20000 in
theorem gX1_takePassedOut_X3_leave_u67X4 : GoodIn wsX1_takePassedOut (va_wsU RX1 67 RX4 "KeyAtlas$Keyed" ⟨"KeyAtlas$Keyed", "leave", "(I)V"⟩ yX3_leave wsX3_leave) := goodIn_app (goodIn_of _ (by decide +kernel)) ggX1_takePassedOut_X3_leave
set_option maxRecDepth 20000 in
theorem gX1_setPassedValue_X3_placeOf_u51X4 : GoodIn wsX1_setPassedValue (va_wsU RX1 51 RX4 "KeyAtlas$Keyed" ⟨"KeyAtlas$Keyed", "placeOf", "(I)I"⟩ yX3_placeOf wsX3_placeOf) := goodIn_app (goodIn_of _ (by decide +kernel)) ggX1_setPassedValue_X3_placeOf
set_option maxRecDepth 20000 in
theorem gX1_passedValue_X3_placeOf_u51X4 : GoodIn wsX1_passedValue (va_wsU RX1 51 RX4 "KeyAtlas$Keyed" ⟨"KeyAtlas$Keyed", "placeOf", "(I)I"⟩ yX3_placeOf wsX3_placeOf) := goodIn_app (goodIn_of _ (by decide +kernel)) ggX1_passedValue_X3_placeOf
set_option maxHeartbeats 4000000 in
set_option maxRecDepth 100000 in
/-- Cursor.isStale over L -/
theorem c_X1_isStale_L (l : Launch) (hlt : l.stackTraces = false) (dC : Nat → ClassId) (dI : Nat → Nat → Nat) (sz : Nat) (z0 : Nat) (kdc : Int32) (whc : Int32) (nx : Int32) (ps : Int32) (se : Int32) (y0 : Nat) (kd : Int32) (wh : Int32) (lim : Nat) (bu : Int32) (x0 : Nat) (k0 : Nat) (w0 : Nat) (ck : ClassId) (cw : ClassId) (L : Nat) (f : Nat → Int32) (g : Nat → Int32) (nz : Nat) (ch : Int32) (hR9 : rOK L nz) (hlim : lim ≤ 1000) : Met l yX1_isStale wsX1_isStale ({ frames := 2, cells := 0, slots := 0, locals := 60 }) (va_Pc [.ref z0] (pk_PreRX (dC, dI) [(z0, .inr (2, [.int kdc, .int whc, .ref y0, .int nx, .int ps, .int se])), (y0, .inr (4, [.ref x0, .int kd, .int wh, .int (nI lim), .int bu])), (x0, .inr (5, [.ref k0, .ref w0, .int (nI nz), .int ch])), (k0, .inl (ck, L, .inl f)), (w0, .inl (cw, L, .inl g))] [(ck, .int), (cw, .int)] sz)) (va_Qi (fun (x : Int32) (u : Unit) => x = 0 ∨ x = 1) (fun _ (t : State) => t.heap.size = sz) ro_A) 0 0 ro_A := by
  refine Met.ofW (cc := cX1_isStale) (maxL := 1) (ret := (some .boolean)) (by decide) rfl ?_
  intro p e s m args below meth c s₁ B hml hv
  obtain ⟨rfl, ⟨hsz, hP, hK⟩, hN⟩ := hv
  have hx := B.exec
  have hb := B.bytes
  have hr := B.returns
  have hts := atoms_spec (ws := wsX1_isStale) B.pre
  have hown : s.vm.findClass RX1 = some m.cls := findClass_of_methodNamed B.named
  have hlocks := B.notSynchronized
  subst hsz
  have hS : va_S ro_A s.heap s.heap [] := va_S.rf
  have hP : va_P (dC, dI) vwCl [(z0, .inr (2, [.int kdc, .int whc, .ref y0, .int nx, .int ps, .int se])), (y0, .inr (4, [.ref x0, .int kd, .int wh, .int (nI lim), .int bu])), (x0, .inr (5, [.ref k0, .ref w0, .int (nI nz), .int ch])), (k0, .inl (ck, L, .inl f)), (w0, .inl (cw, L, .inl g))] s.heap := hP
  have hl := lv_entry ([.ref z0]) (n := 1) (Nat.le_of_ble_eq_true rfl)
  rw [lg_entry_eq]
  generalize (lg_sl ([.ref z0]) ++ List.replicate (1 - (lg_sl ([.ref z0])).length) Slot.unset).toArray = ls at hl ⊢
  have hl : lv_has ls 1 [(0, .ref z0)] := hl
  have hw0_ := hts (.fieldLink RX1 31 "KeyAtlas$Cursor" "seenChanges" "I") (List.mem_of_getElem? (l := wsX1_isStale) (i := 1) rfl)
  have hw1_ := hts (.fieldLink RX1 9 "KeyAtlas$Cursor" "keyed" "LKeyAtlas$Keyed;") (List.mem_of_getElem? (l := wsX1_isStale) (i := 2) rfl)
  have hw2_ := hts (.fieldLink RX1 19 "KeyAtlas$Keyed" "rows" "LKeyAtlas$Rows;") (List.mem_of_getElem? (l := wsX1_isStale) (i := 3) rfl)
  have hi0_ : ∀ w ∈ u_ws RX1 TX1 6, w ∈ wsX1_isStale := fun w h => List.mem_cons_of_mem _ (List.mem_append_left _ (List.mem_append_left _ (List.mem_append_left _ (List.mem_append_left _ (List.mem_append_right _ h)))))
  have hi1_ : ∀ w ∈ u_ws RX4 TX4 5, w ∈ wsX1_isStale := fun w h => List.mem_cons_of_mem _ (List.mem_append_left _ (List.mem_append_left _ (List.mem_append_right _ h)))
  obtain ⟨hL1, hL2, hz1, hz2⟩ := id hR9
  refine lv_aload_n hx hb dX1_isStale_0 rfl (lv_at hl 0 rfl) ?_
  refine va_get (D := (dC, dI)) (ci := 2) (v := .int se) (C := RX1) (T := TX1) (N := 6) hx hb hts hi0_ hown hK hP 0 rfl rfl 5 (by decide) hw0_ (fun _ h9 => h9) rfl dX1_isStale_1 ?_
  refine lv_aload_n hx hb dX1_isStale_4 rfl (lv_at hl 0 rfl) ?_
  refine va_get (D := (dC, dI)) (ci := 2) (v := .ref y0) (C := RX1) (T := TX1) (N := 6) hx hb hts hi0_ hown hK hP 0 rfl rfl 2 (by decide) hw1_ (fun _ h9 => h9) rfl dX1_isStale_5 ?_
  refine va_get (D := (dC, dI)) (ci := 4) (v := .ref x0) (C := RX4) (T := TX4) (N := 5) hx hb hts hi1_ hown hK hP 1 rfl rfl 0 (by decide) hw2_ (fun _ h9 => h9) rfl dX1_isStale_8 ?_
  have hPc := hP.sub (ws' := [(x0, .inr (5, [.ref k0, .ref w0, .int (nI nz), .int ch]))]) [2] rfl
  have hKc := hK.sub (tys' := []) [] rfl
  refine ro_calli (va_runV (As := []) (rest := [.int se]) ⟨hx, hb, hml, hown, hts⟩ (c_X5_changes l  dC dI s.heap.size x0 ch (.ref k0) (.ref w0) (.int (nI nz))) (cwV 0 hts gX1_isStale_X5_changes rfl rfl rfl (by decide +kernel) ⟨(Nat.le_of_ble_eq_true rfl), (Nat.le_of_ble_eq_true rfl)⟩) ⟨pk_blindR, va_recv hKc hPc (ci := 5) (q0 := 0) rfl rfl, pk_callR hPc hKc⟩ rfl rfl hl.1 rfl (lv_room (Nat.le_of_ble_eq_true rfl)) dX1_isStale_11 ⟨(Nat.le_of_ble_eq_true rfl), (Nat.le_of_ble_eq_true rfl)⟩) (fun r_1 ur_1 hw => ?_)
  clear hPc hKc
  try dsimp only at hw
  refine W.eq (g2 := F0 m 14 ls [.int ch, .int se]) (by rw [hw]) ?_
  refine lv_icmp_eq (tgt := 21) hx hb dX1_isStale_14 (by decide) (fun c_2 => ?_) (fun c_2 => ?_)
  ·
    have ic_2 : se.toInt = ch.toInt := tx_eq rfl rfl c_2
    refine lv_iconst (v := 0) hx hb dX1_isStale_21 (by decide) ?_
    refine W.widen (k := 0) (n := 0) (Nat.le_of_ble_eq_true rfl) (Nat.le_of_ble_eq_true rfl) ?_
    exact W.zret (v := 0) hx hb hr rfl (fun t ht hW => ⟨⟨0, (), rfl, Or.inl rfl, congrArg Array.size ht⟩, hS.F ht⟩) hS.2.2 dX1_isStale_22
  ·
    have ic_2 : ¬ se.toInt = ch.toInt := tx_ne rfl rfl c_2
    refine lv_iconst (v := 1) hx hb dX1_isStale_17 (by decide) ?_
    refine lv_goto (tgt := 22) hx hb dX1_isStale_18 (by decide) ?_
    refine W.widen (k := 0) (n := 0) (Nat.le_of_ble_eq_true rfl) (Nat.le_of_ble_eq_true rfl) ?_
    exact W.zret (v := 1) hx hb hr rfl (fun t ht hW => ⟨⟨1, (), rfl, Or.inr rfl, congrArg Array.size ht⟩, hS.F ht⟩) hS.2.2 dX1_isStale_22
set_option maxHeartbeats 4000000 in
set_option maxRecDepth 100000 in
/-- Cursor.hasNext over L -/
theorem c_X1_hasNext_L (l : Launch) (hlt : l.stackTraces = false) (dC : Nat → ClassId) (dI : Nat → Nat → Nat) (sz : Nat) (z0 : Nat) (kdc : Int32) (whc : Int32) (nx : Int32) (ps : Int32) (se : Int32) (y0 : Nat) (kd : Int32) (wh : Int32) (lim : Nat) (bu : Int32) (x0 : Nat) (k0 : Nat) (w0 : Nat) (ck : ClassId) (cw : ClassId) (L : Nat) (f : Nat → Int32) (g : Nat → Int32) (nz : Nat) (ch : Int32) (hR9 : rOK L nz) (hlim : lim ≤ 1000) : Met l yX1_hasNext wsX1_hasNext ({ frames := 5, cells := 0, slots := 0, locals := 210 }) (va_Pc [.ref z0] (pk_PreRX (dC, dI) [(z0, .inr (2, [.int kdc, .int whc, .ref y0, .int nx, .int ps, .int se])), (y0, .inr (4, [.ref x0, .int kd, .int wh, .int (nI lim), .int bu])), (x0, .inr (5, [.ref k0, .ref w0, .int (nI nz), .int ch])), (k0, .inl (ck, L, .inl f)), (w0, .inl (cw, L, .inl g))] [(ck, .int), (cw, .int)] sz)) (va_Qi (fun (x : Int32) (u : Unit) => x = 0 ∨ x = 1) (fun _ (t : State) => t.heap.size = sz) ro_A) 0 0 ro_A := by
  refine Met.ofW (cc := cX1_hasNext) (maxL := 1) (ret := (some .boolean)) (by decide) rfl ?_
  intro p e s m args below meth c s₁ B hml hv
  obtain ⟨rfl, ⟨hsz, hP, hK⟩, hN⟩ := hv
  have hx := B.exec
  have hb := B.bytes
  have hr := B.returns
  have hts := atoms_spec (ws := wsX1_hasNext) B.pre
  have hown : s.vm.findClass RX1 = some m.cls := findClass_of_methodNamed B.named
  have hlocks := B.notSynchronized
  subst hsz
  have hS : va_S ro_A s.heap s.heap [] := va_S.rf
  have hP : va_P (dC, dI) vwCl [(z0, .inr (2, [.int kdc, .int whc, .ref y0, .int nx, .int ps, .int se])), (y0, .inr (4, [.ref x0, .int kd, .int wh, .int (nI lim), .int bu])), (x0, .inr (5, [.ref k0, .ref w0, .int (nI nz), .int ch])), (k0, .inl (ck, L, .inl f)), (w0, .inl (cw, L, .inl g))] s.heap := hP
  have hl := lv_entry ([.ref z0]) (n := 1) (Nat.le_of_ble_eq_true rfl)
  rw [lg_entry_eq]
  generalize (lg_sl ([.ref z0]) ++ List.replicate (1 - (lg_sl ([.ref z0])).length) Slot.unset).toArray = ls at hl ⊢
  have hl : lv_has ls 1 [(0, .ref z0)] := hl
  have hw0_ := hts (.fieldLink RX1 34 "KeyAtlas$Cursor" "next" "I") (List.mem_of_getElem? (l := wsX1_hasNext) (i := 1) rfl)
  have hw1_ := hts (.fieldLink RX1 9 "KeyAtlas$Cursor" "keyed" "LKeyAtlas$Keyed;") (List.mem_of_getElem? (l := wsX1_hasNext) (i := 2) rfl)
  have hi0_ : ∀ w ∈ u_ws RX1 TX1 6, w ∈ wsX1_hasNext := fun w h => List.mem_cons_of_mem _ (List.mem_append_left _ (List.mem_append_left _ (List.mem_append_left _ (List.mem_append_left _ (List.mem_append_right _ h)))))
  obtain ⟨hL1, hL2, hz1, hz2⟩ := id hR9
  refine lv_aload_n hx hb dX1_hasNext_0 rfl (lv_at hl 0 rfl) ?_
  refine va_get (D := (dC, dI)) (ci := 2) (v := .int nx) (C := RX1) (T := TX1) (N := 6) hx hb hts hi0_ hown hK hP 0 rfl rfl 3 (by decide) hw0_ (fun _ h9 => h9) rfl dX1_hasNext_1 ?_
  refine lv_aload_n hx hb dX1_hasNext_4 rfl (lv_at hl 0 rfl) ?_
  refine va_get (D := (dC, dI)) (ci := 2) (v := .ref y0) (C := RX1) (T := TX1) (N := 6) hx hb hts hi0_ hown hK hP 0 rfl rfl 2 (by decide) hw1_ (fun _ h9 => h9) rfl dX1_hasNext_5 ?_
  have hPc := hP.sub (ws' := [(y0, .inr (4, [.ref x0, .int kd, .int wh, .int (nI lim), .int bu])), (x0, .inr (5, [.ref k0, .ref w0, .int (nI nz), .int ch])), (k0, .inl (ck, L, .inl f)), (w0, .inl (cw, L, .inl g))]) [1, 2, 3, 4] rfl
  have hKc := hK.sub (tys' := [(ck, .int), (cw, .int)]) [0, 1] rfl
  refine ro_calli (va_runU (As := []) (rest := [.int nx]) ⟨hx, hb, hml, hown, hts⟩ (c_X3_size_L l  dC dI s.heap.size y0 (.int kd) (.int wh) (.int (nI lim)) (.int bu) x0 k0 w0 ck cw L f g nz ch hR9) (va_cwU 0 hts gX1_hasNext_X3_size_u37X4 rfl rfl rfl rfl (by decide +kernel) ⟨(Nat.le_of_ble_eq_true rfl), (Nat.le_of_ble_eq_true rfl)⟩) ⟨pk_blindR, va_recv hKc hPc (ci := 4) (q0 := 0) rfl rfl, pk_callR hPc hKc⟩ rfl rfl hl.1 rfl (lv_room (Nat.le_of_ble_eq_true rfl)) dX1_hasNext_8 ⟨(Nat.le_of_ble_eq_true rfl), (Nat.le_of_ble_eq_true rfl)⟩) (fun r_1 ur_1 hw => ?_)
  clear hPc hKc
  try dsimp only at hw
  have jr_1 := hw
  refine W.eq (g2 := F0 m 11 ls [.int r_1, .int nx]) rfl ?_
  have hr_1 : -1000 ≤ r_1.toInt ∧ r_1.toInt ≤ nz := by rw [jr_1, nI_toInt (by omega)]; omega
  refine lv_icmp_ge (tgt := 18) hx hb dX1_hasNext_11 (by decide) (fun c_2 => ?_) (fun c_2 => ?_)
  ·
    have ic_2 : r_1.toInt ≤ nx.toInt := tx_le rfl rfl c_2
    refine lv_iconst (v := 0) hx hb dX1_hasNext_18 (by decide) ?_
    refine W.widen (k := 0) (n := 0) (Nat.le_of_ble_eq_true rfl) (Nat.le_of_ble_eq_true rfl) ?_
    exact W.zret (v := 0) hx hb hr rfl (fun t ht hW => ⟨⟨0, (), rfl, Or.inl rfl, congrArg Array.size ht⟩, hS.F ht⟩) hS.2.2 dX1_hasNext_19
  ·
    have ic_2 : nx.toInt < r_1.toInt := tx_nle rfl rfl c_2
    refine lv_iconst (v := 1) hx hb dX1_hasNext_14 (by decide) ?_
    refine lv_goto (tgt := 19) hx hb dX1_hasNext_15 (by decide) ?_
    refine W.widen (k := 0) (n := 0) (Nat.le_of_ble_eq_true rfl) (Nat.le_of_ble_eq_true rfl) ?_
    exact W.zret (v := 1) hx hb hr rfl (fun t ht hW => ⟨⟨1, (), rfl, Or.inr rfl, congrArg Array.size ht⟩, hS.F ht⟩) hS.2.2 dX1_hasNext_19
set_option maxHeartbeats 4000000 in
set_option maxRecDepth 100000 in
/-- Cursor.pass over L -/
theorem c_X1_pass_L (l : Launch) (hlt : l.stackTraces = false) (dC : Nat → ClassId) (dI : Nat → Nat → Nat) (sz : Nat) (z0 : Nat) (kdc : Int32) (whc : Int32) (nx : Int32) (ps : Int32) (se : Int32) (y0 : Nat) (kd : Int32) (wh : Int32) (lim : Nat) (bu : Int32) (x0 : Nat) (k0 : Nat) (w0 : Nat) (ck : ClassId) (cw : ClassId) (L : Nat) (f : Nat → Int32) (g : Nat → Int32) (nz : Nat) (ch : Int32) (hR9 : rOK L nz) (hlim : lim ≤ 1000) : vx_Met l yX1_pass wqX1_pass ({ frames := 7, cells := 1, slots := 6, locals := 260 }) (va_Pc [.ref z0] (pk_PreX (dC, dI) [(z0, .inr (2, [.int kdc, .int whc, .ref y0, .int nx, .int ps, .int se])), (y0, .inr (4, [.ref x0, .int kd, .int wh, .int (nI lim), .int bu])), (x0, .inr (5, [.ref k0, .ref w0, .int (nI nz), .int ch])), (k0, .inl (ck, L, .inl f)), (w0, .inl (cw, L, .inl g))] [(ck, .int), (cw, .int)] sz)) (va_Ql (fun (x : Int64) (u : Int32 × Int32) => True) (fun (u : Int32 × Int32) (t : State) => va_P (dC, dI) vwCl [(z0, .inr (2, [.int kdc, .int whc, .ref y0, .int u.1, .int u.2, .int se])), (y0, .inr (4, [.ref x0, .int kd, .int wh, .int (nI lim), .int bu])), (x0, .inr (5, [.ref k0, .ref w0, .int (nI nz), .int ch])), (k0, .inl (ck, L, .inl f)), (w0, .inl (cw, L, .inl g))] t.heap ∧ va_K (dC, dI) vwCl [(ck, .int), (cw, .int)] t ∧ va_D (va_A [(z0, .inr (2, [.int kdc, .int whc, .ref y0, .int nx, .int ps, .int se])), (y0, .inr (4, [.ref x0, .int kd, .int wh, .int (nI lim), .int bu])), (x0, .inr (5, [.ref k0, .ref w0, .int (nI nz), .int ch])), (k0, .inl (ck, L, .inl f)), (w0, .inl (cw, L, .inl g))] sz) [(z0, .inr (2, [.int kdc, .int whc, .ref y0, .int u.1, .int u.2, .int se])), (y0, .inr (4, [.ref x0, .int kd, .int wh, .int (nI lim), .int bu])), (x0, .inr (5, [.ref k0, .ref w0, .int (nI nz), .int ch])), (k0, .inl (ck, L, .inl f)), (w0, .inl (cw, L, .inl g))]) (va_A [(z0, .inr (2, [.int kdc, .int whc, .ref y0, .int nx, .int ps, .int se])), (y0, .inr (4, [.ref x0, .int kd, .int wh, .int (nI lim), .int bu])), (x0, .inr (5, [.ref k0, .ref w0, .int (nI nz), .int ch])), (k0, .inl (ck, L, .inl f)), (w0, .inl (cw, L, .inl g))] sz)) (vx_X (fun _ : Unit => True) (fun (E : String) (_ : Unit) (t : State) => E = "java/util/NoSuchElementException" ∧ va_P (dC, dI) vwCl [(z0, .inr (2, [.int kdc, .int whc, .ref y0, .int nx, .int ps, .int se])), (y0, .inr (4, [.ref x0, .int kd, .int wh, .int (nI lim), .int bu])), (x0, .inr (5, [.ref k0, .ref w0, .int (nI nz), .int ch])), (k0, .inl (ck, L, .inl f)), (w0, .inl (cw, L, .inl g))] t.heap ∧ va_K (dC, dI) vwCl [(ck, .int), (cw, .int)] t ∧ va_D (va_A [(z0, .inr (2, [.int kdc, .int whc, .ref y0, .int nx, .int ps, .int se])), (y0, .inr (4, [.ref x0, .int kd, .int wh, .int (nI lim), .int bu])), (x0, .inr (5, [.ref k0, .ref w0, .int (nI nz), .int ch])), (k0, .inl (ck, L, .inl f)), (w0, .inl (cw, L, .inl g))] sz) [(z0, .inr (2, [.int kdc, .int whc, .ref y0, .int nx, .int ps, .int se])), (y0, .inr (4, [.ref x0, .int kd, .int wh, .int (nI lim), .int bu])), (x0, .inr (5, [.ref k0, .ref w0, .int (nI nz), .int ch])), (k0, .inl (ck, L, .inl f)), (w0, .inl (cw, L, .inl g))]) (va_A [(z0, .inr (2, [.int kdc, .int whc, .ref y0, .int nx, .int ps, .int se])), (y0, .inr (4, [.ref x0, .int kd, .int wh, .int (nI lim), .int bu])), (x0, .inr (5, [.ref k0, .ref w0, .int (nI nz), .int ch])), (k0, .inl (ck, L, .inl f)), (w0, .inl (cw, L, .inl g))] sz)) 1 6 (va_A [(z0, .inr (2, [.int kdc, .int whc, .ref y0, .int nx, .int ps, .int se])), (y0, .inr (4, [.ref x0, .int kd, .int wh, .int (nI lim), .int bu])), (x0, .inr (5, [.ref k0, .ref w0, .int (nI nz), .int ch])), (k0, .inl (ck, L, .inl f)), (w0, .inl (cw, L, .inl g))] sz) := by
  refine vx_ofW (cc := cX1_pass) (maxL := 1) (ret := (some .long)) (by decide) rfl ?_
  intro p e s m args below meth c s₁ B hml htab hv
  obtain ⟨rfl, hsz, hP, hK, hD0, hN, hZ⟩ := hv
  have hx := B.exec
  have hb := B.bytes
  have hr := B.returns
  have hts := atoms_spec (ws := wqX1_pass) B.pre
  have hown : s.vm.findClass RX1 = some m.cls := findClass_of_methodNamed B.named
  have hlocks := B.notSynchronized
  subst hsz
  have hD := hD0.self (sz := s.heap.size)
  generalize hAe : va_A [(z0, .inr (2, [.int kdc, .int whc, .ref y0, .int nx, .int ps, .int se])), (y0, .inr (4, [.ref x0, .int kd, .int wh, .int (nI lim), .int bu])), (x0, .inr (5, [.ref k0, .ref w0, .int (nI nz), .int ch])), (k0, .inl (ck, L, .inl f)), (w0, .inl (cw, L, .inl g))] s.heap.size = A at hZ hD ⊢
  have hA : ∀ q : Nat, s.heap.size ≤ q → A q := fun q h => by rw [← hAe]; exact Or.inr h
  have hS : va_S A s.heap s.heap [] := va_S.rf
  have hP : va_P (dC, dI) vwCl [(z0, .inr (2, [.int kdc, .int whc, .ref y0, .int nx, .int ps, .int se])), (y0, .inr (4, [.ref x0, .int kd, .int wh, .int (nI lim), .int bu])), (x0, .inr (5, [.ref k0, .ref w0, .int (nI nz), .int ch])), (k0, .inl (ck, L, .inl f)), (w0, .inl (cw, L, .inl g))] s.heap := hP
  have hl := lv_entry ([.ref z0]) (n := 1) (Nat.le_of_ble_eq_true rfl)
  rw [lg_entry_eq]
  generalize (lg_sl ([.ref z0]) ++ List.replicate (1 - (lg_sl ([.ref z0])).length) Slot.unset).toArray = ls at hl ⊢
  have hl : lv_has ls 1 [(0, .ref z0)] := hl
  have hw0_ := hts (.fieldLink RX1 34 "KeyAtlas$Cursor" "next" "I") (List.mem_of_getElem? (l := wqX1_pass) (i := 3) rfl)
  have hw1_ := hts (.fieldLink RX1 15 "KeyAtlas$Cursor" "passed" "I") (List.mem_of_getElem? (l := wqX1_pass) (i := 4) rfl)
  have hw2_ := hts (.fieldLink RX1 9 "KeyAtlas$Cursor" "keyed" "LKeyAtlas$Keyed;") (List.mem_of_getElem? (l := wqX1_pass) (i := 5) rfl)
  have hw3_ := hts (.fieldLink RX1 19 "KeyAtlas$Keyed" "rows" "LKeyAtlas$Rows;") (List.mem_of_getElem? (l := wqX1_pass) (i := 6) rfl)
  have hw4_ := hts (.classLink RX1 44 nN) (by decide +kernel)
  have hw5_ := hts (.initialized nN) (by decide +kernel)
  have hi0_ : ∀ w ∈ u_ws RX1 TX1 6, w ∈ wqX1_pass := fun w h => List.mem_cons_of_mem _ (List.mem_append_left _ (List.mem_append_left _ (List.mem_append_left _ (List.mem_append_left _ (List.mem_append_left _ (List.mem_append_right _ h))))))
  have hi1_ : ∀ w ∈ u_ws RX4 TX4 5, w ∈ wqX1_pass := fun w h => List.mem_cons_of_mem _ (List.mem_append_left _ (List.mem_append_left _ (List.mem_append_left _ (List.mem_append_right _ h))))
  obtain ⟨hL1, hL2, hz1, hz2⟩ := id hR9
  refine lv_aload_n hx hb dX1_pass_0 rfl (lv_at hl 0 rfl) ?_
  have hPc := hP.sub (ws' := [(z0, .inr (2, [.int kdc, .int whc, .ref y0, .int nx, .int ps, .int se])), (y0, .inr (4, [.ref x0, .int kd, .int wh, .int (nI lim), .int bu])), (x0, .inr (5, [.ref k0, .ref w0, .int (nI nz), .int ch])), (k0, .inl (ck, L, .inl f)), (w0, .inl (cw, L, .inl g))]) [0, 1, 2, 3, 4] rfl
  have hKc := hK.sub (tys' := [(ck, .int), (cw, .int)]) [0, 1] rfl
  refine ro_calli (va_runV (As := []) (rest := []) ⟨hx, hb, hml, hown, hts⟩ (c_X1_hasNext_L l hlt dC dI s.heap.size z0 kdc whc nx ps se y0 kd wh lim bu x0 k0 w0 ck cw L f g nz ch hR9 hlim) (cwV 0 hts gX1_pass_X1_hasNext rfl rfl rfl (by decide +kernel) ⟨(Nat.le_of_ble_eq_true rfl), (Nat.le_of_ble_eq_true rfl)⟩) ⟨pk_blindRX, va_recv hKc hPc (ci := 2) (q0 := 0) rfl rfl, pk_callRX hPc hKc hN⟩ rfl rfl hl.1 rfl (lv_room (Nat.le_of_ble_eq_true rfl)) dX1_pass_1 ⟨(Nat.le_of_ble_eq_true rfl), (Nat.le_of_ble_eq_true rfl)⟩) (fun r_1 ur_1 hw => ?_)
  clear hPc hKc
  try dsimp only at hw
  have jr_1 := hw
  refine W.eq (g2 := F0 m 4 ls [.int r_1]) rfl ?_
  refine lv_if_ne (tgt := 17) hx hb dX1_pass_4 (by decide) (fun c_2 => ?_) (fun c_2 => ?_)
  ·
    have ic_2 : ¬ r_1.toInt = 0 := tx_ne rfl (by decide) c_2
    refine lv_aload_n hx hb dX1_pass_17 rfl (lv_at hl 0 rfl) ?_
    refine lv_aload_n hx hb dX1_pass_18 rfl (lv_at hl 0 rfl) ?_
    refine va_get (D := (dC, dI)) (ci := 2) (v := .int nx) (C := RX1) (T := TX1) (N := 6) hx hb hts hi0_ hown hK hP 0 rfl rfl 3 (by decide) hw0_ (fun _ h9 => h9) rfl dX1_pass_19 ?_
    refine va_put (D := (dC, dI)) (ci := 2) (v := .int nx) (ty := .int) (C := RX1) (T := TX1) (N := 6) hx hb hts hi0_ tyX1 tyX1_ok nmX1 hown hK hP hD hS 0 rfl rfl 4 (by decide) hw1_ (fun _ h9 => h9) rfl (by decide +kernel) rfl rfl (Nat.le_of_ble_eq_true rfl) dX1_pass_22 (fun H locs hP hD hS => ?_)
    replace hP : va_P (dC, dI) vwCl [(z0, .inr (2, [.int kdc, .int whc, .ref y0, .int nx, .int nx, .int se])), (y0, .inr (4, [.ref x0, .int kd, .int wh, .int (nI lim), .int bu])), (x0, .inr (5, [.ref k0, .ref w0, .int (nI nz), .int ch])), (k0, .inl (ck, L, .inl f)), (w0, .inl (cw, L, .inl g))] H := hP
    replace hD : va_D A [(z0, .inr (2, [.int kdc, .int whc, .ref y0, .int nx, .int nx, .int se])), (y0, .inr (4, [.ref x0, .int kd, .int wh, .int (nI lim), .int bu])), (x0, .inr (5, [.ref k0, .ref w0, .int (nI nz), .int ch])), (k0, .inl (ck, L, .inl f)), (w0, .inl (cw, L, .inl g))] := hD
    refine lv_aload_n hx hb dX1_pass_25 rfl (lv_at hl 0 rfl) ?_
    refine lv_dup hx hb dX1_pass_26 rfl ?_
    refine va_get (D := (dC, dI)) (ci := 2) (v := .int nx) (C := RX1) (T := TX1) (N := 6) hx hb hts hi0_ hown hK hP 0 rfl rfl 3 (by decide) hw0_ (fun _ h9 => h9) rfl dX1_pass_27 ?_
    refine lv_iconst (v := 1) hx hb dX1_pass_30 (by decide) ?_
    refine lv_iadd hx hb dX1_pass_31 ?_
    refine lv_topi (fun z_ ez_ => ?_)
    obtain rfl : z_ = nx + 1 := ez_.trans (rfl)
    refine va_put (D := (dC, dI)) (ci := 2) (v := .int (nx + 1)) (ty := .int) (C := RX1) (T := TX1) (N := 6) hx hb hts hi0_ tyX1 tyX1_ok nmX1 hown hK hP hD hS 0 rfl rfl 3 (by decide) hw0_ (fun _ h9 => h9) rfl (by decide +kernel) rfl rfl (Nat.le_of_ble_eq_true rfl) dX1_pass_32 (fun H locs hP hD hS => ?_)
    replace hP : va_P (dC, dI) vwCl [(z0, .inr (2, [.int kdc, .int whc, .ref y0, .int (nx + 1), .int nx, .int se])), (y0, .inr (4, [.ref x0, .int kd, .int wh, .int (nI lim), .int bu])), (x0, .inr (5, [.ref k0, .ref w0, .int (nI nz), .int ch])), (k0, .inl (ck, L, .inl f)), (w0, .inl (cw, L, .inl g))] H := hP
    replace hD : va_D A [(z0, .inr (2, [.int kdc, .int whc, .ref y0, .int (nx + 1), .int nx, .int se])), (y0, .inr (4, [.ref x0, .int kd, .int wh, .int (nI lim), .int bu])), (x0, .inr (5, [.ref k0, .ref w0, .int (nI nz), .int ch])), (k0, .inl (ck, L, .inl f)), (w0, .inl (cw, L, .inl g))] := hD
    refine lv_aload_n hx hb dX1_pass_35 rfl (lv_at hl 0 rfl) ?_
    refine va_get (D := (dC, dI)) (ci := 2) (v := .ref y0) (C := RX1) (T := TX1) (N := 6) hx hb hts hi0_ hown hK hP 0 rfl rfl 2 (by decide) hw2_ (fun _ h9 => h9) rfl dX1_pass_36 ?_
    refine va_get (D := (dC, dI)) (ci := 4) (v := .ref x0) (C := RX4) (T := TX4) (N := 5) hx hb hts hi1_ hown hK hP 1 rfl rfl 0 (by decide) hw3_ (fun _ h9 => h9) rfl dX1_pass_39 ?_
    refine lv_aload_n hx hb dX1_pass_42 rfl (lv_at hl 0 rfl) ?_
    refine va_get (D := (dC, dI)) (ci := 2) (v := .ref y0) (C := RX1) (T := TX1) (N := 6) hx hb hts hi0_ hown hK hP 0 rfl rfl 2 (by decide) hw2_ (fun _ h9 => h9) rfl dX1_pass_43 ?_
    refine lv_aload_n hx hb dX1_pass_46 rfl (lv_at hl 0 rfl) ?_
    refine va_get (D := (dC, dI)) (ci := 2) (v := .int nx) (C := RX1) (T := TX1) (N := 6) hx hb hts hi0_ hown hK hP 0 rfl rfl 4 (by decide) hw1_ (fun _ h9 => h9) rfl dX1_pass_47 ?_
    have hPc := hP.sub (ws' := [(y0, .inr (4, [.ref x0, .int kd, .int wh, .int (nI lim), .int bu]))]) [1] rfl
    have hKc := hK.sub (tys' := []) [] rfl
    refine ro_calli (va_runU (As := [.int nx]) (rest := [.ref x0]) ⟨hx, hb, hml, hown, hts⟩ (c_X3_placeOf_L l  dC dI H.size y0 (.ref x0) (.int kd) (.int wh) (.int (nI lim)) (.int bu) nx) (va_cwU 1 hts gX1_pass_X3_placeOf_u51X4 rfl rfl rfl rfl (by decide +kernel) ⟨(Nat.le_of_ble_eq_true rfl), (Nat.le_of_ble_eq_true rfl)⟩) ⟨pk_blindR, va_recv hKc hPc (ci := 4) (q0 := 0) rfl rfl, pk_callR hPc hKc⟩ rfl rfl hl.1 rfl (lv_room (Nat.le_of_ble_eq_true rfl)) dX1_pass_50 ⟨(Nat.le_of_ble_eq_true rfl), (Nat.le_of_ble_eq_true rfl)⟩) (fun r_3 ur_3 hw => ?_)
    clear hPc hKc
    try dsimp only at hw
    have jr_3 := hw
    refine W.eq (g2 := F0 m 53 ls [.int r_3, .ref x0]) rfl ?_
    have hPc := hP.sub (ws' := [(x0, .inr (5, [.ref k0, .ref w0, .int (nI nz), .int ch])), (k0, .inl (ck, L, .inl f)), (w0, .inl (cw, L, .inl g))]) [2, 3, 4] rfl
    have hKc := hK.sub (tys' := [(ck, .int), (cw, .int)]) [0, 1] rfl
    refine ro_calli (va_runV (As := [.int r_3]) (rest := []) ⟨hx, hb, hml, hown, hts⟩ (c_X5_key l  dC dI H.size x0 k0 w0 ck cw L f g nz ch r_3 hR9) (cwV 1 hts gX1_pass_X5_key rfl rfl rfl (by decide +kernel) ⟨(Nat.le_of_ble_eq_true rfl), (Nat.le_of_ble_eq_true rfl)⟩) ⟨pk_blindR, va_recv hKc hPc (ci := 5) (q0 := 0) rfl rfl, pk_callR hPc hKc⟩ rfl rfl hl.1 rfl (lv_room (Nat.le_of_ble_eq_true rfl)) dX1_pass_53 ⟨(Nat.le_of_ble_eq_true rfl), (Nat.le_of_ble_eq_true rfl)⟩) (fun r_4 ur_4 hw => ?_)
    clear hPc hKc
    try dsimp only at hw
    have jr_4 := hw
    refine W.eq (g2 := F0 m 56 ls [.int r_4]) rfl ?_
    refine lv_i2l (v := r_4.toInt64) hx hb dX1_pass_56 rfl ?_
    have hP9 := hP.sub (ws' := [(z0, .inr (2, [.int kdc, .int whc, .ref y0, .int (nx + 1), .int nx, .int se])), (y0, .inr (4, [.ref x0, .int kd, .int wh, .int (nI lim), .int bu])), (x0, .inr (5, [.ref k0, .ref w0, .int (nI nz), .int ch])), (k0, .inl (ck, L, .inl f)), (w0, .inl (cw, L, .inl g))]) [0, 1, 2, 3, 4] rfl
    have hD9 := hD.sub (ws' := [(z0, .inr (2, [.int kdc, .int whc, .ref y0, .int (nx + 1), .int nx, .int se])), (y0, .inr (4, [.ref x0, .int kd, .int wh, .int (nI lim), .int bu])), (x0, .inr (5, [.ref k0, .ref w0, .int (nI nz), .int ch])), (k0, .inl (ck, L, .inl f)), (w0, .inl (cw, L, .inl g))]) [0, 1, 2, 3, 4] (by decide) rfl
    have hK9 := hK.sub (tys' := [(ck, .int), (cw, .int)]) [0, 1] rfl
    refine W.widen (k := 1) (n := 6) (Nat.le_of_ble_eq_true rfl) (Nat.le_of_ble_eq_true rfl) ?_
    refine vx_ret ?_
    exact W.lret (v := r_4.toInt64) hx hb hr (fun t ht hW => ⟨⟨r_4.toInt64, (nx + 1, nx), rfl, trivial, by rw [ht]; exact hP9, va_K.moved hW.alike hK9, hD9⟩, hS.F ht⟩) hS.2.2 dX1_pass_57
  ·
    have ic_2 : r_1.toInt = 0 := tx_eq rfl (by decide) c_2
    have hP9 := hP.sub (ws' := [(z0, .inr (2, [.int kdc, .int whc, .ref y0, .int nx, .int ps, .int se])), (y0, .inr (4, [.ref x0, .int kd, .int wh, .int (nI lim), .int bu])), (x0, .inr (5, [.ref k0, .ref w0, .int (nI nz), .int ch])), (k0, .inl (ck, L, .inl f)), (w0, .inl (cw, L, .inl g))]) [0, 1, 2, 3, 4] rfl
    have hD9 := hD.sub (ws' := [(z0, .inr (2, [.int kdc, .int whc, .ref y0, .int nx, .int ps, .int se])), (y0, .inr (4, [.ref x0, .int kd, .int wh, .int (nI lim), .int bu])), (x0, .inr (5, [.ref k0, .ref w0, .int (nI nz), .int ch])), (k0, .inl (ck, L, .inl f)), (w0, .inl (cw, L, .inl g))]) [0, 1, 2, 3, 4] (by decide) rfl
    have hK9 := hK.sub (tys' := [(ck, .int), (cw, .int)]) [0, 1] rfl
    obtain ⟨sa, hsa⟩ := hN.stX1_46
    exact tx_throwN hx hb hlt (own := RX1) (text := "none is next") hown hw4_ hw5_ hsa (tx_hat hN.xw (fun w h => hts w (at_X1_pass_7 w h)) ng_RX1_48) og_RX1_48 hZ.1 hZ.2 hS (by rw [hml]; exact hl.1) dX1_pass_7 dX1_pass_10 dX1_pass_11 dX1_pass_13 dX1_pass_16 (fun x hx9 => (htab x hx9).elim) (Nat.le_of_ble_eq_true rfl) (Nat.le_of_ble_eq_true rfl) (Nat.le_of_ble_eq_true rfl) (Nat.le_of_ble_eq_true rfl) hlocks (fun t hvm hz hq => ⟨(), trivial, ⟨rfl, hP9.kept (fun k x hx => hq x.1 (hP9 k x hx).lt), va_K.moved hvm hK9, hD9⟩, ⟨Nat.le_trans hS.1 hz, fun q h1 h2 => (hq q (Nat.lt_of_lt_of_le h1 hS.1)).trans (hS.2.1 q h1 h2)⟩⟩) hS.2.2 (Nat.le_of_ble_eq_true rfl) (Nat.le_of_ble_eq_true rfl)
set_option maxHeartbeats 4000000 in
set_option maxRecDepth 100000 in
/-- Cursor.takePassedOut over L -/
theorem c_X1_takePassedOut_L (l : Launch) (hlt : l.stackTraces = false) (dC : Nat → ClassId) (dI : Nat → Nat → Nat) (sz : Nat) (z0 : Nat) (kdc : Int32) (whc : Int32) (nx : Int32) (ps : Int32) (se : Int32) (y0 : Nat) (kd : Int32) (wh : Int32) (lim : Nat) (bu : Int32) (x0 : Nat) (k0 : Nat) (w0 : Nat) (ck : ClassId) (cw : ClassId) (L : Nat) (f : Nat → Int32) (g : Nat → Int32) (nz : Nat) (ch : Int32) (hR9 : rOK L nz) (hlim : lim ≤ 1000) : vx_Met l yX1_takePassedOut wsX1_takePassedOut ({ frames := 7, cells := 1, slots := 6, locals := 260 }) (va_Pc [.ref z0] (pk_PreX (dC, dI) [(z0, .inr (2, [.int kdc, .int whc, .ref y0, .int nx, .int ps, .int se])), (y0, .inr (4, [.ref x0, .int kd, .int wh, .int (nI lim), .int bu])), (x0, .inr (5, [.ref k0, .ref w0, .int (nI nz), .int ch])), (k0, .inl (ck, L, .inl f)), (w0, .inl (cw, L, .inl g))] [(ck, .int), (cw, .int)] sz)) (va_Ql (fun (x : Int64) (u : Int32 × Int32 × Int32 × (Nat → Int32) × (Nat → Int32) × Nat × Int32) => u.2.2.2.2.2.1 ≤ nz) (fun (u : Int32 × Int32 × Int32 × (Nat → Int32) × (Nat → Int32) × Nat × Int32) (t : State) => va_P (dC, dI) vwCl [(z0, .inr (2, [.int kdc, .int whc, .ref y0, .int u.1, .int u.2.1, .int u.2.2.1])), (y0, .inr (4, [.ref x0, .int kd, .int wh, .int (nI lim), .int bu])), (x0, .inr (5, [.ref k0, .ref w0, .int (nI (u.2.2.2.2.2.1)), .int u.2.2.2.2.2.2])), (k0, .inl (ck, L, .inl u.2.2.2.1)), (w0, .inl (cw, L, .inl u.2.2.2.2.1))] t.heap ∧ va_K (dC, dI) vwCl [(ck, .int), (cw, .int)] t ∧ va_D (va_A [(z0, .inr (2, [.int kdc, .int whc, .ref y0, .int nx, .int ps, .int se])), (y0, .inr (4, [.ref x0, .int kd, .int wh, .int (nI lim), .int bu])), (x0, .inr (5, [.ref k0, .ref w0, .int (nI nz), .int ch])), (k0, .inl (ck, L, .inl f)), (w0, .inl (cw, L, .inl g))] sz) [(z0, .inr (2, [.int kdc, .int whc, .ref y0, .int u.1, .int u.2.1, .int u.2.2.1])), (y0, .inr (4, [.ref x0, .int kd, .int wh, .int (nI lim), .int bu])), (x0, .inr (5, [.ref k0, .ref w0, .int (nI (u.2.2.2.2.2.1)), .int u.2.2.2.2.2.2])), (k0, .inl (ck, L, .inl u.2.2.2.1)), (w0, .inl (cw, L, .inl u.2.2.2.2.1))]) (va_A [(z0, .inr (2, [.int kdc, .int whc, .ref y0, .int nx, .int ps, .int se])), (y0, .inr (4, [.ref x0, .int kd, .int wh, .int (nI lim), .int bu])), (x0, .inr (5, [.ref k0, .ref w0, .int (nI nz), .int ch])), (k0, .inl (ck, L, .inl f)), (w0, .inl (cw, L, .inl g))] sz)) (vx_X (fun _ : Unit => True) (fun (E : String) (_ : Unit) (t : State) => E = "java/lang/IllegalStateException" ∧ va_P (dC, dI) vwCl [(z0, .inr (2, [.int kdc, .int whc, .ref y0, .int nx, .int ps, .int se])), (y0, .inr (4, [.ref x0, .int kd, .int wh, .int (nI lim), .int bu])), (x0, .inr (5, [.ref k0, .ref w0, .int (nI nz), .int ch])), (k0, .inl (ck, L, .inl f)), (w0, .inl (cw, L, .inl g))] t.heap ∧ va_K (dC, dI) vwCl [(ck, .int), (cw, .int)] t ∧ va_D (va_A [(z0, .inr (2, [.int kdc, .int whc, .ref y0, .int nx, .int ps, .int se])), (y0, .inr (4, [.ref x0, .int kd, .int wh, .int (nI lim), .int bu])), (x0, .inr (5, [.ref k0, .ref w0, .int (nI nz), .int ch])), (k0, .inl (ck, L, .inl f)), (w0, .inl (cw, L, .inl g))] sz) [(z0, .inr (2, [.int kdc, .int whc, .ref y0, .int nx, .int ps, .int se])), (y0, .inr (4, [.ref x0, .int kd, .int wh, .int (nI lim), .int bu])), (x0, .inr (5, [.ref k0, .ref w0, .int (nI nz), .int ch])), (k0, .inl (ck, L, .inl f)), (w0, .inl (cw, L, .inl g))]) (va_A [(z0, .inr (2, [.int kdc, .int whc, .ref y0, .int nx, .int ps, .int se])), (y0, .inr (4, [.ref x0, .int kd, .int wh, .int (nI lim), .int bu])), (x0, .inr (5, [.ref k0, .ref w0, .int (nI nz), .int ch])), (k0, .inl (ck, L, .inl f)), (w0, .inl (cw, L, .inl g))] sz)) 1 6 (va_A [(z0, .inr (2, [.int kdc, .int whc, .ref y0, .int nx, .int ps, .int se])), (y0, .inr (4, [.ref x0, .int kd, .int wh, .int (nI lim), .int bu])), (x0, .inr (5, [.ref k0, .ref w0, .int (nI nz), .int ch])), (k0, .inl (ck, L, .inl f)), (w0, .inl (cw, L, .inl g))] sz) := by
  refine vx_ofW (cc := cX1_takePassedOut) (maxL := 3) (ret := (some .long)) (by decide) rfl ?_
  intro p e s m args below meth c s₁ B hml htab hv
  obtain ⟨rfl, hsz, hP, hK, hD0, hN, hZ⟩ := hv
  have hx := B.exec
  have hb := B.bytes
  have hr := B.returns
  have hts := atoms_spec (ws := wsX1_takePassedOut) B.pre
  have hown : s.vm.findClass RX1 = some m.cls := findClass_of_methodNamed B.named
  have hlocks := B.notSynchronized
  subst hsz
  have hD := hD0.self (sz := s.heap.size)
  generalize hAe : va_A [(z0, .inr (2, [.int kdc, .int whc, .ref y0, .int nx, .int ps, .int se])), (y0, .inr (4, [.ref x0, .int kd, .int wh, .int (nI lim), .int bu])), (x0, .inr (5, [.ref k0, .ref w0, .int (nI nz), .int ch])), (k0, .inl (ck, L, .inl f)), (w0, .inl (cw, L, .inl g))] s.heap.size = A at hZ hD ⊢
  have hA : ∀ q : Nat, s.heap.size ≤ q → A q := fun q h => by rw [← hAe]; exact Or.inr h
  have hS : va_S A s.heap s.heap [] := va_S.rf
  have hP : va_P (dC, dI) vwCl [(z0, .inr (2, [.int kdc, .int whc, .ref y0, .int nx, .int ps, .int se])), (y0, .inr (4, [.ref x0, .int kd, .int wh, .int (nI lim), .int bu])), (x0, .inr (5, [.ref k0, .ref w0, .int (nI nz), .int ch])), (k0, .inl (ck, L, .inl f)), (w0, .inl (cw, L, .inl g))] s.heap := hP
  have hl := lv_entry ([.ref z0]) (n := 3) (Nat.le_of_ble_eq_true rfl)
  rw [lg_entry_eq]
  generalize (lg_sl ([.ref z0]) ++ List.replicate (3 - (lg_sl ([.ref z0])).length) Slot.unset).toArray = ls at hl ⊢
  have hl : lv_has ls 3 [(0, .ref z0)] := hl
  have hw0_ := hts (.fieldLink RX1 9 "KeyAtlas$Cursor" "keyed" "LKeyAtlas$Keyed;") (List.mem_of_getElem? (l := wsX1_takePassedOut) (i := 1) rfl)
  have hw1_ := hts (.fieldLink RX1 15 "KeyAtlas$Cursor" "passed" "I") (List.mem_of_getElem? (l := wsX1_takePassedOut) (i := 2) rfl)
  have hw2_ := hts (.fieldLink RX1 19 "KeyAtlas$Keyed" "rows" "LKeyAtlas$Rows;") (List.mem_of_getElem? (l := wsX1_takePassedOut) (i := 3) rfl)
  have hw3_ := hts (.fieldLink RX1 34 "KeyAtlas$Cursor" "next" "I") (List.mem_of_getElem? (l := wsX1_takePassedOut) (i := 4) rfl)
  have hw4_ := hts (.fieldLink RX1 31 "KeyAtlas$Cursor" "seenChanges" "I") (List.mem_of_getElem? (l := wsX1_takePassedOut) (i := 5) rfl)
  have hi0_ : ∀ w ∈ u_ws RX1 TX1 6, w ∈ wsX1_takePassedOut := fun w h => List.mem_cons_of_mem _ (List.mem_append_left _ (List.mem_append_left _ (List.mem_append_left _ (List.mem_append_left _ (List.mem_append_left _ (List.mem_append_right _ h))))))
  have hi1_ : ∀ w ∈ u_ws RX4 TX4 5, w ∈ wsX1_takePassedOut := fun w h => List.mem_cons_of_mem _ (List.mem_append_left _ (List.mem_append_left _ (List.mem_append_left _ (List.mem_append_right _ h))))
  obtain ⟨hL1, hL2, hz1, hz2⟩ := id hR9
  refine lv_aload_n hx hb dX1_takePassedOut_0 rfl (lv_at hl 0 rfl) ?_
  have hPc := hP.sub (ws' := [(z0, .inr (2, [.int kdc, .int whc, .ref y0, .int nx, .int ps, .int se]))]) [0] rfl
  have hKc := hK.sub (tys' := []) [] rfl
  refine rox_callv (vx_runV (As := []) (rest := []) ⟨hx, hb, hml, hown, hts⟩ (c_X1_needPassed l hlt dC dI s.heap.size z0 ps (.int kdc) (.int whc) (.ref y0) (.int nx) (.int se)) (cwV 0 hts gX1_takePassedOut_X1_needPassed rfl rfl rfl (by decide +kernel) ⟨(Nat.le_of_ble_eq_true rfl), (Nat.le_of_ble_eq_true rfl)⟩) ⟨pk_blindXR, va_recv hKc hPc (ci := 2) (q0 := 0) rfl rfl, pk_callXR hPc hKc hN ((hZ.kept hS.2.1).narrow (fun q h9 => hA q (Nat.le_trans hS.1 h9)))⟩ rfl rfl hl.1 rfl (lv_room (Nat.le_of_ble_eq_true rfl)) dX1_takePassedOut_1 ⟨(Nat.le_of_ble_eq_true rfl), (Nat.le_of_ble_eq_true rfl)⟩) hS (fun q h9 => hA q (Nat.le_trans hS.1 h9)) (fun E ce q9 u9 t H1 locs ht hvm hw hB hz1 hk1 hS hce hcv hcl => ?_) (fun ur_1 locs hw hS => ?_)
  ·
    try dsimp only at hB
    exact vx_out (fun x hx9 => (htab x hx9).elim) hlocks hce hcv hcl (fun t9 ht9 hal9 => ⟨(), trivial, ⟨hB, by rw [ht9]; exact hP.kept (fun k x hx => hk1 x.1 (hP k x hx).lt), va_K.moved hal9 hK, hD⟩, hS.F ht9⟩) hS.2.2 (by omega) (by omega)
  ·
    refine W.tight (k := 0) (n := 0) (Nat.le_refl _) (Nat.le_refl _) ?_
    clear hPc hKc
    try dsimp only at hw
    have jr_1 := hw
    refine W.eq (g2 := F0 m 4 ls []) rfl ?_
    refine lv_aload_n hx hb dX1_takePassedOut_4 rfl (lv_at hl 0 rfl) ?_
    refine va_get (D := (dC, dI)) (ci := 2) (v := .ref y0) (C := RX1) (T := TX1) (N := 6) hx hb hts hi0_ hown hK hP 0 rfl rfl 2 (by decide) hw0_ (fun _ h9 => h9) rfl dX1_takePassedOut_5 ?_
    refine lv_aload_n hx hb dX1_takePassedOut_8 rfl (lv_at hl 0 rfl) ?_
    refine va_get (D := (dC, dI)) (ci := 2) (v := .int ps) (C := RX1) (T := TX1) (N := 6) hx hb hts hi0_ hown hK hP 0 rfl rfl 4 (by decide) hw1_ (fun _ h9 => h9) rfl dX1_takePassedOut_9 ?_
    have hPc := hP.sub (ws' := [(y0, .inr (4, [.ref x0, .int kd, .int wh, .int (nI lim), .int bu]))]) [1] rfl
    have hKc := hK.sub (tys' := []) [] rfl
    refine ro_calli (va_runU (As := [.int ps]) (rest := []) ⟨hx, hb, hml, hown, hts⟩ (c_X3_placeOf_L l  dC dI s.heap.size y0 (.ref x0) (.int kd) (.int wh) (.int (nI lim)) (.int bu) ps) (va_cwU 1 hts gX1_takePassedOut_X3_placeOf_u51X4 rfl rfl rfl rfl (by decide +kernel) ⟨(Nat.le_of_ble_eq_true rfl), (Nat.le_of_ble_eq_true rfl)⟩) ⟨pk_blindR, va_recv hKc hPc (ci := 4) (q0 := 0) rfl rfl, pk_callR hPc hKc⟩ rfl rfl hl.1 rfl (lv_room (Nat.le_of_ble_eq_true rfl)) dX1_takePassedOut_12 ⟨(Nat.le_of_ble_eq_true rfl), (Nat.le_of_ble_eq_true rfl)⟩) (fun r_2 ur_2 hw => ?_)
    clear hPc hKc
    try dsimp only at hw
    have jr_2 := hw
    refine W.eq (g2 := F0 m 15 ls [.int r_2]) rfl ?_
    refine lv_istore_n (lv' := [(1, .int r_2), (0, .ref z0)]) hx hb dX1_takePassedOut_15 rfl hl (by decide) rfl (fun ls hl => ?_)
    refine lv_aload_n hx hb dX1_takePassedOut_16 rfl (lv_at hl 1 rfl) ?_
    refine va_get (D := (dC, dI)) (ci := 2) (v := .ref y0) (C := RX1) (T := TX1) (N := 6) hx hb hts hi0_ hown hK hP 0 rfl rfl 2 (by decide) hw0_ (fun _ h9 => h9) rfl dX1_takePassedOut_17 ?_
    refine va_get (D := (dC, dI)) (ci := 4) (v := .ref x0) (C := RX4) (T := TX4) (N := 5) hx hb hts hi1_ hown hK hP 1 rfl rfl 0 (by decide) hw2_ (fun _ h9 => h9) rfl dX1_takePassedOut_20 ?_
    refine lv_iload_n hx hb dX1_takePassedOut_23 rfl (lv_at hl 0 rfl) ?_
    have hPc := hP.sub (ws' := [(x0, .inr (5, [.ref k0, .ref w0, .int (nI nz), .int ch])), (k0, .inl (ck, L, .inl f)), (w0, .inl (cw, L, .inl g))]) [2, 3, 4] rfl
    have hKc := hK.sub (tys' := [(ck, .int), (cw, .int)]) [0, 1] rfl
    refine ro_calli (va_runV (As := [.int r_2]) (rest := []) ⟨hx, hb, hml, hown, hts⟩ (c_X5_key l  dC dI s.heap.size x0 k0 w0 ck cw L f g nz ch r_2 hR9) (cwV 1 hts gX1_takePassedOut_X5_key rfl rfl rfl (by decide +kernel) ⟨(Nat.le_of_ble_eq_true rfl), (Nat.le_of_ble_eq_true rfl)⟩) ⟨pk_blindR, va_recv hKc hPc (ci := 5) (q0 := 0) rfl rfl, pk_callR hPc hKc⟩ rfl rfl hl.1 rfl (lv_room (Nat.le_of_ble_eq_true rfl)) dX1_takePassedOut_24 ⟨(Nat.le_of_ble_eq_true rfl), (Nat.le_of_ble_eq_true rfl)⟩) (fun r_3 ur_3 hw => ?_)
    clear hPc hKc
    try dsimp only at hw
    have jr_3 := hw
    refine W.eq (g2 := F0 m 27 ls [.int r_3]) rfl ?_
    refine lv_istore_n (lv' := [(2, .int r_3), (1, .int r_2), (0, .ref z0)]) hx hb dX1_takePassedOut_27 rfl hl (by decide) rfl (fun ls hl => ?_)
    refine lv_aload_n hx hb dX1_takePassedOut_28 rfl (lv_at hl 2 rfl) ?_
    refine va_get (D := (dC, dI)) (ci := 2) (v := .ref y0) (C := RX1) (T := TX1) (N := 6) hx hb hts hi0_ hown hK hP 0 rfl rfl 2 (by decide) hw0_ (fun _ h9 => h9) rfl dX1_takePassedOut_29 ?_
    refine lv_iload_n hx hb dX1_takePassedOut_32 rfl (lv_at hl 1 rfl) ?_
    have hPc := hP.sub (ws' := [(y0, .inr (4, [.ref x0, .int kd, .int wh, .int (nI lim), .int bu])), (x0, .inr (5, [.ref k0, .ref w0, .int (nI nz), .int ch])), (k0, .inl (ck, L, .inl f)), (w0, .inl (cw, L, .inl g))]) [1, 2, 3, 4] rfl
    have hDc := hD.sub (ws' := [(y0, .inr (4, [.ref x0, .int kd, .int wh, .int (nI lim), .int bu])), (x0, .inr (5, [.ref k0, .ref w0, .int (nI nz), .int ch])), (k0, .inl (ck, L, .inl f)), (w0, .inl (cw, L, .inl g))]) [1, 2, 3, 4] (by decide) rfl
    have hKc := hK.sub (tys' := [(ck, .int), (cw, .int)]) [0, 1] rfl
    have hFc := va_free (wc := [(y0, .inr (4, [.ref x0, .int kd, .int wh, .int (nI lim), .int bu])), (x0, .inr (5, [.ref k0, .ref w0, .int (nI nz), .int ch])), (k0, .inl (ck, L, .inl f)), (w0, .inl (cw, L, .inl g))]) hD hS hA [1, 2, 3, 4] rfl
    refine va_callv (va_runU (As := [.int r_2]) (rest := []) ⟨hx, hb, hml, hown, hts⟩ (c_X3_leave_L l  dC dI s.heap.size y0 (.int kd) (.int wh) (.int (nI lim)) (.int bu) x0 k0 w0 ck cw L f g nz ch r_2 hR9) (va_cwU 1 hts gX1_takePassedOut_X3_leave_u67X4 rfl rfl rfl rfl (by decide +kernel) ⟨(Nat.le_of_ble_eq_true rfl), (Nat.le_of_ble_eq_true rfl)⟩) ⟨pk_blind, va_recv hKc hPc (ci := 4) (q0 := 0) rfl rfl, pk_call hPc hKc hDc⟩ rfl rfl hl.1 rfl (lv_room (Nat.le_of_ble_eq_true rfl)) dX1_takePassedOut_33 ⟨(Nat.le_of_ble_eq_true rfl), (Nat.le_of_ble_eq_true rfl)⟩) hS (fun q _ h => hFc q h) hFc (fun ur_4 t H1 locs ht hvm hw hB hz1 hk1 hS => ?_)
    try dsimp only at hw
    have jr_4 := hw
    obtain ⟨hP1, hK1, hD1⟩ := hB
    rw [ht] at hP1
    have hK1 := va_K.moved hvm.symm hK1
    obtain ⟨hP, hD⟩ := va_join (wr := [(z0, .inr (2, [.int kdc, .int whc, .ref y0, .int nx, .int ps, .int se]))]) (w1 := [(y0, .inr (4, [.ref x0, .int kd, .int wh, .int (nI lim), .int bu])), (x0, .inr (5, [.ref k0, .ref w0, .int (nI (ur_4.2.2.1)), .int ur_4.2.2.2])), (k0, .inl (ck, L, .inl ur_4.1)), (w0, .inl (cw, L, .inl ur_4.2.1))]) hP hD [1, 2, 3, 4] [0] rfl rfl (by decide) (by decide) hk1 hFc hP1 hD1
    clear hk1 hz1 ht hPc hDc hKc hFc
    generalize H1 = H at hP hS ⊢
    replace hP : va_P (dC, dI) vwCl [(z0, .inr (2, [.int kdc, .int whc, .ref y0, .int nx, .int ps, .int se])), (y0, .inr (4, [.ref x0, .int kd, .int wh, .int (nI lim), .int bu])), (x0, .inr (5, [.ref k0, .ref w0, .int (nI (ur_4.2.2.1)), .int ur_4.2.2.2])), (k0, .inl (ck, L, .inl ur_4.1)), (w0, .inl (cw, L, .inl ur_4.2.1))] H := hP
    replace hD : va_D A [(z0, .inr (2, [.int kdc, .int whc, .ref y0, .int nx, .int ps, .int se])), (y0, .inr (4, [.ref x0, .int kd, .int wh, .int (nI lim), .int bu])), (x0, .inr (5, [.ref k0, .ref w0, .int (nI (ur_4.2.2.1)), .int ur_4.2.2.2])), (k0, .inl (ck, L, .inl ur_4.1)), (w0, .inl (cw, L, .inl ur_4.2.1))] := hD
    refine W.widen (k := 0) (n := 0) (Nat.le_of_ble_eq_true rfl) (Nat.le_of_ble_eq_true rfl) ?_
    refine W.eq (g2 := F0 m 36 ls []) rfl ?_
    have hR9 : rOK L (ur_4.2.2.1) := rOK_le hR9 jr_4
    refine lv_aload_n hx hb dX1_takePassedOut_36 rfl (lv_at hl 2 rfl) ?_
    refine lv_aload_n hx hb dX1_takePassedOut_37 rfl (lv_at hl 2 rfl) ?_
    refine va_get (D := (dC, dI)) (ci := 2) (v := .int ps) (C := RX1) (T := TX1) (N := 6) hx hb hts hi0_ hown hK hP 0 rfl rfl 4 (by decide) hw1_ (fun _ h9 => h9) rfl dX1_takePassedOut_38 ?_
    refine va_put (D := (dC, dI)) (ci := 2) (v := .int ps) (ty := .int) (C := RX1) (T := TX1) (N := 6) hx hb hts hi0_ tyX1 tyX1_ok nmX1 hown hK hP hD hS 0 rfl rfl 3 (by decide) hw3_ (fun _ h9 => h9) rfl (by decide +kernel) rfl rfl (Nat.le_of_ble_eq_true rfl) dX1_takePassedOut_41 (fun H locs hP hD hS => ?_)
    replace hP : va_P (dC, dI) vwCl [(z0, .inr (2, [.int kdc, .int whc, .ref y0, .int ps, .int ps, .int se])), (y0, .inr (4, [.ref x0, .int kd, .int wh, .int (nI lim), .int bu])), (x0, .inr (5, [.ref k0, .ref w0, .int (nI (ur_4.2.2.1)), .int ur_4.2.2.2])), (k0, .inl (ck, L, .inl ur_4.1)), (w0, .inl (cw, L, .inl ur_4.2.1))] H := hP
    replace hD : va_D A [(z0, .inr (2, [.int kdc, .int whc, .ref y0, .int ps, .int ps, .int se])), (y0, .inr (4, [.ref x0, .int kd, .int wh, .int (nI lim), .int bu])), (x0, .inr (5, [.ref k0, .ref w0, .int (nI (ur_4.2.2.1)), .int ur_4.2.2.2])), (k0, .inl (ck, L, .inl ur_4.1)), (w0, .inl (cw, L, .inl ur_4.2.1))] := hD
    refine lv_aload_n hx hb dX1_takePassedOut_44 rfl (lv_at hl 2 rfl) ?_
    refine lv_iconst (v := (-1)) hx hb dX1_takePassedOut_45 (by decide) ?_
    refine va_put (D := (dC, dI)) (ci := 2) (v := .int (-1)) (ty := .int) (C := RX1) (T := TX1) (N := 6) hx hb hts hi0_ tyX1 tyX1_ok nmX1 hown hK hP hD hS 0 rfl rfl 4 (by decide) hw1_ (fun _ h9 => h9) rfl (by decide +kernel) rfl rfl (Nat.le_of_ble_eq_true rfl) dX1_takePassedOut_46 (fun H locs hP hD hS => ?_)
    replace hP : va_P (dC, dI) vwCl [(z0, .inr (2, [.int kdc, .int whc, .ref y0, .int ps, .int (-1), .int se])), (y0, .inr (4, [.ref x0, .int kd, .int wh, .int (nI lim), .int bu])), (x0, .inr (5, [.ref k0, .ref w0, .int (nI (ur_4.2.2.1)), .int ur_4.2.2.2])), (k0, .inl (ck, L, .inl ur_4.1)), (w0, .inl (cw, L, .inl ur_4.2.1))] H := hP
    replace hD : va_D A [(z0, .inr (2, [.int kdc, .int whc, .ref y0, .int ps, .int (-1), .int se])), (y0, .inr (4, [.ref x0, .int kd, .int wh, .int (nI lim), .int bu])), (x0, .inr (5, [.ref k0, .ref w0, .int (nI (ur_4.2.2.1)), .int ur_4.2.2.2])), (k0, .inl (ck, L, .inl ur_4.1)), (w0, .inl (cw, L, .inl ur_4.2.1))] := hD
    refine lv_aload_n hx hb dX1_takePassedOut_49 rfl (lv_at hl 2 rfl) ?_
    refine lv_aload_n hx hb dX1_takePassedOut_50 rfl (lv_at hl 2 rfl) ?_
    refine va_get (D := (dC, dI)) (ci := 2) (v := .ref y0) (C := RX1) (T := TX1) (N := 6) hx hb hts hi0_ hown hK hP 0 rfl rfl 2 (by decide) hw0_ (fun _ h9 => h9) rfl dX1_takePassedOut_51 ?_
    refine va_get (D := (dC, dI)) (ci := 4) (v := .ref x0) (C := RX4) (T := TX4) (N := 5) hx hb hts hi1_ hown hK hP 1 rfl rfl 0 (by decide) hw2_ (fun _ h9 => h9) rfl dX1_takePassedOut_54 ?_
    have hPc := hP.sub (ws' := [(x0, .inr (5, [.ref k0, .ref w0, .int (nI (ur_4.2.2.1)), .int ur_4.2.2.2]))]) [2] rfl
    have hKc := hK.sub (tys' := []) [] rfl
    refine ro_calli (va_runV (As := []) (rest := [.ref z0]) ⟨hx, hb, hml, hown, hts⟩ (c_X5_changes l  dC dI H.size x0 ur_4.2.2.2 (.ref k0) (.ref w0) (.int (nI (ur_4.2.2.1)))) (cwV 0 hts gX1_takePassedOut_X5_changes rfl rfl rfl (by decide +kernel) ⟨(Nat.le_of_ble_eq_true rfl), (Nat.le_of_ble_eq_true rfl)⟩) ⟨pk_blindR, va_recv hKc hPc (ci := 5) (q0 := 0) rfl rfl, pk_callR hPc hKc⟩ rfl rfl hl.1 rfl (lv_room (Nat.le_of_ble_eq_true rfl)) dX1_takePassedOut_57 ⟨(Nat.le_of_ble_eq_true rfl), (Nat.le_of_ble_eq_true rfl)⟩) (fun r_5 ur_5 hw => ?_)
    clear hPc hKc
    try dsimp only at hw
    refine W.eq (g2 := F0 m 60 ls [.int ur_4.2.2.2, .ref z0]) (by rw [hw]) ?_
    refine va_put (D := (dC, dI)) (ci := 2) (v := .int ur_4.2.2.2) (ty := .int) (C := RX1) (T := TX1) (N := 6) hx hb hts hi0_ tyX1 tyX1_ok nmX1 hown hK hP hD hS 0 rfl rfl 5 (by decide) hw4_ (fun _ h9 => h9) rfl (by decide +kernel) rfl rfl (Nat.le_of_ble_eq_true rfl) dX1_takePassedOut_60 (fun H locs hP hD hS => ?_)
    replace hP : va_P (dC, dI) vwCl [(z0, .inr (2, [.int kdc, .int whc, .ref y0, .int ps, .int (-1), .int ur_4.2.2.2])), (y0, .inr (4, [.ref x0, .int kd, .int wh, .int (nI lim), .int bu])), (x0, .inr (5, [.ref k0, .ref w0, .int (nI (ur_4.2.2.1)), .int ur_4.2.2.2])), (k0, .inl (ck, L, .inl ur_4.1)), (w0, .inl (cw, L, .inl ur_4.2.1))] H := hP
    replace hD : va_D A [(z0, .inr (2, [.int kdc, .int whc, .ref y0, .int ps, .int (-1), .int ur_4.2.2.2])), (y0, .inr (4, [.ref x0, .int kd, .int wh, .int (nI lim), .int bu])), (x0, .inr (5, [.ref k0, .ref w0, .int (nI (ur_4.2.2.1)), .int ur_4.2.2.2])), (k0, .inl (ck, L, .inl ur_4.1)), (w0, .inl (cw, L, .inl ur_4.2.1))] := hD
    refine lv_iload_n hx hb dX1_takePassedOut_63 rfl (lv_at hl 0 rfl) ?_
    refine lv_i2l (v := r_3.toInt64) hx hb dX1_takePassedOut_64 rfl ?_
    have hpost : ur_4.2.2.1 ≤ nz := by omega
    have hP9 := hP.sub (ws' := [(z0, .inr (2, [.int kdc, .int whc, .ref y0, .int ps, .int (-1), .int ur_4.2.2.2])), (y0, .inr (4, [.ref x0, .int kd, .int wh, .int (nI lim), .int bu])), (x0, .inr (5, [.ref k0, .ref w0, .int (nI (ur_4.2.2.1)), .int ur_4.2.2.2])), (k0, .inl (ck, L, .inl ur_4.1)), (w0, .inl (cw, L, .inl ur_4.2.1))]) [0, 1, 2, 3, 4] rfl
    have hD9 := hD.sub (ws' := [(z0, .inr (2, [.int kdc, .int whc, .ref y0, .int ps, .int (-1), .int ur_4.2.2.2])), (y0, .inr (4, [.ref x0, .int kd, .int wh, .int (nI lim), .int bu])), (x0, .inr (5, [.ref k0, .ref w0, .int (nI (ur_4.2.2.1)), .int ur_4.2.2.2])), (k0, .inl (ck, L, .inl ur_4.1)), (w0, .inl (cw, L, .inl ur_4.2.1))]) [0, 1, 2, 3, 4] (by decide) rfl
    have hK9 := hK.sub (tys' := [(ck, .int), (cw, .int)]) [0, 1] rfl
    refine W.widen (k := 1) (n := 6) (Nat.le_of_ble_eq_true rfl) (Nat.le_of_ble_eq_true rfl) ?_
    refine vx_ret ?_
    exact W.lret (v := r_3.toInt64) hx hb hr (fun t ht hW => ⟨⟨r_3.toInt64, (ps, -1, ur_4.2.2.2, ur_4.1, ur_4.2.1, ur_4.2.2.1, ur_4.2.2.2), rfl, hpost, by rw [ht]; exact hP9, va_K.moved hW.alike hK9, hD9⟩, hS.F ht⟩) hS.2.2 dX1_takePassedOut_65
set_option maxHeartbeats 4000000 in
set_option maxRecDepth 100000 in
/-- Cursor.setPassedValue over L -/
theorem c_X1_setPassedValue_L (l : Launch) (hlt : l.stackTraces = false) (dC : Nat → ClassId) (dI : Nat → Nat → Nat) (sz : Nat) (z0 : Nat) (kdc : Int32) (whc : Int32) (nx : Int32) (ps : Int32) (se : Int32) (y0 : Nat) (kd : Int32) (wh : Int32) (lim : Nat) (bu : Int32) (x0 : Nat) (k0 : Nat) (w0 : Nat) (ck : ClassId) (cw : ClassId) (L : Nat) (f : Nat → Int32) (g : Nat → Int32) (nz : Nat) (ch : Int32) (p0 : Int32) (hR9 : rOK L nz) (hlim : lim ≤ 1000) : vx_Met l yX1_setPassedValue wsX1_setPassedValue ({ frames := 7, cells := 1, slots := 6, locals := 260 }) (va_Pc [.ref z0, .int p0] (pk_PreX (dC, dI) [(z0, .inr (2, [.int kdc, .int whc, .ref y0, .int nx, .int ps, .int se])), (y0, .inr (4, [.ref x0, .int kd, .int wh, .int (nI lim), .int bu])), (x0, .inr (5, [.ref k0, .ref w0, .int (nI nz), .int ch])), (k0, .inl (ck, L, .inl f)), (w0, .inl (cw, L, .inl g))] [(ck, .int), (cw, .int)] sz)) (va_Ql (fun (x : Int64) (u : (Nat → Int32)) => True) (fun (u : (Nat → Int32)) (t : State) => va_P (dC, dI) vwCl [(z0, .inr (2, [.int kdc, .int whc, .ref y0, .int nx, .int ps, .int se])), (y0, .inr (4, [.ref x0, .int kd, .int wh, .int (nI lim), .int bu])), (x0, .inr (5, [.ref k0, .ref w0, .int (nI nz), .int ch])), (k0, .inl (ck, L, .inl f)), (w0, .inl (cw, L, .inl u))] t.heap ∧ va_K (dC, dI) vwCl [(ck, .int), (cw, .int)] t ∧ va_D (va_A [(z0, .inr (2, [.int kdc, .int whc, .ref y0, .int nx, .int ps, .int se])), (y0, .inr (4, [.ref x0, .int kd, .int wh, .int (nI lim), .int bu])), (x0, .inr (5, [.ref k0, .ref w0, .int (nI nz), .int ch])), (k0, .inl (ck, L, .inl f)), (w0, .inl (cw, L, .inl g))] sz) [(z0, .inr (2, [.int kdc, .int whc, .ref y0, .int nx, .int ps, .int se])), (y0, .inr (4, [.ref x0, .int kd, .int wh, .int (nI lim), .int bu])), (x0, .inr (5, [.ref k0, .ref w0, .int (nI nz), .int ch])), (k0, .inl (ck, L, .inl f)), (w0, .inl (cw, L, .inl u))]) (va_A [(z0, .inr (2, [.int kdc, .int whc, .ref y0, .int nx, .int ps, .int se])), (y0, .inr (4, [.ref x0, .int kd, .int wh, .int (nI lim), .int bu])), (x0, .inr (5, [.ref k0, .ref w0, .int (nI nz), .int ch])), (k0, .inl (ck, L, .inl f)), (w0, .inl (cw, L, .inl g))] sz)) (vx_X (fun _ : Unit => True) (fun (E : String) (_ : Unit) (t : State) => E = "java/lang/IllegalStateException" ∧ va_P (dC, dI) vwCl [(z0, .inr (2, [.int kdc, .int whc, .ref y0, .int nx, .int ps, .int se])), (y0, .inr (4, [.ref x0, .int kd, .int wh, .int (nI lim), .int bu])), (x0, .inr (5, [.ref k0, .ref w0, .int (nI nz), .int ch])), (k0, .inl (ck, L, .inl f)), (w0, .inl (cw, L, .inl g))] t.heap ∧ va_K (dC, dI) vwCl [(ck, .int), (cw, .int)] t ∧ va_D (va_A [(z0, .inr (2, [.int kdc, .int whc, .ref y0, .int nx, .int ps, .int se])), (y0, .inr (4, [.ref x0, .int kd, .int wh, .int (nI lim), .int bu])), (x0, .inr (5, [.ref k0, .ref w0, .int (nI nz), .int ch])), (k0, .inl (ck, L, .inl f)), (w0, .inl (cw, L, .inl g))] sz) [(z0, .inr (2, [.int kdc, .int whc, .ref y0, .int nx, .int ps, .int se])), (y0, .inr (4, [.ref x0, .int kd, .int wh, .int (nI lim), .int bu])), (x0, .inr (5, [.ref k0, .ref w0, .int (nI nz), .int ch])), (k0, .inl (ck, L, .inl f)), (w0, .inl (cw, L, .inl g))]) (va_A [(z0, .inr (2, [.int kdc, .int whc, .ref y0, .int nx, .int ps, .int se])), (y0, .inr (4, [.ref x0, .int kd, .int wh, .int (nI lim), .int bu])), (x0, .inr (5, [.ref k0, .ref w0, .int (nI nz), .int ch])), (k0, .inl (ck, L, .inl f)), (w0, .inl (cw, L, .inl g))] sz)) 1 6 (va_A [(z0, .inr (2, [.int kdc, .int whc, .ref y0, .int nx, .int ps, .int se])), (y0, .inr (4, [.ref x0, .int kd, .int wh, .int (nI lim), .int bu])), (x0, .inr (5, [.ref k0, .ref w0, .int (nI nz), .int ch])), (k0, .inl (ck, L, .inl f)), (w0, .inl (cw, L, .inl g))] sz) := by
  refine vx_ofW (cc := cX1_setPassedValue) (maxL := 4) (ret := (some .long)) (by decide) rfl ?_
  intro p e s m args below meth c s₁ B hml htab hv
  obtain ⟨rfl, hsz, hP, hK, hD0, hN, hZ⟩ := hv
  have hx := B.exec
  have hb := B.bytes
  have hr := B.returns
  have hts := atoms_spec (ws := wsX1_setPassedValue) B.pre
  have hown : s.vm.findClass RX1 = some m.cls := findClass_of_methodNamed B.named
  have hlocks := B.notSynchronized
  subst hsz
  have hD := hD0.self (sz := s.heap.size)
  generalize hAe : va_A [(z0, .inr (2, [.int kdc, .int whc, .ref y0, .int nx, .int ps, .int se])), (y0, .inr (4, [.ref x0, .int kd, .int wh, .int (nI lim), .int bu])), (x0, .inr (5, [.ref k0, .ref w0, .int (nI nz), .int ch])), (k0, .inl (ck, L, .inl f)), (w0, .inl (cw, L, .inl g))] s.heap.size = A at hZ hD ⊢
  have hA : ∀ q : Nat, s.heap.size ≤ q → A q := fun q h => by rw [← hAe]; exact Or.inr h
  have hS : va_S A s.heap s.heap [] := va_S.rf
  have hP : va_P (dC, dI) vwCl [(z0, .inr (2, [.int kdc, .int whc, .ref y0, .int nx, .int ps, .int se])), (y0, .inr (4, [.ref x0, .int kd, .int wh, .int (nI lim), .int bu])), (x0, .inr (5, [.ref k0, .ref w0, .int (nI nz), .int ch])), (k0, .inl (ck, L, .inl f)), (w0, .inl (cw, L, .inl g))] s.heap := hP
  have hl := lv_entry ([.ref z0, .int p0]) (n := 4) (Nat.le_of_ble_eq_true rfl)
  rw [lg_entry_eq]
  generalize (lg_sl ([.ref z0, .int p0]) ++ List.replicate (4 - (lg_sl ([.ref z0, .int p0])).length) Slot.unset).toArray = ls at hl ⊢
  have hl : lv_has ls 4 [(0, .ref z0), (1, .int p0)] := hl
  have hw0_ := hts (.fieldLink RX1 9 "KeyAtlas$Cursor" "keyed" "LKeyAtlas$Keyed;") (List.mem_of_getElem? (l := wsX1_setPassedValue) (i := 1) rfl)
  have hw1_ := hts (.fieldLink RX1 15 "KeyAtlas$Cursor" "passed" "I") (List.mem_of_getElem? (l := wsX1_setPassedValue) (i := 2) rfl)
  have hw2_ := hts (.fieldLink RX1 19 "KeyAtlas$Keyed" "rows" "LKeyAtlas$Rows;") (List.mem_of_getElem? (l := wsX1_setPassedValue) (i := 3) rfl)
  have hi0_ : ∀ w ∈ u_ws RX1 TX1 6, w ∈ wsX1_setPassedValue := fun w h => List.mem_cons_of_mem _ (List.mem_append_left _ (List.mem_append_left _ (List.mem_append_left _ (List.mem_append_left _ (List.mem_append_left _ (List.mem_append_right _ h))))))
  have hi1_ : ∀ w ∈ u_ws RX4 TX4 5, w ∈ wsX1_setPassedValue := fun w h => List.mem_cons_of_mem _ (List.mem_append_left _ (List.mem_append_left _ (List.mem_append_left _ (List.mem_append_right _ h))))
  obtain ⟨hL1, hL2, hz1, hz2⟩ := id hR9
  refine lv_aload_n hx hb dX1_setPassedValue_0 rfl (lv_at hl 0 rfl) ?_
  have hPc := hP.sub (ws' := [(z0, .inr (2, [.int kdc, .int whc, .ref y0, .int nx, .int ps, .int se]))]) [0] rfl
  have hKc := hK.sub (tys' := []) [] rfl
  refine rox_callv (vx_runV (As := []) (rest := []) ⟨hx, hb, hml, hown, hts⟩ (c_X1_needPassed l hlt dC dI s.heap.size z0 ps (.int kdc) (.int whc) (.ref y0) (.int nx) (.int se)) (cwV 0 hts gX1_setPassedValue_X1_needPassed rfl rfl rfl (by decide +kernel) ⟨(Nat.le_of_ble_eq_true rfl), (Nat.le_of_ble_eq_true rfl)⟩) ⟨pk_blindXR, va_recv hKc hPc (ci := 2) (q0 := 0) rfl rfl, pk_callXR hPc hKc hN ((hZ.kept hS.2.1).narrow (fun q h9 => hA q (Nat.le_trans hS.1 h9)))⟩ rfl rfl hl.1 rfl (lv_room (Nat.le_of_ble_eq_true rfl)) dX1_setPassedValue_1 ⟨(Nat.le_of_ble_eq_true rfl), (Nat.le_of_ble_eq_true rfl)⟩) hS (fun q h9 => hA q (Nat.le_trans hS.1 h9)) (fun E ce q9 u9 t H1 locs ht hvm hw hB hz1 hk1 hS hce hcv hcl => ?_) (fun ur_1 locs hw hS => ?_)
  ·
    try dsimp only at hB
    exact vx_out (fun x hx9 => (htab x hx9).elim) hlocks hce hcv hcl (fun t9 ht9 hal9 => ⟨(), trivial, ⟨hB, by rw [ht9]; exact hP.kept (fun k x hx => hk1 x.1 (hP k x hx).lt), va_K.moved hal9 hK, hD⟩, hS.F ht9⟩) hS.2.2 (by omega) (by omega)
  ·
    refine W.tight (k := 0) (n := 0) (Nat.le_refl _) (Nat.le_refl _) ?_
    clear hPc hKc
    try dsimp only at hw
    have jr_1 := hw
    refine W.eq (g2 := F0 m 4 ls []) rfl ?_
    refine lv_aload_n hx hb dX1_setPassedValue_4 rfl (lv_at hl 0 rfl) ?_
    refine va_get (D := (dC, dI)) (ci := 2) (v := .ref y0) (C := RX1) (T := TX1) (N := 6) hx hb hts hi0_ hown hK hP 0 rfl rfl 2 (by decide) hw0_ (fun _ h9 => h9) rfl dX1_setPassedValue_5 ?_
    refine lv_aload_n hx hb dX1_setPassedValue_8 rfl (lv_at hl 0 rfl) ?_
    refine va_get (D := (dC, dI)) (ci := 2) (v := .int ps) (C := RX1) (T := TX1) (N := 6) hx hb hts hi0_ hown hK hP 0 rfl rfl 4 (by decide) hw1_ (fun _ h9 => h9) rfl dX1_setPassedValue_9 ?_
    have hPc := hP.sub (ws' := [(y0, .inr (4, [.ref x0, .int kd, .int wh, .int (nI lim), .int bu]))]) [1] rfl
    have hKc := hK.sub (tys' := []) [] rfl
    refine ro_calli (va_runU (As := [.int ps]) (rest := []) ⟨hx, hb, hml, hown, hts⟩ (c_X3_placeOf_L l  dC dI s.heap.size y0 (.ref x0) (.int kd) (.int wh) (.int (nI lim)) (.int bu) ps) (va_cwU 1 hts gX1_setPassedValue_X3_placeOf_u51X4 rfl rfl rfl rfl (by decide +kernel) ⟨(Nat.le_of_ble_eq_true rfl), (Nat.le_of_ble_eq_true rfl)⟩) ⟨pk_blindR, va_recv hKc hPc (ci := 4) (q0 := 0) rfl rfl, pk_callR hPc hKc⟩ rfl rfl hl.1 rfl (lv_room (Nat.le_of_ble_eq_true rfl)) dX1_setPassedValue_12 ⟨(Nat.le_of_ble_eq_true rfl), (Nat.le_of_ble_eq_true rfl)⟩) (fun r_2 ur_2 hw => ?_)
    clear hPc hKc
    try dsimp only at hw
    have jr_2 := hw
    refine W.eq (g2 := F0 m 15 ls [.int r_2]) rfl ?_
    refine lv_istore_n (lv' := [(2, .int r_2), (0, .ref z0), (1, .int p0)]) hx hb dX1_setPassedValue_15 rfl hl (by decide) rfl (fun ls hl => ?_)
    refine lv_aload_n hx hb dX1_setPassedValue_16 rfl (lv_at hl 1 rfl) ?_
    refine va_get (D := (dC, dI)) (ci := 2) (v := .ref y0) (C := RX1) (T := TX1) (N := 6) hx hb hts hi0_ hown hK hP 0 rfl rfl 2 (by decide) hw0_ (fun _ h9 => h9) rfl dX1_setPassedValue_17 ?_
    refine va_get (D := (dC, dI)) (ci := 4) (v := .ref x0) (C := RX4) (T := TX4) (N := 5) hx hb hts hi1_ hown hK hP 1 rfl rfl 0 (by decide) hw2_ (fun _ h9 => h9) rfl dX1_setPassedValue_20 ?_
    refine lv_iload_n hx hb dX1_setPassedValue_23 rfl (lv_at hl 0 rfl) ?_
    have hPc := hP.sub (ws' := [(x0, .inr (5, [.ref k0, .ref w0, .int (nI nz), .int ch])), (k0, .inl (ck, L, .inl f)), (w0, .inl (cw, L, .inl g))]) [2, 3, 4] rfl
    have hKc := hK.sub (tys' := [(ck, .int), (cw, .int)]) [0, 1] rfl
    refine ro_calli (va_runV (As := [.int r_2]) (rest := []) ⟨hx, hb, hml, hown, hts⟩ (c_X5_value l  dC dI s.heap.size x0 k0 w0 ck cw L f g nz ch r_2 hR9) (cwV 1 hts gX1_setPassedValue_X5_value rfl rfl rfl (by decide +kernel) ⟨(Nat.le_of_ble_eq_true rfl), (Nat.le_of_ble_eq_true rfl)⟩) ⟨pk_blindR, va_recv hKc hPc (ci := 5) (q0 := 0) rfl rfl, pk_callR hPc hKc⟩ rfl rfl hl.1 rfl (lv_room (Nat.le_of_ble_eq_true rfl)) dX1_setPassedValue_24 ⟨(Nat.le_of_ble_eq_true rfl), (Nat.le_of_ble_eq_true rfl)⟩) (fun r_3 ur_3 hw => ?_)
    clear hPc hKc
    try dsimp only at hw
    have jr_3 := hw
    refine W.eq (g2 := F0 m 27 ls [.int r_3]) rfl ?_
    refine lv_istore_n (lv' := [(3, .int r_3), (2, .int r_2), (0, .ref z0), (1, .int p0)]) hx hb dX1_setPassedValue_27 rfl hl (by decide) rfl (fun ls hl => ?_)
    refine lv_aload_n hx hb dX1_setPassedValue_28 rfl (lv_at hl 2 rfl) ?_
    refine va_get (D := (dC, dI)) (ci := 2) (v := .ref y0) (C := RX1) (T := TX1) (N := 6) hx hb hts hi0_ hown hK hP 0 rfl rfl 2 (by decide) hw0_ (fun _ h9 => h9) rfl dX1_setPassedValue_29 ?_
    refine va_get (D := (dC, dI)) (ci := 4) (v := .ref x0) (C := RX4) (T := TX4) (N := 5) hx hb hts hi1_ hown hK hP 1 rfl rfl 0 (by decide) hw2_ (fun _ h9 => h9) rfl dX1_setPassedValue_32 ?_
    refine lv_iload_n hx hb dX1_setPassedValue_35 rfl (lv_at hl 1 rfl) ?_
    refine lv_iload_n hx hb dX1_setPassedValue_36 rfl (lv_at hl 3 rfl) ?_
    have hPc := hP.sub (ws' := [(x0, .inr (5, [.ref k0, .ref w0, .int (nI nz), .int ch])), (k0, .inl (ck, L, .inl f)), (w0, .inl (cw, L, .inl g))]) [2, 3, 4] rfl
    have hDc := hD.sub (ws' := [(x0, .inr (5, [.ref k0, .ref w0, .int (nI nz), .int ch])), (k0, .inl (ck, L, .inl f)), (w0, .inl (cw, L, .inl g))]) [2, 3, 4] (by decide) rfl
    have hKc := hK.sub (tys' := [(ck, .int), (cw, .int)]) [0, 1] rfl
    have hFc := va_free (wc := [(x0, .inr (5, [.ref k0, .ref w0, .int (nI nz), .int ch])), (k0, .inl (ck, L, .inl f)), (w0, .inl (cw, L, .inl g))]) hD hS hA [2, 3, 4] rfl
    refine va_callv (va_runV (As := [.int r_2, .int p0]) (rest := []) ⟨hx, hb, hml, hown, hts⟩ (c_X5_setValue l  dC dI s.heap.size x0 k0 w0 ck cw L f g nz ch r_2 p0 hR9) (cwV 2 hts gX1_setPassedValue_X5_setValue rfl rfl rfl (by decide +kernel) ⟨(Nat.le_of_ble_eq_true rfl), (Nat.le_of_ble_eq_true rfl)⟩) ⟨pk_blind, va_recv hKc hPc (ci := 5) (q0 := 0) rfl rfl, pk_call hPc hKc hDc⟩ rfl rfl hl.1 rfl (lv_room (Nat.le_of_ble_eq_true rfl)) dX1_setPassedValue_37 ⟨(Nat.le_of_ble_eq_true rfl), (Nat.le_of_ble_eq_true rfl)⟩) hS (fun q _ h => hFc q h) hFc (fun ur_4 t H1 locs ht hvm hw hB hz1 hk1 hS => ?_)
    try dsimp only at hw
    have jr_4 := hw
    obtain ⟨hP1, hK1, hD1⟩ := hB
    rw [ht] at hP1
    have hK1 := va_K.moved hvm.symm hK1
    obtain ⟨hP, hD⟩ := va_join (wr := [(z0, .inr (2, [.int kdc, .int whc, .ref y0, .int nx, .int ps, .int se])), (y0, .inr (4, [.ref x0, .int kd, .int wh, .int (nI lim), .int bu]))]) (w1 := [(x0, .inr (5, [.ref k0, .ref w0, .int (nI nz), .int ch])), (k0, .inl (ck, L, .inl f)), (w0, .inl (cw, L, .inl ur_4))]) hP hD [2, 3, 4] [0, 1] rfl rfl (by decide) (by decide) hk1 hFc hP1 hD1
    clear hk1 hz1 ht hPc hDc hKc hFc
    generalize H1 = H at hP hS ⊢
    replace hP : va_P (dC, dI) vwCl [(z0, .inr (2, [.int kdc, .int whc, .ref y0, .int nx, .int ps, .int se])), (y0, .inr (4, [.ref x0, .int kd, .int wh, .int (nI lim), .int bu])), (x0, .inr (5, [.ref k0, .ref w0, .int (nI nz), .int ch])), (k0, .inl (ck, L, .inl f)), (w0, .inl (cw, L, .inl ur_4))] H := hP
    replace hD : va_D A [(z0, .inr (2, [.int kdc, .int whc, .ref y0, .int nx, .int ps, .int se])), (y0, .inr (4, [.ref x0, .int kd, .int wh, .int (nI lim), .int bu])), (x0, .inr (5, [.ref k0, .ref w0, .int (nI nz), .int ch])), (k0, .inl (ck, L, .inl f)), (w0, .inl (cw, L, .inl ur_4))] := hD
    refine W.widen (k := 0) (n := 0) (Nat.le_of_ble_eq_true rfl) (Nat.le_of_ble_eq_true rfl) ?_
    refine W.eq (g2 := F0 m 40 ls []) rfl ?_
    refine lv_iload_n hx hb dX1_setPassedValue_40 rfl (lv_at hl 0 rfl) ?_
    refine lv_i2l (v := r_3.toInt64) hx hb dX1_setPassedValue_41 rfl ?_
    have hP9 := hP.sub (ws' := [(z0, .inr (2, [.int kdc, .int whc, .ref y0, .int nx, .int ps, .int se])), (y0, .inr (4, [.ref x0, .int kd, .int wh, .int (nI lim), .int bu])), (x0, .inr (5, [.ref k0, .ref w0, .int (nI nz), .int ch])), (k0, .inl (ck, L, .inl f)), (w0, .inl (cw, L, .inl ur_4))]) [0, 1, 2, 3, 4] rfl
    have hD9 := hD.sub (ws' := [(z0, .inr (2, [.int kdc, .int whc, .ref y0, .int nx, .int ps, .int se])), (y0, .inr (4, [.ref x0, .int kd, .int wh, .int (nI lim), .int bu])), (x0, .inr (5, [.ref k0, .ref w0, .int (nI nz), .int ch])), (k0, .inl (ck, L, .inl f)), (w0, .inl (cw, L, .inl ur_4))]) [0, 1, 2, 3, 4] (by decide) rfl
    have hK9 := hK.sub (tys' := [(ck, .int), (cw, .int)]) [0, 1] rfl
    refine W.widen (k := 1) (n := 6) (Nat.le_of_ble_eq_true rfl) (Nat.le_of_ble_eq_true rfl) ?_
    refine vx_ret ?_
    exact W.lret (v := r_3.toInt64) hx hb hr (fun t ht hW => ⟨⟨r_3.toInt64, (ur_4), rfl, trivial, by rw [ht]; exact hP9, va_K.moved hW.alike hK9, hD9⟩, hS.F ht⟩) hS.2.2 dX1_setPassedValue_42
set_option maxHeartbeats 4000000 in
set_option maxRecDepth 100000 in
/-- Cursor.passedValue over L -/
theorem c_X1_passedValue_L (l : Launch) (hlt : l.stackTraces = false) (dC : Nat → ClassId) (dI : Nat → Nat → Nat) (sz : Nat) (z0 : Nat) (kdc : Int32) (whc : Int32) (nx : Int32) (ps : Int32) (se : Int32) (y0 : Nat) (kd : Int32) (wh : Int32) (lim : Nat) (bu : Int32) (x0 : Nat) (k0 : Nat) (w0 : Nat) (ck : ClassId) (cw : ClassId) (L : Nat) (f : Nat → Int32) (g : Nat → Int32) (nz : Nat) (ch : Int32) (hR9 : rOK L nz) (hlim : lim ≤ 1000) : vx_Met l yX1_passedValue wsX1_passedValue ({ frames := 7, cells := 1, slots := 6, locals := 260 }) (va_Pc [.ref z0] (pk_PreXR (dC, dI) [(z0, .inr (2, [.int kdc, .int whc, .ref y0, .int nx, .int ps, .int se])), (y0, .inr (4, [.ref x0, .int kd, .int wh, .int (nI lim), .int bu])), (x0, .inr (5, [.ref k0, .ref w0, .int (nI nz), .int ch])), (k0, .inl (ck, L, .inl f)), (w0, .inl (cw, L, .inl g))] [(ck, .int), (cw, .int)] sz)) (va_Ql (fun (x : Int64) (u : Unit) => True) (fun _ (t : State) => t.heap.size = sz) (roN sz)) (vx_X (fun _ : Unit => True) (fun (E : String) (_ : Unit) (t : State) => E = "java/lang/IllegalStateException") (roN sz)) 1 6 (roN sz) := by
  refine vx_ofW (cc := cX1_passedValue) (maxL := 1) (ret := (some .long)) (by decide) rfl ?_
  intro p e s m args below meth c s₁ B hml htab hv
  obtain ⟨rfl, hsz, hP, hK, hN, hZ⟩ := hv
  have hx := B.exec
  have hb := B.bytes
  have hr := B.returns
  have hts := atoms_spec (ws := wsX1_passedValue) B.pre
  have hown : s.vm.findClass RX1 = some m.cls := findClass_of_methodNamed B.named
  have hlocks := B.notSynchronized
  subst hsz
  generalize hAe : roN s.heap.size = A at hZ ⊢
  have hA : ∀ q : Nat, s.heap.size ≤ q → A q := fun q h => by rw [← hAe]; exact h
  have hS : va_S A s.heap s.heap [] := va_S.rf
  have hP : va_P (dC, dI) vwCl [(z0, .inr (2, [.int kdc, .int whc, .ref y0, .int nx, .int ps, .int se])), (y0, .inr (4, [.ref x0, .int kd, .int wh, .int (nI lim), .int bu])), (x0, .inr (5, [.ref k0, .ref w0, .int (nI nz), .int ch])), (k0, .inl (ck, L, .inl f)), (w0, .inl (cw, L, .inl g))] s.heap := hP
  have hl := lv_entry ([.ref z0]) (n := 1) (Nat.le_of_ble_eq_true rfl)
  rw [lg_entry_eq]
  generalize (lg_sl ([.ref z0]) ++ List.replicate (1 - (lg_sl ([.ref z0])).length) Slot.unset).toArray = ls at hl ⊢
  have hl : lv_has ls 1 [(0, .ref z0)] := hl
  have hw0_ := hts (.fieldLink RX1 9 "KeyAtlas$Cursor" "keyed" "LKeyAtlas$Keyed;") (List.mem_of_getElem? (l := wsX1_passedValue) (i := 1) rfl)
  have hw1_ := hts (.fieldLink RX1 19 "KeyAtlas$Keyed" "rows" "LKeyAtlas$Rows;") (List.mem_of_getElem? (l := wsX1_passedValue) (i := 2) rfl)
  have hw2_ := hts (.fieldLink RX1 15 "KeyAtlas$Cursor" "passed" "I") (List.mem_of_getElem? (l := wsX1_passedValue) (i := 3) rfl)
  have hi0_ : ∀ w ∈ u_ws RX1 TX1 6, w ∈ wsX1_passedValue := fun w h => List.mem_cons_of_mem _ (List.mem_append_left _ (List.mem_append_left _ (List.mem_append_left _ (List.mem_append_left _ (List.mem_append_left _ (List.mem_append_right _ h))))))
  have hi1_ : ∀ w ∈ u_ws RX4 TX4 5, w ∈ wsX1_passedValue := fun w h => List.mem_cons_of_mem _ (List.mem_append_left _ (List.mem_append_left _ (List.mem_append_left _ (List.mem_append_right _ h))))
  obtain ⟨hL1, hL2, hz1, hz2⟩ := id hR9
  refine lv_aload_n hx hb dX1_passedValue_0 rfl (lv_at hl 0 rfl) ?_
  have hPc := hP.sub (ws' := [(z0, .inr (2, [.int kdc, .int whc, .ref y0, .int nx, .int ps, .int se]))]) [0] rfl
  have hKc := hK.sub (tys' := []) [] rfl
  refine rox_callv (vx_runV (As := []) (rest := []) ⟨hx, hb, hml, hown, hts⟩ (c_X1_needPassed l hlt dC dI s.heap.size z0 ps (.int kdc) (.int whc) (.ref y0) (.int nx) (.int se)) (cwV 0 hts gX1_passedValue_X1_needPassed rfl rfl rfl (by decide +kernel) ⟨(Nat.le_of_ble_eq_true rfl), (Nat.le_of_ble_eq_true rfl)⟩) ⟨pk_blindXR, va_recv hKc hPc (ci := 2) (q0 := 0) rfl rfl, pk_callXR hPc hKc hN ((hZ.kept hS.2.1).narrow (fun q h9 => hA q (Nat.le_trans hS.1 h9)))⟩ rfl rfl hl.1 rfl (lv_room (Nat.le_of_ble_eq_true rfl)) dX1_passedValue_1 ⟨(Nat.le_of_ble_eq_true rfl), (Nat.le_of_ble_eq_true rfl)⟩) hS (fun q h9 => hA q (Nat.le_trans hS.1 h9)) (fun E ce q9 u9 t H1 locs ht hvm hw hB hz1 hk1 hS hce hcv hcl => ?_) (fun ur_1 locs hw hS => ?_)
  ·
    try dsimp only at hB
    exact vx_out (fun x hx9 => (htab x hx9).elim) hlocks hce hcv hcl (fun t9 ht9 hal9 => ⟨(), trivial, hB, hS.F ht9⟩) hS.2.2 (by omega) (by omega)
  ·
    refine W.tight (k := 0) (n := 0) (Nat.le_refl _) (Nat.le_refl _) ?_
    clear hPc hKc
    try dsimp only at hw
    have jr_1 := hw
    refine W.eq (g2 := F0 m 4 ls []) rfl ?_
    refine lv_aload_n hx hb dX1_passedValue_4 rfl (lv_at hl 0 rfl) ?_
    refine va_get (D := (dC, dI)) (ci := 2) (v := .ref y0) (C := RX1) (T := TX1) (N := 6) hx hb hts hi0_ hown hK hP 0 rfl rfl 2 (by decide) hw0_ (fun _ h9 => h9) rfl dX1_passedValue_5 ?_
    refine va_get (D := (dC, dI)) (ci := 4) (v := .ref x0) (C := RX4) (T := TX4) (N := 5) hx hb hts hi1_ hown hK hP 1 rfl rfl 0 (by decide) hw1_ (fun _ h9 => h9) rfl dX1_passedValue_8 ?_
    refine lv_aload_n hx hb dX1_passedValue_11 rfl (lv_at hl 0 rfl) ?_
    refine va_get (D := (dC, dI)) (ci := 2) (v := .ref y0) (C := RX1) (T := TX1) (N := 6) hx hb hts hi0_ hown hK hP 0 rfl rfl 2 (by decide) hw0_ (fun _ h9 => h9) rfl dX1_passedValue_12 ?_
    refine lv_aload_n hx hb dX1_passedValue_15 rfl (lv_at hl 0 rfl) ?_
    refine va_get (D := (dC, dI)) (ci := 2) (v := .int ps) (C := RX1) (T := TX1) (N := 6) hx hb hts hi0_ hown hK hP 0 rfl rfl 4 (by decide) hw2_ (fun _ h9 => h9) rfl dX1_passedValue_16 ?_
    have hPc := hP.sub (ws' := [(y0, .inr (4, [.ref x0, .int kd, .int wh, .int (nI lim), .int bu]))]) [1] rfl
    have hKc := hK.sub (tys' := []) [] rfl
    refine ro_calli (va_runU (As := [.int ps]) (rest := [.ref x0]) ⟨hx, hb, hml, hown, hts⟩ (c_X3_placeOf_L l  dC dI s.heap.size y0 (.ref x0) (.int kd) (.int wh) (.int (nI lim)) (.int bu) ps) (va_cwU 1 hts gX1_passedValue_X3_placeOf_u51X4 rfl rfl rfl rfl (by decide +kernel) ⟨(Nat.le_of_ble_eq_true rfl), (Nat.le_of_ble_eq_true rfl)⟩) ⟨pk_blindR, va_recv hKc hPc (ci := 4) (q0 := 0) rfl rfl, pk_callR hPc hKc⟩ rfl rfl hl.1 rfl (lv_room (Nat.le_of_ble_eq_true rfl)) dX1_passedValue_19 ⟨(Nat.le_of_ble_eq_true rfl), (Nat.le_of_ble_eq_true rfl)⟩) (fun r_2 ur_2 hw => ?_)
    clear hPc hKc
    try dsimp only at hw
    have jr_2 := hw
    refine W.eq (g2 := F0 m 22 ls [.int r_2, .ref x0]) rfl ?_
    have hPc := hP.sub (ws' := [(x0, .inr (5, [.ref k0, .ref w0, .int (nI nz), .int ch])), (k0, .inl (ck, L, .inl f)), (w0, .inl (cw, L, .inl g))]) [2, 3, 4] rfl
    have hKc := hK.sub (tys' := [(ck, .int), (cw, .int)]) [0, 1] rfl
    refine ro_calli (va_runV (As := [.int r_2]) (rest := []) ⟨hx, hb, hml, hown, hts⟩ (c_X5_value l  dC dI s.heap.size x0 k0 w0 ck cw L f g nz ch r_2 hR9) (cwV 1 hts gX1_passedValue_X5_value rfl rfl rfl (by decide +kernel) ⟨(Nat.le_of_ble_eq_true rfl), (Nat.le_of_ble_eq_true rfl)⟩) ⟨pk_blindR, va_recv hKc hPc (ci := 5) (q0 := 0) rfl rfl, pk_callR hPc hKc⟩ rfl rfl hl.1 rfl (lv_room (Nat.le_of_ble_eq_true rfl)) dX1_passedValue_22 ⟨(Nat.le_of_ble_eq_true rfl), (Nat.le_of_ble_eq_true rfl)⟩) (fun r_3 ur_3 hw => ?_)
    clear hPc hKc
    try dsimp only at hw
    have jr_3 := hw
    refine W.eq (g2 := F0 m 25 ls [.int r_3]) rfl ?_
    refine lv_i2l (v := r_3.toInt64) hx hb dX1_passedValue_25 rfl ?_
    refine W.widen (k := 1) (n := 6) (Nat.le_of_ble_eq_true rfl) (Nat.le_of_ble_eq_true rfl) ?_
    refine vx_ret ?_
    exact W.lret (v := r_3.toInt64) hx hb hr (fun t ht hW => ⟨⟨r_3.toInt64, (), rfl, trivial, congrArg Array.size ht⟩, hS.F ht⟩) hS.2.2 dX1_passedValue_26
