set_option maxRecDepth 20000 in
theorem gX3_howManyWith_X3_size_u72X4 : GoodIn wsX3_howManyWith (va_wsU RX3 72 RX4 "KeyAtlas$Keyed" ⟨"KeyAtlas$Keyed", "size", "()I"⟩ yX3_size wsX3_size) := goodIn_app (goodIn_of _ (by decide +kernel)) ggX3_howManyWith_X3_size
set_option maxRecDepth 20000 in
theorem gX3_howManyWith_X3_placeOf_u77X4 : GoodIn wsX3_howManyWith (va_wsU RX3 77 RX4 "KeyAtlas$Keyed" ⟨"KeyAtlas$Keyed", "placeOf", "(I)I"⟩ yX3_placeOf wsX3_placeOf) := goodIn_app (goodIn_of _ (by decide +kernel)) ggX3_howManyWith_X3_placeOf
set_option maxRecDepth 20000 in
theorem gX3_sum_X3_size_u72X4 : GoodIn wsX3_sum (va_wsU RX3 72 RX4 "KeyAtlas$Keyed" ⟨"KeyAtlas$Keyed", "size", "()I"⟩ yX3_size wsX3_size) := goodIn_app (goodIn_of _ (by decide +kernel)) ggX3_sum_X3_size
set_option maxRecDepth 20000 in
theorem gX3_sum_X3_placeOf_u77X4 : GoodIn wsX3_sum (va_wsU RX3 77 RX4 "KeyAtlas$Keyed" ⟨"KeyAtlas$Keyed", "placeOf", "(I)I"⟩ yX3_placeOf wsX3_placeOf) := goodIn_app (goodIn_of _ (by decide +kernel)) ggX3_sum_X3_placeOf
set_option maxRecDepth 20000 in
theorem gX3_raiseValues_X3_size_u72X4 : GoodIn wsX3_raiseValues (va_wsU RX3 72 RX4 "KeyAtlas$Keyed" ⟨"KeyAtlas$Keyed", "size", "()I"⟩ yX3_size wsX3_size) := goodIn_app (goodIn_of _ (by decide +kernel)) ggX3_raiseValues_X3_size
set_option maxRecDepth 20000 in
theorem gX3_raiseValues_X3_placeOf_u77X4 : GoodIn wsX3_raiseValues (va_wsU RX3 77 RX4 "KeyAtlas$Keyed" ⟨"KeyAtlas$Keyed", "placeOf", "(I)I"⟩ yX3_placeOf wsX3_placeOf) := goodIn_app (goodIn_of _ (by decide +kernel)) ggX3_raiseValues_X3_placeOf
set_option maxRecDepth 20000 in
theorem gX3_takeOutWith_X3_size_u72X4 : GoodIn wsX3_takeOutWith (va_wsU RX3 72 RX4 "KeyAtlas$Keyed" ⟨"KeyAtlas$Keyed", "size", "()I"⟩ yX3_size wsX3_size) := goodIn_app (goodIn_of _ (by decide +kernel)) ggX3_takeOutWith_X3_size
set_option maxRecDepth 20000 in
theorem gX3_takeOutWith_X3_placeOf_u77X4 : GoodIn wsX3_takeOutWith (va_wsU RX3 77 RX4 "KeyAtlas$Keyed" ⟨"KeyAtlas$Keyed", "placeOf", "(I)I"⟩ yX3_placeOf wsX3_placeOf) := goodIn_app (goodIn_of _ (by decide +kernel)) ggX3_takeOutWith_X3_placeOf
set_option maxRecDepth 20000 in
theorem ggX3_takeOutWith_X3_leave : GoodIn wsX3_takeOutWith wsX3_leave := goodIn_r _ [96, 1, 97, 98, 99, 11, 100, 13, 37, 101, 102, 103, 104, 75, 105, 122, 123, 124, 125, 126, 127, 128, 129, 130, 131, 132, 133, 134, 135, 136, 137, 138, 139, 140, 141, 142, 143, 144] rfl (by decide +kernel)
set_option maxRecDepth 20000 in
theorem gX3_takeOutWith_X3_leave_u69X4 : GoodIn wsX3_takeOutWith (va_wsU RX3 69 RX4 "KeyAtlas$Keyed" ⟨"KeyAtlas$Keyed", "leave", "(I)V"⟩ yX3_leave wsX3_leave) := goodIn_app (goodIn_of _ (by decide +kernel)) ggX3_takeOutWith_X3_leave
set_option maxHeartbeats 4000000 in
set_option maxRecDepth 100000 in
/-- Keyed.howManyWith of L -/
theorem c_X3_howManyWith_L (l : Launch) (hlt : l.stackTraces = false) (dC : Nat → ClassId) (dI : Nat → Nat → Nat) (sz : Nat) (y0 : Nat) (kd : Int32) (wh : Int32) (lim : Nat) (bu : Int32) (x0 : Nat) (k0 : Nat) (w0 : Nat) (ck : ClassId) (cw : ClassId) (L : Nat) (f : Nat → Int32) (g : Nat → Int32) (nz : Nat) (ch : Int32) (p0 : Int32) (hR9 : rOK L nz) (hlim : lim ≤ 1000) : Met l yX3_howManyWith wsX3_howManyWith ({ frames := 5, cells := 0, slots := 0, locals := 210 }) (va_Pc [.ref y0, .int p0] (pk_PreRX (dC, dI) [(y0, .inr (4, [.ref x0, .int kd, .int wh, .int (nI lim), .int bu])), (x0, .inr (5, [.ref k0, .ref w0, .int (nI nz), .int ch])), (k0, .inl (ck, L, .inl f)), (w0, .inl (cw, L, .inl g))] [(ck, .int), (cw, .int)] sz)) (va_Ql (fun (x : Int64) (u : Unit) => True) (fun _ (t : State) => t.heap.size = sz) ro_A) 0 0 ro_A := by
  refine Met.ofW (cc := cX3_howManyWith) (maxL := 5) (ret := (some .long)) (by decide) rfl ?_
  intro p e s m args below meth c s₁ B hml hv
  obtain ⟨rfl, ⟨hsz, hP, hK⟩, hN⟩ := hv
  have hx := B.exec
  have hb := B.bytes
  have hr := B.returns
  have hts := atoms_spec (ws := wsX3_howManyWith) B.pre
  have hown : s.vm.findClass RX3 = some m.cls := findClass_of_methodNamed B.named
  have hlocks := B.notSynchronized
  subst hsz
  have hS : va_S ro_A s.heap s.heap [] := va_S.rf
  have hP : va_P (dC, dI) vwCl [(y0, .inr (4, [.ref x0, .int kd, .int wh, .int (nI lim), .int bu])), (x0, .inr (5, [.ref k0, .ref w0, .int (nI nz), .int ch])), (k0, .inl (ck, L, .inl f)), (w0, .inl (cw, L, .inl g))] s.heap := hP
  have hl := lv_entry ([.ref y0, .int p0]) (n := 5) (Nat.le_of_ble_eq_true rfl)
  rw [lg_entry_eq]
  generalize (lg_sl ([.ref y0, .int p0]) ++ List.replicate (5 - (lg_sl ([.ref y0, .int p0])).length) Slot.unset).toArray = ls at hl ⊢
  have hl : lv_has ls 5 [(0, .ref y0), (1, .int p0)] := hl
  have hw0_ := hts (.fieldLink RX3 9 "KeyAtlas$Keyed" "rows" "LKeyAtlas$Rows;") (List.mem_of_getElem? (l := wsX3_howManyWith) (i := 1) rfl)
  have hi0_ : ∀ w ∈ u_ws RX4 TX4 5, w ∈ wsX3_howManyWith := fun w h => List.mem_cons_of_mem _ (List.mem_append_left _ (List.mem_append_left _ (List.mem_append_right _ h)))
  obtain ⟨hL1, hL2, hz1, hz2⟩ := id hR9
  refine lv_iconst (v := 0) hx hb dX3_howManyWith_0 (by decide) ?_
  refine lv_istore_n (lv' := [(2, .int 0), (0, .ref y0), (1, .int p0)]) hx hb dX3_howManyWith_1 rfl hl (by decide) rfl (fun ls hl => ?_)
  refine lv_aload_n hx hb dX3_howManyWith_2 rfl (lv_at hl 1 rfl) ?_
  have hPc := hP.sub (ws' := [(y0, .inr (4, [.ref x0, .int kd, .int wh, .int (nI lim), .int bu])), (x0, .inr (5, [.ref k0, .ref w0, .int (nI nz), .int ch])), (k0, .inl (ck, L, .inl f)), (w0, .inl (cw, L, .inl g))]) [0, 1, 2, 3] rfl
  have hKc := hK.sub (tys' := [(ck, .int), (cw, .int)]) [0, 1] rfl
  refine ro_calli (va_runU (As := []) (rest := []) ⟨hx, hb, hml, hown, hts⟩ (c_X3_size_L l  dC dI s.heap.size y0 (.int kd) (.int wh) (.int (nI lim)) (.int bu) x0 k0 w0 ck cw L f g nz ch hR9) (va_cwU 0 hts gX3_howManyWith_X3_size_u72X4 rfl rfl rfl rfl (by decide +kernel) ⟨(Nat.le_of_ble_eq_true rfl), (Nat.le_of_ble_eq_true rfl)⟩) ⟨pk_blindR, va_recv hKc hPc (ci := 4) (q0 := 0) rfl rfl, pk_callR hPc hKc⟩ rfl rfl hl.1 rfl (lv_room (Nat.le_of_ble_eq_true rfl)) dX3_howManyWith_3 ⟨(Nat.le_of_ble_eq_true rfl), (Nat.le_of_ble_eq_true rfl)⟩) (fun r_1 ur_1 hw => ?_)
  clear hPc hKc
  try dsimp only at hw
  have jr_1 := hw
  refine W.eq (g2 := F0 m 6 ls [.int r_1]) rfl ?_
  have hr_1 : -1000 ≤ r_1.toInt ∧ r_1.toInt ≤ nz := by rw [jr_1, nI_toInt (by omega)]; omega
  have hsz9 : r_1.toInt ≤ 1000 := by have h9 := hr_1; omega
  refine lv_istore_n (lv' := [(3, .int r_1), (2, .int 0), (0, .ref y0), (1, .int p0)]) hx hb dX3_howManyWith_6 rfl hl (by decide) rfl (fun ls hl => ?_)
  refine lv_iconst (v := 0) hx hb dX3_howManyWith_7 (by decide) ?_
  refine lv_istore (lv' := [(4, .int 0), (3, .int r_1), (2, .int 0), (0, .ref y0), (1, .int p0)]) hx hb dX3_howManyWith_8 hl (by decide) rfl (fun ls hl => ?_)
  obtain ⟨i, es_i⟩ : ∃ z : Nat, z = 0 := ⟨_, rfl⟩
  obtain ⟨x9, ex9⟩ : ∃ y : Int32, y = nI i := ⟨_, rfl⟩
  obtain ⟨g9, es_g9⟩ : ∃ z : Int32, z = 0 := ⟨_, rfl⟩
  obtain ⟨n9, en9⟩ : ∃ n : Nat, n = 1001 := ⟨_, rfl⟩
  replace hl : lv_has ls 5 [(4, .int x9), (3, .int r_1), (2, .int g9), (0, .ref y0), (1, .int p0)] := by subst ex9; subst es_i; subst es_g9; exact hl
  have hi9 : i ≤ 1000 := by subst ex9; subst es_i; subst es_g9; subst en9; exact by omega
  have hn9 : 1001 ≤ i + n9 := by subst ex9; subst es_i; subst es_g9; subst en9; exact by omega
  clear en9 es_i es_g9
  induction n9 generalizing i x9 g9 ls with
  | zero => exact absurd hn9 (by omega)
  | succ n9 ih =>
    subst ex9
    refine lv_iload hx hb dX3_howManyWith_10 (lv_at hl 0 rfl) ?_
    refine lv_iload_n hx hb dX3_howManyWith_12 rfl (lv_at hl 1 rfl) ?_
    refine lv_icmp_ge (tgt := 42) hx hb dX3_howManyWith_13 (by decide) (fun c_2 => ?_) (fun c_2 => ?_)
    ·
      have ic_2 : r_1.toInt ≤ ((i : Nat) : Int) := tx_le rfl (nI_toInt (by omega)) c_2
      refine lv_iload_n hx hb dX3_howManyWith_42 rfl (lv_at hl 2 rfl) ?_
      refine lv_i2l (v := g9.toInt64) hx hb dX3_howManyWith_43 rfl ?_
      refine W.widen (k := 0) (n := 0) (Nat.le_of_ble_eq_true rfl) (Nat.le_of_ble_eq_true rfl) ?_
      exact W.lret (v := g9.toInt64) hx hb hr (fun t ht hW => ⟨⟨g9.toInt64, (), rfl, trivial, congrArg Array.size ht⟩, hS.F ht⟩) hS.2.2 dX3_howManyWith_44
    ·
      have ic_2 : ((i : Nat) : Int) < r_1.toInt := tx_nle rfl (nI_toInt (by omega)) c_2
      refine lv_aload_n hx hb dX3_howManyWith_16 rfl (lv_at hl 3 rfl) ?_
      refine va_get (D := (dC, dI)) (ci := 4) (v := .ref x0) (C := RX4) (T := TX4) (N := 5) hx hb hts hi0_ hown hK hP 0 rfl rfl 0 (by decide) hw0_ (fun _ h9 => h9) rfl dX3_howManyWith_17 ?_
      refine lv_aload_n hx hb dX3_howManyWith_20 rfl (lv_at hl 3 rfl) ?_
      refine lv_iload hx hb dX3_howManyWith_21 (lv_at hl 0 rfl) ?_
      have hPc := hP.sub (ws' := [(y0, .inr (4, [.ref x0, .int kd, .int wh, .int (nI lim), .int bu]))]) [0] rfl
      have hKc := hK.sub (tys' := []) [] rfl
      refine ro_calli (va_runU (As := [.int (nI i)]) (rest := [.ref x0]) ⟨hx, hb, hml, hown, hts⟩ (c_X3_placeOf_L l  dC dI s.heap.size y0 (.ref x0) (.int kd) (.int wh) (.int (nI lim)) (.int bu) (nI i)) (va_cwU 1 hts gX3_howManyWith_X3_placeOf_u77X4 rfl rfl rfl rfl (by decide +kernel) ⟨(Nat.le_of_ble_eq_true rfl), (Nat.le_of_ble_eq_true rfl)⟩) ⟨pk_blindR, va_recv hKc hPc (ci := 4) (q0 := 0) rfl rfl, pk_callR hPc hKc⟩ rfl rfl hl.1 rfl (lv_room (Nat.le_of_ble_eq_true rfl)) dX3_howManyWith_23 ⟨(Nat.le_of_ble_eq_true rfl), (Nat.le_of_ble_eq_true rfl)⟩) (fun r_3 ur_3 hw => ?_)
      clear hPc hKc
      try dsimp only at hw
      have jr_3 := hw
      refine W.eq (g2 := F0 m 26 ls [.int r_3, .ref x0]) rfl ?_
      have hPc := hP.sub (ws' := [(x0, .inr (5, [.ref k0, .ref w0, .int (nI nz), .int ch])), (k0, .inl (ck, L, .inl f)), (w0, .inl (cw, L, .inl g))]) [1, 2, 3] rfl
      have hKc := hK.sub (tys' := [(ck, .int), (cw, .int)]) [0, 1] rfl
      refine ro_calli (va_runV (As := [.int r_3]) (rest := []) ⟨hx, hb, hml, hown, hts⟩ (c_X5_value l  dC dI s.heap.size x0 k0 w0 ck cw L f g nz ch r_3 hR9) (cwV 1 hts gX3_howManyWith_X5_value rfl rfl rfl (by decide +kernel) ⟨(Nat.le_of_ble_eq_true rfl), (Nat.le_of_ble_eq_true rfl)⟩) ⟨pk_blindR, va_recv hKc hPc (ci := 5) (q0 := 0) rfl rfl, pk_callR hPc hKc⟩ rfl rfl hl.1 rfl (lv_room (Nat.le_of_ble_eq_true rfl)) dX3_howManyWith_26 ⟨(Nat.le_of_ble_eq_true rfl), (Nat.le_of_ble_eq_true rfl)⟩) (fun r_4 ur_4 hw => ?_)
      clear hPc hKc
      try dsimp only at hw
      have jr_4 := hw
      refine W.eq (g2 := F0 m 29 ls [.int r_4]) rfl ?_
      refine lv_iload_n hx hb dX3_howManyWith_29 rfl (lv_at hl 4 rfl) ?_
      refine lv_icmp_ne (tgt := 36) hx hb dX3_howManyWith_30 (by decide) (fun c_5 => ?_) (fun c_5 => ?_)
      ·
        have ic_5 : ¬ r_4.toInt = p0.toInt := tx_ne rfl rfl c_5
        refine lv_iinc (v := nI (i + 1)) (lv' := [(4, .int (nI (i + 1))), (3, .int r_1), (2, .int g9), (0, .ref y0), (1, .int p0)]) hx hb dX3_howManyWith_36 hl (k := 0) rfl (by rw [show Int32.ofInt 1 = nI 1 from rfl, nI_add]) (by decide) rfl (fun ls hl => ?_)
        refine lv_goto (tgt := 10) hx hb dX3_howManyWith_39 (by decide) ?_
        exact ih (i := i + 1) (x9 := nI (i + 1)) (ex9 := rfl) (g9 := g9) (ls := ls) (hi9 := by omega) (hn9 := by omega) (hl := lv_sub hl [0, 1, 2, 3, 4] rfl)
      ·
        have ic_5 : r_4.toInt = p0.toInt := tx_eq rfl rfl c_5
        refine lv_iinc (v := g9 + 1) (lv' := [(2, .int (g9 + 1)), (4, .int (nI i)), (3, .int r_1), (0, .ref y0), (1, .int p0)]) hx hb dX3_howManyWith_33 hl (k := 2) rfl rfl (by decide) rfl (fun ls hl => ?_)
        refine lv_iinc (v := nI (i + 1)) (lv' := [(4, .int (nI (i + 1))), (2, .int (g9 + 1)), (3, .int r_1), (0, .ref y0), (1, .int p0)]) hx hb dX3_howManyWith_36 hl (k := 1) rfl (by rw [show Int32.ofInt 1 = nI 1 from rfl, nI_add]) (by decide) rfl (fun ls hl => ?_)
        refine lv_goto (tgt := 10) hx hb dX3_howManyWith_39 (by decide) ?_
        exact ih (i := i + 1) (x9 := nI (i + 1)) (ex9 := rfl) (g9 := g9 + 1) (ls := ls) (hi9 := by omega) (hn9 := by omega) (hl := lv_sub hl [0, 2, 1, 3, 4] rfl)
set_option maxHeartbeats 4000000 in
set_option maxRecDepth 100000 in
/-- Keyed.sum of L -/
theorem c_X3_sum_L (l : Launch) (hlt : l.stackTraces = false) (dC : Nat → ClassId) (dI : Nat → Nat → Nat) (sz : Nat) (y0 : Nat) (kd : Int32) (wh : Int32) (lim : Nat) (bu : Int32) (x0 : Nat) (k0 : Nat) (w0 : Nat) (ck : ClassId) (cw : ClassId) (L : Nat) (f : Nat → Int32) (g : Nat → Int32) (nz : Nat) (ch : Int32) (hR9 : rOK L nz) (hlim : lim ≤ 1000) : Met l yX3_sum wsX3_sum ({ frames := 5, cells := 0, slots := 0, locals := 210 }) (va_Pc [.ref y0] (pk_PreRX (dC, dI) [(y0, .inr (4, [.ref x0, .int kd, .int wh, .int (nI lim), .int bu])), (x0, .inr (5, [.ref k0, .ref w0, .int (nI nz), .int ch])), (k0, .inl (ck, L, .inl f)), (w0, .inl (cw, L, .inl g))] [(ck, .int), (cw, .int)] sz)) (va_Ql (fun (x : Int64) (u : Unit) => True) (fun _ (t : State) => t.heap.size = sz) ro_A) 0 0 ro_A := by
  refine Met.ofW (cc := cX3_sum) (maxL := 5) (ret := (some .long)) (by decide) rfl ?_
  intro p e s m args below meth c s₁ B hml hv
  obtain ⟨rfl, ⟨hsz, hP, hK⟩, hN⟩ := hv
  have hx := B.exec
  have hb := B.bytes
  have hr := B.returns
  have hts := atoms_spec (ws := wsX3_sum) B.pre
  have hown : s.vm.findClass RX3 = some m.cls := findClass_of_methodNamed B.named
  have hlocks := B.notSynchronized
  subst hsz
  have hS : va_S ro_A s.heap s.heap [] := va_S.rf
  have hP : va_P (dC, dI) vwCl [(y0, .inr (4, [.ref x0, .int kd, .int wh, .int (nI lim), .int bu])), (x0, .inr (5, [.ref k0, .ref w0, .int (nI nz), .int ch])), (k0, .inl (ck, L, .inl f)), (w0, .inl (cw, L, .inl g))] s.heap := hP
  have hl := lv_entry ([.ref y0]) (n := 5) (Nat.le_of_ble_eq_true rfl)
  rw [lg_entry_eq]
  generalize (lg_sl ([.ref y0]) ++ List.replicate (5 - (lg_sl ([.ref y0])).length) Slot.unset).toArray = ls at hl ⊢
  have hl : lv_has ls 5 [(0, .ref y0)] := hl
  have hw0_ := hts (.fieldLink RX3 9 "KeyAtlas$Keyed" "rows" "LKeyAtlas$Rows;") (List.mem_of_getElem? (l := wsX3_sum) (i := 1) rfl)
  have hi0_ : ∀ w ∈ u_ws RX4 TX4 5, w ∈ wsX3_sum := fun w h => List.mem_cons_of_mem _ (List.mem_append_left _ (List.mem_append_left _ (List.mem_append_right _ h)))
  obtain ⟨hL1, hL2, hz1, hz2⟩ := id hR9
  refine lv_iconst (v := 0) hx hb dX3_sum_0 (by decide) ?_
  refine lv_istore_n (lv' := [(1, .int 0), (0, .ref y0)]) hx hb dX3_sum_1 rfl hl (by decide) rfl (fun ls hl => ?_)
  refine lv_aload_n hx hb dX3_sum_2 rfl (lv_at hl 1 rfl) ?_
  have hPc := hP.sub (ws' := [(y0, .inr (4, [.ref x0, .int kd, .int wh, .int (nI lim), .int bu])), (x0, .inr (5, [.ref k0, .ref w0, .int (nI nz), .int ch])), (k0, .inl (ck, L, .inl f)), (w0, .inl (cw, L, .inl g))]) [0, 1, 2, 3] rfl
  have hKc := hK.sub (tys' := [(ck, .int), (cw, .int)]) [0, 1] rfl
  refine ro_calli (va_runU (As := []) (rest := []) ⟨hx, hb, hml, hown, hts⟩ (c_X3_size_L l  dC dI s.heap.size y0 (.int kd) (.int wh) (.int (nI lim)) (.int bu) x0 k0 w0 ck cw L f g nz ch hR9) (va_cwU 0 hts gX3_sum_X3_size_u72X4 rfl rfl rfl rfl (by decide +kernel) ⟨(Nat.le_of_ble_eq_true rfl), (Nat.le_of_ble_eq_true rfl)⟩) ⟨pk_blindR, va_recv hKc hPc (ci := 4) (q0 := 0) rfl rfl, pk_callR hPc hKc⟩ rfl rfl hl.1 rfl (lv_room (Nat.le_of_ble_eq_true rfl)) dX3_sum_3 ⟨(Nat.le_of_ble_eq_true rfl), (Nat.le_of_ble_eq_true rfl)⟩) (fun r_1 ur_1 hw => ?_)
  clear hPc hKc
  try dsimp only at hw
  have jr_1 := hw
  refine W.eq (g2 := F0 m 6 ls [.int r_1]) rfl ?_
  have hr_1 : -1000 ≤ r_1.toInt ∧ r_1.toInt ≤ nz := by rw [jr_1, nI_toInt (by omega)]; omega
  have hsz9 : r_1.toInt ≤ 1000 := by have h9 := hr_1; omega
  refine lv_istore_n (lv' := [(2, .int r_1), (1, .int 0), (0, .ref y0)]) hx hb dX3_sum_6 rfl hl (by decide) rfl (fun ls hl => ?_)
  refine lv_iconst (v := 0) hx hb dX3_sum_7 (by decide) ?_
  refine lv_istore_n (lv' := [(3, .int 0), (2, .int r_1), (1, .int 0), (0, .ref y0)]) hx hb dX3_sum_8 rfl hl (by decide) rfl (fun ls hl => ?_)
  obtain ⟨i, es_i⟩ : ∃ z : Nat, z = 0 := ⟨_, rfl⟩
  obtain ⟨x9, ex9⟩ : ∃ y : Int32, y = nI i := ⟨_, rfl⟩
  obtain ⟨g9, es_g9⟩ : ∃ z : Int32, z = 0 := ⟨_, rfl⟩
  obtain ⟨n9, en9⟩ : ∃ n : Nat, n = 1001 := ⟨_, rfl⟩
  replace hl : lv_has ls 5 [(3, .int x9), (2, .int r_1), (1, .int g9), (0, .ref y0)] := by subst ex9; subst es_i; subst es_g9; exact hl
  have hi9 : i ≤ 1000 := by subst ex9; subst es_i; subst es_g9; subst en9; exact by omega
  have hn9 : 1001 ≤ i + n9 := by subst ex9; subst es_i; subst es_g9; subst en9; exact by omega
  clear en9 es_i es_g9
  induction n9 generalizing i x9 g9 ls with
  | zero => exact absurd hn9 (by omega)
  | succ n9 ih =>
    subst ex9
    refine lv_iload_n hx hb dX3_sum_9 rfl (lv_at hl 0 rfl) ?_
    refine lv_iload_n hx hb dX3_sum_10 rfl (lv_at hl 1 rfl) ?_
    refine lv_icmp_ge (tgt := 49) hx hb dX3_sum_11 (by decide) (fun c_2 => ?_) (fun c_2 => ?_)
    ·
      have ic_2 : r_1.toInt ≤ ((i : Nat) : Int) := tx_le rfl (nI_toInt (by omega)) c_2
      refine lv_iload_n hx hb dX3_sum_49 rfl (lv_at hl 2 rfl) ?_
      refine lv_i2l (v := g9.toInt64) hx hb dX3_sum_50 rfl ?_
      refine W.widen (k := 0) (n := 0) (Nat.le_of_ble_eq_true rfl) (Nat.le_of_ble_eq_true rfl) ?_
      exact W.lret (v := g9.toInt64) hx hb hr (fun t ht hW => ⟨⟨g9.toInt64, (), rfl, trivial, congrArg Array.size ht⟩, hS.F ht⟩) hS.2.2 dX3_sum_51
    ·
      have ic_2 : ((i : Nat) : Int) < r_1.toInt := tx_nle rfl (nI_toInt (by omega)) c_2
      refine lv_aload_n hx hb dX3_sum_14 rfl (lv_at hl 3 rfl) ?_
      refine lv_iload_n hx hb dX3_sum_15 rfl (lv_at hl 0 rfl) ?_
      have hPc := hP.sub (ws' := [(y0, .inr (4, [.ref x0, .int kd, .int wh, .int (nI lim), .int bu]))]) [0] rfl
      have hKc := hK.sub (tys' := []) [] rfl
      refine ro_calli (va_runU (As := [.int (nI i)]) (rest := []) ⟨hx, hb, hml, hown, hts⟩ (c_X3_placeOf_L l  dC dI s.heap.size y0 (.ref x0) (.int kd) (.int wh) (.int (nI lim)) (.int bu) (nI i)) (va_cwU 1 hts gX3_sum_X3_placeOf_u77X4 rfl rfl rfl rfl (by decide +kernel) ⟨(Nat.le_of_ble_eq_true rfl), (Nat.le_of_ble_eq_true rfl)⟩) ⟨pk_blindR, va_recv hKc hPc (ci := 4) (q0 := 0) rfl rfl, pk_callR hPc hKc⟩ rfl rfl hl.1 rfl (lv_room (Nat.le_of_ble_eq_true rfl)) dX3_sum_16 ⟨(Nat.le_of_ble_eq_true rfl), (Nat.le_of_ble_eq_true rfl)⟩) (fun r_3 ur_3 hw => ?_)
      clear hPc hKc
      try dsimp only at hw
      have jr_3 := hw
      refine W.eq (g2 := F0 m 19 ls [.int r_3]) rfl ?_
      refine lv_istore (lv' := [(4, .int r_3), (3, .int (nI i)), (2, .int r_1), (1, .int g9), (0, .ref y0)]) hx hb dX3_sum_19 hl (by decide) rfl (fun ls hl => ?_)
      refine lv_iload_n hx hb dX3_sum_21 rfl (lv_at hl 3 rfl) ?_
      refine lv_aload_n hx hb dX3_sum_22 rfl (lv_at hl 4 rfl) ?_
      refine va_get (D := (dC, dI)) (ci := 4) (v := .ref x0) (C := RX4) (T := TX4) (N := 5) hx hb hts hi0_ hown hK hP 0 rfl rfl 0 (by decide) hw0_ (fun _ h9 => h9) rfl dX3_sum_23 ?_
      refine lv_iload hx hb dX3_sum_26 (lv_at hl 0 rfl) ?_
      have hPc := hP.sub (ws' := [(x0, .inr (5, [.ref k0, .ref w0, .int (nI nz), .int ch])), (k0, .inl (ck, L, .inl f)), (w0, .inl (cw, L, .inl g))]) [1, 2, 3] rfl
      have hKc := hK.sub (tys' := [(ck, .int), (cw, .int)]) [0, 1] rfl
      refine ro_calli (va_runV (As := [.int r_3]) (rest := [.int g9]) ⟨hx, hb, hml, hown, hts⟩ (c_X5_key l  dC dI s.heap.size x0 k0 w0 ck cw L f g nz ch r_3 hR9) (cwV 1 hts gX3_sum_X5_key rfl rfl rfl (by decide +kernel) ⟨(Nat.le_of_ble_eq_true rfl), (Nat.le_of_ble_eq_true rfl)⟩) ⟨pk_blindR, va_recv hKc hPc (ci := 5) (q0 := 0) rfl rfl, pk_callR hPc hKc⟩ rfl rfl hl.1 rfl (lv_room (Nat.le_of_ble_eq_true rfl)) dX3_sum_28 ⟨(Nat.le_of_ble_eq_true rfl), (Nat.le_of_ble_eq_true rfl)⟩) (fun r_4 ur_4 hw => ?_)
      clear hPc hKc
      try dsimp only at hw
      have jr_4 := hw
      refine W.eq (g2 := F0 m 31 ls [.int r_4, .int g9]) rfl ?_
      refine lv_aload_n hx hb dX3_sum_31 rfl (lv_at hl 4 rfl) ?_
      refine va_get (D := (dC, dI)) (ci := 4) (v := .ref x0) (C := RX4) (T := TX4) (N := 5) hx hb hts hi0_ hown hK hP 0 rfl rfl 0 (by decide) hw0_ (fun _ h9 => h9) rfl dX3_sum_32 ?_
      refine lv_iload hx hb dX3_sum_35 (lv_at hl 0 rfl) ?_
      have hPc := hP.sub (ws' := [(x0, .inr (5, [.ref k0, .ref w0, .int (nI nz), .int ch])), (k0, .inl (ck, L, .inl f)), (w0, .inl (cw, L, .inl g))]) [1, 2, 3] rfl
      have hKc := hK.sub (tys' := [(ck, .int), (cw, .int)]) [0, 1] rfl
      refine ro_calli (va_runV (As := [.int r_3]) (rest := [.int r_4, .int g9]) ⟨hx, hb, hml, hown, hts⟩ (c_X5_value l  dC dI s.heap.size x0 k0 w0 ck cw L f g nz ch r_3 hR9) (cwV 1 hts gX3_sum_X5_value rfl rfl rfl (by decide +kernel) ⟨(Nat.le_of_ble_eq_true rfl), (Nat.le_of_ble_eq_true rfl)⟩) ⟨pk_blindR, va_recv hKc hPc (ci := 5) (q0 := 0) rfl rfl, pk_callR hPc hKc⟩ rfl rfl hl.1 rfl (lv_room (Nat.le_of_ble_eq_true rfl)) dX3_sum_37 ⟨(Nat.le_of_ble_eq_true rfl), (Nat.le_of_ble_eq_true rfl)⟩) (fun r_5 ur_5 hw => ?_)
      clear hPc hKc
      try dsimp only at hw
      have jr_5 := hw
      refine W.eq (g2 := F0 m 40 ls [.int r_5, .int r_4, .int g9]) rfl ?_
      refine lv_ixor hx hb dX3_sum_40 ?_
      refine lv_iadd hx hb dX3_sum_41 ?_
      refine lv_istore_n (lv' := [(1, .int (g9 + (r_4 ^^^ r_5))), (4, .int r_3), (3, .int (nI i)), (2, .int r_1), (0, .ref y0)]) hx hb dX3_sum_42 rfl hl (by decide) rfl (fun ls hl => ?_)
      refine lv_iinc (v := nI (i + 1)) (lv' := [(3, .int (nI (i + 1))), (1, .int (g9 + (r_4 ^^^ r_5))), (4, .int r_3), (2, .int r_1), (0, .ref y0)]) hx hb dX3_sum_43 hl (k := 2) rfl (by rw [show Int32.ofInt 1 = nI 1 from rfl, nI_add]) (by decide) rfl (fun ls hl => ?_)
      refine lv_goto (tgt := 9) hx hb dX3_sum_46 (by decide) ?_
      exact ih (i := i + 1) (x9 := nI (i + 1)) (ex9 := rfl) (g9 := g9 + (r_4 ^^^ r_5)) (ls := ls) (hi9 := by omega) (hn9 := by omega) (hl := lv_sub hl [0, 3, 1, 4] rfl)
set_option maxHeartbeats 4000000 in
set_option maxRecDepth 100000 in
/-- Keyed.raiseValues of L -/
theorem c_X3_raiseValues_L (l : Launch) (hlt : l.stackTraces = false) (dC : Nat → ClassId) (dI : Nat → Nat → Nat) (sz : Nat) (y0 : Nat) (kd : Int32) (wh : Int32) (lim : Nat) (bu : Int32) (x0 : Nat) (k0 : Nat) (w0 : Nat) (ck : ClassId) (cw : ClassId) (L : Nat) (f : Nat → Int32) (g : Nat → Int32) (nz : Nat) (ch : Int32) (p0 : Int32) (hR9 : rOK L nz) (hlim : lim ≤ 1000) : Met l yX3_raiseValues wsX3_raiseValues ({ frames := 5, cells := 0, slots := 0, locals := 210 }) (va_Pc [.ref y0, .int p0] (pk_PreX (dC, dI) [(y0, .inr (4, [.ref x0, .int kd, .int wh, .int (nI lim), .int bu])), (x0, .inr (5, [.ref k0, .ref w0, .int (nI nz), .int ch])), (k0, .inl (ck, L, .inl f)), (w0, .inl (cw, L, .inl g))] [(ck, .int), (cw, .int)] sz)) (va_Ql (fun (x : Int64) (u : (Nat → Int32)) => True) (fun (u : (Nat → Int32)) (t : State) => va_P (dC, dI) vwCl [(y0, .inr (4, [.ref x0, .int kd, .int wh, .int (nI lim), .int bu])), (x0, .inr (5, [.ref k0, .ref w0, .int (nI nz), .int ch])), (k0, .inl (ck, L, .inl f)), (w0, .inl (cw, L, .inl u))] t.heap ∧ va_K (dC, dI) vwCl [(ck, .int), (cw, .int)] t ∧ va_D (va_A [(y0, .inr (4, [.ref x0, .int kd, .int wh, .int (nI lim), .int bu])), (x0, .inr (5, [.ref k0, .ref w0, .int (nI nz), .int ch])), (k0, .inl (ck, L, .inl f)), (w0, .inl (cw, L, .inl g))] sz) [(y0, .inr (4, [.ref x0, .int kd, .int wh, .int (nI lim), .int bu])), (x0, .inr (5, [.ref k0, .ref w0, .int (nI nz), .int ch])), (k0, .inl (ck, L, .inl f)), (w0, .inl (cw, L, .inl u))]) (va_A [(y0, .inr (4, [.ref x0, .int kd, .int wh, .int (nI lim), .int bu])), (x0, .inr (5, [.ref k0, .ref w0, .int (nI nz), .int ch])), (k0, .inl (ck, L, .inl f)), (w0, .inl (cw, L, .inl g))] sz)) 0 0 (va_A [(y0, .inr (4, [.ref x0, .int kd, .int wh, .int (nI lim), .int bu])), (x0, .inr (5, [.ref k0, .ref w0, .int (nI nz), .int ch])), (k0, .inl (ck, L, .inl f)), (w0, .inl (cw, L, .inl g))] sz) := by
  refine Met.ofW (cc := cX3_raiseValues) (maxL := 5) (ret := (some .long)) (by decide) rfl ?_
  intro p e s m args below meth c s₁ B hml hv
  obtain ⟨rfl, hsz, hP, hK, hD0, hN, hZ⟩ := hv
  have hx := B.exec
  have hb := B.bytes
  have hr := B.returns
  have hts := atoms_spec (ws := wsX3_raiseValues) B.pre
  have hown : s.vm.findClass RX3 = some m.cls := findClass_of_methodNamed B.named
  have hlocks := B.notSynchronized
  subst hsz
  have hD := hD0.self (sz := s.heap.size)
  generalize hAe : va_A [(y0, .inr (4, [.ref x0, .int kd, .int wh, .int (nI lim), .int bu])), (x0, .inr (5, [.ref k0, .ref w0, .int (nI nz), .int ch])), (k0, .inl (ck, L, .inl f)), (w0, .inl (cw, L, .inl g))] s.heap.size = A at hZ hD ⊢
  have hA : ∀ q : Nat, s.heap.size ≤ q → A q := fun q h => by rw [← hAe]; exact Or.inr h
  have hS : va_S A s.heap s.heap [] := va_S.rf
  have hP : va_P (dC, dI) vwCl [(y0, .inr (4, [.ref x0, .int kd, .int wh, .int (nI lim), .int bu])), (x0, .inr (5, [.ref k0, .ref w0, .int (nI nz), .int ch])), (k0, .inl (ck, L, .inl f)), (w0, .inl (cw, L, .inl g))] s.heap := hP
  have hl := lv_entry ([.ref y0, .int p0]) (n := 5) (Nat.le_of_ble_eq_true rfl)
  rw [lg_entry_eq]
  generalize (lg_sl ([.ref y0, .int p0]) ++ List.replicate (5 - (lg_sl ([.ref y0, .int p0])).length) Slot.unset).toArray = ls at hl ⊢
  have hl : lv_has ls 5 [(0, .ref y0), (1, .int p0)] := hl
  have hw0_ := hts (.fieldLink RX3 9 "KeyAtlas$Keyed" "rows" "LKeyAtlas$Rows;") (List.mem_of_getElem? (l := wsX3_raiseValues) (i := 1) rfl)
  have hi0_ : ∀ w ∈ u_ws RX4 TX4 5, w ∈ wsX3_raiseValues := fun w h => List.mem_cons_of_mem _ (List.mem_append_left _ (List.mem_append_left _ (List.mem_append_right _ h)))
  obtain ⟨hL1, hL2, hz1, hz2⟩ := id hR9
  refine lv_aload_n hx hb dX3_raiseValues_0 rfl (lv_at hl 0 rfl) ?_
  have hPc := hP.sub (ws' := [(y0, .inr (4, [.ref x0, .int kd, .int wh, .int (nI lim), .int bu])), (x0, .inr (5, [.ref k0, .ref w0, .int (nI nz), .int ch])), (k0, .inl (ck, L, .inl f)), (w0, .inl (cw, L, .inl g))]) [0, 1, 2, 3] rfl
  have hKc := hK.sub (tys' := [(ck, .int), (cw, .int)]) [0, 1] rfl
  refine ro_calli (va_runU (As := []) (rest := []) ⟨hx, hb, hml, hown, hts⟩ (c_X3_size_L l  dC dI s.heap.size y0 (.int kd) (.int wh) (.int (nI lim)) (.int bu) x0 k0 w0 ck cw L f g nz ch hR9) (va_cwU 0 hts gX3_raiseValues_X3_size_u72X4 rfl rfl rfl rfl (by decide +kernel) ⟨(Nat.le_of_ble_eq_true rfl), (Nat.le_of_ble_eq_true rfl)⟩) ⟨pk_blindR, va_recv hKc hPc (ci := 4) (q0 := 0) rfl rfl, pk_callR hPc hKc⟩ rfl rfl hl.1 rfl (lv_room (Nat.le_of_ble_eq_true rfl)) dX3_raiseValues_1 ⟨(Nat.le_of_ble_eq_true rfl), (Nat.le_of_ble_eq_true rfl)⟩) (fun r_1 ur_1 hw => ?_)
  clear hPc hKc
  try dsimp only at hw
  have jr_1 := hw
  refine W.eq (g2 := F0 m 4 ls [.int r_1]) rfl ?_
  have hr_1 : -1000 ≤ r_1.toInt ∧ r_1.toInt ≤ nz := by rw [jr_1, nI_toInt (by omega)]; omega
  have hsz9 : r_1.toInt ≤ 1000 := by have h9 := hr_1; omega
  refine lv_istore_n (lv' := [(2, .int r_1), (0, .ref y0), (1, .int p0)]) hx hb dX3_raiseValues_4 rfl hl (by decide) rfl (fun ls hl => ?_)
  refine lv_iconst (v := 0) hx hb dX3_raiseValues_5 (by decide) ?_
  refine lv_istore_n (lv' := [(3, .int 0), (2, .int r_1), (0, .ref y0), (1, .int p0)]) hx hb dX3_raiseValues_6 rfl hl (by decide) rfl (fun ls hl => ?_)
  obtain ⟨H, hH9⟩ : ∃ H : Heap, H = s.heap := ⟨_, rfl⟩
  obtain ⟨locs, hlo9⟩ : ∃ z : List Loc, z = [] := ⟨_, rfl⟩
  refine tx_hv hH9 hlo9 ?_
  have hP : va_P (dC, dI) vwCl [(y0, .inr (4, [.ref x0, .int kd, .int wh, .int (nI lim), .int bu])), (x0, .inr (5, [.ref k0, .ref w0, .int (nI nz), .int ch])), (k0, .inl (ck, L, .inl f)), (w0, .inl (cw, L, .inl g))] H := by rw [hH9]; exact hP
  have hS : va_S A s.heap H locs := by rw [hH9, hlo9]; exact hS
  clear hH9 hlo9
  obtain ⟨i, es_i⟩ : ∃ z : Nat, z = 0 := ⟨_, rfl⟩
  obtain ⟨x9, ex9⟩ : ∃ y : Int32, y = nI i := ⟨_, rfl⟩
  obtain ⟨gv, ef_gv⟩ : ∃ z : Nat → Int32, z = g := ⟨_, rfl⟩
  obtain ⟨n9, en9⟩ : ∃ n : Nat, n = 1001 := ⟨_, rfl⟩
  replace hl : lv_has ls 5 [(3, .int x9), (2, .int r_1), (0, .ref y0), (1, .int p0)] := by subst ex9; subst es_i; exact hl
  replace hP : va_P (dC, dI) vwCl [(y0, .inr (4, [.ref x0, .int kd, .int wh, .int (nI lim), .int bu])), (x0, .inr (5, [.ref k0, .ref w0, .int (nI nz), .int ch])), (k0, .inl (ck, L, .inl f)), (w0, .inl (cw, L, .inl gv))] H := by subst ef_gv; exact hP
  replace hD : va_D A [(y0, .inr (4, [.ref x0, .int kd, .int wh, .int (nI lim), .int bu])), (x0, .inr (5, [.ref k0, .ref w0, .int (nI nz), .int ch])), (k0, .inl (ck, L, .inl f)), (w0, .inl (cw, L, .inl gv))] := by subst ef_gv; exact hD
  have hi9 : i ≤ 1000 := by subst ex9; subst es_i; subst ef_gv; subst en9; exact by omega
  have hn9 : 1001 ≤ i + n9 := by subst ex9; subst es_i; subst ef_gv; subst en9; exact by omega
  clear en9 es_i ef_gv
  induction n9 generalizing i x9 ls H locs gv with
  | zero => exact absurd hn9 (by omega)
  | succ n9 ih =>
    subst ex9
    refine lv_iload_n hx hb dX3_raiseValues_7 rfl (lv_at hl 0 rfl) ?_
    refine lv_iload_n hx hb dX3_raiseValues_8 rfl (lv_at hl 1 rfl) ?_
    refine lv_icmp_ge (tgt := 45) hx hb dX3_raiseValues_9 (by decide) (fun c_2 => ?_) (fun c_2 => ?_)
    ·
      have ic_2 : r_1.toInt ≤ ((i : Nat) : Int) := tx_le rfl (nI_toInt (by omega)) c_2
      refine lv_iload_n hx hb dX3_raiseValues_45 rfl (lv_at hl 1 rfl) ?_
      refine lv_i2l (v := r_1.toInt64) hx hb dX3_raiseValues_46 rfl ?_
      have hP9 := hP.sub (ws' := [(y0, .inr (4, [.ref x0, .int kd, .int wh, .int (nI lim), .int bu])), (x0, .inr (5, [.ref k0, .ref w0, .int (nI nz), .int ch])), (k0, .inl (ck, L, .inl f)), (w0, .inl (cw, L, .inl gv))]) [0, 1, 2, 3] rfl
      have hD9 := hD.sub (ws' := [(y0, .inr (4, [.ref x0, .int kd, .int wh, .int (nI lim), .int bu])), (x0, .inr (5, [.ref k0, .ref w0, .int (nI nz), .int ch])), (k0, .inl (ck, L, .inl f)), (w0, .inl (cw, L, .inl gv))]) [0, 1, 2, 3] (by decide) rfl
      have hK9 := hK.sub (tys' := [(ck, .int), (cw, .int)]) [0, 1] rfl
      refine W.widen (k := 0) (n := 0) (Nat.le_of_ble_eq_true rfl) (Nat.le_of_ble_eq_true rfl) ?_
      exact W.lret (v := r_1.toInt64) hx hb hr (fun t ht hW => ⟨⟨r_1.toInt64, (gv), rfl, trivial, by rw [ht]; exact hP9, va_K.moved hW.alike hK9, hD9⟩, hS.F ht⟩) hS.2.2 dX3_raiseValues_47
    ·
      have ic_2 : ((i : Nat) : Int) < r_1.toInt := tx_nle rfl (nI_toInt (by omega)) c_2
      refine lv_aload_n hx hb dX3_raiseValues_12 rfl (lv_at hl 2 rfl) ?_
      refine lv_iload_n hx hb dX3_raiseValues_13 rfl (lv_at hl 0 rfl) ?_
      have hPc := hP.sub (ws' := [(y0, .inr (4, [.ref x0, .int kd, .int wh, .int (nI lim), .int bu]))]) [0] rfl
      have hKc := hK.sub (tys' := []) [] rfl
      refine ro_calli (va_runU (As := [.int (nI i)]) (rest := []) ⟨hx, hb, hml, hown, hts⟩ (c_X3_placeOf_L l  dC dI H.size y0 (.ref x0) (.int kd) (.int wh) (.int (nI lim)) (.int bu) (nI i)) (va_cwU 1 hts gX3_raiseValues_X3_placeOf_u77X4 rfl rfl rfl rfl (by decide +kernel) ⟨(Nat.le_of_ble_eq_true rfl), (Nat.le_of_ble_eq_true rfl)⟩) ⟨pk_blindR, va_recv hKc hPc (ci := 4) (q0 := 0) rfl rfl, pk_callR hPc hKc⟩ rfl rfl hl.1 rfl (lv_room (Nat.le_of_ble_eq_true rfl)) dX3_raiseValues_14 ⟨(Nat.le_of_ble_eq_true rfl), (Nat.le_of_ble_eq_true rfl)⟩) (fun r_3 ur_3 hw => ?_)
      clear hPc hKc
      try dsimp only at hw
      have jr_3 := hw
      refine W.eq (g2 := F0 m 17 ls [.int r_3]) rfl ?_
      refine lv_istore (lv' := [(4, .int r_3), (3, .int (nI i)), (2, .int r_1), (0, .ref y0), (1, .int p0)]) hx hb dX3_raiseValues_17 hl (by decide) rfl (fun ls hl => ?_)
      refine lv_aload_n hx hb dX3_raiseValues_19 rfl (lv_at hl 3 rfl) ?_
      refine va_get (D := (dC, dI)) (ci := 4) (v := .ref x0) (C := RX4) (T := TX4) (N := 5) hx hb hts hi0_ hown hK hP 0 rfl rfl 0 (by decide) hw0_ (fun _ h9 => h9) rfl dX3_raiseValues_20 ?_
      refine lv_iload hx hb dX3_raiseValues_23 (lv_at hl 0 rfl) ?_
      refine lv_aload_n hx hb dX3_raiseValues_25 rfl (lv_at hl 3 rfl) ?_
      refine va_get (D := (dC, dI)) (ci := 4) (v := .ref x0) (C := RX4) (T := TX4) (N := 5) hx hb hts hi0_ hown hK hP 0 rfl rfl 0 (by decide) hw0_ (fun _ h9 => h9) rfl dX3_raiseValues_26 ?_
      refine lv_iload hx hb dX3_raiseValues_29 (lv_at hl 0 rfl) ?_
      have hPc := hP.sub (ws' := [(x0, .inr (5, [.ref k0, .ref w0, .int (nI nz), .int ch])), (k0, .inl (ck, L, .inl f)), (w0, .inl (cw, L, .inl gv))]) [1, 2, 3] rfl
      have hKc := hK.sub (tys' := [(ck, .int), (cw, .int)]) [0, 1] rfl
      refine ro_calli (va_runV (As := [.int r_3]) (rest := [.int r_3, .ref x0]) ⟨hx, hb, hml, hown, hts⟩ (c_X5_value l  dC dI H.size x0 k0 w0 ck cw L f gv nz ch r_3 hR9) (cwV 1 hts gX3_raiseValues_X5_value rfl rfl rfl (by decide +kernel) ⟨(Nat.le_of_ble_eq_true rfl), (Nat.le_of_ble_eq_true rfl)⟩) ⟨pk_blindR, va_recv hKc hPc (ci := 5) (q0 := 0) rfl rfl, pk_callR hPc hKc⟩ rfl rfl hl.1 rfl (lv_room (Nat.le_of_ble_eq_true rfl)) dX3_raiseValues_31 ⟨(Nat.le_of_ble_eq_true rfl), (Nat.le_of_ble_eq_true rfl)⟩) (fun r_4 ur_4 hw => ?_)
      clear hPc hKc
      try dsimp only at hw
      have jr_4 := hw
      refine W.eq (g2 := F0 m 34 ls [.int r_4, .int r_3, .ref x0]) rfl ?_
      refine lv_iload_n hx hb dX3_raiseValues_34 rfl (lv_at hl 4 rfl) ?_
      refine lv_iadd hx hb dX3_raiseValues_35 ?_
      have hPc := hP.sub (ws' := [(x0, .inr (5, [.ref k0, .ref w0, .int (nI nz), .int ch])), (k0, .inl (ck, L, .inl f)), (w0, .inl (cw, L, .inl gv))]) [1, 2, 3] rfl
      have hDc := hD.sub (ws' := [(x0, .inr (5, [.ref k0, .ref w0, .int (nI nz), .int ch])), (k0, .inl (ck, L, .inl f)), (w0, .inl (cw, L, .inl gv))]) [1, 2, 3] (by decide) rfl
      have hKc := hK.sub (tys' := [(ck, .int), (cw, .int)]) [0, 1] rfl
      have hFc := va_free (wc := [(x0, .inr (5, [.ref k0, .ref w0, .int (nI nz), .int ch])), (k0, .inl (ck, L, .inl f)), (w0, .inl (cw, L, .inl gv))]) hD hS hA [1, 2, 3] rfl
      refine va_callv (va_runV (As := [.int r_3, .int (r_4 + p0)]) (rest := []) ⟨hx, hb, hml, hown, hts⟩ (c_X5_setValue l  dC dI H.size x0 k0 w0 ck cw L f gv nz ch r_3 (r_4 + p0) hR9) (cwV 2 hts gX3_raiseValues_X5_setValue rfl rfl rfl (by decide +kernel) ⟨(Nat.le_of_ble_eq_true rfl), (Nat.le_of_ble_eq_true rfl)⟩) ⟨pk_blind, va_recv hKc hPc (ci := 5) (q0 := 0) rfl rfl, pk_call hPc hKc hDc⟩ rfl rfl hl.1 rfl (lv_room (Nat.le_of_ble_eq_true rfl)) dX3_raiseValues_36 ⟨(Nat.le_of_ble_eq_true rfl), (Nat.le_of_ble_eq_true rfl)⟩) hS (fun q _ h => hFc q h) hFc (fun ur_5 t H1 locs ht hvm hw hB hz1 hk1 hS => ?_)
      try dsimp only at hw
      have jr_5 := hw
      obtain ⟨hP1, hK1, hD1⟩ := hB
      rw [ht] at hP1
      have hK1 := va_K.moved hvm.symm hK1
      obtain ⟨hP, hD⟩ := va_join (wr := [(y0, .inr (4, [.ref x0, .int kd, .int wh, .int (nI lim), .int bu]))]) (w1 := [(x0, .inr (5, [.ref k0, .ref w0, .int (nI nz), .int ch])), (k0, .inl (ck, L, .inl f)), (w0, .inl (cw, L, .inl ur_5))]) hP hD [1, 2, 3] [0] rfl rfl (by decide) (by decide) hk1 hFc hP1 hD1
      clear hk1 hz1 ht hPc hDc hKc hFc
      generalize H1 = H at hP hS ⊢
      replace hP : va_P (dC, dI) vwCl [(y0, .inr (4, [.ref x0, .int kd, .int wh, .int (nI lim), .int bu])), (x0, .inr (5, [.ref k0, .ref w0, .int (nI nz), .int ch])), (k0, .inl (ck, L, .inl f)), (w0, .inl (cw, L, .inl ur_5))] H := hP
      replace hD : va_D A [(y0, .inr (4, [.ref x0, .int kd, .int wh, .int (nI lim), .int bu])), (x0, .inr (5, [.ref k0, .ref w0, .int (nI nz), .int ch])), (k0, .inl (ck, L, .inl f)), (w0, .inl (cw, L, .inl ur_5))] := hD
      refine W.widen (k := 0) (n := 0) (Nat.le_of_ble_eq_true rfl) (Nat.le_of_ble_eq_true rfl) ?_
      refine W.eq (g2 := F0 m 39 ls []) rfl ?_
      refine lv_iinc (v := nI (i + 1)) (lv' := [(3, .int (nI (i + 1))), (4, .int r_3), (2, .int r_1), (0, .ref y0), (1, .int p0)]) hx hb dX3_raiseValues_39 hl (k := 1) rfl (by rw [show Int32.ofInt 1 = nI 1 from rfl, nI_add]) (by decide) rfl (fun ls hl => ?_)
      refine lv_goto (tgt := 7) hx hb dX3_raiseValues_42 (by decide) ?_
      exact ih (i := i + 1) (x9 := nI (i + 1)) (ex9 := rfl) (ls := ls) (gv := ur_5) (H := H) (locs := locs) (hP := hP.sub (ws' := [(y0, .inr (4, [.ref x0, .int kd, .int wh, .int (nI lim), .int bu])), (x0, .inr (5, [.ref k0, .ref w0, .int (nI nz), .int ch])), (k0, .inl (ck, L, .inl f)), (w0, .inl (cw, L, .inl ur_5))]) [0, 1, 2, 3] rfl) (hS := hS) (hD := hD.sub (ws' := [(y0, .inr (4, [.ref x0, .int kd, .int wh, .int (nI lim), .int bu])), (x0, .inr (5, [.ref k0, .ref w0, .int (nI nz), .int ch])), (k0, .inl (ck, L, .inl f)), (w0, .inl (cw, L, .inl ur_5))]) [0, 1, 2, 3] (by decide) rfl) (hi9 := by omega) (hn9 := by omega) (hl := lv_sub hl [0, 2, 3, 4] rfl)
set_option maxHeartbeats 4000000 in
set_option maxRecDepth 100000 in
/-- Keyed.takeOutWith of L -/
theorem c_X3_takeOutWith_L (l : Launch) (hlt : l.stackTraces = false) (dC : Nat → ClassId) (dI : Nat → Nat → Nat) (sz : Nat) (y0 : Nat) (kd : Int32) (wh : Int32) (lim : Nat) (bu : Int32) (x0 : Nat) (k0 : Nat) (w0 : Nat) (ck : ClassId) (cw : ClassId) (L : Nat) (f : Nat → Int32) (g : Nat → Int32) (nz : Nat) (ch : Int32) (p0 : Int32) (hR9 : rOK L nz) (hlim : lim ≤ 1000) : Met l yX3_takeOutWith wsX3_takeOutWith ({ frames := 5, cells := 0, slots := 0, locals := 230 }) (va_Pc [.ref y0, .int p0] (pk_PreX (dC, dI) [(y0, .inr (4, [.ref x0, .int kd, .int wh, .int (nI lim), .int bu])), (x0, .inr (5, [.ref k0, .ref w0, .int (nI nz), .int ch])), (k0, .inl (ck, L, .inl f)), (w0, .inl (cw, L, .inl g))] [(ck, .int), (cw, .int)] sz)) (va_Ql (fun (x : Int64) (u : (Nat → Int32) × (Nat → Int32) × Nat × Int32) => u.2.2.1 ≤ nz) (fun (u : (Nat → Int32) × (Nat → Int32) × Nat × Int32) (t : State) => va_P (dC, dI) vwCl [(y0, .inr (4, [.ref x0, .int kd, .int wh, .int (nI lim), .int bu])), (x0, .inr (5, [.ref k0, .ref w0, .int (nI (u.2.2.1)), .int u.2.2.2])), (k0, .inl (ck, L, .inl u.1)), (w0, .inl (cw, L, .inl u.2.1))] t.heap ∧ va_K (dC, dI) vwCl [(ck, .int), (cw, .int)] t ∧ va_D (va_A [(y0, .inr (4, [.ref x0, .int kd, .int wh, .int (nI lim), .int bu])), (x0, .inr (5, [.ref k0, .ref w0, .int (nI nz), .int ch])), (k0, .inl (ck, L, .inl f)), (w0, .inl (cw, L, .inl g))] sz) [(y0, .inr (4, [.ref x0, .int kd, .int wh, .int (nI lim), .int bu])), (x0, .inr (5, [.ref k0, .ref w0, .int (nI (u.2.2.1)), .int u.2.2.2])), (k0, .inl (ck, L, .inl u.1)), (w0, .inl (cw, L, .inl u.2.1))]) (va_A [(y0, .inr (4, [.ref x0, .int kd, .int wh, .int (nI lim), .int bu])), (x0, .inr (5, [.ref k0, .ref w0, .int (nI nz), .int ch])), (k0, .inl (ck, L, .inl f)), (w0, .inl (cw, L, .inl g))] sz)) 0 0 (va_A [(y0, .inr (4, [.ref x0, .int kd, .int wh, .int (nI lim), .int bu])), (x0, .inr (5, [.ref k0, .ref w0, .int (nI nz), .int ch])), (k0, .inl (ck, L, .inl f)), (w0, .inl (cw, L, .inl g))] sz) := by
  refine Met.ofW (cc := cX3_takeOutWith) (maxL := 5) (ret := (some .long)) (by decide) rfl ?_
  intro p e s m args below meth c s₁ B hml hv
  obtain ⟨rfl, hsz, hP, hK, hD0, hN, hZ⟩ := hv
  have hx := B.exec
  have hb := B.bytes
  have hr := B.returns
  have hts := atoms_spec (ws := wsX3_takeOutWith) B.pre
  have hown : s.vm.findClass RX3 = some m.cls := findClass_of_methodNamed B.named
  have hlocks := B.notSynchronized
  subst hsz
  have hD := hD0.self (sz := s.heap.size)
  generalize hAe : va_A [(y0, .inr (4, [.ref x0, .int kd, .int wh, .int (nI lim), .int bu])), (x0, .inr (5, [.ref k0, .ref w0, .int (nI nz), .int ch])), (k0, .inl (ck, L, .inl f)), (w0, .inl (cw, L, .inl g))] s.heap.size = A at hZ hD ⊢
  have hA : ∀ q : Nat, s.heap.size ≤ q → A q := fun q h => by rw [← hAe]; exact Or.inr h
  have hS : va_S A s.heap s.heap [] := va_S.rf
  have hP : va_P (dC, dI) vwCl [(y0, .inr (4, [.ref x0, .int kd, .int wh, .int (nI lim), .int bu])), (x0, .inr (5, [.ref k0, .ref w0, .int (nI nz), .int ch])), (k0, .inl (ck, L, .inl f)), (w0, .inl (cw, L, .inl g))] s.heap := hP
  have hl := lv_entry ([.ref y0, .int p0]) (n := 5) (Nat.le_of_ble_eq_true rfl)
  rw [lg_entry_eq]
  generalize (lg_sl ([.ref y0, .int p0]) ++ List.replicate (5 - (lg_sl ([.ref y0, .int p0])).length) Slot.unset).toArray = ls at hl ⊢
  have hl : lv_has ls 5 [(0, .ref y0), (1, .int p0)] := hl
  have hw0_ := hts (.fieldLink RX3 9 "KeyAtlas$Keyed" "rows" "LKeyAtlas$Rows;") (List.mem_of_getElem? (l := wsX3_takeOutWith) (i := 1) rfl)
  have hi0_ : ∀ w ∈ u_ws RX4 TX4 5, w ∈ wsX3_takeOutWith := fun w h => List.mem_cons_of_mem _ (List.mem_append_left _ (List.mem_append_left _ (List.mem_append_right _ h)))
  obtain ⟨hL1, hL2, hz1, hz2⟩ := id hR9
  refine lv_iconst (v := 0) hx hb dX3_takeOutWith_0 (by decide) ?_
  refine lv_istore_n (lv' := [(2, .int 0), (0, .ref y0), (1, .int p0)]) hx hb dX3_takeOutWith_1 rfl hl (by decide) rfl (fun ls hl => ?_)
  refine lv_aload_n hx hb dX3_takeOutWith_2 rfl (lv_at hl 1 rfl) ?_
  have hPc := hP.sub (ws' := [(y0, .inr (4, [.ref x0, .int kd, .int wh, .int (nI lim), .int bu])), (x0, .inr (5, [.ref k0, .ref w0, .int (nI nz), .int ch])), (k0, .inl (ck, L, .inl f)), (w0, .inl (cw, L, .inl g))]) [0, 1, 2, 3] rfl
  have hKc := hK.sub (tys' := [(ck, .int), (cw, .int)]) [0, 1] rfl
  refine ro_calli (va_runU (As := []) (rest := []) ⟨hx, hb, hml, hown, hts⟩ (c_X3_size_L l  dC dI s.heap.size y0 (.int kd) (.int wh) (.int (nI lim)) (.int bu) x0 k0 w0 ck cw L f g nz ch hR9) (va_cwU 0 hts gX3_takeOutWith_X3_size_u72X4 rfl rfl rfl rfl (by decide +kernel) ⟨(Nat.le_of_ble_eq_true rfl), (Nat.le_of_ble_eq_true rfl)⟩) ⟨pk_blindR, va_recv hKc hPc (ci := 4) (q0 := 0) rfl rfl, pk_callR hPc hKc⟩ rfl rfl hl.1 rfl (lv_room (Nat.le_of_ble_eq_true rfl)) dX3_takeOutWith_3 ⟨(Nat.le_of_ble_eq_true rfl), (Nat.le_of_ble_eq_true rfl)⟩) (fun r_1 ur_1 hw => ?_)
  clear hPc hKc
  try dsimp only at hw
  have jr_1 := hw
  refine W.eq (g2 := F0 m 6 ls [.int r_1]) rfl ?_
  have hr_1 : -1000 ≤ r_1.toInt ∧ r_1.toInt ≤ nz := by rw [jr_1, nI_toInt (by omega)]; omega
  have hs1 : (r_1 - 1).toInt = r_1.toInt - 1 := tx_s1 (by have h9 := hr_1; omega) (by have h9 := hr_1; omega)
  have hs2 : r_1.toInt ≤ 1000 := by have h9 := hr_1; omega
  have hs3 : 0 ≤ r_1.toInt ∨ r_1.toInt < 0 := by omega
  refine lv_iconst (v := 1) hx hb dX3_takeOutWith_6 (by decide) ?_
  refine lv_isub hx hb dX3_takeOutWith_7 ?_
  refine lv_istore_n (lv' := [(3, .int (r_1 - 1)), (2, .int 0), (0, .ref y0), (1, .int p0)]) hx hb dX3_takeOutWith_8 rfl hl (by decide) rfl (fun ls hl => ?_)
  obtain ⟨H, hH9⟩ : ∃ H : Heap, H = s.heap := ⟨_, rfl⟩
  obtain ⟨locs, hlo9⟩ : ∃ z : List Loc, z = [] := ⟨_, rfl⟩
  refine tx_hv hH9 hlo9 ?_
  have hP : va_P (dC, dI) vwCl [(y0, .inr (4, [.ref x0, .int kd, .int wh, .int (nI lim), .int bu])), (x0, .inr (5, [.ref k0, .ref w0, .int (nI nz), .int ch])), (k0, .inl (ck, L, .inl f)), (w0, .inl (cw, L, .inl g))] H := by rw [hH9]; exact hP
  have hS : va_S A s.heap H locs := by rw [hH9, hlo9]; exact hS
  clear hH9 hlo9
  obtain ⟨z8, es_z8⟩ : ∃ z : Int32, z = r_1 - 1 := ⟨_, rfl⟩
  obtain ⟨g2, es_g2⟩ : ∃ z : Int32, z = 0 := ⟨_, rfl⟩
  obtain ⟨n2, es_n2⟩ : ∃ z : Nat, z = nz := ⟨_, rfl⟩
  obtain ⟨fk, ef_fk⟩ : ∃ z : Nat → Int32, z = f := ⟨_, rfl⟩
  obtain ⟨fw, ef_fw⟩ : ∃ z : Nat → Int32, z = g := ⟨_, rfl⟩
  obtain ⟨zf, ef_zf⟩ : ∃ z : Int32, z = nI nz := ⟨_, rfl⟩
  obtain ⟨cf, ef_cf⟩ : ∃ z : Int32, z = ch := ⟨_, rfl⟩
  obtain ⟨n9, en9⟩ : ∃ n : Nat, n = 1003 := ⟨_, rfl⟩
  replace hl : lv_has ls 5 [(3, .int z8), (2, .int g2), (0, .ref y0), (1, .int p0)] := by subst es_z8; subst es_g2; subst es_n2; exact hl
  replace hP : va_P (dC, dI) vwCl [(y0, .inr (4, [.ref x0, .int kd, .int wh, .int (nI lim), .int bu])), (x0, .inr (5, [.ref k0, .ref w0, .int zf, .int cf])), (k0, .inl (ck, L, .inl fk)), (w0, .inl (cw, L, .inl fw))] H := by subst ef_fk; subst ef_fw; subst ef_zf; subst ef_cf; exact hP
  replace hD : va_D A [(y0, .inr (4, [.ref x0, .int kd, .int wh, .int (nI lim), .int bu])), (x0, .inr (5, [.ref k0, .ref w0, .int zf, .int cf])), (k0, .inl (ck, L, .inl fk)), (w0, .inl (cw, L, .inl fw))] := by subst ef_fk; subst ef_fw; subst ef_zf; subst ef_cf; exact hD
  have hhi : z8.toInt + 2 ≤ (n9 : Int) ∧ 1 ≤ n9 := by subst es_z8; subst es_g2; subst es_n2; subst ef_fk; subst ef_fw; subst ef_zf; subst ef_cf; subst en9; exact by omega
  have hz8 : z8.toInt ≤ 999 := by subst es_z8; subst es_g2; subst es_n2; subst ef_fk; subst ef_fw; subst ef_zf; subst ef_cf; subst en9; exact by omega
  have hzf : zf = nI n2 := by subst es_z8; subst es_g2; subst es_n2; subst ef_fk; subst ef_fw; subst ef_zf; subst ef_cf; subst en9; exact rfl
  have hn2 : n2 ≤ nz := by subst es_z8; subst es_g2; subst es_n2; subst ef_fk; subst ef_fw; subst ef_zf; subst ef_cf; subst en9; exact Nat.le_refl _
  have hR8 : rOK L n2 := by subst es_z8; subst es_g2; subst es_n2; subst ef_fk; subst ef_fw; subst ef_zf; subst ef_cf; subst en9; exact hR9
  clear en9 es_z8 es_g2 es_n2 ef_fk ef_fw ef_zf ef_cf
  induction n9 generalizing z8 g2 n2 ls H locs fk fw zf cf with
  | zero => exact absurd hhi (by omega)
  | succ n9 ih =>
    refine lv_iload_n hx hb dX3_takeOutWith_9 rfl (lv_at hl 0 rfl) ?_
    refine lv_if_lt (tgt := 48) hx hb dX3_takeOutWith_10 (by decide) (fun c_2 => ?_) (fun c_2 => ?_)
    ·
      have ic_2 : z8.toInt < 0 := tx_lt rfl (by decide) c_2
      subst hzf
      refine lv_iload_n hx hb dX3_takeOutWith_48 rfl (lv_at hl 1 rfl) ?_
      refine lv_i2l (v := g2.toInt64) hx hb dX3_takeOutWith_49 rfl ?_
      have hpost : n2 ≤ nz := by omega
      have hP9 := hP.sub (ws' := [(y0, .inr (4, [.ref x0, .int kd, .int wh, .int (nI lim), .int bu])), (x0, .inr (5, [.ref k0, .ref w0, .int (nI n2), .int cf])), (k0, .inl (ck, L, .inl fk)), (w0, .inl (cw, L, .inl fw))]) [0, 1, 2, 3] rfl
      have hD9 := hD.sub (ws' := [(y0, .inr (4, [.ref x0, .int kd, .int wh, .int (nI lim), .int bu])), (x0, .inr (5, [.ref k0, .ref w0, .int (nI n2), .int cf])), (k0, .inl (ck, L, .inl fk)), (w0, .inl (cw, L, .inl fw))]) [0, 1, 2, 3] (by decide) rfl
      have hK9 := hK.sub (tys' := [(ck, .int), (cw, .int)]) [0, 1] rfl
      refine W.widen (k := 0) (n := 0) (Nat.le_of_ble_eq_true rfl) (Nat.le_of_ble_eq_true rfl) ?_
      exact W.lret (v := g2.toInt64) hx hb hr (fun t ht hW => ⟨⟨g2.toInt64, (fk, fw, n2, cf), rfl, hpost, by rw [ht]; exact hP9, va_K.moved hW.alike hK9, hD9⟩, hS.F ht⟩) hS.2.2 dX3_takeOutWith_50
    ·
      have ic_2 : 0 ≤ z8.toInt := tx_nlt rfl (by decide) c_2
      subst hzf
      have hR9 := hR8
      obtain ⟨k7, hk7, rfl⟩ := nI_nat (n := 1001) ic_2 (by omega) (by omega)
      have hk6 : (nI k7).toInt = (k7 : Int) := nI_toInt (by omega)
      refine lv_aload_n hx hb dX3_takeOutWith_13 rfl (lv_at hl 2 rfl) ?_
      refine lv_iload_n hx hb dX3_takeOutWith_14 rfl (lv_at hl 0 rfl) ?_
      have hPc := hP.sub (ws' := [(y0, .inr (4, [.ref x0, .int kd, .int wh, .int (nI lim), .int bu]))]) [0] rfl
      have hKc := hK.sub (tys' := []) [] rfl
      refine ro_calli (va_runU (As := [.int (nI k7)]) (rest := []) ⟨hx, hb, hml, hown, hts⟩ (c_X3_placeOf_L l  dC dI H.size y0 (.ref x0) (.int kd) (.int wh) (.int (nI lim)) (.int bu) (nI k7)) (va_cwU 1 hts gX3_takeOutWith_X3_placeOf_u77X4 rfl rfl rfl rfl (by decide +kernel) ⟨(Nat.le_of_ble_eq_true rfl), (Nat.le_of_ble_eq_true rfl)⟩) ⟨pk_blindR, va_recv hKc hPc (ci := 4) (q0 := 0) rfl rfl, pk_callR hPc hKc⟩ rfl rfl hl.1 rfl (lv_room (Nat.le_of_ble_eq_true rfl)) dX3_takeOutWith_15 ⟨(Nat.le_of_ble_eq_true rfl), (Nat.le_of_ble_eq_true rfl)⟩) (fun r_3 ur_3 hw => ?_)
      clear hPc hKc
      try dsimp only at hw
      have jr_3 := hw
      refine W.eq (g2 := F0 m 18 ls [.int r_3]) rfl ?_
      refine lv_istore (lv' := [(4, .int r_3), (3, .int (nI k7)), (2, .int g2), (0, .ref y0), (1, .int p0)]) hx hb dX3_takeOutWith_18 hl (by decide) rfl (fun ls hl => ?_)
      refine lv_aload_n hx hb dX3_takeOutWith_20 rfl (lv_at hl 3 rfl) ?_
      refine va_get (D := (dC, dI)) (ci := 4) (v := .ref x0) (C := RX4) (T := TX4) (N := 5) hx hb hts hi0_ hown hK hP 0 rfl rfl 0 (by decide) hw0_ (fun _ h9 => h9) rfl dX3_takeOutWith_21 ?_
      refine lv_iload hx hb dX3_takeOutWith_24 (lv_at hl 0 rfl) ?_
      have hPc := hP.sub (ws' := [(x0, .inr (5, [.ref k0, .ref w0, .int (nI n2), .int cf])), (k0, .inl (ck, L, .inl fk)), (w0, .inl (cw, L, .inl fw))]) [1, 2, 3] rfl
      have hKc := hK.sub (tys' := [(ck, .int), (cw, .int)]) [0, 1] rfl
      refine ro_calli (va_runV (As := [.int r_3]) (rest := []) ⟨hx, hb, hml, hown, hts⟩ (c_X5_value l  dC dI H.size x0 k0 w0 ck cw L fk fw n2 cf r_3 hR9) (cwV 1 hts gX3_takeOutWith_X5_value rfl rfl rfl (by decide +kernel) ⟨(Nat.le_of_ble_eq_true rfl), (Nat.le_of_ble_eq_true rfl)⟩) ⟨pk_blindR, va_recv hKc hPc (ci := 5) (q0 := 0) rfl rfl, pk_callR hPc hKc⟩ rfl rfl hl.1 rfl (lv_room (Nat.le_of_ble_eq_true rfl)) dX3_takeOutWith_26 ⟨(Nat.le_of_ble_eq_true rfl), (Nat.le_of_ble_eq_true rfl)⟩) (fun r_4 ur_4 hw => ?_)
      clear hPc hKc
      try dsimp only at hw
      have jr_4 := hw
      refine W.eq (g2 := F0 m 29 ls [.int r_4]) rfl ?_
      refine lv_iload_n hx hb dX3_takeOutWith_29 rfl (lv_at hl 4 rfl) ?_
      refine lv_icmp_ne (tgt := 42) hx hb dX3_takeOutWith_30 (by decide) (fun c_5 => ?_) (fun c_5 => ?_)
      ·
        have ic_5 : ¬ r_4.toInt = p0.toInt := tx_ne rfl rfl c_5
        refine lv_iinc (v := (nI k7) + -1) (lv' := [(3, .int ((nI k7) + -1)), (4, .int r_3), (2, .int g2), (0, .ref y0), (1, .int p0)]) hx hb dX3_takeOutWith_42 hl (k := 1) rfl rfl (by decide) rfl (fun ls hl => ?_)
        refine lv_goto (tgt := 9) hx hb dX3_takeOutWith_45 (by decide) ?_
        exact ih (z8 := (nI k7) + -1) (g2 := g2) (n2 := n2) (ls := ls) (zf := nI n2) (cf := cf) (fk := fk) (fw := fw) (H := H) (locs := locs) (hP := hP.sub (ws' := [(y0, .inr (4, [.ref x0, .int kd, .int wh, .int (nI lim), .int bu])), (x0, .inr (5, [.ref k0, .ref w0, .int (nI n2), .int cf])), (k0, .inl (ck, L, .inl fk)), (w0, .inl (cw, L, .inl fw))]) [0, 1, 2, 3] rfl) (hS := hS) (hD := hD.sub (ws' := [(y0, .inr (4, [.ref x0, .int kd, .int wh, .int (nI lim), .int bu])), (x0, .inr (5, [.ref k0, .ref w0, .int (nI n2), .int cf])), (k0, .inl (ck, L, .inl fk)), (w0, .inl (cw, L, .inl fw))]) [0, 1, 2, 3] (by decide) rfl) (hhi := by rw [nI_m1 (by omega)]; omega) (hz8 := by rw [nI_m1 (by omega)]; omega) (hzf := rfl) (hn2 := by omega) (hR8 := hR9) (hl := lv_sub hl [0, 2, 3, 4] rfl)
      ·
        have ic_5 : r_4.toInt = p0.toInt := tx_eq rfl rfl c_5
        refine lv_aload_n hx hb dX3_takeOutWith_33 rfl (lv_at hl 3 rfl) ?_
        refine lv_iload hx hb dX3_takeOutWith_34 (lv_at hl 0 rfl) ?_
        have hPc := hP.sub (ws' := [(y0, .inr (4, [.ref x0, .int kd, .int wh, .int (nI lim), .int bu])), (x0, .inr (5, [.ref k0, .ref w0, .int (nI n2), .int cf])), (k0, .inl (ck, L, .inl fk)), (w0, .inl (cw, L, .inl fw))]) [0, 1, 2, 3] rfl
        have hDc := hD.sub (ws' := [(y0, .inr (4, [.ref x0, .int kd, .int wh, .int (nI lim), .int bu])), (x0, .inr (5, [.ref k0, .ref w0, .int (nI n2), .int cf])), (k0, .inl (ck, L, .inl fk)), (w0, .inl (cw, L, .inl fw))]) [0, 1, 2, 3] (by decide) rfl
        have hKc := hK.sub (tys' := [(ck, .int), (cw, .int)]) [0, 1] rfl
        have hFc := va_free (wc := [(y0, .inr (4, [.ref x0, .int kd, .int wh, .int (nI lim), .int bu])), (x0, .inr (5, [.ref k0, .ref w0, .int (nI n2), .int cf])), (k0, .inl (ck, L, .inl fk)), (w0, .inl (cw, L, .inl fw))]) hD hS hA [0, 1, 2, 3] rfl
        refine va_callv (va_runU (As := [.int r_3]) (rest := []) ⟨hx, hb, hml, hown, hts⟩ (c_X3_leave_L l  dC dI H.size y0 (.int kd) (.int wh) (.int (nI lim)) (.int bu) x0 k0 w0 ck cw L fk fw n2 cf r_3 hR9) (va_cwU 1 hts gX3_takeOutWith_X3_leave_u69X4 rfl rfl rfl rfl (by decide +kernel) ⟨(Nat.le_of_ble_eq_true rfl), (Nat.le_of_ble_eq_true rfl)⟩) ⟨pk_blind, va_recv hKc hPc (ci := 4) (q0 := 0) rfl rfl, pk_call hPc hKc hDc⟩ rfl rfl hl.1 rfl (lv_room (Nat.le_of_ble_eq_true rfl)) dX3_takeOutWith_36 ⟨(Nat.le_of_ble_eq_true rfl), (Nat.le_of_ble_eq_true rfl)⟩) hS (fun q _ h => hFc q h) hFc (fun ur_6 t H1 locs ht hvm hw hB hz1 hk1 hS => ?_)
        try dsimp only at hw
        have jr_6 := hw
        obtain ⟨hP1, hK1, hD1⟩ := hB
        rw [ht] at hP1
        have hK1 := va_K.moved hvm.symm hK1
        obtain ⟨hP, hD⟩ := va_join (wr := []) (w1 := [(y0, .inr (4, [.ref x0, .int kd, .int wh, .int (nI lim), .int bu])), (x0, .inr (5, [.ref k0, .ref w0, .int (nI (ur_6.2.2.1)), .int ur_6.2.2.2])), (k0, .inl (ck, L, .inl ur_6.1)), (w0, .inl (cw, L, .inl ur_6.2.1))]) hP hD [0, 1, 2, 3] [] rfl rfl (by decide) (by decide) hk1 hFc hP1 hD1
        clear hk1 hz1 ht hPc hDc hKc hFc
        generalize H1 = H at hP hS ⊢
        replace hP : va_P (dC, dI) vwCl [(y0, .inr (4, [.ref x0, .int kd, .int wh, .int (nI lim), .int bu])), (x0, .inr (5, [.ref k0, .ref w0, .int (nI (ur_6.2.2.1)), .int ur_6.2.2.2])), (k0, .inl (ck, L, .inl ur_6.1)), (w0, .inl (cw, L, .inl ur_6.2.1))] H := hP
        replace hD : va_D A [(y0, .inr (4, [.ref x0, .int kd, .int wh, .int (nI lim), .int bu])), (x0, .inr (5, [.ref k0, .ref w0, .int (nI (ur_6.2.2.1)), .int ur_6.2.2.2])), (k0, .inl (ck, L, .inl ur_6.1)), (w0, .inl (cw, L, .inl ur_6.2.1))] := hD
        refine W.widen (k := 0) (n := 0) (Nat.le_of_ble_eq_true rfl) (Nat.le_of_ble_eq_true rfl) ?_
        refine W.eq (g2 := F0 m 39 ls []) rfl ?_
        have hR9 : rOK L (ur_6.2.2.1) := rOK_le hR9 jr_6
        refine lv_iinc (v := g2 + 1) (lv' := [(2, .int (g2 + 1)), (4, .int r_3), (3, .int (nI k7)), (0, .ref y0), (1, .int p0)]) hx hb dX3_takeOutWith_39 hl (k := 2) rfl rfl (by decide) rfl (fun ls hl => ?_)
        refine lv_iinc (v := (nI k7) + -1) (lv' := [(3, .int ((nI k7) + -1)), (2, .int (g2 + 1)), (4, .int r_3), (0, .ref y0), (1, .int p0)]) hx hb dX3_takeOutWith_42 hl (k := 2) rfl rfl (by decide) rfl (fun ls hl => ?_)
        refine lv_goto (tgt := 9) hx hb dX3_takeOutWith_45 (by decide) ?_
        exact ih (z8 := (nI k7) + -1) (g2 := g2 + 1) (n2 := ur_6.2.2.1) (ls := ls) (zf := nI (ur_6.2.2.1)) (cf := ur_6.2.2.2) (fk := ur_6.1) (fw := ur_6.2.1) (H := H) (locs := locs) (hP := hP.sub (ws' := [(y0, .inr (4, [.ref x0, .int kd, .int wh, .int (nI lim), .int bu])), (x0, .inr (5, [.ref k0, .ref w0, .int (nI (ur_6.2.2.1)), .int ur_6.2.2.2])), (k0, .inl (ck, L, .inl ur_6.1)), (w0, .inl (cw, L, .inl ur_6.2.1))]) [0, 1, 2, 3] rfl) (hS := hS) (hD := hD.sub (ws' := [(y0, .inr (4, [.ref x0, .int kd, .int wh, .int (nI lim), .int bu])), (x0, .inr (5, [.ref k0, .ref w0, .int (nI (ur_6.2.2.1)), .int ur_6.2.2.2])), (k0, .inl (ck, L, .inl ur_6.1)), (w0, .inl (cw, L, .inl ur_6.2.1))]) [0, 1, 2, 3] (by decide) rfl) (hhi := by rw [nI_m1 (by omega)]; omega) (hz8 := by rw [nI_m1 (by omega)]; omega) (hzf := rfl) (hn2 := by omega) (hR8 := hR9) (hl := lv_sub hl [0, 1, 3, 4] rfl)
