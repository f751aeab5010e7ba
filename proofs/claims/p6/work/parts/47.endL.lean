set_option maxRecDepth 20000 in
theorem gX3_endKey_X3_size_u72X4 : GoodIn wqX3_endKey (va_wsU RX3 72 RX4 "KeyAtlas$Keyed" ⟨"KeyAtlas$Keyed", "size", "()I"⟩ yX3_size wsX3_size) := goodIn_app (goodIn_of _ (by decide +kernel)) ggX3_endKey_X3_size
set_option maxRecDepth 20000 in
theorem gX3_endKey_X3_placeOf_u77X4 : GoodIn wqX3_endKey (va_wsU RX3 77 RX4 "KeyAtlas$Keyed" ⟨"KeyAtlas$Keyed", "placeOf", "(I)I"⟩ yX3_placeOf wsX3_placeOf) := goodIn_app (goodIn_of _ (by decide +kernel)) ggX3_endKey_X3_placeOf
set_option maxRecDepth 20000 in
theorem ggX3_endKey_X3_leave : GoodIn wqX3_endKey wsX3_leave := goodIn_r _ [94, 3, 95, 96, 97, 13, 98, 15, 39, 99, 100, 101, 102, 103, 104, 121, 122, 123, 124, 125, 126, 127, 128, 129, 130, 131, 132, 133, 134, 135, 136, 137, 138, 139, 140, 141, 142, 143] rfl (by decide +kernel)
set_option maxRecDepth 20000 in
theorem gX3_endKey_X3_leave_u69X4 : GoodIn wqX3_endKey (va_wsU RX3 69 RX4 "KeyAtlas$Keyed" ⟨"KeyAtlas$Keyed", "leave", "(I)V"⟩ yX3_leave wsX3_leave) := goodIn_app (goodIn_of _ (by decide +kernel)) ggX3_endKey_X3_leave
set_option maxHeartbeats 4000000 in
set_option maxRecDepth 100000 in
/-- Keyed.endKey of L -/
theorem c_X3_endKey_L (l : Launch) (hlt : l.stackTraces = false) (dC : Nat → ClassId) (dI : Nat → Nat → Nat) (sz : Nat) (y0 : Nat) (kd : Int32) (wh : Int32) (lim : Nat) (bu : Int32) (x0 : Nat) (k0 : Nat) (w0 : Nat) (ck : ClassId) (cw : ClassId) (L : Nat) (f : Nat → Int32) (g : Nat → Int32) (nz : Nat) (ch : Int32) (p0 : Int32) (p1 : Int32) (hR9 : rOK L nz) (hlim : lim ≤ 1000) : vx_Met l yX3_endKey wqX3_endKey ({ frames := 6, cells := 1, slots := 6, locals := 250 }) (va_Pc [.ref y0, .int p0, .int p1] (pk_PreX (dC, dI) [(y0, .inr (4, [.ref x0, .int kd, .int wh, .int (nI lim), .int bu])), (x0, .inr (5, [.ref k0, .ref w0, .int (nI nz), .int ch])), (k0, .inl (ck, L, .inl f)), (w0, .inl (cw, L, .inl g))] [(ck, .int), (cw, .int)] sz)) (va_Ql (fun (x : Int64) (u : (Nat → Int32) × (Nat → Int32) × Nat × Int32) => u.2.2.1 ≤ nz) (fun (u : (Nat → Int32) × (Nat → Int32) × Nat × Int32) (t : State) => va_P (dC, dI) vwCl [(y0, .inr (4, [.ref x0, .int kd, .int wh, .int (nI lim), .int bu])), (x0, .inr (5, [.ref k0, .ref w0, .int (nI (u.2.2.1)), .int u.2.2.2])), (k0, .inl (ck, L, .inl u.1)), (w0, .inl (cw, L, .inl u.2.1))] t.heap ∧ va_K (dC, dI) vwCl [(ck, .int), (cw, .int)] t ∧ va_D (va_A [(y0, .inr (4, [.ref x0, .int kd, .int wh, .int (nI lim), .int bu])), (x0, .inr (5, [.ref k0, .ref w0, .int (nI nz), .int ch])), (k0, .inl (ck, L, .inl f)), (w0, .inl (cw, L, .inl g))] sz) [(y0, .inr (4, [.ref x0, .int kd, .int wh, .int (nI lim), .int bu])), (x0, .inr (5, [.ref k0, .ref w0, .int (nI (u.2.2.1)), .int u.2.2.2])), (k0, .inl (ck, L, .inl u.1)), (w0, .inl (cw, L, .inl u.2.1))]) (va_A [(y0, .inr (4, [.ref x0, .int kd, .int wh, .int (nI lim), .int bu])), (x0, .inr (5, [.ref k0, .ref w0, .int (nI nz), .int ch])), (k0, .inl (ck, L, .inl f)), (w0, .inl (cw, L, .inl g))] sz)) (vx_X (fun _ : Unit => True) (fun (E : String) (_ : Unit) (t : State) => (E = "java/util/NoSuchElementException") ∧ va_P (dC, dI) vwCl [(y0, .inr (4, [.ref x0, .int kd, .int wh, .int (nI lim), .int bu])), (x0, .inr (5, [.ref k0, .ref w0, .int (nI nz), .int ch])), (k0, .inl (ck, L, .inl f)), (w0, .inl (cw, L, .inl g))] t.heap ∧ va_K (dC, dI) vwCl [(ck, .int), (cw, .int)] t ∧ va_D (va_A [(y0, .inr (4, [.ref x0, .int kd, .int wh, .int (nI lim), .int bu])), (x0, .inr (5, [.ref k0, .ref w0, .int (nI nz), .int ch])), (k0, .inl (ck, L, .inl f)), (w0, .inl (cw, L, .inl g))] sz) [(y0, .inr (4, [.ref x0, .int kd, .int wh, .int (nI lim), .int bu])), (x0, .inr (5, [.ref k0, .ref w0, .int (nI nz), .int ch])), (k0, .inl (ck, L, .inl f)), (w0, .inl (cw, L, .inl g))]) (va_A [(y0, .inr (4, [.ref x0, .int kd, .int wh, .int (nI lim), .int bu])), (x0, .inr (5, [.ref k0, .ref w0, .int (nI nz), .int ch])), (k0, .inl (ck, L, .inl f)), (w0, .inl (cw, L, .inl g))] sz)) 1 6 (va_A [(y0, .inr (4, [.ref x0, .int kd, .int wh, .int (nI lim), .int bu])), (x0, .inr (5, [.ref k0, .ref w0, .int (nI nz), .int ch])), (k0, .inl (ck, L, .inl f)), (w0, .inl (cw, L, .inl g))] sz) := by
  refine vx_ofW (cc := cX3_endKey) (maxL := 6) (ret := (some .long)) (by decide) rfl ?_
  intro p e s m args below meth c s₁ B hml htab hv
  obtain ⟨rfl, hsz, hP, hK, hD0, hN, hZ⟩ := hv
  have hx := B.exec
  have hb := B.bytes
  have hr := B.returns
  have hts := atoms_spec (ws := wqX3_endKey) B.pre
  have hown : s.vm.findClass RX3 = some m.cls := findClass_of_methodNamed B.named
  have hlocks := B.notSynchronized
  subst hsz
  have hD := hD0.self (sz := s.heap.size)
  generalize hAe : va_A [(y0, .inr (4, [.ref x0, .int kd, .int wh, .int (nI lim), .int bu])), (x0, .inr (5, [.ref k0, .ref w0, .int (nI nz), .int ch])), (k0, .inl (ck, L, .inl f)), (w0, .inl (cw, L, .inl g))] s.heap.size = A at hZ hD ⊢
  have hA : ∀ q : Nat, s.heap.size ≤ q → A q := fun q h => by rw [← hAe]; exact Or.inr h
  have hS : va_S A s.heap s.heap [] := va_S.rf
  have hP : va_P (dC, dI) vwCl [(y0, .inr (4, [.ref x0, .int kd, .int wh, .int (nI lim), .int bu])), (x0, .inr (5, [.ref k0, .ref w0, .int (nI nz), .int ch])), (k0, .inl (ck, L, .inl f)), (w0, .inl (cw, L, .inl g))] s.heap := hP
  have hl := lv_entry ([.ref y0, .int p0, .int p1]) (n := 6) (Nat.le_of_ble_eq_true rfl)
  rw [lg_entry_eq]
  generalize (lg_sl ([.ref y0, .int p0, .int p1]) ++ List.replicate (6 - (lg_sl ([.ref y0, .int p0, .int p1])).length) Slot.unset).toArray = ls at hl ⊢
  have hl : lv_has ls 6 [(0, .ref y0), (1, .int p0), (2, .int p1)] := hl
  have hw0_ := hts (.fieldLink RX3 9 "KeyAtlas$Keyed" "rows" "LKeyAtlas$Rows;") (List.mem_of_getElem? (l := wqX3_endKey) (i := 3) rfl)
  have hw1_ := hts (.classLink RX3 80 nN) (by decide +kernel)
  have hw2_ := hts (.initialized nN) (by decide +kernel)
  have hi0_ : ∀ w ∈ u_ws RX4 TX4 5, w ∈ wqX3_endKey := fun w h => List.mem_cons_of_mem _ (List.mem_append_left _ (List.mem_append_left _ (List.mem_append_left _ (List.mem_append_right _ h))))
  obtain ⟨hL1, hL2, hz1, hz2⟩ := id hR9
  refine lv_aload_n hx hb dX3_endKey_0 rfl (lv_at hl 0 rfl) ?_
  have hPc := hP.sub (ws' := [(y0, .inr (4, [.ref x0, .int kd, .int wh, .int (nI lim), .int bu])), (x0, .inr (5, [.ref k0, .ref w0, .int (nI nz), .int ch])), (k0, .inl (ck, L, .inl f)), (w0, .inl (cw, L, .inl g))]) [0, 1, 2, 3] rfl
  have hKc := hK.sub (tys' := [(ck, .int), (cw, .int)]) [0, 1] rfl
  refine ro_calli (va_runU (As := []) (rest := []) ⟨hx, hb, hml, hown, hts⟩ (c_X3_size_L l  dC dI s.heap.size y0 (.int kd) (.int wh) (.int (nI lim)) (.int bu) x0 k0 w0 ck cw L f g nz ch hR9) (va_cwU 0 hts gX3_endKey_X3_size_u72X4 rfl rfl rfl rfl (by decide +kernel) ⟨(Nat.le_of_ble_eq_true rfl), (Nat.le_of_ble_eq_true rfl)⟩) ⟨pk_blindR, va_recv hKc hPc (ci := 4) (q0 := 0) rfl rfl, pk_callR hPc hKc⟩ rfl rfl hl.1 rfl (lv_room (Nat.le_of_ble_eq_true rfl)) dX3_endKey_1 ⟨(Nat.le_of_ble_eq_true rfl), (Nat.le_of_ble_eq_true rfl)⟩) (fun r_1 ur_1 hw => ?_)
  clear hPc hKc
  try dsimp only at hw
  have jr_1 := hw
  refine W.eq (g2 := F0 m 4 ls [.int r_1]) rfl ?_
  have hr_1 : -1000 ≤ r_1.toInt ∧ r_1.toInt ≤ nz := by rw [jr_1, nI_toInt (by omega)]; omega
  refine lv_istore_n (lv' := [(3, .int r_1), (0, .ref y0), (1, .int p0), (2, .int p1)]) hx hb dX3_endKey_4 rfl hl (by decide) rfl (fun ls hl => ?_)
  refine lv_iload_n hx hb dX3_endKey_5 rfl (lv_at hl 0 rfl) ?_
  refine lv_if_ne (tgt := 19) hx hb dX3_endKey_6 (by decide) (fun c_2 => ?_) (fun c_2 => ?_)
  ·
    have ic_2 : ¬ r_1.toInt = 0 := tx_ne rfl (by decide) c_2
    refine lv_aload_n hx hb dX3_endKey_19 rfl (lv_at hl 1 rfl) ?_
    refine lv_iload_n hx hb dX3_endKey_20 rfl (lv_at hl 2 rfl) ?_
    refine lv_if_eq (tgt := 30) hx hb dX3_endKey_21 (by decide) (fun c_3 => ?_) (fun c_3 => ?_)
    ·
      have ic_3 : p0.toInt = 0 := tx_eq rfl (by decide) c_3
      refine lv_iconst (v := 0) hx hb dX3_endKey_30 (by decide) ?_
      have hPc := hP.sub (ws' := [(y0, .inr (4, [.ref x0, .int kd, .int wh, .int (nI lim), .int bu]))]) [0] rfl
      have hKc := hK.sub (tys' := []) [] rfl
      refine ro_calli (va_runU (As := [.int 0]) (rest := []) ⟨hx, hb, hml, hown, hts⟩ (c_X3_placeOf_L l  dC dI s.heap.size y0 (.ref x0) (.int kd) (.int wh) (.int (nI lim)) (.int bu) 0) (va_cwU 1 hts gX3_endKey_X3_placeOf_u77X4 rfl rfl rfl rfl (by decide +kernel) ⟨(Nat.le_of_ble_eq_true rfl), (Nat.le_of_ble_eq_true rfl)⟩) ⟨pk_blindR, va_recv hKc hPc (ci := 4) (q0 := 0) rfl rfl, pk_callR hPc hKc⟩ rfl rfl hl.1 rfl (lv_room (Nat.le_of_ble_eq_true rfl)) dX3_endKey_31 ⟨(Nat.le_of_ble_eq_true rfl), (Nat.le_of_ble_eq_true rfl)⟩) (fun r_4 ur_4 hw => ?_)
      clear hPc hKc
      try dsimp only at hw
      have jr_4 := hw
      refine W.eq (g2 := F0 m 34 ls [.int r_4]) rfl ?_
      refine lv_istore (lv' := [(4, .int r_4), (3, .int r_1), (0, .ref y0), (1, .int p0), (2, .int p1)]) hx hb dX3_endKey_34 hl (by decide) rfl (fun ls hl => ?_)
      refine lv_aload_n hx hb dX3_endKey_36 rfl (lv_at hl 2 rfl) ?_
      refine va_get (D := (dC, dI)) (ci := 4) (v := .ref x0) (C := RX4) (T := TX4) (N := 5) hx hb hts hi0_ hown hK hP 0 rfl rfl 0 (by decide) hw0_ (fun _ h9 => h9) rfl dX3_endKey_37 ?_
      refine lv_iload hx hb dX3_endKey_40 (lv_at hl 0 rfl) ?_
      have hPc := hP.sub (ws' := [(x0, .inr (5, [.ref k0, .ref w0, .int (nI nz), .int ch])), (k0, .inl (ck, L, .inl f)), (w0, .inl (cw, L, .inl g))]) [1, 2, 3] rfl
      have hKc := hK.sub (tys' := [(ck, .int), (cw, .int)]) [0, 1] rfl
      refine ro_calli (va_runV (As := [.int r_4]) (rest := []) ⟨hx, hb, hml, hown, hts⟩ (c_X5_key l  dC dI s.heap.size x0 k0 w0 ck cw L f g nz ch r_4 hR9) (cwV 1 hts gX3_endKey_X5_key rfl rfl rfl (by decide +kernel) ⟨(Nat.le_of_ble_eq_true rfl), (Nat.le_of_ble_eq_true rfl)⟩) ⟨pk_blindR, va_recv hKc hPc (ci := 5) (q0 := 0) rfl rfl, pk_callR hPc hKc⟩ rfl rfl hl.1 rfl (lv_room (Nat.le_of_ble_eq_true rfl)) dX3_endKey_42 ⟨(Nat.le_of_ble_eq_true rfl), (Nat.le_of_ble_eq_true rfl)⟩) (fun r_5 ur_5 hw => ?_)
      clear hPc hKc
      try dsimp only at hw
      have jr_5 := hw
      refine W.eq (g2 := F0 m 45 ls [.int r_5]) rfl ?_
      refine lv_istore (lv' := [(5, .int r_5), (4, .int r_4), (3, .int r_1), (0, .ref y0), (1, .int p0), (2, .int p1)]) hx hb dX3_endKey_45 hl (by decide) rfl (fun ls hl => ?_)
      refine lv_iload_n hx hb dX3_endKey_47 rfl (lv_at hl 5 rfl) ?_
      refine lv_if_eq (tgt := 57) hx hb dX3_endKey_48 (by decide) (fun c_6 => ?_) (fun c_6 => ?_)
      ·
        have ic_6 : p1.toInt = 0 := tx_eq rfl (by decide) c_6
        refine lv_iload hx hb dX3_endKey_57 (lv_at hl 0 rfl) ?_
        refine lv_i2l (v := r_5.toInt64) hx hb dX3_endKey_59 rfl ?_
        have hpost : nz ≤ nz := by omega
        have hP9 := hP.sub (ws' := [(y0, .inr (4, [.ref x0, .int kd, .int wh, .int (nI lim), .int bu])), (x0, .inr (5, [.ref k0, .ref w0, .int (nI nz), .int ch])), (k0, .inl (ck, L, .inl f)), (w0, .inl (cw, L, .inl g))]) [0, 1, 2, 3] rfl
        have hD9 := hD.sub (ws' := [(y0, .inr (4, [.ref x0, .int kd, .int wh, .int (nI lim), .int bu])), (x0, .inr (5, [.ref k0, .ref w0, .int (nI nz), .int ch])), (k0, .inl (ck, L, .inl f)), (w0, .inl (cw, L, .inl g))]) [0, 1, 2, 3] (by decide) rfl
        have hK9 := hK.sub (tys' := [(ck, .int), (cw, .int)]) [0, 1] rfl
        refine W.widen (k := 1) (n := 6) (Nat.le_of_ble_eq_true rfl) (Nat.le_of_ble_eq_true rfl) ?_
        refine vx_ret ?_
        exact W.lret (v := r_5.toInt64) hx hb hr (fun t ht hW => ⟨⟨r_5.toInt64, (f, g, nz, ch), rfl, hpost, by rw [ht]; exact hP9, va_K.moved hW.alike hK9, hD9⟩, hS.F ht⟩) hS.2.2 dX3_endKey_60
      ·
        have ic_6 : ¬ p1.toInt = 0 := tx_ne rfl (by decide) c_6
        refine lv_aload_n hx hb dX3_endKey_51 rfl (lv_at hl 3 rfl) ?_
        refine lv_iload hx hb dX3_endKey_52 (lv_at hl 1 rfl) ?_
        have hPc := hP.sub (ws' := [(y0, .inr (4, [.ref x0, .int kd, .int wh, .int (nI lim), .int bu])), (x0, .inr (5, [.ref k0, .ref w0, .int (nI nz), .int ch])), (k0, .inl (ck, L, .inl f)), (w0, .inl (cw, L, .inl g))]) [0, 1, 2, 3] rfl
        have hDc := hD.sub (ws' := [(y0, .inr (4, [.ref x0, .int kd, .int wh, .int (nI lim), .int bu])), (x0, .inr (5, [.ref k0, .ref w0, .int (nI nz), .int ch])), (k0, .inl (ck, L, .inl f)), (w0, .inl (cw, L, .inl g))]) [0, 1, 2, 3] (by decide) rfl
        have hKc := hK.sub (tys' := [(ck, .int), (cw, .int)]) [0, 1] rfl
        have hFc := va_free (wc := [(y0, .inr (4, [.ref x0, .int kd, .int wh, .int (nI lim), .int bu])), (x0, .inr (5, [.ref k0, .ref w0, .int (nI nz), .int ch])), (k0, .inl (ck, L, .inl f)), (w0, .inl (cw, L, .inl g))]) hD hS hA [0, 1, 2, 3] rfl
        refine va_callv (va_runU (As := [.int r_4]) (rest := []) ⟨hx, hb, hml, hown, hts⟩ (c_X3_leave_L l  dC dI s.heap.size y0 (.int kd) (.int wh) (.int (nI lim)) (.int bu) x0 k0 w0 ck cw L f g nz ch r_4 hR9) (va_cwU 1 hts gX3_endKey_X3_leave_u69X4 rfl rfl rfl rfl (by decide +kernel) ⟨(Nat.le_of_ble_eq_true rfl), (Nat.le_of_ble_eq_true rfl)⟩) ⟨pk_blind, va_recv hKc hPc (ci := 4) (q0 := 0) rfl rfl, pk_call hPc hKc hDc⟩ rfl rfl hl.1 rfl (lv_room (Nat.le_of_ble_eq_true rfl)) dX3_endKey_54 ⟨(Nat.le_of_ble_eq_true rfl), (Nat.le_of_ble_eq_true rfl)⟩) hS (fun q _ h => hFc q h) hFc (fun ur_7 t H1 locs ht hvm hw hB hz1 hk1 hS => ?_)
        try dsimp only at hw
        have jr_7 := hw
        obtain ⟨hP1, hK1, hD1⟩ := hB
        rw [ht] at hP1
        have hK1 := va_K.moved hvm.symm hK1
        obtain ⟨hP, hD⟩ := va_join (wr := []) (w1 := [(y0, .inr (4, [.ref x0, .int kd, .int wh, .int (nI lim), .int bu])), (x0, .inr (5, [.ref k0, .ref w0, .int (nI (ur_7.2.2.1)), .int ur_7.2.2.2])), (k0, .inl (ck, L, .inl ur_7.1)), (w0, .inl (cw, L, .inl ur_7.2.1))]) hP hD [0, 1, 2, 3] [] rfl rfl (by decide) (by decide) hk1 hFc hP1 hD1
        clear hk1 hz1 ht hPc hDc hKc hFc
        generalize H1 = H at hP hS ⊢
        replace hP : va_P (dC, dI) vwCl [(y0, .inr (4, [.ref x0, .int kd, .int wh, .int (nI lim), .int bu])), (x0, .inr (5, [.ref k0, .ref w0, .int (nI (ur_7.2.2.1)), .int ur_7.2.2.2])), (k0, .inl (ck, L, .inl ur_7.1)), (w0, .inl (cw, L, .inl ur_7.2.1))] H := hP
        replace hD : va_D A [(y0, .inr (4, [.ref x0, .int kd, .int wh, .int (nI lim), .int bu])), (x0, .inr (5, [.ref k0, .ref w0, .int (nI (ur_7.2.2.1)), .int ur_7.2.2.2])), (k0, .inl (ck, L, .inl ur_7.1)), (w0, .inl (cw, L, .inl ur_7.2.1))] := hD
        refine W.widen (k := 0) (n := 0) (Nat.le_of_ble_eq_true rfl) (Nat.le_of_ble_eq_true rfl) ?_
        refine W.eq (g2 := F0 m 57 ls []) rfl ?_
        have hR9 : rOK L (ur_7.2.2.1) := rOK_le hR9 jr_7
        refine lv_iload hx hb dX3_endKey_57 (lv_at hl 0 rfl) ?_
        refine lv_i2l (v := r_5.toInt64) hx hb dX3_endKey_59 rfl ?_
        have hpost : ur_7.2.2.1 ≤ nz := by omega
        have hP9 := hP.sub (ws' := [(y0, .inr (4, [.ref x0, .int kd, .int wh, .int (nI lim), .int bu])), (x0, .inr (5, [.ref k0, .ref w0, .int (nI (ur_7.2.2.1)), .int ur_7.2.2.2])), (k0, .inl (ck, L, .inl ur_7.1)), (w0, .inl (cw, L, .inl ur_7.2.1))]) [0, 1, 2, 3] rfl
        have hD9 := hD.sub (ws' := [(y0, .inr (4, [.ref x0, .int kd, .int wh, .int (nI lim), .int bu])), (x0, .inr (5, [.ref k0, .ref w0, .int (nI (ur_7.2.2.1)), .int ur_7.2.2.2])), (k0, .inl (ck, L, .inl ur_7.1)), (w0, .inl (cw, L, .inl ur_7.2.1))]) [0, 1, 2, 3] (by decide) rfl
        have hK9 := hK.sub (tys' := [(ck, .int), (cw, .int)]) [0, 1] rfl
        refine W.widen (k := 1) (n := 6) (Nat.le_of_ble_eq_true rfl) (Nat.le_of_ble_eq_true rfl) ?_
        refine vx_ret ?_
        exact W.lret (v := r_5.toInt64) hx hb hr (fun t ht hW => ⟨⟨r_5.toInt64, (ur_7.1, ur_7.2.1, ur_7.2.2.1, ur_7.2.2.2), rfl, hpost, by rw [ht]; exact hP9, va_K.moved hW.alike hK9, hD9⟩, hS.F ht⟩) hS.2.2 dX3_endKey_60
    ·
      have ic_3 : ¬ p0.toInt = 0 := tx_ne rfl (by decide) c_3
      refine lv_iload_n hx hb dX3_endKey_24 rfl (lv_at hl 0 rfl) ?_
      refine lv_iconst (v := 1) hx hb dX3_endKey_25 (by decide) ?_
      refine lv_isub hx hb dX3_endKey_26 ?_
      refine lv_topi (fun z_ ez_ => ?_)
      obtain rfl : z_ = r_1 - 1 := ez_.trans (rfl)
      refine lv_goto (tgt := 31) hx hb dX3_endKey_27 (by decide) ?_
      have hPc := hP.sub (ws' := [(y0, .inr (4, [.ref x0, .int kd, .int wh, .int (nI lim), .int bu]))]) [0] rfl
      have hKc := hK.sub (tys' := []) [] rfl
      refine ro_calli (va_runU (As := [.int (r_1 - 1)]) (rest := []) ⟨hx, hb, hml, hown, hts⟩ (c_X3_placeOf_L l  dC dI s.heap.size y0 (.ref x0) (.int kd) (.int wh) (.int (nI lim)) (.int bu) (r_1 - 1)) (va_cwU 1 hts gX3_endKey_X3_placeOf_u77X4 rfl rfl rfl rfl (by decide +kernel) ⟨(Nat.le_of_ble_eq_true rfl), (Nat.le_of_ble_eq_true rfl)⟩) ⟨pk_blindR, va_recv hKc hPc (ci := 4) (q0 := 0) rfl rfl, pk_callR hPc hKc⟩ rfl rfl hl.1 rfl (lv_room (Nat.le_of_ble_eq_true rfl)) dX3_endKey_31 ⟨(Nat.le_of_ble_eq_true rfl), (Nat.le_of_ble_eq_true rfl)⟩) (fun r_8 ur_8 hw => ?_)
      clear hPc hKc
      try dsimp only at hw
      have jr_8 := hw
      refine W.eq (g2 := F0 m 34 ls [.int r_8]) rfl ?_
      refine lv_istore (lv' := [(4, .int r_8), (3, .int r_1), (0, .ref y0), (1, .int p0), (2, .int p1)]) hx hb dX3_endKey_34 hl (by decide) rfl (fun ls hl => ?_)
      refine lv_aload_n hx hb dX3_endKey_36 rfl (lv_at hl 2 rfl) ?_
      refine va_get (D := (dC, dI)) (ci := 4) (v := .ref x0) (C := RX4) (T := TX4) (N := 5) hx hb hts hi0_ hown hK hP 0 rfl rfl 0 (by decide) hw0_ (fun _ h9 => h9) rfl dX3_endKey_37 ?_
      refine lv_iload hx hb dX3_endKey_40 (lv_at hl 0 rfl) ?_
      have hPc := hP.sub (ws' := [(x0, .inr (5, [.ref k0, .ref w0, .int (nI nz), .int ch])), (k0, .inl (ck, L, .inl f)), (w0, .inl (cw, L, .inl g))]) [1, 2, 3] rfl
      have hKc := hK.sub (tys' := [(ck, .int), (cw, .int)]) [0, 1] rfl
      refine ro_calli (va_runV (As := [.int r_8]) (rest := []) ⟨hx, hb, hml, hown, hts⟩ (c_X5_key l  dC dI s.heap.size x0 k0 w0 ck cw L f g nz ch r_8 hR9) (cwV 1 hts gX3_endKey_X5_key rfl rfl rfl (by decide +kernel) ⟨(Nat.le_of_ble_eq_true rfl), (Nat.le_of_ble_eq_true rfl)⟩) ⟨pk_blindR, va_recv hKc hPc (ci := 5) (q0 := 0) rfl rfl, pk_callR hPc hKc⟩ rfl rfl hl.1 rfl (lv_room (Nat.le_of_ble_eq_true rfl)) dX3_endKey_42 ⟨(Nat.le_of_ble_eq_true rfl), (Nat.le_of_ble_eq_true rfl)⟩) (fun r_9 ur_9 hw => ?_)
      clear hPc hKc
      try dsimp only at hw
      have jr_9 := hw
      refine W.eq (g2 := F0 m 45 ls [.int r_9]) rfl ?_
      refine lv_istore (lv' := [(5, .int r_9), (4, .int r_8), (3, .int r_1), (0, .ref y0), (1, .int p0), (2, .int p1)]) hx hb dX3_endKey_45 hl (by decide) rfl (fun ls hl => ?_)
      refine lv_iload_n hx hb dX3_endKey_47 rfl (lv_at hl 5 rfl) ?_
      refine lv_if_eq (tgt := 57) hx hb dX3_endKey_48 (by decide) (fun c_10 => ?_) (fun c_10 => ?_)
      ·
        have ic_10 : p1.toInt = 0 := tx_eq rfl (by decide) c_10
        refine lv_iload hx hb dX3_endKey_57 (lv_at hl 0 rfl) ?_
        refine lv_i2l (v := r_9.toInt64) hx hb dX3_endKey_59 rfl ?_
        have hpost : nz ≤ nz := by omega
        have hP9 := hP.sub (ws' := [(y0, .inr (4, [.ref x0, .int kd, .int wh, .int (nI lim), .int bu])), (x0, .inr (5, [.ref k0, .ref w0, .int (nI nz), .int ch])), (k0, .inl (ck, L, .inl f)), (w0, .inl (cw, L, .inl g))]) [0, 1, 2, 3] rfl
        have hD9 := hD.sub (ws' := [(y0, .inr (4, [.ref x0, .int kd, .int wh, .int (nI lim), .int bu])), (x0, .inr (5, [.ref k0, .ref w0, .int (nI nz), .int ch])), (k0, .inl (ck, L, .inl f)), (w0, .inl (cw, L, .inl g))]) [0, 1, 2, 3] (by decide) rfl
        have hK9 := hK.sub (tys' := [(ck, .int), (cw, .int)]) [0, 1] rfl
        refine W.widen (k := 1) (n := 6) (Nat.le_of_ble_eq_true rfl) (Nat.le_of_ble_eq_true rfl) ?_
        refine vx_ret ?_
        exact W.lret (v := r_9.toInt64) hx hb hr (fun t ht hW => ⟨⟨r_9.toInt64, (f, g, nz, ch), rfl, hpost, by rw [ht]; exact hP9, va_K.moved hW.alike hK9, hD9⟩, hS.F ht⟩) hS.2.2 dX3_endKey_60
      ·
        have ic_10 : ¬ p1.toInt = 0 := tx_ne rfl (by decide) c_10
        refine lv_aload_n hx hb dX3_endKey_51 rfl (lv_at hl 3 rfl) ?_
        refine lv_iload hx hb dX3_endKey_52 (lv_at hl 1 rfl) ?_
        have hPc := hP.sub (ws' := [(y0, .inr (4, [.ref x0, .int kd, .int wh, .int (nI lim), .int bu])), (x0, .inr (5, [.ref k0, .ref w0, .int (nI nz), .int ch])), (k0, .inl (ck, L, .inl f)), (w0, .inl (cw, L, .inl g))]) [0, 1, 2, 3] rfl
        have hDc := hD.sub (ws' := [(y0, .inr (4, [.ref x0, .int kd, .int wh, .int (nI lim), .int bu])), (x0, .inr (5, [.ref k0, .ref w0, .int (nI nz), .int ch])), (k0, .inl (ck, L, .inl f)), (w0, .inl (cw, L, .inl g))]) [0, 1, 2, 3] (by decide) rfl
        have hKc := hK.sub (tys' := [(ck, .int), (cw, .int)]) [0, 1] rfl
        have hFc := va_free (wc := [(y0, .inr (4, [.ref x0, .int kd, .int wh, .int (nI lim), .int bu])), (x0, .inr (5, [.ref k0, .ref w0, .int (nI nz), .int ch])), (k0, .inl (ck, L, .inl f)), (w0, .inl (cw, L, .inl g))]) hD hS hA [0, 1, 2, 3] rfl
        refine va_callv (va_runU (As := [.int r_8]) (rest := []) ⟨hx, hb, hml, hown, hts⟩ (c_X3_leave_L l  dC dI s.heap.size y0 (.int kd) (.int wh) (.int (nI lim)) (.int bu) x0 k0 w0 ck cw L f g nz ch r_8 hR9) (va_cwU 1 hts gX3_endKey_X3_leave_u69X4 rfl rfl rfl rfl (by decide +kernel) ⟨(Nat.le_of_ble_eq_true rfl), (Nat.le_of_ble_eq_true rfl)⟩) ⟨pk_blind, va_recv hKc hPc (ci := 4) (q0 := 0) rfl rfl, pk_call hPc hKc hDc⟩ rfl rfl hl.1 rfl (lv_room (Nat.le_of_ble_eq_true rfl)) dX3_endKey_54 ⟨(Nat.le_of_ble_eq_true rfl), (Nat.le_of_ble_eq_true rfl)⟩) hS (fun q _ h => hFc q h) hFc (fun ur_11 t H1 locs ht hvm hw hB hz1 hk1 hS => ?_)
        try dsimp only at hw
        have jr_11 := hw
        obtain ⟨hP1, hK1, hD1⟩ := hB
        rw [ht] at hP1
        have hK1 := va_K.moved hvm.symm hK1
        obtain ⟨hP, hD⟩ := va_join (wr := []) (w1 := [(y0, .inr (4, [.ref x0, .int kd, .int wh, .int (nI lim), .int bu])), (x0, .inr (5, [.ref k0, .ref w0, .int (nI (ur_11.2.2.1)), .int ur_11.2.2.2])), (k0, .inl (ck, L, .inl ur_11.1)), (w0, .inl (cw, L, .inl ur_11.2.1))]) hP hD [0, 1, 2, 3] [] rfl rfl (by decide) (by decide) hk1 hFc hP1 hD1
        clear hk1 hz1 ht hPc hDc hKc hFc
        generalize H1 = H at hP hS ⊢
        replace hP : va_P (dC, dI) vwCl [(y0, .inr (4, [.ref x0, .int kd, .int wh, .int (nI lim), .int bu])), (x0, .inr (5, [.ref k0, .ref w0, .int (nI (ur_11.2.2.1)), .int ur_11.2.2.2])), (k0, .inl (ck, L, .inl ur_11.1)), (w0, .inl (cw, L, .inl ur_11.2.1))] H := hP
        replace hD : va_D A [(y0, .inr (4, [.ref x0, .int kd, .int wh, .int (nI lim), .int bu])), (x0, .inr (5, [.ref k0, .ref w0, .int (nI (ur_11.2.2.1)), .int ur_11.2.2.2])), (k0, .inl (ck, L, .inl ur_11.1)), (w0, .inl (cw, L, .inl ur_11.2.1))] := hD
        refine W.widen (k := 0) (n := 0) (Nat.le_of_ble_eq_true rfl) (Nat.le_of_ble_eq_true rfl) ?_
        refine W.eq (g2 := F0 m 57 ls []) rfl ?_
        have hR9 : rOK L (ur_11.2.2.1) := rOK_le hR9 jr_11
        refine lv_iload hx hb dX3_endKey_57 (lv_at hl 0 rfl) ?_
        refine lv_i2l (v := r_9.toInt64) hx hb dX3_endKey_59 rfl ?_
        have hpost : ur_11.2.2.1 ≤ nz := by omega
        have hP9 := hP.sub (ws' := [(y0, .inr (4, [.ref x0, .int kd, .int wh, .int (nI lim), .int bu])), (x0, .inr (5, [.ref k0, .ref w0, .int (nI (ur_11.2.2.1)), .int ur_11.2.2.2])), (k0, .inl (ck, L, .inl ur_11.1)), (w0, .inl (cw, L, .inl ur_11.2.1))]) [0, 1, 2, 3] rfl
        have hD9 := hD.sub (ws' := [(y0, .inr (4, [.ref x0, .int kd, .int wh, .int (nI lim), .int bu])), (x0, .inr (5, [.ref k0, .ref w0, .int (nI (ur_11.2.2.1)), .int ur_11.2.2.2])), (k0, .inl (ck, L, .inl ur_11.1)), (w0, .inl (cw, L, .inl ur_11.2.1))]) [0, 1, 2, 3] (by decide) rfl
        have hK9 := hK.sub (tys' := [(ck, .int), (cw, .int)]) [0, 1] rfl
        refine W.widen (k := 1) (n := 6) (Nat.le_of_ble_eq_true rfl) (Nat.le_of_ble_eq_true rfl) ?_
        refine vx_ret ?_
        exact W.lret (v := r_9.toInt64) hx hb hr (fun t ht hW => ⟨⟨r_9.toInt64, (ur_11.1, ur_11.2.1, ur_11.2.2.1, ur_11.2.2.2), rfl, hpost, by rw [ht]; exact hP9, va_K.moved hW.alike hK9, hD9⟩, hS.F ht⟩) hS.2.2 dX3_endKey_60
  ·
    have ic_2 : r_1.toInt = 0 := tx_eq rfl (by decide) c_2
    have hP9 := hP.sub (ws' := [(y0, .inr (4, [.ref x0, .int kd, .int wh, .int (nI lim), .int bu])), (x0, .inr (5, [.ref k0, .ref w0, .int (nI nz), .int ch])), (k0, .inl (ck, L, .inl f)), (w0, .inl (cw, L, .inl g))]) [0, 1, 2, 3] rfl
    have hD9 := hD.sub (ws' := [(y0, .inr (4, [.ref x0, .int kd, .int wh, .int (nI lim), .int bu])), (x0, .inr (5, [.ref k0, .ref w0, .int (nI nz), .int ch])), (k0, .inl (ck, L, .inl f)), (w0, .inl (cw, L, .inl g))]) [0, 1, 2, 3] (by decide) rfl
    have hK9 := hK.sub (tys' := [(ck, .int), (cw, .int)]) [0, 1] rfl
    obtain ⟨sa, hsa⟩ := hN.stX3_82
    exact tx_throwN hx hb hlt (own := RX3) (text := "empty") hown hw1_ hw2_ hsa (tx_hat hN.xw (fun w h => hts w (at_X3_endKey_9 w h)) ng_RX3_84) og_RX3_84 hZ.1 hZ.2 hS (by rw [hml]; exact hl.1) dX3_endKey_9 dX3_endKey_12 dX3_endKey_13 dX3_endKey_15 dX3_endKey_18 (fun x hx9 => (htab x hx9).elim) (Nat.le_of_ble_eq_true rfl) (Nat.le_of_ble_eq_true rfl) (Nat.le_of_ble_eq_true rfl) (Nat.le_of_ble_eq_true rfl) hlocks (fun t hvm hz hq => ⟨(), trivial, ⟨rfl, hP9.kept (fun k x hx => hq x.1 (hP9 k x hx).lt), va_K.moved hvm hK9, hD9⟩, ⟨Nat.le_trans hS.1 hz, fun q h1 h2 => (hq q (Nat.lt_of_lt_of_le h1 hS.1)).trans (hS.2.1 q h1 h2)⟩⟩) hS.2.2 (Nat.le_of_ble_eq_true rfl) (Nat.le_of_ble_eq_true rfl)
