set_option maxRecDepth 20000 in
theorem gX3_come_X3_mayHold_u24X4 : GoodIn wsX3_come (va_wsU RX3 24 RX4 "KeyAtlas$Keyed" ⟨"KeyAtlas$Keyed", "mayHold", "(I)Z"⟩ yX3_mayHold wsX3_mayHold) := goodIn_app (goodIn_of _ (by decide +kernel)) ggX3_come_X3_mayHold
set_option maxRecDepth 20000 in
theorem ggX3_come_X4_hasRoomFor : GoodIn wsX3_come wsX4_hasRoomFor := goodIn_r _ [51, 52, 53, 36, 54, 38, 9, 39, 40, 41, 42, 43, 44, 45, 46, 176, 177, 178, 179, 180, 169, 170, 171, 172, 173, 174, 175, 162, 163, 164, 165, 166, 167, 168, 181, 182, 183, 184] rfl (by decide +kernel)
set_option maxRecDepth 20000 in
theorem gX3_come_X4_hasRoomFor_u35X4 : GoodIn wsX3_come (va_wsO RX3 35 RX4 "KeyAtlas$Keyed" ⟨"KeyAtlas$Keyed", "hasRoomFor", "(I)Z"⟩ yX4_hasRoomFor wsX4_hasRoomFor) := goodIn_app (goodIn_of _ (by decide +kernel)) ggX3_come_X4_hasRoomFor
set_option maxRecDepth 20000 in
theorem ggX3_come_X4_enter : GoodIn wsX3_come wsX4_enter := goodIn_r _ [136, 52, 137, 138, 139, 42, 43, 44, 45, 46, 140, 141, 142, 143, 9, 144, 40, 145, 146, 147, 148, 95, 101, 102, 103, 104, 100, 105, 149, 97, 98, 99, 106, 107, 108, 109, 110, 111, 112, 113, 114, 115, 116, 117, 118, 29, 119, 120, 176, 177, 178, 179, 180, 169, 170, 171, 172, 173, 174, 175, 162, 163, 164, 165, 166, 167, 168, 181, 182, 183, 184] rfl (by decide +kernel)
set_option maxRecDepth 20000 in
theorem gX3_come_X4_enter_u43X4 : GoodIn wsX3_come (va_wsU RX3 43 RX4 "KeyAtlas$Keyed" ⟨"KeyAtlas$Keyed", "enter", "(II)V"⟩ yX4_enter wsX4_enter) := goodIn_app (goodIn_of _ (by decide +kernel)) ggX3_come_X4_enter
set_option maxHeartbeats 4000000 in
set_option maxRecDepth 100000 in
/-- Keyed.come of L -/
theorem c_X3_come_L (l : Launch) (hlt : l.stackTraces = false) (dC : Nat → ClassId) (dI : Nat → Nat → Nat) (sz : Nat) (T0 : Nat) (y0 : Nat) (kd : Int32) (wh : Int32) (lim : Nat) (bu : Int32) (x0 : Nat) (k0 : Nat) (w0 : Nat) (ck : ClassId) (cw : ClassId) (L : Nat) (f : Nat → Int32) (g : Nat → Int32) (nz : Nat) (ch : Int32) (p0 : Int32) (p1 : Int32) (gs : Nat) (hR9 : rOK L nz) (hlim : lim ≤ 1000) (hG9 : nz < L ∨ 4 * L ≤ gs) : vx_Met l yX3_come wsX3_come ({ frames := 6, cells := 3, slots := gs + 6, locals := 250 }) (va_Pc [.ref y0, .int p0, .int p1] (pk_PreXT (dC, dI) [(y0, .inr (4, [.ref x0, .int kd, .int wh, .int (nI lim), .int bu])), (x0, .inr (5, [.ref k0, .ref w0, .int (nI nz), .int ch])), (k0, .inl (ck, L, .inl f)), (w0, .inl (cw, L, .inl g))] [(ck, .int), (cw, .int)] sz T0)) (va_Qv (fun (u : Nat × Nat × ClassId × ClassId × Nat × (Nat → Int32) × (Nat → Int32) × Nat × Int32) => lnP L nz (u.2.2.2.2.1) (u.2.2.2.2.2.2.2.1)) (fun (u : Nat × Nat × ClassId × ClassId × Nat × (Nat → Int32) × (Nat → Int32) × Nat × Int32) (t : State) => va_P (dC, dI) vwCl [(y0, .inr (4, [.ref x0, .int kd, .int wh, .int (nI lim), .int bu])), (x0, .inr (5, [.ref u.1, .ref u.2.1, .int (nI (u.2.2.2.2.2.2.2.1)), .int u.2.2.2.2.2.2.2.2])), (u.1, .inl (u.2.2.1, u.2.2.2.2.1, .inl u.2.2.2.2.2.1)), (u.2.1, .inl (u.2.2.2.1, u.2.2.2.2.1, .inl u.2.2.2.2.2.2.1))] t.heap ∧ va_K (dC, dI) vwCl [(u.2.2.1, .int), (u.2.2.2.1, .int)] t ∧ va_D (va_A [(y0, .inr (4, [.ref x0, .int kd, .int wh, .int (nI lim), .int bu])), (x0, .inr (5, [.ref k0, .ref w0, .int (nI nz), .int ch])), (k0, .inl (ck, L, .inl f)), (w0, .inl (cw, L, .inl g))] sz) [(y0, .inr (4, [.ref x0, .int kd, .int wh, .int (nI lim), .int bu])), (x0, .inr (5, [.ref u.1, .ref u.2.1, .int (nI (u.2.2.2.2.2.2.2.1)), .int u.2.2.2.2.2.2.2.2])), (u.1, .inl (u.2.2.1, u.2.2.2.2.1, .inl u.2.2.2.2.2.1)), (u.2.1, .inl (u.2.2.2.1, u.2.2.2.2.1, .inl u.2.2.2.2.2.2.1))] ∧ hT t.heap + 4 * L ≤ T0 + 4 * (u.2.2.2.2.1) ∧ t.heap.size + 2 * lgN L ≤ sz + 2 * lgN (u.2.2.2.2.1)) (va_A [(y0, .inr (4, [.ref x0, .int kd, .int wh, .int (nI lim), .int bu])), (x0, .inr (5, [.ref k0, .ref w0, .int (nI nz), .int ch])), (k0, .inl (ck, L, .inl f)), (w0, .inl (cw, L, .inl g))] sz)) (vx_X (fun _ : Unit => True) (fun (E : String) (_ : Unit) (t : State) => ((E = "java/lang/IllegalArgumentException" ∨ E = "java/lang/IllegalStateException") ∧ va_P (dC, dI) vwCl [(y0, .inr (4, [.ref x0, .int kd, .int wh, .int (nI lim), .int bu])), (x0, .inr (5, [.ref k0, .ref w0, .int (nI nz), .int ch])), (k0, .inl (ck, L, .inl f)), (w0, .inl (cw, L, .inl g))] t.heap ∧ va_K (dC, dI) vwCl [(ck, .int), (cw, .int)] t ∧ va_D (va_A [(y0, .inr (4, [.ref x0, .int kd, .int wh, .int (nI lim), .int bu])), (x0, .inr (5, [.ref k0, .ref w0, .int (nI nz), .int ch])), (k0, .inl (ck, L, .inl f)), (w0, .inl (cw, L, .inl g))] sz) [(y0, .inr (4, [.ref x0, .int kd, .int wh, .int (nI lim), .int bu])), (x0, .inr (5, [.ref k0, .ref w0, .int (nI nz), .int ch])), (k0, .inl (ck, L, .inl f)), (w0, .inl (cw, L, .inl g))]) ∧ t.heap.size ≤ sz + 1 ∧ hT t.heap ≤ T0 + 6) (va_A [(y0, .inr (4, [.ref x0, .int kd, .int wh, .int (nI lim), .int bu])), (x0, .inr (5, [.ref k0, .ref w0, .int (nI nz), .int ch])), (k0, .inl (ck, L, .inl f)), (w0, .inl (cw, L, .inl g))] sz)) 3 (gs + 6) (va_A [(y0, .inr (4, [.ref x0, .int kd, .int wh, .int (nI lim), .int bu])), (x0, .inr (5, [.ref k0, .ref w0, .int (nI nz), .int ch])), (k0, .inl (ck, L, .inl f)), (w0, .inl (cw, L, .inl g))] sz) := by
  refine vx_ofW (cc := cX3_come) (maxL := 3) (ret := none) (by decide) rfl ?_
  intro p e s m args below meth c s₁ B hml htab hv
  obtain ⟨rfl, ⟨hsz, hP, hK, hD0, hN, hZ⟩, hT0⟩ := hv
  have hx := B.exec
  have hb := B.bytes
  have hr := B.returns
  have hts := atoms_spec (ws := wsX3_come) B.pre
  have hown : s.vm.findClass RX3 = some m.cls := findClass_of_methodNamed B.named
  have hlocks := B.notSynchronized
  subst hsz
  subst hT0
  have hD := hD0.self (sz := s.heap.size)
  generalize hAe : va_A [(y0, .inr (4, [.ref x0, .int kd, .int wh, .int (nI lim), .int bu])), (x0, .inr (5, [.ref k0, .ref w0, .int (nI nz), .int ch])), (k0, .inl (ck, L, .inl f)), (w0, .inl (cw, L, .inl g))] s.heap.size = A at hZ hD ⊢
  have hA : ∀ q : Nat, s.heap.size ≤ q → A q := fun q h => by rw [← hAe]; exact Or.inr h
  have hS : va_S A s.heap s.heap [] := va_S.rf
  have hP : va_P (dC, dI) vwCl [(y0, .inr (4, [.ref x0, .int kd, .int wh, .int (nI lim), .int bu])), (x0, .inr (5, [.ref k0, .ref w0, .int (nI nz), .int ch])), (k0, .inl (ck, L, .inl f)), (w0, .inl (cw, L, .inl g))] s.heap := hP
  have hl := lv_entry ([.ref y0, .int p0, .int p1]) (n := 3) (Nat.le_of_ble_eq_true rfl)
  rw [lg_entry_eq]
  generalize (lg_sl ([.ref y0, .int p0, .int p1]) ++ List.replicate (3 - (lg_sl ([.ref y0, .int p0, .int p1])).length) Slot.unset).toArray = ls at hl ⊢
  have hl : lv_has ls 3 [(0, .ref y0), (1, .int p0), (2, .int p1)] := hl
  have hw0_ := hts (.classLink RX3 38 "java/lang/IllegalStateException") (List.mem_of_getElem? (l := wsX3_come) (i := 3) rfl)
  have hw1_ := hts (.initialized "java/lang/IllegalStateException") (List.mem_of_getElem? (l := wsX3_come) (i := 4) rfl)
  have hw2_ := hts (.classLink RX3 28 "java/lang/IllegalArgumentException") (List.mem_of_getElem? (l := wsX3_come) (i := 1) rfl)
  have hw3_ := hts (.initialized "java/lang/IllegalArgumentException") (List.mem_of_getElem? (l := wsX3_come) (i := 2) rfl)
  obtain ⟨hL1, hL2, hz1, hz2⟩ := id hR9
  refine lv_aload_n hx hb dX3_come_0 rfl (lv_at hl 0 rfl) ?_
  refine lv_iload_n hx hb dX3_come_1 rfl (lv_at hl 1 rfl) ?_
  have hPc := hP.sub (ws' := [(y0, .inr (4, [.ref x0, .int kd, .int wh, .int (nI lim), .int bu]))]) [0] rfl
  have hKc := hK.sub (tys' := []) [] rfl
  refine ro_calli (va_runU (As := [.int p0]) (rest := []) ⟨hx, hb, hml, hown, hts⟩ (c_X3_mayHold_L l  dC dI s.heap.size y0 (.ref x0) (.int kd) (.int wh) (.int (nI lim)) (.int bu) p0) (va_cwU 1 hts gX3_come_X3_mayHold_u24X4 rfl rfl rfl rfl (by decide +kernel) ⟨(Nat.le_of_ble_eq_true rfl), (Nat.le_of_ble_eq_true rfl)⟩) ⟨pk_blindR, va_recv hKc hPc (ci := 4) (q0 := 0) rfl rfl, pk_callR hPc hKc⟩ rfl rfl hl.1 rfl (lv_room (Nat.le_of_ble_eq_true rfl)) dX3_come_2 ⟨(Nat.le_of_ble_eq_true rfl), (show 0 + 0 ≤ gs + 6 by omega)⟩) (fun r_1 ur_1 hw => ?_)
  clear hPc hKc
  try dsimp only at hw
  have jr_1 := hw
  refine W.eq (g2 := F0 m 5 ls [.int r_1]) rfl ?_
  refine lv_if_ne (tgt := 18) hx hb dX3_come_5 (by decide) (fun c_2 => ?_) (fun c_2 => ?_)
  ·
    have ic_2 : ¬ r_1.toInt = 0 := tx_ne rfl (by decide) c_2
    refine lv_aload_n hx hb dX3_come_18 rfl (lv_at hl 0 rfl) ?_
    refine lv_iconst (v := 1) hx hb dX3_come_19 (by decide) ?_
    have hPc := hP.sub (ws' := [(y0, .inr (4, [.ref x0, .int kd, .int wh, .int (nI lim), .int bu])), (x0, .inr (5, [.ref k0, .ref w0, .int (nI nz), .int ch])), (k0, .inl (ck, L, .inl f)), (w0, .inl (cw, L, .inl g))]) [0, 1, 2, 3] rfl
    have hKc := hK.sub (tys' := [(ck, .int), (cw, .int)]) [0, 1] rfl
    refine ro_calli (va_runU (As := [.int 1]) (rest := []) ⟨hx, hb, hml, hown, hts⟩ (c_X4_hasRoomFor l  dC dI s.heap.size y0 kd wh lim bu x0 k0 w0 ck cw L f g nz ch 1 hR9 hlim) (va_cwO 1 hts gX3_come_X4_hasRoomFor_u35X4 rfl rfl rfl (List.mem_of_getElem? (l := wsX3_come) (i := 39) rfl) (by decide +kernel) ⟨(Nat.le_of_ble_eq_true rfl), (Nat.le_of_ble_eq_true rfl)⟩) ⟨pk_blindR, va_recv hKc hPc (ci := 4) (q0 := 0) rfl rfl, pk_callR hPc hKc⟩ rfl rfl hl.1 rfl (lv_room (Nat.le_of_ble_eq_true rfl)) dX3_come_20 ⟨(Nat.le_of_ble_eq_true rfl), (show 0 + 0 ≤ gs + 6 by omega)⟩) (fun r_3 ur_3 hw => ?_)
    clear hPc hKc
    try dsimp only at hw
    have jr_3 := hw
    refine W.eq (g2 := F0 m 23 ls [.int r_3]) rfl ?_
    refine lv_if_ne (tgt := 36) hx hb dX3_come_23 (by decide) (fun c_4 => ?_) (fun c_4 => ?_)
    ·
      have ic_4 : ¬ r_3.toInt = 0 := tx_ne rfl (by decide) c_4
      refine lv_aload_n hx hb dX3_come_36 rfl (lv_at hl 0 rfl) ?_
      refine lv_iload_n hx hb dX3_come_37 rfl (lv_at hl 1 rfl) ?_
      refine lv_iload_n hx hb dX3_come_38 rfl (lv_at hl 2 rfl) ?_
      have hPc := hP.sub (ws' := [(y0, .inr (4, [.ref x0, .int kd, .int wh, .int (nI lim), .int bu])), (x0, .inr (5, [.ref k0, .ref w0, .int (nI nz), .int ch])), (k0, .inl (ck, L, .inl f)), (w0, .inl (cw, L, .inl g))]) [0, 1, 2, 3] rfl
      have hDc := hD.sub (ws' := [(y0, .inr (4, [.ref x0, .int kd, .int wh, .int (nI lim), .int bu])), (x0, .inr (5, [.ref k0, .ref w0, .int (nI nz), .int ch])), (k0, .inl (ck, L, .inl f)), (w0, .inl (cw, L, .inl g))]) [0, 1, 2, 3] (by decide) rfl
      have hKc := hK.sub (tys' := [(ck, .int), (cw, .int)]) [0, 1] rfl
      have hFc := va_free (wc := [(y0, .inr (4, [.ref x0, .int kd, .int wh, .int (nI lim), .int bu])), (x0, .inr (5, [.ref k0, .ref w0, .int (nI nz), .int ch])), (k0, .inl (ck, L, .inl f)), (w0, .inl (cw, L, .inl g))]) hD hS hA [0, 1, 2, 3] rfl
      refine va_callv (va_runU (As := [.int p0, .int p1]) (rest := []) ⟨hx, hb, hml, hown, hts⟩ (c_X4_enter l  dC dI s.heap.size (hT s.heap) y0 kd wh lim bu x0 k0 w0 ck cw L f g nz ch p0 p1 gs hR9 hlim hG9) (va_cwA 2 hts gX3_come_X4_enter_u43X4 rfl rfl rfl (hN.xw _ (List.mem_of_getElem? (l := p_xw) (i := 1) rfl)) (by decide +kernel) ⟨(Nat.le_of_ble_eq_true rfl), (Nat.le_of_ble_eq_true rfl)⟩) ⟨pk_blindT, va_recv hKc hPc (ci := 4) (q0 := 0) rfl rfl, pk_callT hPc hKc hDc⟩ rfl rfl hl.1 rfl (lv_room (Nat.le_of_ble_eq_true rfl)) dX3_come_39 ⟨(Nat.le_of_ble_eq_true rfl), (show 0 + gs ≤ gs + 6 by omega)⟩) hS (fun q _ h => hFc q h) hFc (fun ur_5 t H1 locs ht hvm hw hB hz1 hk1 hS => ?_)
      try dsimp only at hw
      have jr_5 := hw
      obtain ⟨hP1, hK1, hD1, hC1_⟩ := hB
      rw [ht] at hP1 hC1_
      have hK1 := va_K.moved hvm.symm hK1
      obtain ⟨hP, hD⟩ := va_join (wr := []) (w1 := [(y0, .inr (4, [.ref x0, .int kd, .int wh, .int (nI lim), .int bu])), (x0, .inr (5, [.ref ur_5.1, .ref ur_5.2.1, .int (nI (ur_5.2.2.2.2.2.2.2.1)), .int ur_5.2.2.2.2.2.2.2.2])), (ur_5.1, .inl (ur_5.2.2.1, ur_5.2.2.2.2.1, .inl ur_5.2.2.2.2.2.1)), (ur_5.2.1, .inl (ur_5.2.2.2.1, ur_5.2.2.2.2.1, .inl ur_5.2.2.2.2.2.2.1))]) hP hD [0, 1, 2, 3] [] rfl rfl (by decide) (by decide) hk1 hFc hP1 hD1
      have hK := hK.app hK1
      have hK : va_K (dC, dI) vwCl [(ck, .int), (cw, .int), (ur_5.2.2.1, .int), (ur_5.2.2.2.1, .int)] s := hK
      have hcs1_ : hT H1 + 4 * L ≤ hT s.heap + 4 * (ur_5.2.2.2.2.1) := hC1_.1
      have hcs2_ : H1.size + 2 * lgN L ≤ s.heap.size + 2 * lgN (ur_5.2.2.2.2.1) := hC1_.2
      clear hC1_
      clear hk1 hz1 ht hPc hDc hKc hFc
      generalize H1 = H at hP hS hcs1_ hcs2_ ⊢
      replace hP : va_P (dC, dI) vwCl [(y0, .inr (4, [.ref x0, .int kd, .int wh, .int (nI lim), .int bu])), (x0, .inr (5, [.ref ur_5.1, .ref ur_5.2.1, .int (nI (ur_5.2.2.2.2.2.2.2.1)), .int ur_5.2.2.2.2.2.2.2.2])), (ur_5.1, .inl (ur_5.2.2.1, ur_5.2.2.2.2.1, .inl ur_5.2.2.2.2.2.1)), (ur_5.2.1, .inl (ur_5.2.2.2.1, ur_5.2.2.2.2.1, .inl ur_5.2.2.2.2.2.2.1))] H := hP
      replace hD : va_D A [(y0, .inr (4, [.ref x0, .int kd, .int wh, .int (nI lim), .int bu])), (x0, .inr (5, [.ref ur_5.1, .ref ur_5.2.1, .int (nI (ur_5.2.2.2.2.2.2.2.1)), .int ur_5.2.2.2.2.2.2.2.2])), (ur_5.1, .inl (ur_5.2.2.1, ur_5.2.2.2.2.1, .inl ur_5.2.2.2.2.2.1)), (ur_5.2.1, .inl (ur_5.2.2.2.1, ur_5.2.2.2.2.1, .inl ur_5.2.2.2.2.2.2.1))] := hD
      refine W.widen (k := 2) (n := gs) (by omega) (by omega) ?_
      refine W.eq (g2 := F0 m 42 ls []) rfl ?_
      refine W.book (fun hz9_ hn9_ => ?_)
      have hcost : hT H + 4 * L ≤ hT s.heap + 4 * (ur_5.2.2.2.2.1) ∧ H.size + 2 * lgN L ≤ s.heap.size + 2 * lgN (ur_5.2.2.2.2.1) := ⟨hcs1_, hcs2_⟩
      have hP9 := hP.sub (ws' := [(y0, .inr (4, [.ref x0, .int kd, .int wh, .int (nI lim), .int bu])), (x0, .inr (5, [.ref ur_5.1, .ref ur_5.2.1, .int (nI (ur_5.2.2.2.2.2.2.2.1)), .int ur_5.2.2.2.2.2.2.2.2])), (ur_5.1, .inl (ur_5.2.2.1, ur_5.2.2.2.2.1, .inl ur_5.2.2.2.2.2.1)), (ur_5.2.1, .inl (ur_5.2.2.2.1, ur_5.2.2.2.2.1, .inl ur_5.2.2.2.2.2.2.1))]) [0, 1, 2, 3] rfl
      have hD9 := hD.sub (ws' := [(y0, .inr (4, [.ref x0, .int kd, .int wh, .int (nI lim), .int bu])), (x0, .inr (5, [.ref ur_5.1, .ref ur_5.2.1, .int (nI (ur_5.2.2.2.2.2.2.2.1)), .int ur_5.2.2.2.2.2.2.2.2])), (ur_5.1, .inl (ur_5.2.2.1, ur_5.2.2.2.2.1, .inl ur_5.2.2.2.2.2.1)), (ur_5.2.1, .inl (ur_5.2.2.2.1, ur_5.2.2.2.2.1, .inl ur_5.2.2.2.2.2.2.1))]) [0, 1, 2, 3] (by decide) rfl
      have hK9 := hK.sub (tys' := [(ur_5.2.2.1, .int), (ur_5.2.2.2.1, .int)]) [2, 3] rfl
      refine W.widen (k := 3) (n := gs + 6) (by omega) (by omega) ?_
      refine vx_ret ?_
      exact W.vret hx hb hr (fun t ht hW => ⟨⟨(ur_5.1, ur_5.2.1, ur_5.2.2.1, ur_5.2.2.2.1, ur_5.2.2.2.2.1, ur_5.2.2.2.2.2.1, ur_5.2.2.2.2.2.2.1, ur_5.2.2.2.2.2.2.2.1, ur_5.2.2.2.2.2.2.2.2), rfl, jr_5, by rw [ht]; exact hP9, va_K.moved hW.alike hK9, hD9, by rw [ht]; exact hcost⟩, hS.F ht⟩) hS.2.2 dX3_come_42
    ·
      have ic_4 : r_3.toInt = 0 := tx_eq rfl (by decide) c_4
      have hP9 := hP.sub (ws' := [(y0, .inr (4, [.ref x0, .int kd, .int wh, .int (nI lim), .int bu])), (x0, .inr (5, [.ref k0, .ref w0, .int (nI nz), .int ch])), (k0, .inl (ck, L, .inl f)), (w0, .inl (cw, L, .inl g))]) [0, 1, 2, 3] rfl
      have hD9 := hD.sub (ws' := [(y0, .inr (4, [.ref x0, .int kd, .int wh, .int (nI lim), .int bu])), (x0, .inr (5, [.ref k0, .ref w0, .int (nI nz), .int ch])), (k0, .inl (ck, L, .inl f)), (w0, .inl (cw, L, .inl g))]) [0, 1, 2, 3] (by decide) rfl
      have hK9 := hK.sub (tys' := [(ck, .int), (cw, .int)]) [0, 1] rfl
      refine vx_tightX (XC0 := vx_X (fun _ : Unit => True) (fun (E : String) (_ : Unit) (t : State) => (E = "java/lang/IllegalArgumentException" ∨ E = "java/lang/IllegalStateException") ∧ va_P (dC, dI) vwCl [(y0, .inr (4, [.ref x0, .int kd, .int wh, .int (nI lim), .int bu])), (x0, .inr (5, [.ref k0, .ref w0, .int (nI nz), .int ch])), (k0, .inl (ck, L, .inl f)), (w0, .inl (cw, L, .inl g))] t.heap ∧ va_K (dC, dI) vwCl [(ck, .int), (cw, .int)] t ∧ va_D A [(y0, .inr (4, [.ref x0, .int kd, .int wh, .int (nI lim), .int bu])), (x0, .inr (5, [.ref k0, .ref w0, .int (nI nz), .int ch])), (k0, .inl (ck, L, .inl f)), (w0, .inl (cw, L, .inl g))]) A) 1 6 (by omega) (by omega) (fun E t9 h9 hz9 hn9 => by obtain ⟨u9, g1, g2, g3⟩ := h9; exact ⟨u9, g1, ⟨g2, hz9, hn9⟩, g3⟩) ?_
      obtain ⟨sa, hsa⟩ := hN.stX3_40
      exact vx_throwS hx hb hlt (own := RX3) (cls := "java/lang/IllegalStateException") (text := "full") (names := ["java/lang/RuntimeException", "java/lang/Exception"]) hown (by decide +kernel) (by decide +kernel) hw0_ hw1_ hsa (tx_hat hN.xw (fun w h => hts w (at_X3_come_26 w h)) ng_RX3_42) og_RX3_42 hZ.1 hZ.2 hS (by rw [hml]; exact hl.1) dX3_come_26 dX3_come_29 dX3_come_30 dX3_come_32 dX3_come_35 (fun x hx9 => (htab x hx9).elim) (Nat.le_of_ble_eq_true rfl) (Nat.le_of_ble_eq_true rfl) (Nat.le_of_ble_eq_true rfl) (show 0 + 6 ≤ gs + 6 by omega) hlocks (fun t hvm hz hq => ⟨(), trivial, ⟨Or.inr rfl, hP9.kept (fun k x hx => hq x.1 (hP9 k x hx).lt), va_K.moved hvm hK9, hD9⟩, ⟨Nat.le_trans hS.1 hz, fun q h1 h2 => (hq q (Nat.lt_of_lt_of_le h1 hS.1)).trans (hS.2.1 q h1 h2)⟩⟩) hS.2.2 (Nat.le_of_ble_eq_true rfl) (Nat.le_of_ble_eq_true rfl)
  ·
    have ic_2 : r_1.toInt = 0 := tx_eq rfl (by decide) c_2
    have hP9 := hP.sub (ws' := [(y0, .inr (4, [.ref x0, .int kd, .int wh, .int (nI lim), .int bu])), (x0, .inr (5, [.ref k0, .ref w0, .int (nI nz), .int ch])), (k0, .inl (ck, L, .inl f)), (w0, .inl (cw, L, .inl g))]) [0, 1, 2, 3] rfl
    have hD9 := hD.sub (ws' := [(y0, .inr (4, [.ref x0, .int kd, .int wh, .int (nI lim), .int bu])), (x0, .inr (5, [.ref k0, .ref w0, .int (nI nz), .int ch])), (k0, .inl (ck, L, .inl f)), (w0, .inl (cw, L, .inl g))]) [0, 1, 2, 3] (by decide) rfl
    have hK9 := hK.sub (tys' := [(ck, .int), (cw, .int)]) [0, 1] rfl
    refine vx_tightX (XC0 := vx_X (fun _ : Unit => True) (fun (E : String) (_ : Unit) (t : State) => (E = "java/lang/IllegalArgumentException" ∨ E = "java/lang/IllegalStateException") ∧ va_P (dC, dI) vwCl [(y0, .inr (4, [.ref x0, .int kd, .int wh, .int (nI lim), .int bu])), (x0, .inr (5, [.ref k0, .ref w0, .int (nI nz), .int ch])), (k0, .inl (ck, L, .inl f)), (w0, .inl (cw, L, .inl g))] t.heap ∧ va_K (dC, dI) vwCl [(ck, .int), (cw, .int)] t ∧ va_D A [(y0, .inr (4, [.ref x0, .int kd, .int wh, .int (nI lim), .int bu])), (x0, .inr (5, [.ref k0, .ref w0, .int (nI nz), .int ch])), (k0, .inl (ck, L, .inl f)), (w0, .inl (cw, L, .inl g))]) A) 1 6 (by omega) (by omega) (fun E t9 h9 hz9 hn9 => by obtain ⟨u9, g1, g2, g3⟩ := h9; exact ⟨u9, g1, ⟨g2, hz9, hn9⟩, g3⟩) ?_
    obtain ⟨sa, hsa⟩ := hN.stX3_30
    exact vx_throwS hx hb hlt (own := RX3) (cls := "java/lang/IllegalArgumentException") (text := "key is not of this part") (names := ["java/lang/RuntimeException", "java/lang/Exception"]) hown (by decide +kernel) (by decide +kernel) hw2_ hw3_ hsa (tx_hat hN.xw (fun w h => hts w (at_X3_come_8 w h)) ng_RX3_32) og_RX3_32 hZ.1 hZ.2 hS (by rw [hml]; exact hl.1) dX3_come_8 dX3_come_11 dX3_come_12 dX3_come_14 dX3_come_17 (fun x hx9 => (htab x hx9).elim) (Nat.le_of_ble_eq_true rfl) (Nat.le_of_ble_eq_true rfl) (Nat.le_of_ble_eq_true rfl) (show 0 + 6 ≤ gs + 6 by omega) hlocks (fun t hvm hz hq => ⟨(), trivial, ⟨Or.inl rfl, hP9.kept (fun k x hx => hq x.1 (hP9 k x hx).lt), va_K.moved hvm hK9, hD9⟩, ⟨Nat.le_trans hS.1 hz, fun q h1 h2 => (hq q (Nat.lt_of_lt_of_le h1 hS.1)).trans (hS.2.1 q h1 h2)⟩⟩) hS.2.2 (Nat.le_of_ble_eq_true rfl) (Nat.le_of_ble_eq_true rfl)
