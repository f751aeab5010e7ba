theorem dX3_come_0 : decode cX3_come 0 = .ok (.aload_n 0, 1) := by decide +kernel
theorem dX3_come_1 : decode cX3_come 1 = .ok (.iload_n 1, 1) := by decide +kernel
set_option maxRecDepth 20000 in
theorem ggX3_come_X3_mayHold : GoodIn wsX3_come wsX3_mayHold := goodIn_r _ [10] rfl (by decide +kernel)
set_option maxRecDepth 20000 in
theorem gX3_come_X3_mayHold_u24X2 : GoodIn wsX3_come (va_wsU RX3 24 RX2 "KeyAtlas$Keyed" ⟨"KeyAtlas$Keyed", "mayHold", "(I)Z"⟩ yX3_mayHold wsX3_mayHold) := goodIn_app (goodIn_of _ (by decide +kernel)) ggX3_come_X3_mayHold
theorem dX3_come_2 : decode cX3_come 2 = .ok (.invokevirtual 24, 3) := by decide +kernel
theorem dX3_come_5 : decode cX3_come 5 = .ok (.ifCond .ne 13, 3) := by decide +kernel
theorem dX3_come_18 : decode cX3_come 18 = .ok (.aload_n 0, 1) := by decide +kernel
theorem dX3_come_19 : decode cX3_come 19 = .ok (.iconst 1, 1) := by decide +kernel
set_option maxRecDepth 20000 in
theorem ggX3_come_X3_hasRoomFor : GoodIn wsX3_come wsX3_hasRoomFor := goodIn_r _ [39, 40, 41, 42, 43, 44, 45, 46, 169, 170, 171, 172, 173, 174, 175, 176, 177, 178, 179, 180, 162, 163, 164, 165, 166, 167, 168, 181, 182, 183, 184] rfl (by decide +kernel)
set_option maxRecDepth 20000 in
theorem gX3_come_X3_hasRoomFor_u35X2 : GoodIn wsX3_come (va_wsU RX3 35 RX2 "KeyAtlas$Keyed" ⟨"KeyAtlas$Keyed", "hasRoomFor", "(I)Z"⟩ yX3_hasRoomFor wsX3_hasRoomFor) := goodIn_app (goodIn_of _ (by decide +kernel)) ggX3_come_X3_hasRoomFor
theorem dX3_come_20 : decode cX3_come 20 = .ok (.invokevirtual 35, 3) := by decide +kernel
theorem dX3_come_23 : decode cX3_come 23 = .ok (.ifCond .ne 13, 3) := by decide +kernel
theorem dX3_come_36 : decode cX3_come 36 = .ok (.aload_n 0, 1) := by decide +kernel
theorem dX3_come_37 : decode cX3_come 37 = .ok (.iload_n 1, 1) := by decide +kernel
theorem dX3_come_38 : decode cX3_come 38 = .ok (.iload_n 2, 1) := by decide +kernel
set_option maxRecDepth 20000 in
theorem ggX3_come_X2_enter : GoodIn wsX3_come wsX2_enter := goodIn_r _ [65, 66, 67, 68, 69, 70, 71, 64, 72, 73, 74, 75, 76, 77, 78, 79, 80, 81, 82, 83, 84, 85, 86, 87, 88, 89, 90, 42, 43, 44, 45, 46, 91, 92, 93, 94, 95, 96, 97, 98, 99, 100, 101, 102, 103, 104, 105, 106, 107, 108, 109, 110, 111, 112, 113, 114, 115, 116, 117, 118, 29, 119, 120, 121, 122, 123, 124, 125, 126, 127, 128, 129, 130, 131, 132, 133, 169, 170, 171, 172, 173, 174, 175, 176, 177, 178, 179, 180, 162, 163, 164, 165, 166, 167, 168, 181, 182, 183, 184] rfl (by decide +kernel)
set_option maxRecDepth 20000 in
theorem gX3_come_X2_enter_u43X2 : GoodIn wsX3_come (va_wsU RX3 43 RX2 "KeyAtlas$Keyed" ⟨"KeyAtlas$Keyed", "enter", "(II)V"⟩ yX2_enter wsX2_enter) := goodIn_app (goodIn_of _ (by decide +kernel)) ggX3_come_X2_enter
theorem dX3_come_39 : decode cX3_come 39 = .ok (.invokevirtual 43, 3) := by decide +kernel
theorem dX3_come_42 : decode cX3_come 42 = .ok (.return_, 1) := by decide +kernel
theorem dX3_come_26 : decode cX3_come 26 = .ok (.new 38, 3) := by decide +kernel
theorem dX3_come_29 : decode cX3_come 29 = .ok (.dup, 1) := by decide +kernel
theorem dX3_come_30 : decode cX3_come 30 = .ok (.ldc 40, 2) := by decide +kernel
theorem dX3_come_32 : decode cX3_come 32 = .ok (.invokespecial 42, 3) := by decide +kernel
theorem dX3_come_35 : decode cX3_come 35 = .ok (.athrow, 1) := by decide +kernel
theorem dX3_come_8 : decode cX3_come 8 = .ok (.new 28, 3) := by decide +kernel
theorem dX3_come_11 : decode cX3_come 11 = .ok (.dup, 1) := by decide +kernel
theorem dX3_come_12 : decode cX3_come 12 = .ok (.ldc 30, 2) := by decide +kernel
theorem dX3_come_14 : decode cX3_come 14 = .ok (.invokespecial 32, 3) := by decide +kernel
theorem dX3_come_17 : decode cX3_come 17 = .ok (.athrow, 1) := by decide +kernel
theorem ng_RX3_42 : ∀ w ∈ (vx_atS RX3 42 "java/lang/IllegalStateException" ["java/lang/RuntimeException", "java/lang/Exception"]).filter (fun w => !goodWord w), w ∈ p_xw := by decide +kernel
theorem og_RX3_42 : ∀ w ∈ Cond.classLink RX3 38 "java/lang/IllegalStateException" :: Cond.initialized "java/lang/IllegalStateException" :: vx_atS RX3 42 "java/lang/IllegalStateException" ["java/lang/RuntimeException", "java/lang/Exception"], vx_ot w = true := by decide +kernel
theorem at_X3_come_26 : ∀ w ∈ (vx_atS RX3 42 "java/lang/IllegalStateException" ["java/lang/RuntimeException", "java/lang/Exception"]).filter goodWord, w ∈ wsX3_come := fun w h => by
  unfold wsX3_come
  exact List.mem_cons_of_mem _ (List.mem_append_right _ h)
theorem ng_RX3_32 : ∀ w ∈ (vx_atS RX3 32 "java/lang/IllegalArgumentException" ["java/lang/RuntimeException", "java/lang/Exception"]).filter (fun w => !goodWord w), w ∈ p_xw := by decide +kernel
theorem og_RX3_32 : ∀ w ∈ Cond.classLink RX3 28 "java/lang/IllegalArgumentException" :: Cond.initialized "java/lang/IllegalArgumentException" :: vx_atS RX3 32 "java/lang/IllegalArgumentException" ["java/lang/RuntimeException", "java/lang/Exception"], vx_ot w = true := by decide +kernel
theorem at_X3_come_8 : ∀ w ∈ (vx_atS RX3 32 "java/lang/IllegalArgumentException" ["java/lang/RuntimeException", "java/lang/Exception"]).filter goodWord, w ∈ wsX3_come := fun w h => by
  unfold wsX3_come
  exact List.mem_cons_of_mem _ (List.mem_append_left _ (List.mem_append_right _ h))
set_option maxHeartbeats 4000000 in
set_option maxRecDepth 100000 in
/-- Keyed.come of H -/
theorem c_X3_come_H (l : Launch) (hlt : l.stackTraces = false) (dC : Nat → ClassId) (dI : Nat → Nat → Nat) (sz : Nat) (T0 : Nat) (y0 : Nat) (kd : Int32) (wh : Int32) (cap : Nat) (ru : Int32) (tb : Nat) (b0 : Nat) (cb : ClassId) (bf : Nat → Int32) (x0 : Nat) (k0 : Nat) (w0 : Nat) (ck : ClassId) (cw : ClassId) (L : Nat) (f : Nat → Int32) (g : Nat → Int32) (nz : Nat) (ch : Int32) (p0 : Int32) (p1 : Int32) (gs : Nat) (ds : Nat) (hH9 : hOK tb L nz cap) (hG9 : nz < L ∨ 4 * L ≤ gs) (hD9 : tb = 0 → 1029 + 2 * L ≤ ds) (hD8 : ¬ tb = 0 → (tb < 64 ∧ 8 ≤ nz) ∨ tb * 3 < (nz + 1) * 4 → nz < L → 4 * tb + (nz + 1) + 2 * L ≤ ds) (hD7 : ¬ tb = 0 → (tb < 64 ∧ 8 ≤ nz) ∨ tb * 3 < (nz + 1) * 4 → ¬ nz < L → 4 * tb + (nz + 1) + 4 * L ≤ ds) : vx_Met l yX3_come wsX3_come ({ frames := 6, cells := 9, slots := gs + ds + 6, locals := 250 }) (va_Pc [.ref y0, .int p0, .int p1] (pk_PreXT (dC, dI) [(y0, .inr (3, [.ref x0, .int kd, .int wh, .int (nI cap), .int ru, .int (nI tb), .ref b0])), (x0, .inr (5, [.ref k0, .ref w0, .int (nI nz), .int ch])), (k0, .inl (ck, L, .inl f)), (w0, .inl (cw, L, .inl g)), (b0, .inl (cb, tb, .inl bf))] [(ck, .int), (cw, .int), (cb, .boolean)] sz T0)) (va_Qv (fun (u : Nat × Nat × ClassId × (Nat → Int32) × Nat × Nat × ClassId × ClassId × Nat × (Nat → Int32) × (Nat → Int32) × Nat × Int32) => enP tb L nz cap (u.1) (u.2.2.2.2.2.2.2.2.1) (u.2.2.2.2.2.2.2.2.2.2.2.1)) (fun (u : Nat × Nat × ClassId × (Nat → Int32) × Nat × Nat × ClassId × ClassId × Nat × (Nat → Int32) × (Nat → Int32) × Nat × Int32) (t : State) => va_P (dC, dI) vwCl [(y0, .inr (3, [.ref x0, .int kd, .int wh, .int (nI cap), .int ru, .int (nI (u.1)), .ref u.2.1])), (x0, .inr (5, [.ref u.2.2.2.2.1, .ref u.2.2.2.2.2.1, .int (nI (u.2.2.2.2.2.2.2.2.2.2.2.1)), .int u.2.2.2.2.2.2.2.2.2.2.2.2])), (u.2.2.2.2.1, .inl (u.2.2.2.2.2.2.1, u.2.2.2.2.2.2.2.2.1, .inl u.2.2.2.2.2.2.2.2.2.1)), (u.2.2.2.2.2.1, .inl (u.2.2.2.2.2.2.2.1, u.2.2.2.2.2.2.2.2.1, .inl u.2.2.2.2.2.2.2.2.2.2.1)), (u.2.1, .inl (u.2.2.1, u.1, .inl u.2.2.2.1))] t.heap ∧ va_K (dC, dI) vwCl [(u.2.2.2.2.2.2.1, .int), (u.2.2.2.2.2.2.2.1, .int), (u.2.2.1, .boolean)] t ∧ va_D (va_A [(y0, .inr (3, [.ref x0, .int kd, .int wh, .int (nI cap), .int ru, .int (nI tb), .ref b0])), (x0, .inr (5, [.ref k0, .ref w0, .int (nI nz), .int ch])), (k0, .inl (ck, L, .inl f)), (w0, .inl (cw, L, .inl g)), (b0, .inl (cb, tb, .inl bf))] sz) [(y0, .inr (3, [.ref x0, .int kd, .int wh, .int (nI cap), .int ru, .int (nI (u.1)), .ref u.2.1])), (x0, .inr (5, [.ref u.2.2.2.2.1, .ref u.2.2.2.2.2.1, .int (nI (u.2.2.2.2.2.2.2.2.2.2.2.1)), .int u.2.2.2.2.2.2.2.2.2.2.2.2])), (u.2.2.2.2.1, .inl (u.2.2.2.2.2.2.1, u.2.2.2.2.2.2.2.2.1, .inl u.2.2.2.2.2.2.2.2.2.1)), (u.2.2.2.2.2.1, .inl (u.2.2.2.2.2.2.2.1, u.2.2.2.2.2.2.2.2.1, .inl u.2.2.2.2.2.2.2.2.2.2.1)), (u.2.1, .inl (u.2.2.1, u.1, .inl u.2.2.2.1))] ∧ hT t.heap + hPS tb L ≤ T0 + hPS (u.1) (u.2.2.2.2.2.2.2.2.1) ∧ t.heap.size + hPC tb L ≤ sz + hPC (u.1) (u.2.2.2.2.2.2.2.2.1)) (va_A [(y0, .inr (3, [.ref x0, .int kd, .int wh, .int (nI cap), .int ru, .int (nI tb), .ref b0])), (x0, .inr (5, [.ref k0, .ref w0, .int (nI nz), .int ch])), (k0, .inl (ck, L, .inl f)), (w0, .inl (cw, L, .inl g)), (b0, .inl (cb, tb, .inl bf))] sz)) (vx_X (fun _ : Unit => True) (fun (E : String) (_ : Unit) (t : State) => ((E = "java/lang/IllegalArgumentException" ∨ E = "java/lang/IllegalStateException") ∧ va_P (dC, dI) vwCl [(y0, .inr (3, [.ref x0, .int kd, .int wh, .int (nI cap), .int ru, .int (nI tb), .ref b0])), (x0, .inr (5, [.ref k0, .ref w0, .int (nI nz), .int ch])), (k0, .inl (ck, L, .inl f)), (w0, .inl (cw, L, .inl g)), (b0, .inl (cb, tb, .inl bf))] t.heap ∧ va_K (dC, dI) vwCl [(ck, .int), (cw, .int), (cb, .boolean)] t ∧ va_D (va_A [(y0, .inr (3, [.ref x0, .int kd, .int wh, .int (nI cap), .int ru, .int (nI tb), .ref b0])), (x0, .inr (5, [.ref k0, .ref w0, .int (nI nz), .int ch])), (k0, .inl (ck, L, .inl f)), (w0, .inl (cw, L, .inl g)), (b0, .inl (cb, tb, .inl bf))] sz) [(y0, .inr (3, [.ref x0, .int kd, .int wh, .int (nI cap), .int ru, .int (nI tb), .ref b0])), (x0, .inr (5, [.ref k0, .ref w0, .int (nI nz), .int ch])), (k0, .inl (ck, L, .inl f)), (w0, .inl (cw, L, .inl g)), (b0, .inl (cb, tb, .inl bf))]) ∧ t.heap.size ≤ sz + 1 ∧ hT t.heap ≤ T0 + 6) (va_A [(y0, .inr (3, [.ref x0, .int kd, .int wh, .int (nI cap), .int ru, .int (nI tb), .ref b0])), (x0, .inr (5, [.ref k0, .ref w0, .int (nI nz), .int ch])), (k0, .inl (ck, L, .inl f)), (w0, .inl (cw, L, .inl g)), (b0, .inl (cb, tb, .inl bf))] sz)) 9 (gs + ds + 6) (va_A [(y0, .inr (3, [.ref x0, .int kd, .int wh, .int (nI cap), .int ru, .int (nI tb), .ref b0])), (x0, .inr (5, [.ref k0, .ref w0, .int (nI nz), .int ch])), (k0, .inl (ck, L, .inl f)), (w0, .inl (cw, L, .inl g)), (b0, .inl (cb, tb, .inl bf))] sz) := by
  refine vx_ofW (cc := cX3_come) (maxL := 3) (ret := none) (by decide) rfl ?_
  intro p e s m args below meth c s₁ B hml htab hv
  obtain ⟨rfl, ⟨hsz, hP, hK, hD0, hN, hZ⟩, hT0⟩ := hv
  have hx := B.exec
  have hb := B.bytes
  have hr := B.returns
  have hts := atoms_spec (ws := wsX3_come) B.pre
  have hown : s.vm.findClass RX3 = some m.cls := findClass_of_methodNamed B.named
  have hlocks := B.notSynchronized
  subst hsz
  subst hT0
  have hD := hD0.self (sz := s.heap.size)
  generalize hAe : va_A [(y0, .inr (3, [.ref x0, .int kd, .int wh, .int (nI cap), .int ru, .int (nI tb), .ref b0])), (x0, .inr (5, [.ref k0, .ref w0, .int (nI nz), .int ch])), (k0, .inl (ck, L, .inl f)), (w0, .inl (cw, L, .inl g)), (b0, .inl (cb, tb, .inl bf))] s.heap.size = A at hZ hD ⊢
  have hA : ∀ q : Nat, s.heap.size ≤ q → A q := fun q h => by rw [← hAe]; exact Or.inr h
  have hS : va_S A s.heap s.heap [] := va_S.rf
  have hP : va_P (dC, dI) vwCl [(y0, .inr (3, [.ref x0, .int kd, .int wh, .int (nI cap), .int ru, .int (nI tb), .ref b0])), (x0, .inr (5, [.ref k0, .ref w0, .int (nI nz), .int ch])), (k0, .inl (ck, L, .inl f)), (w0, .inl (cw, L, .inl g)), (b0, .inl (cb, tb, .inl bf))] s.heap := hP
  have hl := lv_entry ([.ref y0, .int p0, .int p1]) (n := 3) (Nat.le_of_ble_eq_true rfl)
  rw [lg_entry_eq]
  generalize (lg_sl ([.ref y0, .int p0, .int p1]) ++ List.replicate (3 - (lg_sl ([.ref y0, .int p0, .int p1])).length) Slot.unset).toArray = ls at hl ⊢
  have hl : lv_has ls 3 [(0, .ref y0), (1, .int p0), (2, .int p1)] := hl
  have hw0_ := hts (.classLink RX3 38 "java/lang/IllegalStateException") (List.mem_of_getElem? (l := wsX3_come) (i := 3) rfl)
  have hw1_ := hts (.initialized "java/lang/IllegalStateException") (List.mem_of_getElem? (l := wsX3_come) (i := 4) rfl)
  have hw2_ := hts (.classLink RX3 28 "java/lang/IllegalArgumentException") (List.mem_of_getElem? (l := wsX3_come) (i := 1) rfl)
  have hw3_ := hts (.initialized "java/lang/IllegalArgumentException") (List.mem_of_getElem? (l := wsX3_come) (i := 2) rfl)
  have hR9 : rOK L nz := hH9.1
  have htb := hOK_tb hH9
  obtain ⟨hL1, hL2, hz1, hz2⟩ := id hR9
  refine lv_aload_n hx hb dX3_come_0 rfl (lv_at hl 0 rfl) ?_
  refine lv_iload_n hx hb dX3_come_1 rfl (lv_at hl 1 rfl) ?_
  have hPc := hP.sub (ws' := [(y0, .inr (3, [.ref x0, .int kd, .int wh, .int (nI cap), .int ru, .int (nI tb), .ref b0]))]) [0] rfl
  have hKc := hK.sub (tys' := []) [] rfl
  refine ro_calli (va_runU (As := [.int p0]) (rest := []) ⟨hx, hb, hml, hown, hts⟩ (c_X3_mayHold_H l  dC dI s.heap.size y0 (.ref x0) (.int kd) (.int wh) (.int (nI cap)) (.int ru) (.int (nI tb)) (.ref b0) p0) (va_cwU 1 hts gX3_come_X3_mayHold_u24X2 rfl rfl rfl rfl (by decide +kernel) ⟨(Nat.le_of_ble_eq_true rfl), (Nat.le_of_ble_eq_true rfl)⟩) ⟨pk_blindR, va_recv hKc hPc (ci := 3) (q0 := 0) rfl rfl, pk_callR hPc hKc⟩ rfl rfl hl.1 rfl (lv_room (Nat.le_of_ble_eq_true rfl)) dX3_come_2 ⟨(Nat.le_of_ble_eq_true rfl), (show 0 + 0 ≤ gs + ds + 6 by omega)⟩) (fun r_1 ur_1 hw => ?_)
  clear hPc hKc
  try dsimp only at hw
  have jr_1 := hw
  refine W.eq (g2 := F0 m 5 ls [.int r_1]) rfl ?_
  refine lv_if_ne (tgt := 18) hx hb dX3_come_5 (by decide) (fun c_2 => ?_) (fun c_2 => ?_)
  ·
    have ic_2 : ¬ r_1.toInt = 0 := tx_ne rfl (by decide) c_2
    refine lv_aload_n hx hb dX3_come_18 rfl (lv_at hl 0 rfl) ?_
    refine lv_iconst (v := 1) hx hb dX3_come_19 (by decide) ?_
    have hPc := hP.sub (ws' := [(y0, .inr (3, [.ref x0, .int kd, .int wh, .int (nI cap), .int ru, .int (nI tb), .ref b0])), (x0, .inr (5, [.ref k0, .ref w0, .int (nI nz), .int ch])), (k0, .inl (ck, L, .inl f)), (w0, .inl (cw, L, .inl g))]) [0, 1, 2, 3] rfl
    have hKc := hK.sub (tys' := [(ck, .int), (cw, .int)]) [0, 1] rfl
    refine ro_calli (va_runU (As := [.int 1]) (rest := []) ⟨hx, hb, hml, hown, hts⟩ (c_X3_hasRoomFor_H l  dC dI s.heap.size y0 (.int kd) (.int wh) (.int (nI cap)) (.int ru) (.int (nI tb)) (.ref b0) x0 k0 w0 ck cw L f g nz ch 1 hR9) (va_cwU 1 hts gX3_come_X3_hasRoomFor_u35X2 rfl rfl rfl rfl (by decide +kernel) ⟨(Nat.le_of_ble_eq_true rfl), (Nat.le_of_ble_eq_true rfl)⟩) ⟨pk_blindR, va_recv hKc hPc (ci := 3) (q0 := 0) rfl rfl, pk_callR hPc hKc⟩ rfl rfl hl.1 rfl (lv_room (Nat.le_of_ble_eq_true rfl)) dX3_come_20 ⟨(Nat.le_of_ble_eq_true rfl), (show 0 + 0 ≤ gs + ds + 6 by omega)⟩) (fun r_3 ur_3 hw => ?_)
    clear hPc hKc
    try dsimp only at hw
    have jr_3 := hw
    refine W.eq (g2 := F0 m 23 ls [.int r_3]) rfl ?_
    refine lv_if_ne (tgt := 36) hx hb dX3_come_23 (by decide) (fun c_4 => ?_) (fun c_4 => ?_)
    ·
      have ic_4 : ¬ r_3.toInt = 0 := tx_ne rfl (by decide) c_4
      refine lv_aload_n hx hb dX3_come_36 rfl (lv_at hl 0 rfl) ?_
      refine lv_iload_n hx hb dX3_come_37 rfl (lv_at hl 1 rfl) ?_
      refine lv_iload_n hx hb dX3_come_38 rfl (lv_at hl 2 rfl) ?_
      have hPc := hP.sub (ws' := [(y0, .inr (3, [.ref x0, .int kd, .int wh, .int (nI cap), .int ru, .int (nI tb), .ref b0])), (x0, .inr (5, [.ref k0, .ref w0, .int (nI nz), .int ch])), (k0, .inl (ck, L, .inl f)), (w0, .inl (cw, L, .inl g)), (b0, .inl (cb, tb, .inl bf))]) [0, 1, 2, 3, 4] rfl
      have hDc := hD.sub (ws' := [(y0, .inr (3, [.ref x0, .int kd, .int wh, .int (nI cap), .int ru, .int (nI tb), .ref b0])), (x0, .inr (5, [.ref k0, .ref w0, .int (nI nz), .int ch])), (k0, .inl (ck, L, .inl f)), (w0, .inl (cw, L, .inl g)), (b0, .inl (cb, tb, .inl bf))]) [0, 1, 2, 3, 4] (by decide) rfl
      have hKc := hK.sub (tys' := [(ck, .int), (cw, .int), (cb, .boolean)]) [0, 1, 2] rfl
      have hFc := va_free (wc := [(y0, .inr (3, [.ref x0, .int kd, .int wh, .int (nI cap), .int ru, .int (nI tb), .ref b0])), (x0, .inr (5, [.ref k0, .ref w0, .int (nI nz), .int ch])), (k0, .inl (ck, L, .inl f)), (w0, .inl (cw, L, .inl g)), (b0, .inl (cb, tb, .inl bf))]) hD hS hA [0, 1, 2, 3, 4] rfl
      refine va_callv (va_runU (As := [.int p0, .int p1]) (rest := []) ⟨hx, hb, hml, hown, hts⟩ (c_X2_enter l  dC dI s.heap.size (hT s.heap) y0 kd wh cap ru tb b0 cb bf x0 k0 w0 ck cw L f g nz ch p0 p1 gs ds hH9 hG9 hD9 hD8 hD7) (va_cwA 2 hts gX3_come_X2_enter_u43X2 rfl rfl rfl (hN.xw _ (List.mem_of_getElem? (l := p_xw) (i := 1) rfl)) (by decide +kernel) ⟨(Nat.le_of_ble_eq_true rfl), (Nat.le_of_ble_eq_true rfl)⟩) ⟨pk_blindT, va_recv hKc hPc (ci := 3) (q0 := 0) rfl rfl, pk_callT hPc hKc hDc⟩ rfl rfl hl.1 rfl (lv_room (Nat.le_of_ble_eq_true rfl)) dX3_come_39 ⟨(Nat.le_of_ble_eq_true rfl), (show 0 + (gs + ds) ≤ gs + ds + 6 by omega)⟩) hS (fun q _ h => hFc q h) hFc (fun ur_5 t H1 locs ht hvm hw hB hz1 hk1 hS => ?_)
      try dsimp only at hw
      have jr_5 := hw
      obtain ⟨hP1, hK1, hD1, hC1_⟩ := hB
      rw [ht] at hP1 hC1_
      have hK1 := va_K.moved hvm.symm hK1
      obtain ⟨hP, hD⟩ := va_join (wr := []) (w1 := [(y0, .inr (3, [.ref x0, .int kd, .int wh, .int (nI cap), .int ru, .int (nI (ur_5.1)), .ref ur_5.2.1])), (x0, .inr (5, [.ref ur_5.2.2.2.2.1, .ref ur_5.2.2.2.2.2.1, .int (nI (ur_5.2.2.2.2.2.2.2.2.2.2.2.1)), .int ur_5.2.2.2.2.2.2.2.2.2.2.2.2])), (ur_5.2.2.2.2.1, .inl (ur_5.2.2.2.2.2.2.1, ur_5.2.2.2.2.2.2.2.2.1, .inl ur_5.2.2.2.2.2.2.2.2.2.1)), (ur_5.2.2.2.2.2.1, .inl (ur_5.2.2.2.2.2.2.2.1, ur_5.2.2.2.2.2.2.2.2.1, .inl ur_5.2.2.2.2.2.2.2.2.2.2.1)), (ur_5.2.1, .inl (ur_5.2.2.1, ur_5.1, .inl ur_5.2.2.2.1))]) hP hD [0, 1, 2, 3, 4] [] rfl rfl (by decide) (by decide) hk1 hFc hP1 hD1
      have hK := hK.app hK1
      have hK : va_K (dC, dI) vwCl [(ck, .int), (cw, .int), (cb, .boolean), (ur_5.2.2.2.2.2.2.1, .int), (ur_5.2.2.2.2.2.2.2.1, .int), (ur_5.2.2.1, .boolean)] s := hK
      have hcs1_ : hT H1 + hPS tb L ≤ hT s.heap + hPS (ur_5.1) (ur_5.2.2.2.2.2.2.2.2.1) := hC1_.1
      have hcs2_ : H1.size + hPC tb L ≤ s.heap.size + hPC (ur_5.1) (ur_5.2.2.2.2.2.2.2.2.1) := hC1_.2
      clear hC1_
      clear hk1 hz1 ht hPc hDc hKc hFc
      generalize H1 = H at hP hS hcs1_ hcs2_ ⊢
      replace hP : va_P (dC, dI) vwCl [(y0, .inr (3, [.ref x0, .int kd, .int wh, .int (nI cap), .int ru, .int (nI (ur_5.1)), .ref ur_5.2.1])), (x0, .inr (5, [.ref ur_5.2.2.2.2.1, .ref ur_5.2.2.2.2.2.1, .int (nI (ur_5.2.2.2.2.2.2.2.2.2.2.2.1)), .int ur_5.2.2.2.2.2.2.2.2.2.2.2.2])), (ur_5.2.2.2.2.1, .inl (ur_5.2.2.2.2.2.2.1, ur_5.2.2.2.2.2.2.2.2.1, .inl ur_5.2.2.2.2.2.2.2.2.2.1)), (ur_5.2.2.2.2.2.1, .inl (ur_5.2.2.2.2.2.2.2.1, ur_5.2.2.2.2.2.2.2.2.1, .inl ur_5.2.2.2.2.2.2.2.2.2.2.1)), (ur_5.2.1, .inl (ur_5.2.2.1, ur_5.1, .inl ur_5.2.2.2.1))] H := hP
      replace hD : va_D A [(y0, .inr (3, [.ref x0, .int kd, .int wh, .int (nI cap), .int ru, .int (nI (ur_5.1)), .ref ur_5.2.1])), (x0, .inr (5, [.ref ur_5.2.2.2.2.1, .ref ur_5.2.2.2.2.2.1, .int (nI (ur_5.2.2.2.2.2.2.2.2.2.2.2.1)), .int ur_5.2.2.2.2.2.2.2.2.2.2.2.2])), (ur_5.2.2.2.2.1, .inl (ur_5.2.2.2.2.2.2.1, ur_5.2.2.2.2.2.2.2.2.1, .inl ur_5.2.2.2.2.2.2.2.2.2.1)), (ur_5.2.2.2.2.2.1, .inl (ur_5.2.2.2.2.2.2.2.1, ur_5.2.2.2.2.2.2.2.2.1, .inl ur_5.2.2.2.2.2.2.2.2.2.2.1)), (ur_5.2.1, .inl (ur_5.2.2.1, ur_5.1, .inl ur_5.2.2.2.1))] := hD
      refine W.widen (k := 8) (n := gs + ds) (by omega) (by omega) ?_
      refine W.eq (g2 := F0 m 42 ls []) rfl ?_
      refine W.book (fun hz9_ hn9_ => ?_)
      have hcost : hT H + hPS tb L ≤ hT s.heap + hPS (ur_5.1) (ur_5.2.2.2.2.2.2.2.2.1) ∧ H.size + hPC tb L ≤ s.heap.size + hPC (ur_5.1) (ur_5.2.2.2.2.2.2.2.2.1) := ⟨hcs1_, hcs2_⟩
      have hP9 := hP.sub (ws' := [(y0, .inr (3, [.ref x0, .int kd, .int wh, .int (nI cap), .int ru, .int (nI (ur_5.1)), .ref ur_5.2.1])), (x0, .inr (5, [.ref ur_5.2.2.2.2.1, .ref ur_5.2.2.2.2.2.1, .int (nI (ur_5.2.2.2.2.2.2.2.2.2.2.2.1)), .int ur_5.2.2.2.2.2.2.2.2.2.2.2.2])), (ur_5.2.2.2.2.1, .inl (ur_5.2.2.2.2.2.2.1, ur_5.2.2.2.2.2.2.2.2.1, .inl ur_5.2.2.2.2.2.2.2.2.2.1)), (ur_5.2.2.2.2.2.1, .inl (ur_5.2.2.2.2.2.2.2.1, ur_5.2.2.2.2.2.2.2.2.1, .inl ur_5.2.2.2.2.2.2.2.2.2.2.1)), (ur_5.2.1, .inl (ur_5.2.2.1, ur_5.1, .inl ur_5.2.2.2.1))]) [0, 1, 2, 3, 4] rfl
      have hD9 := hD.sub (ws' := [(y0, .inr (3, [.ref x0, .int kd, .int wh, .int (nI cap), .int ru, .int (nI (ur_5.1)), .ref ur_5.2.1])), (x0, .inr (5, [.ref ur_5.2.2.2.2.1, .ref ur_5.2.2.2.2.2.1, .int (nI (ur_5.2.2.2.2.2.2.2.2.2.2.2.1)), .int ur_5.2.2.2.2.2.2.2.2.2.2.2.2])), (ur_5.2.2.2.2.1, .inl (ur_5.2.2.2.2.2.2.1, ur_5.2.2.2.2.2.2.2.2.1, .inl ur_5.2.2.2.2.2.2.2.2.2.1)), (ur_5.2.2.2.2.2.1, .inl (ur_5.2.2.2.2.2.2.2.1, ur_5.2.2.2.2.2.2.2.2.1, .inl ur_5.2.2.2.2.2.2.2.2.2.2.1)), (ur_5.2.1, .inl (ur_5.2.2.1, ur_5.1, .inl ur_5.2.2.2.1))]) [0, 1, 2, 3, 4] (by decide) rfl
      have hK9 := hK.sub (tys' := [(ur_5.2.2.2.2.2.2.1, .int), (ur_5.2.2.2.2.2.2.2.1, .int), (ur_5.2.2.1, .boolean)]) [3, 4, 5] rfl
      refine W.widen (k := 9) (n := gs + ds + 6) (by omega) (by omega) ?_
      refine vx_ret ?_
      exact W.vret hx hb hr (fun t ht hW => ⟨⟨(ur_5.1, ur_5.2.1, ur_5.2.2.1, ur_5.2.2.2.1, ur_5.2.2.2.2.1, ur_5.2.2.2.2.2.1, ur_5.2.2.2.2.2.2.1, ur_5.2.2.2.2.2.2.2.1, ur_5.2.2.2.2.2.2.2.2.1, ur_5.2.2.2.2.2.2.2.2.2.1, ur_5.2.2.2.2.2.2.2.2.2.2.1, ur_5.2.2.2.2.2.2.2.2.2.2.2.1, ur_5.2.2.2.2.2.2.2.2.2.2.2.2), rfl, jr_5, by rw [ht]; exact hP9, va_K.moved hW.alike hK9, hD9, by rw [ht]; exact hcost⟩, hS.F ht⟩) hS.2.2 dX3_come_42
    ·
      have ic_4 : r_3.toInt = 0 := tx_eq rfl (by decide) c_4
      have hP9 := hP.sub (ws' := [(y0, .inr (3, [.ref x0, .int kd, .int wh, .int (nI cap), .int ru, .int (nI tb), .ref b0])), (x0, .inr (5, [.ref k0, .ref w0, .int (nI nz), .int ch])), (k0, .inl (ck, L, .inl f)), (w0, .inl (cw, L, .inl g)), (b0, .inl (cb, tb, .inl bf))]) [0, 1, 2, 3, 4] rfl
      have hD9 := hD.sub (ws' := [(y0, .inr (3, [.ref x0, .int kd, .int wh, .int (nI cap), .int ru, .int (nI tb), .ref b0])), (x0, .inr (5, [.ref k0, .ref w0, .int (nI nz), .int ch])), (k0, .inl (ck, L, .inl f)), (w0, .inl (cw, L, .inl g)), (b0, .inl (cb, tb, .inl bf))]) [0, 1, 2, 3, 4] (by decide) rfl
      have hK9 := hK.sub (tys' := [(ck, .int), (cw, .int), (cb, .boolean)]) [0, 1, 2] rfl
      refine vx_tightX (XC0 := vx_X (fun _ : Unit => True) (fun (E : String) (_ : Unit) (t : State) => (E = "java/lang/IllegalArgumentException" ∨ E = "java/lang/IllegalStateException") ∧ va_P (dC, dI) vwCl [(y0, .inr (3, [.ref x0, .int kd, .int wh, .int (nI cap), .int ru, .int (nI tb), .ref b0])), (x0, .inr (5, [.ref k0, .ref w0, .int (nI nz), .int ch])), (k0, .inl (ck, L, .inl f)), (w0, .inl (cw, L, .inl g)), (b0, .inl (cb, tb, .inl bf))] t.heap ∧ va_K (dC, dI) vwCl [(ck, .int), (cw, .int), (cb, .boolean)] t ∧ va_D A [(y0, .inr (3, [.ref x0, .int kd, .int wh, .int (nI cap), .int ru, .int (nI tb), .ref b0])), (x0, .inr (5, [.ref k0, .ref w0, .int (nI nz), .int ch])), (k0, .inl (ck, L, .inl f)), (w0, .inl (cw, L, .inl g)), (b0, .inl (cb, tb, .inl bf))]) A) 1 6 (by omega) (by omega) (fun E t9 h9 hz9 hn9 => by obtain ⟨u9, g1, g2, g3⟩ := h9; exact ⟨u9, g1, ⟨g2, hz9, hn9⟩, g3⟩) ?_
      obtain ⟨sa, hsa⟩ := hN.stX3_40
      exact vx_throwS hx hb hlt (own := RX3) (cls := "java/lang/IllegalStateException") (text := "full") (names := ["java/lang/RuntimeException", "java/lang/Exception"]) hown (by decide +kernel) (by decide +kernel) hw0_ hw1_ hsa (tx_hat hN.xw (fun w h => hts w (at_X3_come_26 w h)) ng_RX3_42) og_RX3_42 hZ.1 hZ.2 hS (by rw [hml]; exact hl.1) dX3_come_26 dX3_come_29 dX3_come_30 dX3_come_32 dX3_come_35 (fun x hx9 => (htab x hx9).elim) (Nat.le_of_ble_eq_true rfl) (Nat.le_of_ble_eq_true rfl) (Nat.le_of_ble_eq_true rfl) (show 0 + 6 ≤ gs + ds + 6 by omega) hlocks (fun t hvm hz hq => ⟨(), trivial, ⟨Or.inr rfl, hP9.kept (fun k x hx => hq x.1 (hP9 k x hx).lt), va_K.moved hvm hK9, hD9⟩, ⟨Nat.le_trans hS.1 hz, fun q h1 h2 => (hq q (Nat.lt_of_lt_of_le h1 hS.1)).trans (hS.2.1 q h1 h2)⟩⟩) hS.2.2 (Nat.le_of_ble_eq_true rfl) (Nat.le_of_ble_eq_true rfl)
  ·
    have ic_2 : r_1.toInt = 0 := tx_eq rfl (by decide) c_2
    have hP9 := hP.sub (ws' := [(y0, .inr (3, [.ref x0, .int kd, .int wh, .int (nI cap), .int ru, .int (nI tb), .ref b0])), (x0, .inr (5, [.ref k0, .ref w0, .int (nI nz), .int ch])), (k0, .inl (ck, L, .inl f)), (w0, .inl (cw, L, .inl g)), (b0, .inl (cb, tb, .inl bf))]) [0, 1, 2, 3, 4] rfl
    have hD9 := hD.sub (ws' := [(y0, .inr (3, [.ref x0, .int kd, .int wh, .int (nI cap), .int ru, .int (nI tb), .ref b0])), (x0, .inr (5, [.ref k0, .ref w0, .int (nI nz), .int ch])), (k0, .inl (ck, L, .inl f)), (w0, .inl (cw, L, .inl g)), (b0, .inl (cb, tb, .inl bf))]) [0, 1, 2, 3, 4] (by decide) rfl
    have hK9 := hK.sub (tys' := [(ck, .int), (cw, .int), (cb, .boolean)]) [0, 1, 2] rfl
    refine vx_tightX (XC0 := vx_X (fun _ : Unit => True) (fun (E : String) (_ : Unit) (t : State) => (E = "java/lang/IllegalArgumentException" ∨ E = "java/lang/IllegalStateException") ∧ va_P (dC, dI) vwCl [(y0, .inr (3, [.ref x0, .int kd, .int wh, .int (nI cap), .int ru, .int (nI tb), .ref b0])), (x0, .inr (5, [.ref k0, .ref w0, .int (nI nz), .int ch])), (k0, .inl (ck, L, .inl f)), (w0, .inl (cw, L, .inl g)), (b0, .inl (cb, tb, .inl bf))] t.heap ∧ va_K (dC, dI) vwCl [(ck, .int), (cw, .int), (cb, .boolean)] t ∧ va_D A [(y0, .inr (3, [.ref x0, .int kd, .int wh, .int (nI cap), .int ru, .int (nI tb), .ref b0])), (x0, .inr (5, [.ref k0, .ref w0, .int (nI nz), .int ch])), (k0, .inl (ck, L, .inl f)), (w0, .inl (cw, L, .inl g)), (b0, .inl (cb, tb, .inl bf))]) A) 1 6 (by omega) (by omega) (fun E t9 h9 hz9 hn9 => by obtain ⟨u9, g1, g2, g3⟩ := h9; exact ⟨u9, g1, ⟨g2, hz9, hn9⟩, g3⟩) ?_
    obtain ⟨sa, hsa⟩ := hN.stX3_30
    exact vx_throwS hx hb hlt (own := RX3) (cls := "java/lang/IllegalArgumentException") (text := "key is not of this part") (names := ["java/lang/RuntimeException", "java/lang/Exception"]) hown (by decide +kernel) (by decide +kernel) hw2_ hw3_ hsa (tx_hat hN.xw (fun w h => hts w (at_X3_come_8 w h)) ng_RX3_32) og_RX3_32 hZ.1 hZ.2 hS (by rw [hml]; exact hl.1) dX3_come_8 dX3_come_11 dX3_come_12 dX3_come_14 dX3_come_17 (fun x hx9 => (htab x hx9).elim) (Nat.le_of_ble_eq_true rfl) (Nat.le_of_ble_eq_true rfl) (Nat.le_of_ble_eq_true rfl) (show 0 + 6 ≤ gs + ds + 6 by omega) hlocks (fun t hvm hz hq => ⟨(), trivial, ⟨Or.inl rfl, hP9.kept (fun k x hx => hq x.1 (hP9 k x hx).lt), va_K.moved hvm hK9, hD9⟩, ⟨Nat.le_trans hS.1 hz, fun q h1 h2 => (hq q (Nat.lt_of_lt_of_le h1 hS.1)).trans (hS.2.1 q h1 h2)⟩⟩) hS.2.2 (Nat.le_of_ble_eq_true rfl) (Nat.le_of_ble_eq_true rfl)
