theorem dX3_leave_0 : decode cX3_leave 0 = .ok (.aload_n 0, 1) := by decide +kernel
theorem dX3_leave_1 : decode cX3_leave 1 = .ok (.getfield 9, 3) := by decide +kernel
theorem dX3_leave_4 : decode cX3_leave 4 = .ok (.iload_n 1, 1) := by decide +kernel
theorem dX3_leave_5 : decode cX3_leave 5 = .ok (.iload_n 1, 1) := by decide +kernel
theorem dX3_leave_6 : decode cX3_leave 6 = .ok (.iconst 1, 1) := by decide +kernel
theorem dX3_leave_7 : decode cX3_leave 7 = .ok (.iadd, 1) := by decide +kernel
set_option maxRecDepth 20000 in
theorem ggX3_leave_X5_remove : GoodIn wsX3_leave wsX5_remove := goodIn_r _ [6, 7, 8, 9, 10, 11, 12, 13, 14, 34, 35, 36, 37] rfl (by decide +kernel)
set_option maxRecDepth 20000 in
theorem gX3_leave_X5_remove : GoodIn wsX3_leave (wsV RX3 21 RX5 yX5_remove wsX5_remove) := goodIn_app (goodIn_of _ (by decide +kernel)) ggX3_leave_X5_remove
theorem dX3_leave_8 : decode cX3_leave 8 = .ok (.invokevirtual 21, 3) := by decide +kernel
theorem dX3_leave_11 : decode cX3_leave 11 = .ok (.return_, 1) := by decide +kernel
theorem dX3_leaveAll_0 : decode cX3_leaveAll 0 = .ok (.aload_n 0, 1) := by decide +kernel
theorem dX3_leaveAll_1 : decode cX3_leaveAll 1 = .ok (.getfield 9, 3) := by decide +kernel
theorem dX3_leaveAll_4 : decode cX3_leaveAll 4 = .ok (.iconst 0, 1) := by decide +kernel
theorem dX3_leaveAll_5 : decode cX3_leaveAll 5 = .ok (.aload_n 0, 1) := by decide +kernel
theorem dX3_leaveAll_6 : decode cX3_leaveAll 6 = .ok (.getfield 9, 3) := by decide +kernel
set_option maxRecDepth 20000 in
theorem ggX3_leaveAll_X5_size : GoodIn wsX3_leaveAll wsX5_size := goodIn_r _ [6, 7, 38, 39, 40, 41] rfl (by decide +kernel)
set_option maxRecDepth 20000 in
theorem gX3_leaveAll_X5_size : GoodIn wsX3_leaveAll (wsV RX3 15 RX5 yX5_size wsX5_size) := goodIn_app (goodIn_of _ (by decide +kernel)) ggX3_leaveAll_X5_size
theorem dX3_leaveAll_9 : decode cX3_leaveAll 9 = .ok (.invokevirtual 15, 3) := by decide +kernel
set_option maxRecDepth 20000 in
theorem ggX3_leaveAll_X5_remove : GoodIn wsX3_leaveAll wsX5_remove := goodIn_r _ [11, 7, 12, 13, 14, 15, 16, 17, 18, 38, 39, 40, 41] rfl (by decide +kernel)
set_option maxRecDepth 20000 in
theorem gX3_leaveAll_X5_remove : GoodIn wsX3_leaveAll (wsV RX3 21 RX5 yX5_remove wsX5_remove) := goodIn_app (goodIn_of _ (by decide +kernel)) ggX3_leaveAll_X5_remove
theorem dX3_leaveAll_12 : decode cX3_leaveAll 12 = .ok (.invokevirtual 21, 3) := by decide +kernel
theorem dX3_leaveAll_15 : decode cX3_leaveAll 15 = .ok (.return_, 1) := by decide +kernel
theorem dX3_size_0 : decode cX3_size 0 = .ok (.aload_n 0, 1) := by decide +kernel
theorem dX3_size_1 : decode cX3_size 1 = .ok (.getfield 9, 3) := by decide +kernel
set_option maxRecDepth 20000 in
theorem ggX3_size_X5_size : GoodIn wsX3_size wsX5_size := goodIn_r _ [6, 7, 27, 28, 29, 30] rfl (by decide +kernel)
set_option maxRecDepth 20000 in
theorem gX3_size_X5_size : GoodIn wsX3_size (wsV RX3 15 RX5 yX5_size wsX5_size) := goodIn_app (goodIn_of _ (by decide +kernel)) ggX3_size_X5_size
theorem dX3_size_4 : decode cX3_size 4 = .ok (.invokevirtual 15, 3) := by decide +kernel
theorem dX3_size_7 : decode cX3_size 7 = .ok (.ireturn, 1) := by decide +kernel
theorem dX3_hasRoomFor_0 : decode cX3_hasRoomFor 0 = .ok (.aload_n 0, 1) := by decide +kernel
theorem dX3_hasRoomFor_1 : decode cX3_hasRoomFor 1 = .ok (.getfield 9, 3) := by decide +kernel
set_option maxRecDepth 20000 in
theorem ggX3_hasRoomFor_X5_size : GoodIn wsX3_hasRoomFor wsX5_size := goodIn_r _ [6, 7, 27, 28, 29, 30] rfl (by decide +kernel)
set_option maxRecDepth 20000 in
theorem gX3_hasRoomFor_X5_size : GoodIn wsX3_hasRoomFor (wsV RX3 15 RX5 yX5_size wsX5_size) := goodIn_app (goodIn_of _ (by decide +kernel)) ggX3_hasRoomFor_X5_size
theorem dX3_hasRoomFor_4 : decode cX3_hasRoomFor 4 = .ok (.invokevirtual 15, 3) := by decide +kernel
theorem dX3_hasRoomFor_7 : decode cX3_hasRoomFor 7 = .ok (.iload_n 1, 1) := by decide +kernel
theorem dX3_hasRoomFor_8 : decode cX3_hasRoomFor 8 = .ok (.iadd, 1) := by decide +kernel
theorem dX3_hasRoomFor_9 : decode cX3_hasRoomFor 9 = .ok (.sipush 1000, 3) := by decide +kernel
theorem dX3_hasRoomFor_12 : decode cX3_hasRoomFor 12 = .ok (.if_icmp .gt 7, 3) := by decide +kernel
theorem dX3_hasRoomFor_19 : decode cX3_hasRoomFor 19 = .ok (.iconst 0, 1) := by decide +kernel
theorem dX3_hasRoomFor_20 : decode cX3_hasRoomFor 20 = .ok (.ireturn, 1) := by decide +kernel
theorem dX3_hasRoomFor_15 : decode cX3_hasRoomFor 15 = .ok (.iconst 1, 1) := by decide +kernel
theorem dX3_hasRoomFor_16 : decode cX3_hasRoomFor 16 = .ok (.goto 4, 3) := by decide +kernel
set_option maxHeartbeats 4000000 in
set_option maxRecDepth 100000 in
/-- Keyed.leave of H -/
theorem c_X3_leave_H (l : Launch) (dC : Nat → ClassId) (dI : Nat → Nat → Nat) (sz : Nat) (z0 : Nat) (v1 : Value) (v2 : Value) (v3 : Value) (v4 : Value) (v5 : Value) (v6 : Value) (x0 : Nat) (k0 : Nat) (w0 : Nat) (ck : ClassId) (cw : ClassId) (L : Nat) (f : Nat → Int32) (g : Nat → Int32) (nz : Nat) (ch : Int32) (p0 : Int32) (hR9 : rOK L nz) : Met l yX3_leave wsX3_leave ({ frames := 2, cells := 0, slots := 0, locals := 90 }) (va_Pc [.ref z0, .int p0] (pk_Pre (dC, dI) [(z0, .inr (3, [.ref x0, v1, v2, v3, v4, v5, v6])), (x0, .inr (5, [.ref k0, .ref w0, .int (nI nz), .int ch])), (k0, .inl (ck, L, .inl f)), (w0, .inl (cw, L, .inl g))] [(ck, .int), (cw, .int)] sz)) (va_Qv (fun (u : (Nat → Int32) × (Nat → Int32) × Nat × Int32) => u.2.2.1 ≤ nz) (fun (u : (Nat → Int32) × (Nat → Int32) × Nat × Int32) (t : State) => va_P (dC, dI) vwCl [(z0, .inr (3, [.ref x0, v1, v2, v3, v4, v5, v6])), (x0, .inr (5, [.ref k0, .ref w0, .int (nI (u.2.2.1)), .int u.2.2.2])), (k0, .inl (ck, L, .inl u.1)), (w0, .inl (cw, L, .inl u.2.1))] t.heap ∧ va_K (dC, dI) vwCl [(ck, .int), (cw, .int)] t ∧ va_D (va_A [(z0, .inr (3, [.ref x0, v1, v2, v3, v4, v5, v6])), (x0, .inr (5, [.ref k0, .ref w0, .int (nI nz), .int ch])), (k0, .inl (ck, L, .inl f)), (w0, .inl (cw, L, .inl g))] sz) [(z0, .inr (3, [.ref x0, v1, v2, v3, v4, v5, v6])), (x0, .inr (5, [.ref k0, .ref w0, .int (nI (u.2.2.1)), .int u.2.2.2])), (k0, .inl (ck, L, .inl u.1)), (w0, .inl (cw, L, .inl u.2.1))]) (va_A [(z0, .inr (3, [.ref x0, v1, v2, v3, v4, v5, v6])), (x0, .inr (5, [.ref k0, .ref w0, .int (nI nz), .int ch])), (k0, .inl (ck, L, .inl f)), (w0, .inl (cw, L, .inl g))] sz)) 0 0 (va_A [(z0, .inr (3, [.ref x0, v1, v2, v3, v4, v5, v6])), (x0, .inr (5, [.ref k0, .ref w0, .int (nI nz), .int ch])), (k0, .inl (ck, L, .inl f)), (w0, .inl (cw, L, .inl g))] sz) := by
  refine Met.ofW (cc := cX3_leave) (maxL := 2) (ret := none) (by decide) rfl ?_
  intro p e s m args below meth c s₁ B hml hv
  obtain ⟨rfl, hsz, hP, hK, hD0⟩ := hv
  have hx := B.exec
  have hb := B.bytes
  have hr := B.returns
  have hts := atoms_spec (ws := wsX3_leave) B.pre
  have hown : s.vm.findClass RX3 = some m.cls := findClass_of_methodNamed B.named
  have hlocks := B.notSynchronized
  subst hsz
  have hD := hD0.self (sz := s.heap.size)
  generalize hAe : va_A [(z0, .inr (3, [.ref x0, v1, v2, v3, v4, v5, v6])), (x0, .inr (5, [.ref k0, .ref w0, .int (nI nz), .int ch])), (k0, .inl (ck, L, .inl f)), (w0, .inl (cw, L, .inl g))] s.heap.size = A at hD ⊢
  have hA : ∀ q : Nat, s.heap.size ≤ q → A q := fun q h => by rw [← hAe]; exact Or.inr h
  have hS : va_S A s.heap s.heap [] := va_S.rf
  have hP : va_P (dC, dI) vwCl [(z0, .inr (3, [.ref x0, v1, v2, v3, v4, v5, v6])), (x0, .inr (5, [.ref k0, .ref w0, .int (nI nz), .int ch])), (k0, .inl (ck, L, .inl f)), (w0, .inl (cw, L, .inl g))] s.heap := hP
  have hl := lv_entry ([.ref z0, .int p0]) (n := 2) (Nat.le_of_ble_eq_true rfl)
  rw [lg_entry_eq]
  generalize (lg_sl ([.ref z0, .int p0]) ++ List.replicate (2 - (lg_sl ([.ref z0, .int p0])).length) Slot.unset).toArray = ls at hl ⊢
  have hl : lv_has ls 2 [(0, .ref z0), (1, .int p0)] := hl
  have hw0_ := hts (.fieldLink RX3 9 "KeyAtlas$Keyed" "rows" "LKeyAtlas$Rows;") (List.mem_of_getElem? (l := wsX3_leave) (i := 1) rfl)
  have hi0_ : ∀ w ∈ u_ws RX2 TX2 7, w ∈ wsX3_leave := fun w h => List.mem_cons_of_mem _ (List.mem_append_left _ (List.mem_append_left _ (List.mem_append_left _ (List.mem_append_right _ h))))
  refine lv_aload_n hx hb dX3_leave_0 rfl (lv_at hl 0 rfl) ?_
  refine va_get (D := (dC, dI)) (ci := 3) (v := .ref x0) (C := RX2) (T := TX2) (N := 7) hx hb hts hi0_ hown hK hP 0 rfl rfl 0 (by decide) hw0_ (fun _ h9 => h9) rfl dX3_leave_1 ?_
  refine lv_iload_n hx hb dX3_leave_4 rfl (lv_at hl 1 rfl) ?_
  refine lv_iload_n hx hb dX3_leave_5 rfl (lv_at hl 1 rfl) ?_
  refine lv_iconst (v := 1) hx hb dX3_leave_6 (by decide) ?_
  refine lv_iadd hx hb dX3_leave_7 ?_
  have hPc := hP.sub (ws' := [(x0, .inr (5, [.ref k0, .ref w0, .int (nI nz), .int ch])), (k0, .inl (ck, L, .inl f)), (w0, .inl (cw, L, .inl g))]) [1, 2, 3] rfl
  have hDc := hD.sub (ws' := [(x0, .inr (5, [.ref k0, .ref w0, .int (nI nz), .int ch])), (k0, .inl (ck, L, .inl f)), (w0, .inl (cw, L, .inl g))]) [1, 2, 3] (by decide) rfl
  have hKc := hK.sub (tys' := [(ck, .int), (cw, .int)]) [0, 1] rfl
  have hFc := va_free (wc := [(x0, .inr (5, [.ref k0, .ref w0, .int (nI nz), .int ch])), (k0, .inl (ck, L, .inl f)), (w0, .inl (cw, L, .inl g))]) hD hS hA [1, 2, 3] rfl
  refine va_callv (va_runV (As := [.int p0, .int (p0 + 1)]) (rest := []) ⟨hx, hb, hml, hown, hts⟩ (c_X5_remove l  dC dI s.heap.size x0 k0 w0 ck cw L f g nz ch p0 (p0 + 1) hR9) (cwV 2 hts gX3_leave_X5_remove rfl rfl rfl (by decide +kernel) ⟨(Nat.le_of_ble_eq_true rfl), (Nat.le_of_ble_eq_true rfl)⟩) ⟨pk_blind, va_recv hKc hPc (ci := 5) (q0 := 0) rfl rfl, pk_call hPc hKc hDc⟩ rfl rfl hl.1 rfl (lv_room (Nat.le_of_ble_eq_true rfl)) dX3_leave_8 ⟨(Nat.le_of_ble_eq_true rfl), (Nat.le_of_ble_eq_true rfl)⟩) hS (fun q _ h => hFc q h) hFc (fun ur_1 t H1 locs ht hvm hw hB hz1 hk1 hS => ?_)
  try dsimp only at hw
  have jr_1 := hw
  obtain ⟨hP1, hK1, hD1⟩ := hB
  rw [ht] at hP1
  have hK1 := va_K.moved hvm.symm hK1
  obtain ⟨hP, hD⟩ := va_join (wr := [(z0, .inr (3, [.ref x0, v1, v2, v3, v4, v5, v6]))]) (w1 := [(x0, .inr (5, [.ref k0, .ref w0, .int (nI (ur_1.2.2.1)), .int ur_1.2.2.2])), (k0, .inl (ck, L, .inl ur_1.1)), (w0, .inl (cw, L, .inl ur_1.2.1))]) hP hD [1, 2, 3] [0] rfl rfl (by decide) (by decide) hk1 hFc hP1 hD1
  clear hk1 hz1 ht hPc hDc hKc hFc
  generalize H1 = H at hP hS ⊢
  replace hP : va_P (dC, dI) vwCl [(z0, .inr (3, [.ref x0, v1, v2, v3, v4, v5, v6])), (x0, .inr (5, [.ref k0, .ref w0, .int (nI (ur_1.2.2.1)), .int ur_1.2.2.2])), (k0, .inl (ck, L, .inl ur_1.1)), (w0, .inl (cw, L, .inl ur_1.2.1))] H := hP
  replace hD : va_D A [(z0, .inr (3, [.ref x0, v1, v2, v3, v4, v5, v6])), (x0, .inr (5, [.ref k0, .ref w0, .int (nI (ur_1.2.2.1)), .int ur_1.2.2.2])), (k0, .inl (ck, L, .inl ur_1.1)), (w0, .inl (cw, L, .inl ur_1.2.1))] := hD
  refine W.widen (k := 0) (n := 0) (Nat.le_of_ble_eq_true rfl) (Nat.le_of_ble_eq_true rfl) ?_
  refine W.eq (g2 := F0 m 11 ls []) rfl ?_
  have hP9 := hP.sub (ws' := [(z0, .inr (3, [.ref x0, v1, v2, v3, v4, v5, v6])), (x0, .inr (5, [.ref k0, .ref w0, .int (nI (ur_1.2.2.1)), .int ur_1.2.2.2])), (k0, .inl (ck, L, .inl ur_1.1)), (w0, .inl (cw, L, .inl ur_1.2.1))]) [0, 1, 2, 3] rfl
  have hD9 := hD.sub (ws' := [(z0, .inr (3, [.ref x0, v1, v2, v3, v4, v5, v6])), (x0, .inr (5, [.ref k0, .ref w0, .int (nI (ur_1.2.2.1)), .int ur_1.2.2.2])), (k0, .inl (ck, L, .inl ur_1.1)), (w0, .inl (cw, L, .inl ur_1.2.1))]) [0, 1, 2, 3] (by decide) rfl
  have hK9 := hK.sub (tys' := [(ck, .int), (cw, .int)]) [0, 1] rfl
  refine W.widen (k := 0) (n := 0) (Nat.le_of_ble_eq_true rfl) (Nat.le_of_ble_eq_true rfl) ?_
  exact W.vret hx hb hr (fun t ht hW => ⟨⟨(ur_1.1, ur_1.2.1, ur_1.2.2.1, ur_1.2.2.2), rfl, jr_1, by rw [ht]; exact hP9, va_K.moved hW.alike hK9, hD9⟩, hS.F ht⟩) hS.2.2 dX3_leave_11
set_option maxHeartbeats 4000000 in
set_option maxRecDepth 100000 in
/-- Keyed.leaveAll of H -/
theorem c_X3_leaveAll_H (l : Launch) (dC : Nat → ClassId) (dI : Nat → Nat → Nat) (sz : Nat) (z0 : Nat) (v1 : Value) (v2 : Value) (v3 : Value) (v4 : Value) (v5 : Value) (v6 : Value) (x0 : Nat) (k0 : Nat) (w0 : Nat) (ck : ClassId) (cw : ClassId) (L : Nat) (f : Nat → Int32) (g : Nat → Int32) (nz : Nat) (ch : Int32) (hR9 : rOK L nz) : Met l yX3_leaveAll wsX3_leaveAll ({ frames := 2, cells := 0, slots := 0, locals := 90 }) (va_Pc [.ref z0] (pk_Pre (dC, dI) [(z0, .inr (3, [.ref x0, v1, v2, v3, v4, v5, v6])), (x0, .inr (5, [.ref k0, .ref w0, .int (nI nz), .int ch])), (k0, .inl (ck, L, .inl f)), (w0, .inl (cw, L, .inl g))] [(ck, .int), (cw, .int)] sz)) (va_Qv (fun (u : (Nat → Int32) × (Nat → Int32) × Nat × Int32) => u.2.2.1 ≤ nz) (fun (u : (Nat → Int32) × (Nat → Int32) × Nat × Int32) (t : State) => va_P (dC, dI) vwCl [(z0, .inr (3, [.ref x0, v1, v2, v3, v4, v5, v6])), (x0, .inr (5, [.ref k0, .ref w0, .int (nI (u.2.2.1)), .int u.2.2.2])), (k0, .inl (ck, L, .inl u.1)), (w0, .inl (cw, L, .inl u.2.1))] t.heap ∧ va_K (dC, dI) vwCl [(ck, .int), (cw, .int)] t ∧ va_D (va_A [(z0, .inr (3, [.ref x0, v1, v2, v3, v4, v5, v6])), (x0, .inr (5, [.ref k0, .ref w0, .int (nI nz), .int ch])), (k0, .inl (ck, L, .inl f)), (w0, .inl (cw, L, .inl g))] sz) [(z0, .inr (3, [.ref x0, v1, v2, v3, v4, v5, v6])), (x0, .inr (5, [.ref k0, .ref w0, .int (nI (u.2.2.1)), .int u.2.2.2])), (k0, .inl (ck, L, .inl u.1)), (w0, .inl (cw, L, .inl u.2.1))]) (va_A [(z0, .inr (3, [.ref x0, v1, v2, v3, v4, v5, v6])), (x0, .inr (5, [.ref k0, .ref w0, .int (nI nz), .int ch])), (k0, .inl (ck, L, .inl f)), (w0, .inl (cw, L, .inl g))] sz)) 0 0 (va_A [(z0, .inr (3, [.ref x0, v1, v2, v3, v4, v5, v6])), (x0, .inr (5, [.ref k0, .ref w0, .int (nI nz), .int ch])), (k0, .inl (ck, L, .inl f)), (w0, .inl (cw, L, .inl g))] sz) := by
  refine Met.ofW (cc := cX3_leaveAll) (maxL := 1) (ret := none) (by decide) rfl ?_
  intro p e s m args below meth c s₁ B hml hv
  obtain ⟨rfl, hsz, hP, hK, hD0⟩ := hv
  have hx := B.exec
  have hb := B.bytes
  have hr := B.returns
  have hts := atoms_spec (ws := wsX3_leaveAll) B.pre
  have hown : s.vm.findClass RX3 = some m.cls := findClass_of_methodNamed B.named
  have hlocks := B.notSynchronized
  subst hsz
  have hD := hD0.self (sz := s.heap.size)
  generalize hAe : va_A [(z0, .inr (3, [.ref x0, v1, v2, v3, v4, v5, v6])), (x0, .inr (5, [.ref k0, .ref w0, .int (nI nz), .int ch])), (k0, .inl (ck, L, .inl f)), (w0, .inl (cw, L, .inl g))] s.heap.size = A at hD ⊢
  have hA : ∀ q : Nat, s.heap.size ≤ q → A q := fun q h => by rw [← hAe]; exact Or.inr h
  have hS : va_S A s.heap s.heap [] := va_S.rf
  have hP : va_P (dC, dI) vwCl [(z0, .inr (3, [.ref x0, v1, v2, v3, v4, v5, v6])), (x0, .inr (5, [.ref k0, .ref w0, .int (nI nz), .int ch])), (k0, .inl (ck, L, .inl f)), (w0, .inl (cw, L, .inl g))] s.heap := hP
  have hl := lv_entry ([.ref z0]) (n := 1) (Nat.le_of_ble_eq_true rfl)
  rw [lg_entry_eq]
  generalize (lg_sl ([.ref z0]) ++ List.replicate (1 - (lg_sl ([.ref z0])).length) Slot.unset).toArray = ls at hl ⊢
  have hl : lv_has ls 1 [(0, .ref z0)] := hl
  have hw0_ := hts (.fieldLink RX3 9 "KeyAtlas$Keyed" "rows" "LKeyAtlas$Rows;") (List.mem_of_getElem? (l := wsX3_leaveAll) (i := 1) rfl)
  have hi0_ : ∀ w ∈ u_ws RX2 TX2 7, w ∈ wsX3_leaveAll := fun w h => List.mem_cons_of_mem _ (List.mem_append_left _ (List.mem_append_left _ (List.mem_append_left _ (List.mem_append_right _ h))))
  refine lv_aload_n hx hb dX3_leaveAll_0 rfl (lv_at hl 0 rfl) ?_
  refine va_get (D := (dC, dI)) (ci := 3) (v := .ref x0) (C := RX2) (T := TX2) (N := 7) hx hb hts hi0_ hown hK hP 0 rfl rfl 0 (by decide) hw0_ (fun _ h9 => h9) rfl dX3_leaveAll_1 ?_
  refine lv_iconst (v := 0) hx hb dX3_leaveAll_4 (by decide) ?_
  refine lv_aload_n hx hb dX3_leaveAll_5 rfl (lv_at hl 0 rfl) ?_
  refine va_get (D := (dC, dI)) (ci := 3) (v := .ref x0) (C := RX2) (T := TX2) (N := 7) hx hb hts hi0_ hown hK hP 0 rfl rfl 0 (by decide) hw0_ (fun _ h9 => h9) rfl dX3_leaveAll_6 ?_
  have hPc := hP.sub (ws' := [(x0, .inr (5, [.ref k0, .ref w0, .int (nI nz), .int ch]))]) [1] rfl
  have hKc := hK.sub (tys' := []) [] rfl
  refine ro_calli (va_runV (As := []) (rest := [.int 0, .ref x0]) ⟨hx, hb, hml, hown, hts⟩ (c_X5_size l  dC dI s.heap.size x0 (nI nz) (.ref k0) (.ref w0) (.int ch)) (cwV 0 hts gX3_leaveAll_X5_size rfl rfl rfl (by decide +kernel) ⟨(Nat.le_of_ble_eq_true rfl), (Nat.le_of_ble_eq_true rfl)⟩) ⟨pk_blindR, va_recv hKc hPc (ci := 5) (q0 := 0) rfl rfl, pk_callR hPc hKc⟩ rfl rfl hl.1 rfl (lv_room (Nat.le_of_ble_eq_true rfl)) dX3_leaveAll_9 ⟨(Nat.le_of_ble_eq_true rfl), (Nat.le_of_ble_eq_true rfl)⟩) (fun r_1 ur_1 hw => ?_)
  clear hPc hKc
  try dsimp only at hw
  obtain rfl : r_1 = nI nz := hw
  refine W.eq (g2 := F0 m 12 ls [.int (nI nz), .int 0, .ref x0]) rfl ?_
  have hPc := hP.sub (ws' := [(x0, .inr (5, [.ref k0, .ref w0, .int (nI nz), .int ch])), (k0, .inl (ck, L, .inl f)), (w0, .inl (cw, L, .inl g))]) [1, 2, 3] rfl
  have hDc := hD.sub (ws' := [(x0, .inr (5, [.ref k0, .ref w0, .int (nI nz), .int ch])), (k0, .inl (ck, L, .inl f)), (w0, .inl (cw, L, .inl g))]) [1, 2, 3] (by decide) rfl
  have hKc := hK.sub (tys' := [(ck, .int), (cw, .int)]) [0, 1] rfl
  have hFc := va_free (wc := [(x0, .inr (5, [.ref k0, .ref w0, .int (nI nz), .int ch])), (k0, .inl (ck, L, .inl f)), (w0, .inl (cw, L, .inl g))]) hD hS hA [1, 2, 3] rfl
  refine va_callv (va_runV (As := [.int 0, .int (nI nz)]) (rest := []) ⟨hx, hb, hml, hown, hts⟩ (c_X5_remove l  dC dI s.heap.size x0 k0 w0 ck cw L f g nz ch 0 (nI nz) hR9) (cwV 2 hts gX3_leaveAll_X5_remove rfl rfl rfl (by decide +kernel) ⟨(Nat.le_of_ble_eq_true rfl), (Nat.le_of_ble_eq_true rfl)⟩) ⟨pk_blind, va_recv hKc hPc (ci := 5) (q0 := 0) rfl rfl, pk_call hPc hKc hDc⟩ rfl rfl hl.1 rfl (lv_room (Nat.le_of_ble_eq_true rfl)) dX3_leaveAll_12 ⟨(Nat.le_of_ble_eq_true rfl), (Nat.le_of_ble_eq_true rfl)⟩) hS (fun q _ h => hFc q h) hFc (fun ur_2 t H1 locs ht hvm hw hB hz1 hk1 hS => ?_)
  try dsimp only at hw
  have jr_2 := hw
  obtain ⟨hP1, hK1, hD1⟩ := hB
  rw [ht] at hP1
  have hK1 := va_K.moved hvm.symm hK1
  obtain ⟨hP, hD⟩ := va_join (wr := [(z0, .inr (3, [.ref x0, v1, v2, v3, v4, v5, v6]))]) (w1 := [(x0, .inr (5, [.ref k0, .ref w0, .int (nI (ur_2.2.2.1)), .int ur_2.2.2.2])), (k0, .inl (ck, L, .inl ur_2.1)), (w0, .inl (cw, L, .inl ur_2.2.1))]) hP hD [1, 2, 3] [0] rfl rfl (by decide) (by decide) hk1 hFc hP1 hD1
  clear hk1 hz1 ht hPc hDc hKc hFc
  generalize H1 = H at hP hS ⊢
  replace hP : va_P (dC, dI) vwCl [(z0, .inr (3, [.ref x0, v1, v2, v3, v4, v5, v6])), (x0, .inr (5, [.ref k0, .ref w0, .int (nI (ur_2.2.2.1)), .int ur_2.2.2.2])), (k0, .inl (ck, L, .inl ur_2.1)), (w0, .inl (cw, L, .inl ur_2.2.1))] H := hP
  replace hD : va_D A [(z0, .inr (3, [.ref x0, v1, v2, v3, v4, v5, v6])), (x0, .inr (5, [.ref k0, .ref w0, .int (nI (ur_2.2.2.1)), .int ur_2.2.2.2])), (k0, .inl (ck, L, .inl ur_2.1)), (w0, .inl (cw, L, .inl ur_2.2.1))] := hD
  refine W.widen (k := 0) (n := 0) (Nat.le_of_ble_eq_true rfl) (Nat.le_of_ble_eq_true rfl) ?_
  refine W.eq (g2 := F0 m 15 ls []) rfl ?_
  have hP9 := hP.sub (ws' := [(z0, .inr (3, [.ref x0, v1, v2, v3, v4, v5, v6])), (x0, .inr (5, [.ref k0, .ref w0, .int (nI (ur_2.2.2.1)), .int ur_2.2.2.2])), (k0, .inl (ck, L, .inl ur_2.1)), (w0, .inl (cw, L, .inl ur_2.2.1))]) [0, 1, 2, 3] rfl
  have hD9 := hD.sub (ws' := [(z0, .inr (3, [.ref x0, v1, v2, v3, v4, v5, v6])), (x0, .inr (5, [.ref k0, .ref w0, .int (nI (ur_2.2.2.1)), .int ur_2.2.2.2])), (k0, .inl (ck, L, .inl ur_2.1)), (w0, .inl (cw, L, .inl ur_2.2.1))]) [0, 1, 2, 3] (by decide) rfl
  have hK9 := hK.sub (tys' := [(ck, .int), (cw, .int)]) [0, 1] rfl
  refine W.widen (k := 0) (n := 0) (Nat.le_of_ble_eq_true rfl) (Nat.le_of_ble_eq_true rfl) ?_
  exact W.vret hx hb hr (fun t ht hW => ⟨⟨(ur_2.1, ur_2.2.1, ur_2.2.2.1, ur_2.2.2.2), rfl, jr_2, by rw [ht]; exact hP9, va_K.moved hW.alike hK9, hD9⟩, hS.F ht⟩) hS.2.2 dX3_leaveAll_15
set_option maxHeartbeats 4000000 in
set_option maxRecDepth 100000 in
/-- Keyed.size of H -/
theorem c_X3_size_H (l : Launch) (dC : Nat → ClassId) (dI : Nat → Nat → Nat) (sz : Nat) (z0 : Nat) (v1 : Value) (v2 : Value) (v3 : Value) (v4 : Value) (v5 : Value) (v6 : Value) (x0 : Nat) (k0 : Nat) (w0 : Nat) (ck : ClassId) (cw : ClassId) (L : Nat) (f : Nat → Int32) (g : Nat → Int32) (nz : Nat) (ch : Int32) (hR9 : rOK L nz) : Met l yX3_size wsX3_size ({ frames := 1, cells := 0, slots := 0, locals := 40 }) (va_Pc [.ref z0] (pk_PreR (dC, dI) [(z0, .inr (3, [.ref x0, v1, v2, v3, v4, v5, v6])), (x0, .inr (5, [.ref k0, .ref w0, .int (nI nz), .int ch])), (k0, .inl (ck, L, .inl f)), (w0, .inl (cw, L, .inl g))] [(ck, .int), (cw, .int)] sz)) (va_Qi (fun (x : Int32) (u : Unit) => x = nI nz) (fun _ (t : State) => t.heap.size = sz) ro_A) 0 0 ro_A := by
  refine Met.ofW (cc := cX3_size) (maxL := 1) (ret := (some .int)) (by decide) rfl ?_
  intro p e s m args below meth c s₁ B hml hv
  obtain ⟨rfl, hsz, hP, hK⟩ := hv
  have hx := B.exec
  have hb := B.bytes
  have hr := B.returns
  have hts := atoms_spec (ws := wsX3_size) B.pre
  have hown : s.vm.findClass RX3 = some m.cls := findClass_of_methodNamed B.named
  have hlocks := B.notSynchronized
  subst hsz
  have hS : va_S ro_A s.heap s.heap [] := va_S.rf
  have hP : va_P (dC, dI) vwCl [(z0, .inr (3, [.ref x0, v1, v2, v3, v4, v5, v6])), (x0, .inr (5, [.ref k0, .ref w0, .int (nI nz), .int ch])), (k0, .inl (ck, L, .inl f)), (w0, .inl (cw, L, .inl g))] s.heap := hP
  have hl := lv_entry ([.ref z0]) (n := 1) (Nat.le_of_ble_eq_true rfl)
  rw [lg_entry_eq]
  generalize (lg_sl ([.ref z0]) ++ List.replicate (1 - (lg_sl ([.ref z0])).length) Slot.unset).toArray = ls at hl ⊢
  have hl : lv_has ls 1 [(0, .ref z0)] := hl
  have hw0_ := hts (.fieldLink RX3 9 "KeyAtlas$Keyed" "rows" "LKeyAtlas$Rows;") (List.mem_of_getElem? (l := wsX3_size) (i := 1) rfl)
  have hi0_ : ∀ w ∈ u_ws RX2 TX2 7, w ∈ wsX3_size := fun w h => List.mem_cons_of_mem _ (List.mem_append_left _ (List.mem_append_left _ (List.mem_append_left _ (List.mem_append_right _ h))))
  refine lv_aload_n hx hb dX3_size_0 rfl (lv_at hl 0 rfl) ?_
  refine va_get (D := (dC, dI)) (ci := 3) (v := .ref x0) (C := RX2) (T := TX2) (N := 7) hx hb hts hi0_ hown hK hP 0 rfl rfl 0 (by decide) hw0_ (fun _ h9 => h9) rfl dX3_size_1 ?_
  have hPc := hP.sub (ws' := [(x0, .inr (5, [.ref k0, .ref w0, .int (nI nz), .int ch]))]) [1] rfl
  have hKc := hK.sub (tys' := []) [] rfl
  refine ro_calli (va_runV (As := []) (rest := []) ⟨hx, hb, hml, hown, hts⟩ (c_X5_size l  dC dI s.heap.size x0 (nI nz) (.ref k0) (.ref w0) (.int ch)) (cwV 0 hts gX3_size_X5_size rfl rfl rfl (by decide +kernel) ⟨(Nat.le_of_ble_eq_true rfl), (Nat.le_of_ble_eq_true rfl)⟩) ⟨pk_blindR, va_recv hKc hPc (ci := 5) (q0 := 0) rfl rfl, pk_callR hPc hKc⟩ rfl rfl hl.1 rfl (lv_room (Nat.le_of_ble_eq_true rfl)) dX3_size_4 ⟨(Nat.le_of_ble_eq_true rfl), (Nat.le_of_ble_eq_true rfl)⟩) (fun r_1 ur_1 hw => ?_)
  clear hPc hKc
  try dsimp only at hw
  obtain rfl : r_1 = nI nz := hw
  refine W.eq (g2 := F0 m 7 ls [.int (nI nz)]) rfl ?_
  refine W.widen (k := 0) (n := 0) (Nat.le_of_ble_eq_true rfl) (Nat.le_of_ble_eq_true rfl) ?_
  exact W.iret (v := nI nz) hx hb hr (fun t ht hW => ⟨⟨nI nz, (), rfl, rfl, congrArg Array.size ht⟩, hS.F ht⟩) hS.2.2 dX3_size_7
set_option maxHeartbeats 4000000 in
set_option maxRecDepth 100000 in
/-- Keyed.hasRoomFor of H -/
theorem c_X3_hasRoomFor_H (l : Launch) (dC : Nat → ClassId) (dI : Nat → Nat → Nat) (sz : Nat) (z0 : Nat) (v1 : Value) (v2 : Value) (v3 : Value) (v4 : Value) (v5 : Value) (v6 : Value) (x0 : Nat) (k0 : Nat) (w0 : Nat) (ck : ClassId) (cw : ClassId) (L : Nat) (f : Nat → Int32) (g : Nat → Int32) (nz : Nat) (ch : Int32) (p0 : Int32) (hR9 : rOK L nz) : Met l yX3_hasRoomFor wsX3_hasRoomFor ({ frames := 1, cells := 0, slots := 0, locals := 40 }) (va_Pc [.ref z0, .int p0] (pk_PreR (dC, dI) [(z0, .inr (3, [.ref x0, v1, v2, v3, v4, v5, v6])), (x0, .inr (5, [.ref k0, .ref w0, .int (nI nz), .int ch])), (k0, .inl (ck, L, .inl f)), (w0, .inl (cw, L, .inl g))] [(ck, .int), (cw, .int)] sz)) (va_Qi (fun (x : Int32) (u : Unit) => x = 0 ∨ x = 1) (fun _ (t : State) => t.heap.size = sz) ro_A) 0 0 ro_A := by
  refine Met.ofW (cc := cX3_hasRoomFor) (maxL := 2) (ret := (some .boolean)) (by decide) rfl ?_
  intro p e s m args below meth c s₁ B hml hv
  obtain ⟨rfl, hsz, hP, hK⟩ := hv
  have hx := B.exec
  have hb := B.bytes
  have hr := B.returns
  have hts := atoms_spec (ws := wsX3_hasRoomFor) B.pre
  have hown : s.vm.findClass RX3 = some m.cls := findClass_of_methodNamed B.named
  have hlocks := B.notSynchronized
  subst hsz
  have hS : va_S ro_A s.heap s.heap [] := va_S.rf
  have hP : va_P (dC, dI) vwCl [(z0, .inr (3, [.ref x0, v1, v2, v3, v4, v5, v6])), (x0, .inr (5, [.ref k0, .ref w0, .int (nI nz), .int ch])), (k0, .inl (ck, L, .inl f)), (w0, .inl (cw, L, .inl g))] s.heap := hP
  have hl := lv_entry ([.ref z0, .int p0]) (n := 2) (Nat.le_of_ble_eq_true rfl)
  rw [lg_entry_eq]
  generalize (lg_sl ([.ref z0, .int p0]) ++ List.replicate (2 - (lg_sl ([.ref z0, .int p0])).length) Slot.unset).toArray = ls at hl ⊢
  have hl : lv_has ls 2 [(0, .ref z0), (1, .int p0)] := hl
  have hw0_ := hts (.fieldLink RX3 9 "KeyAtlas$Keyed" "rows" "LKeyAtlas$Rows;") (List.mem_of_getElem? (l := wsX3_hasRoomFor) (i := 1) rfl)
  have hi0_ : ∀ w ∈ u_ws RX2 TX2 7, w ∈ wsX3_hasRoomFor := fun w h => List.mem_cons_of_mem _ (List.mem_append_left _ (List.mem_append_left _ (List.mem_append_left _ (List.mem_append_right _ h))))
  refine lv_aload_n hx hb dX3_hasRoomFor_0 rfl (lv_at hl 0 rfl) ?_
  refine va_get (D := (dC, dI)) (ci := 3) (v := .ref x0) (C := RX2) (T := TX2) (N := 7) hx hb hts hi0_ hown hK hP 0 rfl rfl 0 (by decide) hw0_ (fun _ h9 => h9) rfl dX3_hasRoomFor_1 ?_
  have hPc := hP.sub (ws' := [(x0, .inr (5, [.ref k0, .ref w0, .int (nI nz), .int ch]))]) [1] rfl
  have hKc := hK.sub (tys' := []) [] rfl
  refine ro_calli (va_runV (As := []) (rest := []) ⟨hx, hb, hml, hown, hts⟩ (c_X5_size l  dC dI s.heap.size x0 (nI nz) (.ref k0) (.ref w0) (.int ch)) (cwV 0 hts gX3_hasRoomFor_X5_size rfl rfl rfl (by decide +kernel) ⟨(Nat.le_of_ble_eq_true rfl), (Nat.le_of_ble_eq_true rfl)⟩) ⟨pk_blindR, va_recv hKc hPc (ci := 5) (q0 := 0) rfl rfl, pk_callR hPc hKc⟩ rfl rfl hl.1 rfl (lv_room (Nat.le_of_ble_eq_true rfl)) dX3_hasRoomFor_4 ⟨(Nat.le_of_ble_eq_true rfl), (Nat.le_of_ble_eq_true rfl)⟩) (fun r_1 ur_1 hw => ?_)
  clear hPc hKc
  try dsimp only at hw
  obtain rfl : r_1 = nI nz := hw
  refine W.eq (g2 := F0 m 7 ls [.int (nI nz)]) rfl ?_
  refine lv_iload_n hx hb dX3_hasRoomFor_7 rfl (lv_at hl 1 rfl) ?_
  refine lv_iadd hx hb dX3_hasRoomFor_8 ?_
  refine lv_sipush (v := 1000) hx hb dX3_hasRoomFor_9 (by decide) ?_
  refine lv_icmp_gt (tgt := 19) hx hb dX3_hasRoomFor_12 (by decide) (fun c_2 => ?_) (fun c_2 => ?_)
  ·
    have ic_2 : 1000 < ((nI nz) + p0).toInt := tx_lt (by decide) rfl c_2
    refine lv_iconst (v := 0) hx hb dX3_hasRoomFor_19 (by decide) ?_
    refine W.widen (k := 0) (n := 0) (Nat.le_of_ble_eq_true rfl) (Nat.le_of_ble_eq_true rfl) ?_
    exact W.zret (v := 0) hx hb hr rfl (fun t ht hW => ⟨⟨0, (), rfl, Or.inl rfl, congrArg Array.size ht⟩, hS.F ht⟩) hS.2.2 dX3_hasRoomFor_20
  ·
    have ic_2 : ((nI nz) + p0).toInt ≤ 1000 := tx_nlt (by decide) rfl c_2
    refine lv_iconst (v := 1) hx hb dX3_hasRoomFor_15 (by decide) ?_
    refine lv_goto (tgt := 20) hx hb dX3_hasRoomFor_16 (by decide) ?_
    refine W.widen (k := 0) (n := 0) (Nat.le_of_ble_eq_true rfl) (Nat.le_of_ble_eq_true rfl) ?_
    exact W.zret (v := 1) hx hb hr rfl (fun t ht hW => ⟨⟨1, (), rfl, Or.inr rfl, congrArg Array.size ht⟩, hS.F ht⟩) hS.2.2 dX3_hasRoomFor_20
set_option maxHeartbeats 4000000 in
set_option maxRecDepth 100000 in
/-- Keyed.leave of L -/
theorem c_X3_leave_L (l : Launch) (dC : Nat → ClassId) (dI : Nat → Nat → Nat) (sz : Nat) (z0 : Nat) (v1 : Value) (v2 : Value) (v3 : Value) (v4 : Value) (x0 : Nat) (k0 : Nat) (w0 : Nat) (ck : ClassId) (cw : ClassId) (L : Nat) (f : Nat → Int32) (g : Nat → Int32) (nz : Nat) (ch : Int32) (p0 : Int32) (hR9 : rOK L nz) : Met l yX3_leave wsX3_leave ({ frames := 2, cells := 0, slots := 0, locals := 90 }) (va_Pc [.ref z0, .int p0] (pk_Pre (dC, dI) [(z0, .inr (4, [.ref x0, v1, v2, v3, v4])), (x0, .inr (5, [.ref k0, .ref w0, .int (nI nz), .int ch])), (k0, .inl (ck, L, .inl f)), (w0, .inl (cw, L, .inl g))] [(ck, .int), (cw, .int)] sz)) (va_Qv (fun (u : (Nat → Int32) × (Nat → Int32) × Nat × Int32) => u.2.2.1 ≤ nz) (fun (u : (Nat → Int32) × (Nat → Int32) × Nat × Int32) (t : State) => va_P (dC, dI) vwCl [(z0, .inr (4, [.ref x0, v1, v2, v3, v4])), (x0, .inr (5, [.ref k0, .ref w0, .int (nI (u.2.2.1)), .int u.2.2.2])), (k0, .inl (ck, L, .inl u.1)), (w0, .inl (cw, L, .inl u.2.1))] t.heap ∧ va_K (dC, dI) vwCl [(ck, .int), (cw, .int)] t ∧ va_D (va_A [(z0, .inr (4, [.ref x0, v1, v2, v3, v4])), (x0, .inr (5, [.ref k0, .ref w0, .int (nI nz), .int ch])), (k0, .inl (ck, L, .inl f)), (w0, .inl (cw, L, .inl g))] sz) [(z0, .inr (4, [.ref x0, v1, v2, v3, v4])), (x0, .inr (5, [.ref k0, .ref w0, .int (nI (u.2.2.1)), .int u.2.2.2])), (k0, .inl (ck, L, .inl u.1)), (w0, .inl (cw, L, .inl u.2.1))]) (va_A [(z0, .inr (4, [.ref x0, v1, v2, v3, v4])), (x0, .inr (5, [.ref k0, .ref w0, .int (nI nz), .int ch])), (k0, .inl (ck, L, .inl f)), (w0, .inl (cw, L, .inl g))] sz)) 0 0 (va_A [(z0, .inr (4, [.ref x0, v1, v2, v3, v4])), (x0, .inr (5, [.ref k0, .ref w0, .int (nI nz), .int ch])), (k0, .inl (ck, L, .inl f)), (w0, .inl (cw, L, .inl g))] sz) := by
  refine Met.ofW (cc := cX3_leave) (maxL := 2) (ret := none) (by decide) rfl ?_
  intro p e s m args below meth c s₁ B hml hv
  obtain ⟨rfl, hsz, hP, hK, hD0⟩ := hv
  have hx := B.exec
  have hb := B.bytes
  have hr := B.returns
  have hts := atoms_spec (ws := wsX3_leave) B.pre
  have hown : s.vm.findClass RX3 = some m.cls := findClass_of_methodNamed B.named
  have hlocks := B.notSynchronized
  subst hsz
  have hD := hD0.self (sz := s.heap.size)
  generalize hAe : va_A [(z0, .inr (4, [.ref x0, v1, v2, v3, v4])), (x0, .inr (5, [.ref k0, .ref w0, .int (nI nz), .int ch])), (k0, .inl (ck, L, .inl f)), (w0, .inl (cw, L, .inl g))] s.heap.size = A at hD ⊢
  have hA : ∀ q : Nat, s.heap.size ≤ q → A q := fun q h => by rw [← hAe]; exact Or.inr h
  have hS : va_S A s.heap s.heap [] := va_S.rf
  have hP : va_P (dC, dI) vwCl [(z0, .inr (4, [.ref x0, v1, v2, v3, v4])), (x0, .inr (5, [.ref k0, .ref w0, .int (nI nz), .int ch])), (k0, .inl (ck, L, .inl f)), (w0, .inl (cw, L, .inl g))] s.heap := hP
  have hl := lv_entry ([.ref z0, .int p0]) (n := 2) (Nat.le_of_ble_eq_true rfl)
  rw [lg_entry_eq]
  generalize (lg_sl ([.ref z0, .int p0]) ++ List.replicate (2 - (lg_sl ([.ref z0, .int p0])).length) Slot.unset).toArray = ls at hl ⊢
  have hl : lv_has ls 2 [(0, .ref z0), (1, .int p0)] := hl
  have hw0_ := hts (.fieldLink RX3 9 "KeyAtlas$Keyed" "rows" "LKeyAtlas$Rows;") (List.mem_of_getElem? (l := wsX3_leave) (i := 1) rfl)
  have hi0_ : ∀ w ∈ u_ws RX4 TX4 5, w ∈ wsX3_leave := fun w h => List.mem_cons_of_mem _ (List.mem_append_left _ (List.mem_append_left _ (List.mem_append_right _ h)))
  refine lv_aload_n hx hb dX3_leave_0 rfl (lv_at hl 0 rfl) ?_
  refine va_get (D := (dC, dI)) (ci := 4) (v := .ref x0) (C := RX4) (T := TX4) (N := 5) hx hb hts hi0_ hown hK hP 0 rfl rfl 0 (by decide) hw0_ (fun _ h9 => h9) rfl dX3_leave_1 ?_
  refine lv_iload_n hx hb dX3_leave_4 rfl (lv_at hl 1 rfl) ?_
  refine lv_iload_n hx hb dX3_leave_5 rfl (lv_at hl 1 rfl) ?_
  refine lv_iconst (v := 1) hx hb dX3_leave_6 (by decide) ?_
  refine lv_iadd hx hb dX3_leave_7 ?_
  have hPc := hP.sub (ws' := [(x0, .inr (5, [.ref k0, .ref w0, .int (nI nz), .int ch])), (k0, .inl (ck, L, .inl f)), (w0, .inl (cw, L, .inl g))]) [1, 2, 3] rfl
  have hDc := hD.sub (ws' := [(x0, .inr (5, [.ref k0, .ref w0, .int (nI nz), .int ch])), (k0, .inl (ck, L, .inl f)), (w0, .inl (cw, L, .inl g))]) [1, 2, 3] (by decide) rfl
  have hKc := hK.sub (tys' := [(ck, .int), (cw, .int)]) [0, 1] rfl
  have hFc := va_free (wc := [(x0, .inr (5, [.ref k0, .ref w0, .int (nI nz), .int ch])), (k0, .inl (ck, L, .inl f)), (w0, .inl (cw, L, .inl g))]) hD hS hA [1, 2, 3] rfl
  refine va_callv (va_runV (As := [.int p0, .int (p0 + 1)]) (rest := []) ⟨hx, hb, hml, hown, hts⟩ (c_X5_remove l  dC dI s.heap.size x0 k0 w0 ck cw L f g nz ch p0 (p0 + 1) hR9) (cwV 2 hts gX3_leave_X5_remove rfl rfl rfl (by decide +kernel) ⟨(Nat.le_of_ble_eq_true rfl), (Nat.le_of_ble_eq_true rfl)⟩) ⟨pk_blind, va_recv hKc hPc (ci := 5) (q0 := 0) rfl rfl, pk_call hPc hKc hDc⟩ rfl rfl hl.1 rfl (lv_room (Nat.le_of_ble_eq_true rfl)) dX3_leave_8 ⟨(Nat.le_of_ble_eq_true rfl), (Nat.le_of_ble_eq_true rfl)⟩) hS (fun q _ h => hFc q h) hFc (fun ur_1 t H1 locs ht hvm hw hB hz1 hk1 hS => ?_)
  try dsimp only at hw
  have jr_1 := hw
  obtain ⟨hP1, hK1, hD1⟩ := hB
  rw [ht] at hP1
  have hK1 := va_K.moved hvm.symm hK1
  obtain ⟨hP, hD⟩ := va_join (wr := [(z0, .inr (4, [.ref x0, v1, v2, v3, v4]))]) (w1 := [(x0, .inr (5, [.ref k0, .ref w0, .int (nI (ur_1.2.2.1)), .int ur_1.2.2.2])), (k0, .inl (ck, L, .inl ur_1.1)), (w0, .inl (cw, L, .inl ur_1.2.1))]) hP hD [1, 2, 3] [0] rfl rfl (by decide) (by decide) hk1 hFc hP1 hD1
  clear hk1 hz1 ht hPc hDc hKc hFc
  generalize H1 = H at hP hS ⊢
  replace hP : va_P (dC, dI) vwCl [(z0, .inr (4, [.ref x0, v1, v2, v3, v4])), (x0, .inr (5, [.ref k0, .ref w0, .int (nI (ur_1.2.2.1)), .int ur_1.2.2.2])), (k0, .inl (ck, L, .inl ur_1.1)), (w0, .inl (cw, L, .inl ur_1.2.1))] H := hP
  replace hD : va_D A [(z0, .inr (4, [.ref x0, v1, v2, v3, v4])), (x0, .inr (5, [.ref k0, .ref w0, .int (nI (ur_1.2.2.1)), .int ur_1.2.2.2])), (k0, .inl (ck, L, .inl ur_1.1)), (w0, .inl (cw, L, .inl ur_1.2.1))] := hD
  refine W.widen (k := 0) (n := 0) (Nat.le_of_ble_eq_true rfl) (Nat.le_of_ble_eq_true rfl) ?_
  refine W.eq (g2 := F0 m 11 ls []) rfl ?_
  have hP9 := hP.sub (ws' := [(z0, .inr (4, [.ref x0, v1, v2, v3, v4])), (x0, .inr (5, [.ref k0, .ref w0, .int (nI (ur_1.2.2.1)), .int ur_1.2.2.2])), (k0, .inl (ck, L, .inl ur_1.1)), (w0, .inl (cw, L, .inl ur_1.2.1))]) [0, 1, 2, 3] rfl
  have hD9 := hD.sub (ws' := [(z0, .inr (4, [.ref x0, v1, v2, v3, v4])), (x0, .inr (5, [.ref k0, .ref w0, .int (nI (ur_1.2.2.1)), .int ur_1.2.2.2])), (k0, .inl (ck, L, .inl ur_1.1)), (w0, .inl (cw, L, .inl ur_1.2.1))]) [0, 1, 2, 3] (by decide) rfl
  have hK9 := hK.sub (tys' := [(ck, .int), (cw, .int)]) [0, 1] rfl
  refine W.widen (k := 0) (n := 0) (Nat.le_of_ble_eq_true rfl) (Nat.le_of_ble_eq_true rfl) ?_
  exact W.vret hx hb hr (fun t ht hW => ⟨⟨(ur_1.1, ur_1.2.1, ur_1.2.2.1, ur_1.2.2.2), rfl, jr_1, by rw [ht]; exact hP9, va_K.moved hW.alike hK9, hD9⟩, hS.F ht⟩) hS.2.2 dX3_leave_11
set_option maxHeartbeats 4000000 in
set_option maxRecDepth 100000 in
/-- Keyed.leaveAll of L -/
theorem c_X3_leaveAll_L (l : Launch) (dC : Nat → ClassId) (dI : Nat → Nat → Nat) (sz : Nat) (z0 : Nat) (v1 : Value) (v2 : Value) (v3 : Value) (v4 : Value) (x0 : Nat) (k0 : Nat) (w0 : Nat) (ck : ClassId) (cw : ClassId) (L : Nat) (f : Nat → Int32) (g : Nat → Int32) (nz : Nat) (ch : Int32) (hR9 : rOK L nz) : Met l yX3_leaveAll wsX3_leaveAll ({ frames := 2, cells := 0, slots := 0, locals := 90 }) (va_Pc [.ref z0] (pk_Pre (dC, dI) [(z0, .inr (4, [.ref x0, v1, v2, v3, v4])), (x0, .inr (5, [.ref k0, .ref w0, .int (nI nz), .int ch])), (k0, .inl (ck, L, .inl f)), (w0, .inl (cw, L, .inl g))] [(ck, .int), (cw, .int)] sz)) (va_Qv (fun (u : (Nat → Int32) × (Nat → Int32) × Nat × Int32) => u.2.2.1 ≤ nz) (fun (u : (Nat → Int32) × (Nat → Int32) × Nat × Int32) (t : State) => va_P (dC, dI) vwCl [(z0, .inr (4, [.ref x0, v1, v2, v3, v4])), (x0, .inr (5, [.ref k0, .ref w0, .int (nI (u.2.2.1)), .int u.2.2.2])), (k0, .inl (ck, L, .inl u.1)), (w0, .inl (cw, L, .inl u.2.1))] t.heap ∧ va_K (dC, dI) vwCl [(ck, .int), (cw, .int)] t ∧ va_D (va_A [(z0, .inr (4, [.ref x0, v1, v2, v3, v4])), (x0, .inr (5, [.ref k0, .ref w0, .int (nI nz), .int ch])), (k0, .inl (ck, L, .inl f)), (w0, .inl (cw, L, .inl g))] sz) [(z0, .inr (4, [.ref x0, v1, v2, v3, v4])), (x0, .inr (5, [.ref k0, .ref w0, .int (nI (u.2.2.1)), .int u.2.2.2])), (k0, .inl (ck, L, .inl u.1)), (w0, .inl (cw, L, .inl u.2.1))]) (va_A [(z0, .inr (4, [.ref x0, v1, v2, v3, v4])), (x0, .inr (5, [.ref k0, .ref w0, .int (nI nz), .int ch])), (k0, .inl (ck, L, .inl f)), (w0, .inl (cw, L, .inl g))] sz)) 0 0 (va_A [(z0, .inr (4, [.ref x0, v1, v2, v3, v4])), (x0, .inr (5, [.ref k0, .ref w0, .int (nI nz), .int ch])), (k0, .inl (ck, L, .inl f)), (w0, .inl (cw, L, .inl g))] sz) := by
  refine Met.ofW (cc := cX3_leaveAll) (maxL := 1) (ret := none) (by decide) rfl ?_
  intro p e s m args below meth c s₁ B hml hv
  obtain ⟨rfl, hsz, hP, hK, hD0⟩ := hv
  have hx := B.exec
  have hb := B.bytes
  have hr := B.returns
  have hts := atoms_spec (ws := wsX3_leaveAll) B.pre
  have hown : s.vm.findClass RX3 = some m.cls := findClass_of_methodNamed B.named
  have hlocks := B.notSynchronized
  subst hsz
  have hD := hD0.self (sz := s.heap.size)
  generalize hAe : va_A [(z0, .inr (4, [.ref x0, v1, v2, v3, v4])), (x0, .inr (5, [.ref k0, .ref w0, .int (nI nz), .int ch])), (k0, .inl (ck, L, .inl f)), (w0, .inl (cw, L, .inl g))] s.heap.size = A at hD ⊢
  have hA : ∀ q : Nat, s.heap.size ≤ q → A q := fun q h => by rw [← hAe]; exact Or.inr h
  have hS : va_S A s.heap s.heap [] := va_S.rf
  have hP : va_P (dC, dI) vwCl [(z0, .inr (4, [.ref x0, v1, v2, v3, v4])), (x0, .inr (5, [.ref k0, .ref w0, .int (nI nz), .int ch])), (k0, .inl (ck, L, .inl f)), (w0, .inl (cw, L, .inl g))] s.heap := hP
  have hl := lv_entry ([.ref z0]) (n := 1) (Nat.le_of_ble_eq_true rfl)
  rw [lg_entry_eq]
  generalize (lg_sl ([.ref z0]) ++ List.replicate (1 - (lg_sl ([.ref z0])).length) Slot.unset).toArray = ls at hl ⊢
  have hl : lv_has ls 1 [(0, .ref z0)] := hl
  have hw0_ := hts (.fieldLink RX3 9 "KeyAtlas$Keyed" "rows" "LKeyAtlas$Rows;") (List.mem_of_getElem? (l := wsX3_leaveAll) (i := 1) rfl)
  have hi0_ : ∀ w ∈ u_ws RX4 TX4 5, w ∈ wsX3_leaveAll := fun w h => List.mem_cons_of_mem _ (List.mem_append_left _ (List.mem_append_left _ (List.mem_append_right _ h)))
  refine lv_aload_n hx hb dX3_leaveAll_0 rfl (lv_at hl 0 rfl) ?_
  refine va_get (D := (dC, dI)) (ci := 4) (v := .ref x0) (C := RX4) (T := TX4) (N := 5) hx hb hts hi0_ hown hK hP 0 rfl rfl 0 (by decide) hw0_ (fun _ h9 => h9) rfl dX3_leaveAll_1 ?_
  refine lv_iconst (v := 0) hx hb dX3_leaveAll_4 (by decide) ?_
  refine lv_aload_n hx hb dX3_leaveAll_5 rfl (lv_at hl 0 rfl) ?_
  refine va_get (D := (dC, dI)) (ci := 4) (v := .ref x0) (C := RX4) (T := TX4) (N := 5) hx hb hts hi0_ hown hK hP 0 rfl rfl 0 (by decide) hw0_ (fun _ h9 => h9) rfl dX3_leaveAll_6 ?_
  have hPc := hP.sub (ws' := [(x0, .inr (5, [.ref k0, .ref w0, .int (nI nz), .int ch]))]) [1] rfl
  have hKc := hK.sub (tys' := []) [] rfl
  refine ro_calli (va_runV (As := []) (rest := [.int 0, .ref x0]) ⟨hx, hb, hml, hown, hts⟩ (c_X5_size l  dC dI s.heap.size x0 (nI nz) (.ref k0) (.ref w0) (.int ch)) (cwV 0 hts gX3_leaveAll_X5_size rfl rfl rfl (by decide +kernel) ⟨(Nat.le_of_ble_eq_true rfl), (Nat.le_of_ble_eq_true rfl)⟩) ⟨pk_blindR, va_recv hKc hPc (ci := 5) (q0 := 0) rfl rfl, pk_callR hPc hKc⟩ rfl rfl hl.1 rfl (lv_room (Nat.le_of_ble_eq_true rfl)) dX3_leaveAll_9 ⟨(Nat.le_of_ble_eq_true rfl), (Nat.le_of_ble_eq_true rfl)⟩) (fun r_1 ur_1 hw => ?_)
  clear hPc hKc
  try dsimp only at hw
  obtain rfl : r_1 = nI nz := hw
  refine W.eq (g2 := F0 m 12 ls [.int (nI nz), .int 0, .ref x0]) rfl ?_
  have hPc := hP.sub (ws' := [(x0, .inr (5, [.ref k0, .ref w0, .int (nI nz), .int ch])), (k0, .inl (ck, L, .inl f)), (w0, .inl (cw, L, .inl g))]) [1, 2, 3] rfl
  have hDc := hD.sub (ws' := [(x0, .inr (5, [.ref k0, .ref w0, .int (nI nz), .int ch])), (k0, .inl (ck, L, .inl f)), (w0, .inl (cw, L, .inl g))]) [1, 2, 3] (by decide) rfl
  have hKc := hK.sub (tys' := [(ck, .int), (cw, .int)]) [0, 1] rfl
  have hFc := va_free (wc := [(x0, .inr (5, [.ref k0, .ref w0, .int (nI nz), .int ch])), (k0, .inl (ck, L, .inl f)), (w0, .inl (cw, L, .inl g))]) hD hS hA [1, 2, 3] rfl
  refine va_callv (va_runV (As := [.int 0, .int (nI nz)]) (rest := []) ⟨hx, hb, hml, hown, hts⟩ (c_X5_remove l  dC dI s.heap.size x0 k0 w0 ck cw L f g nz ch 0 (nI nz) hR9) (cwV 2 hts gX3_leaveAll_X5_remove rfl rfl rfl (by decide +kernel) ⟨(Nat.le_of_ble_eq_true rfl), (Nat.le_of_ble_eq_true rfl)⟩) ⟨pk_blind, va_recv hKc hPc (ci := 5) (q0 := 0) rfl rfl, pk_call hPc hKc hDc⟩ rfl rfl hl.1 rfl (lv_room (Nat.le_of_ble_eq_true rfl)) dX3_leaveAll_12 ⟨(Nat.le_of_ble_eq_true rfl), (Nat.le_of_ble_eq_true rfl)⟩) hS (fun q _ h => hFc q h) hFc (fun ur_2 t H1 locs ht hvm hw hB hz1 hk1 hS => ?_)
  try dsimp only at hw
  have jr_2 := hw
  obtain ⟨hP1, hK1, hD1⟩ := hB
  rw [ht] at hP1
  have hK1 := va_K.moved hvm.symm hK1
  obtain ⟨hP, hD⟩ := va_join (wr := [(z0, .inr (4, [.ref x0, v1, v2, v3, v4]))]) (w1 := [(x0, .inr (5, [.ref k0, .ref w0, .int (nI (ur_2.2.2.1)), .int ur_2.2.2.2])), (k0, .inl (ck, L, .inl ur_2.1)), (w0, .inl (cw, L, .inl ur_2.2.1))]) hP hD [1, 2, 3] [0] rfl rfl (by decide) (by decide) hk1 hFc hP1 hD1
  clear hk1 hz1 ht hPc hDc hKc hFc
  generalize H1 = H at hP hS ⊢
  replace hP : va_P (dC, dI) vwCl [(z0, .inr (4, [.ref x0, v1, v2, v3, v4])), (x0, .inr (5, [.ref k0, .ref w0, .int (nI (ur_2.2.2.1)), .int ur_2.2.2.2])), (k0, .inl (ck, L, .inl ur_2.1)), (w0, .inl (cw, L, .inl ur_2.2.1))] H := hP
  replace hD : va_D A [(z0, .inr (4, [.ref x0, v1, v2, v3, v4])), (x0, .inr (5, [.ref k0, .ref w0, .int (nI (ur_2.2.2.1)), .int ur_2.2.2.2])), (k0, .inl (ck, L, .inl ur_2.1)), (w0, .inl (cw, L, .inl ur_2.2.1))] := hD
  refine W.widen (k := 0) (n := 0) (Nat.le_of_ble_eq_true rfl) (Nat.le_of_ble_eq_true rfl) ?_
  refine W.eq (g2 := F0 m 15 ls []) rfl ?_
  have hP9 := hP.sub (ws' := [(z0, .inr (4, [.ref x0, v1, v2, v3, v4])), (x0, .inr (5, [.ref k0, .ref w0, .int (nI (ur_2.2.2.1)), .int ur_2.2.2.2])), (k0, .inl (ck, L, .inl ur_2.1)), (w0, .inl (cw, L, .inl ur_2.2.1))]) [0, 1, 2, 3] rfl
  have hD9 := hD.sub (ws' := [(z0, .inr (4, [.ref x0, v1, v2, v3, v4])), (x0, .inr (5, [.ref k0, .ref w0, .int (nI (ur_2.2.2.1)), .int ur_2.2.2.2])), (k0, .inl (ck, L, .inl ur_2.1)), (w0, .inl (cw, L, .inl ur_2.2.1))]) [0, 1, 2, 3] (by decide) rfl
  have hK9 := hK.sub (tys' := [(ck, .int), (cw, .int)]) [0, 1] rfl
  refine W.widen (k := 0) (n := 0) (Nat.le_of_ble_eq_true rfl) (Nat.le_of_ble_eq_true rfl) ?_
  exact W.vret hx hb hr (fun t ht hW => ⟨⟨(ur_2.1, ur_2.2.1, ur_2.2.2.1, ur_2.2.2.2), rfl, jr_2, by rw [ht]; exact hP9, va_K.moved hW.alike hK9, hD9⟩, hS.F ht⟩) hS.2.2 dX3_leaveAll_15
set_option maxHeartbeats 4000000 in
set_option maxRecDepth 100000 in
/-- Keyed.size of L -/
theorem c_X3_size_L (l : Launch) (dC : Nat → ClassId) (dI : Nat → Nat → Nat) (sz : Nat) (z0 : Nat) (v1 : Value) (v2 : Value) (v3 : Value) (v4 : Value) (x0 : Nat) (k0 : Nat) (w0 : Nat) (ck : ClassId) (cw : ClassId) (L : Nat) (f : Nat → Int32) (g : Nat → Int32) (nz : Nat) (ch : Int32) (hR9 : rOK L nz) : Met l yX3_size wsX3_size ({ frames := 1, cells := 0, slots := 0, locals := 40 }) (va_Pc [.ref z0] (pk_PreR (dC, dI) [(z0, .inr (4, [.ref x0, v1, v2, v3, v4])), (x0, .inr (5, [.ref k0, .ref w0, .int (nI nz), .int ch])), (k0, .inl (ck, L, .inl f)), (w0, .inl (cw, L, .inl g))] [(ck, .int), (cw, .int)] sz)) (va_Qi (fun (x : Int32) (u : Unit) => x = nI nz) (fun _ (t : State) => t.heap.size = sz) ro_A) 0 0 ro_A := by
  refine Met.ofW (cc := cX3_size) (maxL := 1) (ret := (some .int)) (by decide) rfl ?_
  intro p e s m args below meth c s₁ B hml hv
  obtain ⟨rfl, hsz, hP, hK⟩ := hv
  have hx := B.exec
  have hb := B.bytes
  have hr := B.returns
  have hts := atoms_spec (ws := wsX3_size) B.pre
  have hown : s.vm.findClass RX3 = some m.cls := findClass_of_methodNamed B.named
  have hlocks := B.notSynchronized
  subst hsz
  have hS : va_S ro_A s.heap s.heap [] := va_S.rf
  have hP : va_P (dC, dI) vwCl [(z0, .inr (4, [.ref x0, v1, v2, v3, v4])), (x0, .inr (5, [.ref k0, .ref w0, .int (nI nz), .int ch])), (k0, .inl (ck, L, .inl f)), (w0, .inl (cw, L, .inl g))] s.heap := hP
  have hl := lv_entry ([.ref z0]) (n := 1) (Nat.le_of_ble_eq_true rfl)
  rw [lg_entry_eq]
  generalize (lg_sl ([.ref z0]) ++ List.replicate (1 - (lg_sl ([.ref z0])).length) Slot.unset).toArray = ls at hl ⊢
  have hl : lv_has ls 1 [(0, .ref z0)] := hl
  have hw0_ := hts (.fieldLink RX3 9 "KeyAtlas$Keyed" "rows" "LKeyAtlas$Rows;") (List.mem_of_getElem? (l := wsX3_size) (i := 1) rfl)
  have hi0_ : ∀ w ∈ u_ws RX4 TX4 5, w ∈ wsX3_size := fun w h => List.mem_cons_of_mem _ (List.mem_append_left _ (List.mem_append_left _ (List.mem_append_right _ h)))
  refine lv_aload_n hx hb dX3_size_0 rfl (lv_at hl 0 rfl) ?_
  refine va_get (D := (dC, dI)) (ci := 4) (v := .ref x0) (C := RX4) (T := TX4) (N := 5) hx hb hts hi0_ hown hK hP 0 rfl rfl 0 (by decide) hw0_ (fun _ h9 => h9) rfl dX3_size_1 ?_
  have hPc := hP.sub (ws' := [(x0, .inr (5, [.ref k0, .ref w0, .int (nI nz), .int ch]))]) [1] rfl
  have hKc := hK.sub (tys' := []) [] rfl
  refine ro_calli (va_runV (As := []) (rest := []) ⟨hx, hb, hml, hown, hts⟩ (c_X5_size l  dC dI s.heap.size x0 (nI nz) (.ref k0) (.ref w0) (.int ch)) (cwV 0 hts gX3_size_X5_size rfl rfl rfl (by decide +kernel) ⟨(Nat.le_of_ble_eq_true rfl), (Nat.le_of_ble_eq_true rfl)⟩) ⟨pk_blindR, va_recv hKc hPc (ci := 5) (q0 := 0) rfl rfl, pk_callR hPc hKc⟩ rfl rfl hl.1 rfl (lv_room (Nat.le_of_ble_eq_true rfl)) dX3_size_4 ⟨(Nat.le_of_ble_eq_true rfl), (Nat.le_of_ble_eq_true rfl)⟩) (fun r_1 ur_1 hw => ?_)
  clear hPc hKc
  try dsimp only at hw
  obtain rfl : r_1 = nI nz := hw
  refine W.eq (g2 := F0 m 7 ls [.int (nI nz)]) rfl ?_
  refine W.widen (k := 0) (n := 0) (Nat.le_of_ble_eq_true rfl) (Nat.le_of_ble_eq_true rfl) ?_
  exact W.iret (v := nI nz) hx hb hr (fun t ht hW => ⟨⟨nI nz, (), rfl, rfl, congrArg Array.size ht⟩, hS.F ht⟩) hS.2.2 dX3_size_7
set_option maxHeartbeats 4000000 in
set_option maxRecDepth 100000 in
/-- Keyed.hasRoomFor of L -/
theorem c_X3_hasRoomFor_L (l : Launch) (dC : Nat → ClassId) (dI : Nat → Nat → Nat) (sz : Nat) (z0 : Nat) (v1 : Value) (v2 : Value) (v3 : Value) (v4 : Value) (x0 : Nat) (k0 : Nat) (w0 : Nat) (ck : ClassId) (cw : ClassId) (L : Nat) (f : Nat → Int32) (g : Nat → Int32) (nz : Nat) (ch : Int32) (p0 : Int32) (hR9 : rOK L nz) : Met l yX3_hasRoomFor wsX3_hasRoomFor ({ frames := 1, cells := 0, slots := 0, locals := 40 }) (va_Pc [.ref z0, .int p0] (pk_PreR (dC, dI) [(z0, .inr (4, [.ref x0, v1, v2, v3, v4])), (x0, .inr (5, [.ref k0, .ref w0, .int (nI nz), .int ch])), (k0, .inl (ck, L, .inl f)), (w0, .inl (cw, L, .inl g))] [(ck, .int), (cw, .int)] sz)) (va_Qi (fun (x : Int32) (u : Unit) => x = 0 ∨ x = 1) (fun _ (t : State) => t.heap.size = sz) ro_A) 0 0 ro_A := by
  refine Met.ofW (cc := cX3_hasRoomFor) (maxL := 2) (ret := (some .boolean)) (by decide) rfl ?_
  intro p e s m args below meth c s₁ B hml hv
  obtain ⟨rfl, hsz, hP, hK⟩ := hv
  have hx := B.exec
  have hb := B.bytes
  have hr := B.returns
  have hts := atoms_spec (ws := wsX3_hasRoomFor) B.pre
  have hown : s.vm.findClass RX3 = some m.cls := findClass_of_methodNamed B.named
  have hlocks := B.notSynchronized
  subst hsz
  have hS : va_S ro_A s.heap s.heap [] := va_S.rf
  have hP : va_P (dC, dI) vwCl [(z0, .inr (4, [.ref x0, v1, v2, v3, v4])), (x0, .inr (5, [.ref k0, .ref w0, .int (nI nz), .int ch])), (k0, .inl (ck, L, .inl f)), (w0, .inl (cw, L, .inl g))] s.heap := hP
  have hl := lv_entry ([.ref z0, .int p0]) (n := 2) (Nat.le_of_ble_eq_true rfl)
  rw [lg_entry_eq]
  generalize (lg_sl ([.ref z0, .int p0]) ++ List.replicate (2 - (lg_sl ([.ref z0, .int p0])).length) Slot.unset).toArray = ls at hl ⊢
  have hl : lv_has ls 2 [(0, .ref z0), (1, .int p0)] := hl
  have hw0_ := hts (.fieldLink RX3 9 "KeyAtlas$Keyed" "rows" "LKeyAtlas$Rows;") (List.mem_of_getElem? (l := wsX3_hasRoomFor) (i := 1) rfl)
  have hi0_ : ∀ w ∈ u_ws RX4 TX4 5, w ∈ wsX3_hasRoomFor := fun w h => List.mem_cons_of_mem _ (List.mem_append_left _ (List.mem_append_left _ (List.mem_append_right _ h)))
  refine lv_aload_n hx hb dX3_hasRoomFor_0 rfl (lv_at hl 0 rfl) ?_
  refine va_get (D := (dC, dI)) (ci := 4) (v := .ref x0) (C := RX4) (T := TX4) (N := 5) hx hb hts hi0_ hown hK hP 0 rfl rfl 0 (by decide) hw0_ (fun _ h9 => h9) rfl dX3_hasRoomFor_1 ?_
  have hPc := hP.sub (ws' := [(x0, .inr (5, [.ref k0, .ref w0, .int (nI nz), .int ch]))]) [1] rfl
  have hKc := hK.sub (tys' := []) [] rfl
  refine ro_calli (va_runV (As := []) (rest := []) ⟨hx, hb, hml, hown, hts⟩ (c_X5_size l  dC dI s.heap.size x0 (nI nz) (.ref k0) (.ref w0) (.int ch)) (cwV 0 hts gX3_hasRoomFor_X5_size rfl rfl rfl (by decide +kernel) ⟨(Nat.le_of_ble_eq_true rfl), (Nat.le_of_ble_eq_true rfl)⟩) ⟨pk_blindR, va_recv hKc hPc (ci := 5) (q0 := 0) rfl rfl, pk_callR hPc hKc⟩ rfl rfl hl.1 rfl (lv_room (Nat.le_of_ble_eq_true rfl)) dX3_hasRoomFor_4 ⟨(Nat.le_of_ble_eq_true rfl), (Nat.le_of_ble_eq_true rfl)⟩) (fun r_1 ur_1 hw => ?_)
  clear hPc hKc
  try dsimp only at hw
  obtain rfl : r_1 = nI nz := hw
  refine W.eq (g2 := F0 m 7 ls [.int (nI nz)]) rfl ?_
  refine lv_iload_n hx hb dX3_hasRoomFor_7 rfl (lv_at hl 1 rfl) ?_
  refine lv_iadd hx hb dX3_hasRoomFor_8 ?_
  refine lv_sipush (v := 1000) hx hb dX3_hasRoomFor_9 (by decide) ?_
  refine lv_icmp_gt (tgt := 19) hx hb dX3_hasRoomFor_12 (by decide) (fun c_2 => ?_) (fun c_2 => ?_)
  ·
    have ic_2 : 1000 < ((nI nz) + p0).toInt := tx_lt (by decide) rfl c_2
    refine lv_iconst (v := 0) hx hb dX3_hasRoomFor_19 (by decide) ?_
    refine W.widen (k := 0) (n := 0) (Nat.le_of_ble_eq_true rfl) (Nat.le_of_ble_eq_true rfl) ?_
    exact W.zret (v := 0) hx hb hr rfl (fun t ht hW => ⟨⟨0, (), rfl, Or.inl rfl, congrArg Array.size ht⟩, hS.F ht⟩) hS.2.2 dX3_hasRoomFor_20
  ·
    have ic_2 : ((nI nz) + p0).toInt ≤ 1000 := tx_nlt (by decide) rfl c_2
    refine lv_iconst (v := 1) hx hb dX3_hasRoomFor_15 (by decide) ?_
    refine lv_goto (tgt := 20) hx hb dX3_hasRoomFor_16 (by decide) ?_
    refine W.widen (k := 0) (n := 0) (Nat.le_of_ble_eq_true rfl) (Nat.le_of_ble_eq_true rfl) ?_
    exact W.zret (v := 1) hx hb hr rfl (fun t ht hW => ⟨⟨1, (), rfl, Or.inr rfl, congrArg Array.size ht⟩, hS.F ht⟩) hS.2.2 dX3_hasRoomFor_20
set_option maxHeartbeats 4000000 in
set_option maxRecDepth 100000 in
/-- Keyed.leave of S -/
theorem c_X3_leave_S (l : Launch) (dC : Nat → ClassId) (dI : Nat → Nat → Nat) (sz : Nat) (z0 : Nat) (v1 : Value) (v2 : Value) (v3 : Value) (v4 : Value) (v5 : Value) (v6 : Value) (x0 : Nat) (k0 : Nat) (w0 : Nat) (ck : ClassId) (cw : ClassId) (L : Nat) (f : Nat → Int32) (g : Nat → Int32) (nz : Nat) (ch : Int32) (p0 : Int32) (hR9 : rOK L nz) : Met l yX3_leave wsX3_leave ({ frames := 2, cells := 0, slots := 0, locals := 90 }) (va_Pc [.ref z0, .int p0] (pk_Pre (dC, dI) [(z0, .inr (6, [.ref x0, v1, v2, v3, v4, v5, v6])), (x0, .inr (5, [.ref k0, .ref w0, .int (nI nz), .int ch])), (k0, .inl (ck, L, .inl f)), (w0, .inl (cw, L, .inl g))] [(ck, .int), (cw, .int)] sz)) (va_Qv (fun (u : (Nat → Int32) × (Nat → Int32) × Nat × Int32) => u.2.2.1 ≤ nz) (fun (u : (Nat → Int32) × (Nat → Int32) × Nat × Int32) (t : State) => va_P (dC, dI) vwCl [(z0, .inr (6, [.ref x0, v1, v2, v3, v4, v5, v6])), (x0, .inr (5, [.ref k0, .ref w0, .int (nI (u.2.2.1)), .int u.2.2.2])), (k0, .inl (ck, L, .inl u.1)), (w0, .inl (cw, L, .inl u.2.1))] t.heap ∧ va_K (dC, dI) vwCl [(ck, .int), (cw, .int)] t ∧ va_D (va_A [(z0, .inr (6, [.ref x0, v1, v2, v3, v4, v5, v6])), (x0, .inr (5, [.ref k0, .ref w0, .int (nI nz), .int ch])), (k0, .inl (ck, L, .inl f)), (w0, .inl (cw, L, .inl g))] sz) [(z0, .inr (6, [.ref x0, v1, v2, v3, v4, v5, v6])), (x0, .inr (5, [.ref k0, .ref w0, .int (nI (u.2.2.1)), .int u.2.2.2])), (k0, .inl (ck, L, .inl u.1)), (w0, .inl (cw, L, .inl u.2.1))]) (va_A [(z0, .inr (6, [.ref x0, v1, v2, v3, v4, v5, v6])), (x0, .inr (5, [.ref k0, .ref w0, .int (nI nz), .int ch])), (k0, .inl (ck, L, .inl f)), (w0, .inl (cw, L, .inl g))] sz)) 0 0 (va_A [(z0, .inr (6, [.ref x0, v1, v2, v3, v4, v5, v6])), (x0, .inr (5, [.ref k0, .ref w0, .int (nI nz), .int ch])), (k0, .inl (ck, L, .inl f)), (w0, .inl (cw, L, .inl g))] sz) := by
  refine Met.ofW (cc := cX3_leave) (maxL := 2) (ret := none) (by decide) rfl ?_
  intro p e s m args below meth c s₁ B hml hv
  obtain ⟨rfl, hsz, hP, hK, hD0⟩ := hv
  have hx := B.exec
  have hb := B.bytes
  have hr := B.returns
  have hts := atoms_spec (ws := wsX3_leave) B.pre
  have hown : s.vm.findClass RX3 = some m.cls := findClass_of_methodNamed B.named
  have hlocks := B.notSynchronized
  subst hsz
  have hD := hD0.self (sz := s.heap.size)
  generalize hAe : va_A [(z0, .inr (6, [.ref x0, v1, v2, v3, v4, v5, v6])), (x0, .inr (5, [.ref k0, .ref w0, .int (nI nz), .int ch])), (k0, .inl (ck, L, .inl f)), (w0, .inl (cw, L, .inl g))] s.heap.size = A at hD ⊢
  have hA : ∀ q : Nat, s.heap.size ≤ q → A q := fun q h => by rw [← hAe]; exact Or.inr h
  have hS : va_S A s.heap s.heap [] := va_S.rf
  have hP : va_P (dC, dI) vwCl [(z0, .inr (6, [.ref x0, v1, v2, v3, v4, v5, v6])), (x0, .inr (5, [.ref k0, .ref w0, .int (nI nz), .int ch])), (k0, .inl (ck, L, .inl f)), (w0, .inl (cw, L, .inl g))] s.heap := hP
  have hl := lv_entry ([.ref z0, .int p0]) (n := 2) (Nat.le_of_ble_eq_true rfl)
  rw [lg_entry_eq]
  generalize (lg_sl ([.ref z0, .int p0]) ++ List.replicate (2 - (lg_sl ([.ref z0, .int p0])).length) Slot.unset).toArray = ls at hl ⊢
  have hl : lv_has ls 2 [(0, .ref z0), (1, .int p0)] := hl
  have hw0_ := hts (.fieldLink RX3 9 "KeyAtlas$Keyed" "rows" "LKeyAtlas$Rows;") (List.mem_of_getElem? (l := wsX3_leave) (i := 1) rfl)
  have hi0_ : ∀ w ∈ u_ws RX6 TX6 7, w ∈ wsX3_leave := fun w h => List.mem_cons_of_mem _ (List.mem_append_left _ (List.mem_append_right _ h))
  refine lv_aload_n hx hb dX3_leave_0 rfl (lv_at hl 0 rfl) ?_
  refine va_get (D := (dC, dI)) (ci := 6) (v := .ref x0) (C := RX6) (T := TX6) (N := 7) hx hb hts hi0_ hown hK hP 0 rfl rfl 0 (by decide) hw0_ (fun _ h9 => h9) rfl dX3_leave_1 ?_
  refine lv_iload_n hx hb dX3_leave_4 rfl (lv_at hl 1 rfl) ?_
  refine lv_iload_n hx hb dX3_leave_5 rfl (lv_at hl 1 rfl) ?_
  refine lv_iconst (v := 1) hx hb dX3_leave_6 (by decide) ?_
  refine lv_iadd hx hb dX3_leave_7 ?_
  have hPc := hP.sub (ws' := [(x0, .inr (5, [.ref k0, .ref w0, .int (nI nz), .int ch])), (k0, .inl (ck, L, .inl f)), (w0, .inl (cw, L, .inl g))]) [1, 2, 3] rfl
  have hDc := hD.sub (ws' := [(x0, .inr (5, [.ref k0, .ref w0, .int (nI nz), .int ch])), (k0, .inl (ck, L, .inl f)), (w0, .inl (cw, L, .inl g))]) [1, 2, 3] (by decide) rfl
  have hKc := hK.sub (tys' := [(ck, .int), (cw, .int)]) [0, 1] rfl
  have hFc := va_free (wc := [(x0, .inr (5, [.ref k0, .ref w0, .int (nI nz), .int ch])), (k0, .inl (ck, L, .inl f)), (w0, .inl (cw, L, .inl g))]) hD hS hA [1, 2, 3] rfl
  refine va_callv (va_runV (As := [.int p0, .int (p0 + 1)]) (rest := []) ⟨hx, hb, hml, hown, hts⟩ (c_X5_remove l  dC dI s.heap.size x0 k0 w0 ck cw L f g nz ch p0 (p0 + 1) hR9) (cwV 2 hts gX3_leave_X5_remove rfl rfl rfl (by decide +kernel) ⟨(Nat.le_of_ble_eq_true rfl), (Nat.le_of_ble_eq_true rfl)⟩) ⟨pk_blind, va_recv hKc hPc (ci := 5) (q0 := 0) rfl rfl, pk_call hPc hKc hDc⟩ rfl rfl hl.1 rfl (lv_room (Nat.le_of_ble_eq_true rfl)) dX3_leave_8 ⟨(Nat.le_of_ble_eq_true rfl), (Nat.le_of_ble_eq_true rfl)⟩) hS (fun q _ h => hFc q h) hFc (fun ur_1 t H1 locs ht hvm hw hB hz1 hk1 hS => ?_)
  try dsimp only at hw
  have jr_1 := hw
  obtain ⟨hP1, hK1, hD1⟩ := hB
  rw [ht] at hP1
  have hK1 := va_K.moved hvm.symm hK1
  obtain ⟨hP, hD⟩ := va_join (wr := [(z0, .inr (6, [.ref x0, v1, v2, v3, v4, v5, v6]))]) (w1 := [(x0, .inr (5, [.ref k0, .ref w0, .int (nI (ur_1.2.2.1)), .int ur_1.2.2.2])), (k0, .inl (ck, L, .inl ur_1.1)), (w0, .inl (cw, L, .inl ur_1.2.1))]) hP hD [1, 2, 3] [0] rfl rfl (by decide) (by decide) hk1 hFc hP1 hD1
  clear hk1 hz1 ht hPc hDc hKc hFc
  generalize H1 = H at hP hS ⊢
  replace hP : va_P (dC, dI) vwCl [(z0, .inr (6, [.ref x0, v1, v2, v3, v4, v5, v6])), (x0, .inr (5, [.ref k0, .ref w0, .int (nI (ur_1.2.2.1)), .int ur_1.2.2.2])), (k0, .inl (ck, L, .inl ur_1.1)), (w0, .inl (cw, L, .inl ur_1.2.1))] H := hP
  replace hD : va_D A [(z0, .inr (6, [.ref x0, v1, v2, v3, v4, v5, v6])), (x0, .inr (5, [.ref k0, .ref w0, .int (nI (ur_1.2.2.1)), .int ur_1.2.2.2])), (k0, .inl (ck, L, .inl ur_1.1)), (w0, .inl (cw, L, .inl ur_1.2.1))] := hD
  refine W.widen (k := 0) (n := 0) (Nat.le_of_ble_eq_true rfl) (Nat.le_of_ble_eq_true rfl) ?_
  refine W.eq (g2 := F0 m 11 ls []) rfl ?_
  have hP9 := hP.sub (ws' := [(z0, .inr (6, [.ref x0, v1, v2, v3, v4, v5, v6])), (x0, .inr (5, [.ref k0, .ref w0, .int (nI (ur_1.2.2.1)), .int ur_1.2.2.2])), (k0, .inl (ck, L, .inl ur_1.1)), (w0, .inl (cw, L, .inl ur_1.2.1))]) [0, 1, 2, 3] rfl
  have hD9 := hD.sub (ws' := [(z0, .inr (6, [.ref x0, v1, v2, v3, v4, v5, v6])), (x0, .inr (5, [.ref k0, .ref w0, .int (nI (ur_1.2.2.1)), .int ur_1.2.2.2])), (k0, .inl (ck, L, .inl ur_1.1)), (w0, .inl (cw, L, .inl ur_1.2.1))]) [0, 1, 2, 3] (by decide) rfl
  have hK9 := hK.sub (tys' := [(ck, .int), (cw, .int)]) [0, 1] rfl
  refine W.widen (k := 0) (n := 0) (Nat.le_of_ble_eq_true rfl) (Nat.le_of_ble_eq_true rfl) ?_
  exact W.vret hx hb hr (fun t ht hW => ⟨⟨(ur_1.1, ur_1.2.1, ur_1.2.2.1, ur_1.2.2.2), rfl, jr_1, by rw [ht]; exact hP9, va_K.moved hW.alike hK9, hD9⟩, hS.F ht⟩) hS.2.2 dX3_leave_11
set_option maxHeartbeats 4000000 in
set_option maxRecDepth 100000 in
/-- Keyed.hasRoomFor of S -/
theorem c_X3_hasRoomFor_S (l : Launch) (dC : Nat → ClassId) (dI : Nat → Nat → Nat) (sz : Nat) (z0 : Nat) (v1 : Value) (v2 : Value) (v3 : Value) (v4 : Value) (v5 : Value) (v6 : Value) (x0 : Nat) (k0 : Nat) (w0 : Nat) (ck : ClassId) (cw : ClassId) (L : Nat) (f : Nat → Int32) (g : Nat → Int32) (nz : Nat) (ch : Int32) (p0 : Int32) (hR9 : rOK L nz) : Met l yX3_hasRoomFor wsX3_hasRoomFor ({ frames := 1, cells := 0, slots := 0, locals := 40 }) (va_Pc [.ref z0, .int p0] (pk_PreR (dC, dI) [(z0, .inr (6, [.ref x0, v1, v2, v3, v4, v5, v6])), (x0, .inr (5, [.ref k0, .ref w0, .int (nI nz), .int ch])), (k0, .inl (ck, L, .inl f)), (w0, .inl (cw, L, .inl g))] [(ck, .int), (cw, .int)] sz)) (va_Qi (fun (x : Int32) (u : Unit) => x = 0 ∨ x = 1) (fun _ (t : State) => t.heap.size = sz) ro_A) 0 0 ro_A := by
  refine Met.ofW (cc := cX3_hasRoomFor) (maxL := 2) (ret := (some .boolean)) (by decide) rfl ?_
  intro p e s m args below meth c s₁ B hml hv
  obtain ⟨rfl, hsz, hP, hK⟩ := hv
  have hx := B.exec
  have hb := B.bytes
  have hr := B.returns
  have hts := atoms_spec (ws := wsX3_hasRoomFor) B.pre
  have hown : s.vm.findClass RX3 = some m.cls := findClass_of_methodNamed B.named
  have hlocks := B.notSynchronized
  subst hsz
  have hS : va_S ro_A s.heap s.heap [] := va_S.rf
  have hP : va_P (dC, dI) vwCl [(z0, .inr (6, [.ref x0, v1, v2, v3, v4, v5, v6])), (x0, .inr (5, [.ref k0, .ref w0, .int (nI nz), .int ch])), (k0, .inl (ck, L, .inl f)), (w0, .inl (cw, L, .inl g))] s.heap := hP
  have hl := lv_entry ([.ref z0, .int p0]) (n := 2) (Nat.le_of_ble_eq_true rfl)
  rw [lg_entry_eq]
  generalize (lg_sl ([.ref z0, .int p0]) ++ List.replicate (2 - (lg_sl ([.ref z0, .int p0])).length) Slot.unset).toArray = ls at hl ⊢
  have hl : lv_has ls 2 [(0, .ref z0), (1, .int p0)] := hl
  have hw0_ := hts (.fieldLink RX3 9 "KeyAtlas$Keyed" "rows" "LKeyAtlas$Rows;") (List.mem_of_getElem? (l := wsX3_hasRoomFor) (i := 1) rfl)
  have hi0_ : ∀ w ∈ u_ws RX6 TX6 7, w ∈ wsX3_hasRoomFor := fun w h => List.mem_cons_of_mem _ (List.mem_append_left _ (List.mem_append_right _ h))
  refine lv_aload_n hx hb dX3_hasRoomFor_0 rfl (lv_at hl 0 rfl) ?_
  refine va_get (D := (dC, dI)) (ci := 6) (v := .ref x0) (C := RX6) (T := TX6) (N := 7) hx hb hts hi0_ hown hK hP 0 rfl rfl 0 (by decide) hw0_ (fun _ h9 => h9) rfl dX3_hasRoomFor_1 ?_
  have hPc := hP.sub (ws' := [(x0, .inr (5, [.ref k0, .ref w0, .int (nI nz), .int ch]))]) [1] rfl
  have hKc := hK.sub (tys' := []) [] rfl
  refine ro_calli (va_runV (As := []) (rest := []) ⟨hx, hb, hml, hown, hts⟩ (c_X5_size l  dC dI s.heap.size x0 (nI nz) (.ref k0) (.ref w0) (.int ch)) (cwV 0 hts gX3_hasRoomFor_X5_size rfl rfl rfl (by decide +kernel) ⟨(Nat.le_of_ble_eq_true rfl), (Nat.le_of_ble_eq_true rfl)⟩) ⟨pk_blindR, va_recv hKc hPc (ci := 5) (q0 := 0) rfl rfl, pk_callR hPc hKc⟩ rfl rfl hl.1 rfl (lv_room (Nat.le_of_ble_eq_true rfl)) dX3_hasRoomFor_4 ⟨(Nat.le_of_ble_eq_true rfl), (Nat.le_of_ble_eq_true rfl)⟩) (fun r_1 ur_1 hw => ?_)
  clear hPc hKc
  try dsimp only at hw
  obtain rfl : r_1 = nI nz := hw
  refine W.eq (g2 := F0 m 7 ls [.int (nI nz)]) rfl ?_
  refine lv_iload_n hx hb dX3_hasRoomFor_7 rfl (lv_at hl 1 rfl) ?_
  refine lv_iadd hx hb dX3_hasRoomFor_8 ?_
  refine lv_sipush (v := 1000) hx hb dX3_hasRoomFor_9 (by decide) ?_
  refine lv_icmp_gt (tgt := 19) hx hb dX3_hasRoomFor_12 (by decide) (fun c_2 => ?_) (fun c_2 => ?_)
  ·
    have ic_2 : 1000 < ((nI nz) + p0).toInt := tx_lt (by decide) rfl c_2
    refine lv_iconst (v := 0) hx hb dX3_hasRoomFor_19 (by decide) ?_
    refine W.widen (k := 0) (n := 0) (Nat.le_of_ble_eq_true rfl) (Nat.le_of_ble_eq_true rfl) ?_
    exact W.zret (v := 0) hx hb hr rfl (fun t ht hW => ⟨⟨0, (), rfl, Or.inl rfl, congrArg Array.size ht⟩, hS.F ht⟩) hS.2.2 dX3_hasRoomFor_20
  ·
    have ic_2 : ((nI nz) + p0).toInt ≤ 1000 := tx_nlt (by decide) rfl c_2
    refine lv_iconst (v := 1) hx hb dX3_hasRoomFor_15 (by decide) ?_
    refine lv_goto (tgt := 20) hx hb dX3_hasRoomFor_16 (by decide) ?_
    refine W.widen (k := 0) (n := 0) (Nat.le_of_ble_eq_true rfl) (Nat.le_of_ble_eq_true rfl) ?_
    exact W.zret (v := 1) hx hb hr rfl (fun t ht hW => ⟨⟨1, (), rfl, Or.inr rfl, congrArg Array.size ht⟩, hS.F ht⟩) hS.2.2 dX3_hasRoomFor_20
