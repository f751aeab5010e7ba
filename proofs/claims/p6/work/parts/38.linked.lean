theorem dX3_placeOf_0 : decode cX3_placeOf 0 = .ok (.iload_n 1, 1) := by decide +kernel
theorem dX3_placeOf_1 : decode cX3_placeOf 1 = .ok (.ireturn, 1) := by decide +kernel
theorem dX3_mayHold_0 : decode cX3_mayHold 0 = .ok (.iconst 1, 1) := by decide +kernel
theorem dX3_mayHold_1 : decode cX3_mayHold 1 = .ok (.ireturn, 1) := by decide +kernel
theorem dX3_noteUse_0 : decode cX3_noteUse 0 = .ok (.return_, 1) := by decide +kernel
theorem dX3_howManyBefore_0 : decode cX3_howManyBefore 0 = .ok (.iconst 0, 1) := by decide +kernel
theorem dX3_howManyBefore_1 : decode cX3_howManyBefore 1 = .ok (.ireturn, 1) := by decide +kernel
theorem dX3_howManyUpTo_0 : decode cX3_howManyUpTo 0 = .ok (.iconst 0, 1) := by decide +kernel
theorem dX3_howManyUpTo_1 : decode cX3_howManyUpTo 1 = .ok (.ireturn, 1) := by decide +kernel
theorem dX3_tableLength_0 : decode cX3_tableLength 0 = .ok (.iconst 0, 1) := by decide +kernel
theorem dX3_tableLength_1 : decode cX3_tableLength 1 = .ok (.ireturn, 1) := by decide +kernel
theorem dX3_howManyBushy_0 : decode cX3_howManyBushy 0 = .ok (.iconst 0, 1) := by decide +kernel
theorem dX3_howManyBushy_1 : decode cX3_howManyBushy 1 = .ok (.ireturn, 1) := by decide +kernel
theorem dX4_find_0 : decode cX4_find 0 = .ok (.aload_n 0, 1) := by decide +kernel
theorem dX4_find_1 : decode cX4_find 1 = .ok (.getfield 24, 3) := by decide +kernel
set_option maxRecDepth 20000 in
theorem ggX4_find_X5_size : GoodIn wsX4_find wsX5_size := goodIn_r _ [7, 8, 33, 34, 35, 36] rfl (by decide +kernel)
set_option maxRecDepth 20000 in
theorem gX4_find_X5_size : GoodIn wsX4_find (wsV RX4 28 RX5 yX5_size wsX5_size) := goodIn_app (goodIn_of _ (by decide +kernel)) ggX4_find_X5_size
theorem dX4_find_4 : decode cX4_find 4 = .ok (.invokevirtual 28, 3) := by decide +kernel
theorem dX4_find_7 : decode cX4_find 7 = .ok (.istore_n 2, 1) := by decide +kernel
theorem dX4_find_8 : decode cX4_find 8 = .ok (.iconst 0, 1) := by decide +kernel
theorem dX4_find_9 : decode cX4_find 9 = .ok (.istore_n 3, 1) := by decide +kernel
theorem dX4_find_10 : decode cX4_find 10 = .ok (.iload_n 3, 1) := by decide +kernel
theorem dX4_find_11 : decode cX4_find 11 = .ok (.iload_n 2, 1) := by decide +kernel
theorem dX4_find_12 : decode cX4_find 12 = .ok (.if_icmp .ge 23, 3) := by decide +kernel
theorem dX4_find_35 : decode cX4_find 35 = .ok (.iconst (-1), 1) := by decide +kernel
theorem dX4_find_36 : decode cX4_find 36 = .ok (.ireturn, 1) := by decide +kernel
theorem dX4_find_15 : decode cX4_find 15 = .ok (.aload_n 0, 1) := by decide +kernel
theorem dX4_find_16 : decode cX4_find 16 = .ok (.getfield 24, 3) := by decide +kernel
theorem dX4_find_19 : decode cX4_find 19 = .ok (.iload_n 3, 1) := by decide +kernel
set_option maxRecDepth 20000 in
theorem ggX4_find_X5_key : GoodIn wsX4_find wsX5_key := goodIn_r _ [12, 8, 13, 33, 34, 35, 36] rfl (by decide +kernel)
set_option maxRecDepth 20000 in
theorem gX4_find_X5_key : GoodIn wsX4_find (wsV RX4 32 RX5 yX5_key wsX5_key) := goodIn_app (goodIn_of _ (by decide +kernel)) ggX4_find_X5_key
theorem dX4_find_20 : decode cX4_find 20 = .ok (.invokevirtual 32, 3) := by decide +kernel
theorem dX4_find_23 : decode cX4_find 23 = .ok (.iload_n 1, 1) := by decide +kernel
theorem dX4_find_24 : decode cX4_find 24 = .ok (.if_icmp .ne 5, 3) := by decide +kernel
theorem dX4_find_29 : decode cX4_find 29 = .ok (.iinc 3 1, 3) := by decide +kernel
theorem dX4_find_32 : decode cX4_find 32 = .ok (.goto (-22), 3) := by decide +kernel
theorem dX4_find_27 : decode cX4_find 27 = .ok (.iload_n 3, 1) := by decide +kernel
theorem dX4_find_28 : decode cX4_find 28 = .ok (.ireturn, 1) := by decide +kernel
theorem dX4_hasRoomFor_0 : decode cX4_hasRoomFor 0 = .ok (.aload_n 0, 1) := by decide +kernel
theorem dX4_hasRoomFor_1 : decode cX4_hasRoomFor 1 = .ok (.getfield 14, 3) := by decide +kernel
theorem dX4_hasRoomFor_4 : decode cX4_hasRoomFor 4 = .ok (.ifCond .gt 11, 3) := by decide +kernel
theorem dX4_hasRoomFor_15 : decode cX4_hasRoomFor 15 = .ok (.iconst 1, 1) := by decide +kernel
theorem dX4_hasRoomFor_16 : decode cX4_hasRoomFor 16 = .ok (.goto 4, 3) := by decide +kernel
theorem dX4_hasRoomFor_20 : decode cX4_hasRoomFor 20 = .ok (.ireturn, 1) := by decide +kernel
theorem dX4_hasRoomFor_7 : decode cX4_hasRoomFor 7 = .ok (.aload_n 0, 1) := by decide +kernel
theorem dX4_hasRoomFor_8 : decode cX4_hasRoomFor 8 = .ok (.iload_n 1, 1) := by decide +kernel
set_option maxRecDepth 20000 in
theorem ggX4_hasRoomFor_X3_hasRoomFor : GoodIn wsX4_hasRoomFor wsX3_hasRoomFor := goodIn_r _ [7, 8, 9, 10, 11, 12, 13, 14, 20, 21, 22, 23, 24, 25, 26, 15, 16, 17, 18, 19, 27, 28, 29, 30, 31, 32, 33, 34, 35, 36, 37] rfl (by decide +kernel)
set_option maxRecDepth 20000 in
theorem gX4_hasRoomFor_X3_hasRoomFor_s36 : GoodIn wsX4_hasRoomFor (va_wsSU RX4 36 yX3_hasRoomFor wsX3_hasRoomFor) := goodIn_app (goodIn_of _ (by decide +kernel)) ggX4_hasRoomFor_X3_hasRoomFor
theorem dX4_hasRoomFor_9 : decode cX4_hasRoomFor 9 = .ok (.invokespecial 36, 3) := by decide +kernel
theorem dX4_hasRoomFor_12 : decode cX4_hasRoomFor 12 = .ok (.ifCond .eq 7, 3) := by decide +kernel
theorem dX4_hasRoomFor_19 : decode cX4_hasRoomFor 19 = .ok (.iconst 0, 1) := by decide +kernel
theorem dX4_enter_0 : decode cX4_enter 0 = .ok (.aload_n 0, 1) := by decide +kernel
theorem dX4_enter_1 : decode cX4_enter 1 = .ok (.getfield 14, 3) := by decide +kernel
theorem dX4_enter_4 : decode cX4_enter 4 = .ok (.ifCond .le 22, 3) := by decide +kernel
theorem dX4_enter_26 : decode cX4_enter 26 = .ok (.aload_n 0, 1) := by decide +kernel
theorem dX4_enter_27 : decode cX4_enter 27 = .ok (.getfield 24, 3) := by decide +kernel
theorem dX4_enter_30 : decode cX4_enter 30 = .ok (.aload_n 0, 1) := by decide +kernel
theorem dX4_enter_31 : decode cX4_enter 31 = .ok (.getfield 24, 3) := by decide +kernel
set_option maxRecDepth 20000 in
theorem ggX4_enter_X5_size : GoodIn wsX4_enter wsX5_size := goodIn_r _ [8, 9, 67, 68, 69, 70] rfl (by decide +kernel)
set_option maxRecDepth 20000 in
theorem gX4_enter_X5_size : GoodIn wsX4_enter (wsV RX4 28 RX5 yX5_size wsX5_size) := goodIn_app (goodIn_of _ (by decide +kernel)) ggX4_enter_X5_size
theorem dX4_enter_34 : decode cX4_enter 34 = .ok (.invokevirtual 28, 3) := by decide +kernel
theorem dX4_enter_37 : decode cX4_enter 37 = .ok (.iload_n 1, 1) := by decide +kernel
theorem dX4_enter_38 : decode cX4_enter 38 = .ok (.iload_n 2, 1) := by decide +kernel
set_option maxRecDepth 20000 in
theorem ggX4_enter_X5_insert : GoodIn wsX4_enter wsX5_insert := goodIn_r _ [31, 9, 21, 26, 22, 23, 24, 25, 27, 32, 33, 34, 35, 36, 37, 38, 39, 40, 41, 42, 43, 44, 45, 46, 47, 67, 68, 69, 70] rfl (by decide +kernel)
set_option maxRecDepth 20000 in
theorem gX4_enter_X5_insert : GoodIn wsX4_enter (wsV RX4 44 RX5 yX5_insert wsX5_insert) := goodIn_app (goodIn_of _ (by decide +kernel)) ggX4_enter_X5_insert
theorem dX4_enter_39 : decode cX4_enter 39 = .ok (.invokevirtual 44, 3) := by decide +kernel
theorem dX4_enter_42 : decode cX4_enter 42 = .ok (.return_, 1) := by decide +kernel
theorem dX4_enter_7 : decode cX4_enter 7 = .ok (.aload_n 0, 1) := by decide +kernel
theorem dX4_enter_8 : decode cX4_enter 8 = .ok (.getfield 24, 3) := by decide +kernel
theorem dX4_enter_11 : decode cX4_enter 11 = .ok (.invokevirtual 28, 3) := by decide +kernel
theorem dX4_enter_14 : decode cX4_enter 14 = .ok (.aload_n 0, 1) := by decide +kernel
theorem dX4_enter_15 : decode cX4_enter 15 = .ok (.getfield 14, 3) := by decide +kernel
theorem dX4_enter_18 : decode cX4_enter 18 = .ok (.if_icmp .lt 8, 3) := by decide +kernel
theorem dX4_enter_21 : decode cX4_enter 21 = .ok (.aload_n 0, 1) := by decide +kernel
theorem dX4_enter_22 : decode cX4_enter 22 = .ok (.iconst 0, 1) := by decide +kernel
set_option maxRecDepth 20000 in
theorem ggX4_enter_X3_leave : GoodIn wsX4_enter wsX3_leave := goodIn_r _ [15, 16, 17, 18, 19, 7, 20, 9, 21, 22, 23, 24, 25, 26, 27, 53, 54, 55, 56, 57, 58, 59, 48, 49, 50, 51, 52, 60, 61, 62, 63, 64, 65, 66, 67, 68, 69, 70] rfl (by decide +kernel)
set_option maxRecDepth 20000 in
theorem gX4_enter_X3_leave_u40X4 : GoodIn wsX4_enter (va_wsU RX4 40 RX4 "KeyAtlas$Keyed" ⟨"KeyAtlas$Linked", "leave", "(I)V"⟩ yX3_leave wsX3_leave) := goodIn_app (goodIn_of _ (by decide +kernel)) ggX4_enter_X3_leave
theorem dX4_enter_23 : decode cX4_enter 23 = .ok (.invokevirtual 40, 3) := by decide +kernel
theorem dX4_noteUse_0 : decode cX4_noteUse 0 = .ok (.aload_n 0, 1) := by decide +kernel
theorem dX4_noteUse_1 : decode cX4_noteUse 1 = .ok (.getfield 20, 3) := by decide +kernel
theorem dX4_noteUse_4 : decode cX4_noteUse 4 = .ok (.ifCond .eq 11, 3) := by decide +kernel
theorem dX4_noteUse_15 : decode cX4_noteUse 15 = .ok (.return_, 1) := by decide +kernel
theorem dX4_noteUse_7 : decode cX4_noteUse 7 = .ok (.aload_n 0, 1) := by decide +kernel
theorem dX4_noteUse_8 : decode cX4_noteUse 8 = .ok (.getfield 24, 3) := by decide +kernel
theorem dX4_noteUse_11 : decode cX4_noteUse 11 = .ok (.iload_n 1, 1) := by decide +kernel
set_option maxRecDepth 20000 in
theorem ggX4_noteUse_X5_moveToEnd : GoodIn wsX4_noteUse wsX5_moveToEnd := goodIn_r _ [8, 9, 10, 11, 12, 13, 14, 15, 16, 36, 37, 38, 39] rfl (by decide +kernel)
set_option maxRecDepth 20000 in
theorem gX4_noteUse_X5_moveToEnd : GoodIn wsX4_noteUse (wsV RX4 48 RX5 yX5_moveToEnd wsX5_moveToEnd) := goodIn_app (goodIn_of _ (by decide +kernel)) ggX4_noteUse_X5_moveToEnd
theorem dX4_noteUse_12 : decode cX4_noteUse 12 = .ok (.invokevirtual 48, 3) := by decide +kernel
set_option maxHeartbeats 4000000 in
set_option maxRecDepth 100000 in
/-- Keyed.placeOf -/
theorem c_X3_placeOf_H (l : Launch) (dC : Nat → ClassId) (dI : Nat → Nat → Nat) (sz : Nat) (z0 : Nat) (v0 : Value) (v1 : Value) (v2 : Value) (v3 : Value) (v4 : Value) (v5 : Value) (v6 : Value) (p0 : Int32) : Met l yX3_placeOf wsX3_placeOf ({ frames := 0, cells := 0, slots := 0, locals := 0 }) (va_Pc [.ref z0, .int p0] (pk_PreR (dC, dI) [(z0, .inr (3, [v0, v1, v2, v3, v4, v5, v6]))] [] sz)) (va_Qi (fun (x : Int32) (_ : Unit) => x = p0) (fun _ (t : State) => t.heap.size = sz) ro_A) 0 0 ro_A := by
  refine Met.ofW (cc := cX3_placeOf) (maxL := 2) (ret := (some .int)) (by decide) rfl ?_
  intro p e s m args below meth c s₁ B hml hv
  obtain ⟨rfl, hsz, hP, hK⟩ := hv
  have hx := B.exec
  have hb := B.bytes
  have hr := B.returns
  have hts := atoms_spec (ws := wsX3_placeOf) B.pre
  have hown : s.vm.findClass RX3 = some m.cls := findClass_of_methodNamed B.named
  have hlocks := B.notSynchronized
  subst hsz
  have hS : va_S ro_A s.heap s.heap [] := va_S.rf
  have hP : va_P (dC, dI) vwCl [(z0, .inr (3, [v0, v1, v2, v3, v4, v5, v6]))] s.heap := hP
  have hl := lv_entry ([.ref z0, .int p0]) (n := 2) (Nat.le_of_ble_eq_true rfl)
  rw [lg_entry_eq]
  generalize (lg_sl ([.ref z0, .int p0]) ++ List.replicate (2 - (lg_sl ([.ref z0, .int p0])).length) Slot.unset).toArray = ls at hl ⊢
  have hl : lv_has ls 2 [(0, .ref z0), (1, .int p0)] := hl

  refine lv_iload_n hx hb dX3_placeOf_0 rfl (lv_at hl 1 rfl) ?_
  refine W.widen (k := 0) (n := 0) (Nat.le_of_ble_eq_true rfl) (Nat.le_of_ble_eq_true rfl) ?_
  exact W.iret (v := p0) hx hb hr (fun t ht hW => ⟨⟨p0, (), rfl, rfl, congrArg Array.size ht⟩, hS.F ht⟩) hS.2.2 dX3_placeOf_1
set_option maxHeartbeats 4000000 in
set_option maxRecDepth 100000 in
/-- Keyed.mayHold -/
theorem c_X3_mayHold_H (l : Launch) (dC : Nat → ClassId) (dI : Nat → Nat → Nat) (sz : Nat) (z0 : Nat) (v0 : Value) (v1 : Value) (v2 : Value) (v3 : Value) (v4 : Value) (v5 : Value) (v6 : Value) (p0 : Int32) : Met l yX3_mayHold wsX3_mayHold ({ frames := 0, cells := 0, slots := 0, locals := 0 }) (va_Pc [.ref z0, .int p0] (pk_PreR (dC, dI) [(z0, .inr (3, [v0, v1, v2, v3, v4, v5, v6]))] [] sz)) (va_Qi (fun (x : Int32) (_ : Unit) => x = 1) (fun _ (t : State) => t.heap.size = sz) ro_A) 0 0 ro_A := by
  refine Met.ofW (cc := cX3_mayHold) (maxL := 2) (ret := (some .boolean)) (by decide) rfl ?_
  intro p e s m args below meth c s₁ B hml hv
  obtain ⟨rfl, hsz, hP, hK⟩ := hv
  have hx := B.exec
  have hb := B.bytes
  have hr := B.returns
  have hts := atoms_spec (ws := wsX3_mayHold) B.pre
  have hown : s.vm.findClass RX3 = some m.cls := findClass_of_methodNamed B.named
  have hlocks := B.notSynchronized
  subst hsz
  have hS : va_S ro_A s.heap s.heap [] := va_S.rf
  have hP : va_P (dC, dI) vwCl [(z0, .inr (3, [v0, v1, v2, v3, v4, v5, v6]))] s.heap := hP
  have hl := lv_entry ([.ref z0, .int p0]) (n := 2) (Nat.le_of_ble_eq_true rfl)
  rw [lg_entry_eq]
  generalize (lg_sl ([.ref z0, .int p0]) ++ List.replicate (2 - (lg_sl ([.ref z0, .int p0])).length) Slot.unset).toArray = ls at hl ⊢
  have hl : lv_has ls 2 [(0, .ref z0), (1, .int p0)] := hl

  refine lv_iconst (v := 1) hx hb dX3_mayHold_0 (by decide) ?_
  refine W.widen (k := 0) (n := 0) (Nat.le_of_ble_eq_true rfl) (Nat.le_of_ble_eq_true rfl) ?_
  exact W.zret (v := 1) hx hb hr rfl (fun t ht hW => ⟨⟨1, (), rfl, rfl, congrArg Array.size ht⟩, hS.F ht⟩) hS.2.2 dX3_mayHold_1
set_option maxHeartbeats 4000000 in
set_option maxRecDepth 100000 in
/-- Keyed.noteUse -/
theorem c_X3_noteUse_H (l : Launch) (dC : Nat → ClassId) (dI : Nat → Nat → Nat) (sz : Nat) (z0 : Nat) (v0 : Value) (v1 : Value) (v2 : Value) (v3 : Value) (v4 : Value) (v5 : Value) (v6 : Value) (p0 : Int32) : Met l yX3_noteUse wsX3_noteUse ({ frames := 0, cells := 0, slots := 0, locals := 0 }) (va_Pc [.ref z0, .int p0] (pk_PreR (dC, dI) [(z0, .inr (3, [v0, v1, v2, v3, v4, v5, v6]))] [] sz)) (va_Qv (fun (_ : Unit) => True) (fun _ (t : State) => t.heap.size = sz) ro_A) 0 0 ro_A := by
  refine Met.ofW (cc := cX3_noteUse) (maxL := 2) (ret := none) (by decide) rfl ?_
  intro p e s m args below meth c s₁ B hml hv
  obtain ⟨rfl, hsz, hP, hK⟩ := hv
  have hx := B.exec
  have hb := B.bytes
  have hr := B.returns
  have hts := atoms_spec (ws := wsX3_noteUse) B.pre
  have hown : s.vm.findClass RX3 = some m.cls := findClass_of_methodNamed B.named
  have hlocks := B.notSynchronized
  subst hsz
  have hS : va_S ro_A s.heap s.heap [] := va_S.rf
  have hP : va_P (dC, dI) vwCl [(z0, .inr (3, [v0, v1, v2, v3, v4, v5, v6]))] s.heap := hP
  have hl := lv_entry ([.ref z0, .int p0]) (n := 2) (Nat.le_of_ble_eq_true rfl)
  rw [lg_entry_eq]
  generalize (lg_sl ([.ref z0, .int p0]) ++ List.replicate (2 - (lg_sl ([.ref z0, .int p0])).length) Slot.unset).toArray = ls at hl ⊢
  have hl : lv_has ls 2 [(0, .ref z0), (1, .int p0)] := hl

  refine W.widen (k := 0) (n := 0) (Nat.le_of_ble_eq_true rfl) (Nat.le_of_ble_eq_true rfl) ?_
  exact W.vret hx hb hr (fun t ht hW => ⟨⟨(), rfl, trivial, congrArg Array.size ht⟩, hS.F ht⟩) hS.2.2 dX3_noteUse_0
set_option maxHeartbeats 4000000 in
set_option maxRecDepth 100000 in
/-- Keyed.howManyBefore -/
theorem c_X3_howManyBefore_H (l : Launch) (dC : Nat → ClassId) (dI : Nat → Nat → Nat) (sz : Nat) (z0 : Nat) (v0 : Value) (v1 : Value) (v2 : Value) (v3 : Value) (v4 : Value) (v5 : Value) (v6 : Value) (p0 : Int32) : Met l yX3_howManyBefore wsX3_howManyBefore ({ frames := 0, cells := 0, slots := 0, locals := 0 }) (va_Pc [.ref z0, .int p0] (pk_PreR (dC, dI) [(z0, .inr (3, [v0, v1, v2, v3, v4, v5, v6]))] [] sz)) (va_Qi (fun (x : Int32) (_ : Unit) => True) (fun _ (t : State) => t.heap.size = sz) ro_A) 0 0 ro_A := by
  refine Met.ofW (cc := cX3_howManyBefore) (maxL := 2) (ret := (some .int)) (by decide) rfl ?_
  intro p e s m args below meth c s₁ B hml hv
  obtain ⟨rfl, hsz, hP, hK⟩ := hv
  have hx := B.exec
  have hb := B.bytes
  have hr := B.returns
  have hts := atoms_spec (ws := wsX3_howManyBefore) B.pre
  have hown : s.vm.findClass RX3 = some m.cls := findClass_of_methodNamed B.named
  have hlocks := B.notSynchronized
  subst hsz
  have hS : va_S ro_A s.heap s.heap [] := va_S.rf
  have hP : va_P (dC, dI) vwCl [(z0, .inr (3, [v0, v1, v2, v3, v4, v5, v6]))] s.heap := hP
  have hl := lv_entry ([.ref z0, .int p0]) (n := 2) (Nat.le_of_ble_eq_true rfl)
  rw [lg_entry_eq]
  generalize (lg_sl ([.ref z0, .int p0]) ++ List.replicate (2 - (lg_sl ([.ref z0, .int p0])).length) Slot.unset).toArray = ls at hl ⊢
  have hl : lv_has ls 2 [(0, .ref z0), (1, .int p0)] := hl

  refine lv_iconst (v := 0) hx hb dX3_howManyBefore_0 (by decide) ?_
  refine W.widen (k := 0) (n := 0) (Nat.le_of_ble_eq_true rfl) (Nat.le_of_ble_eq_true rfl) ?_
  exact W.iret (v := 0) hx hb hr (fun t ht hW => ⟨⟨0, (), rfl, trivial, congrArg Array.size ht⟩, hS.F ht⟩) hS.2.2 dX3_howManyBefore_1
set_option maxHeartbeats 4000000 in
set_option maxRecDepth 100000 in
/-- Keyed.howManyUpTo -/
theorem c_X3_howManyUpTo_H (l : Launch) (dC : Nat → ClassId) (dI : Nat → Nat → Nat) (sz : Nat) (z0 : Nat) (v0 : Value) (v1 : Value) (v2 : Value) (v3 : Value) (v4 : Value) (v5 : Value) (v6 : Value) (p0 : Int32) : Met l yX3_howManyUpTo wsX3_howManyUpTo ({ frames := 0, cells := 0, slots := 0, locals := 0 }) (va_Pc [.ref z0, .int p0] (pk_PreR (dC, dI) [(z0, .inr (3, [v0, v1, v2, v3, v4, v5, v6]))] [] sz)) (va_Qi (fun (x : Int32) (_ : Unit) => True) (fun _ (t : State) => t.heap.size = sz) ro_A) 0 0 ro_A := by
  refine Met.ofW (cc := cX3_howManyUpTo) (maxL := 2) (ret := (some .int)) (by decide) rfl ?_
  intro p e s m args below meth c s₁ B hml hv
  obtain ⟨rfl, hsz, hP, hK⟩ := hv
  have hx := B.exec
  have hb := B.bytes
  have hr := B.returns
  have hts := atoms_spec (ws := wsX3_howManyUpTo) B.pre
  have hown : s.vm.findClass RX3 = some m.cls := findClass_of_methodNamed B.named
  have hlocks := B.notSynchronized
  subst hsz
  have hS : va_S ro_A s.heap s.heap [] := va_S.rf
  have hP : va_P (dC, dI) vwCl [(z0, .inr (3, [v0, v1, v2, v3, v4, v5, v6]))] s.heap := hP
  have hl := lv_entry ([.ref z0, .int p0]) (n := 2) (Nat.le_of_ble_eq_true rfl)
  rw [lg_entry_eq]
  generalize (lg_sl ([.ref z0, .int p0]) ++ List.replicate (2 - (lg_sl ([.ref z0, .int p0])).length) Slot.unset).toArray = ls at hl ⊢
  have hl : lv_has ls 2 [(0, .ref z0), (1, .int p0)] := hl

  refine lv_iconst (v := 0) hx hb dX3_howManyUpTo_0 (by decide) ?_
  refine W.widen (k := 0) (n := 0) (Nat.le_of_ble_eq_true rfl) (Nat.le_of_ble_eq_true rfl) ?_
  exact W.iret (v := 0) hx hb hr (fun t ht hW => ⟨⟨0, (), rfl, trivial, congrArg Array.size ht⟩, hS.F ht⟩) hS.2.2 dX3_howManyUpTo_1
set_option maxHeartbeats 4000000 in
set_option maxRecDepth 100000 in
/-- Keyed.placeOf -/
theorem c_X3_placeOf_L (l : Launch) (dC : Nat → ClassId) (dI : Nat → Nat → Nat) (sz : Nat) (z0 : Nat) (v0 : Value) (v1 : Value) (v2 : Value) (v3 : Value) (v4 : Value) (p0 : Int32) : Met l yX3_placeOf wsX3_placeOf ({ frames := 0, cells := 0, slots := 0, locals := 0 }) (va_Pc [.ref z0, .int p0] (pk_PreR (dC, dI) [(z0, .inr (4, [v0, v1, v2, v3, v4]))] [] sz)) (va_Qi (fun (x : Int32) (_ : Unit) => x = p0) (fun _ (t : State) => t.heap.size = sz) ro_A) 0 0 ro_A := by
  refine Met.ofW (cc := cX3_placeOf) (maxL := 2) (ret := (some .int)) (by decide) rfl ?_
  intro p e s m args below meth c s₁ B hml hv
  obtain ⟨rfl, hsz, hP, hK⟩ := hv
  have hx := B.exec
  have hb := B.bytes
  have hr := B.returns
  have hts := atoms_spec (ws := wsX3_placeOf) B.pre
  have hown : s.vm.findClass RX3 = some m.cls := findClass_of_methodNamed B.named
  have hlocks := B.notSynchronized
  subst hsz
  have hS : va_S ro_A s.heap s.heap [] := va_S.rf
  have hP : va_P (dC, dI) vwCl [(z0, .inr (4, [v0, v1, v2, v3, v4]))] s.heap := hP
  have hl := lv_entry ([.ref z0, .int p0]) (n := 2) (Nat.le_of_ble_eq_true rfl)
  rw [lg_entry_eq]
  generalize (lg_sl ([.ref z0, .int p0]) ++ List.replicate (2 - (lg_sl ([.ref z0, .int p0])).length) Slot.unset).toArray = ls at hl ⊢
  have hl : lv_has ls 2 [(0, .ref z0), (1, .int p0)] := hl

  refine lv_iload_n hx hb dX3_placeOf_0 rfl (lv_at hl 1 rfl) ?_
  refine W.widen (k := 0) (n := 0) (Nat.le_of_ble_eq_true rfl) (Nat.le_of_ble_eq_true rfl) ?_
  exact W.iret (v := p0) hx hb hr (fun t ht hW => ⟨⟨p0, (), rfl, rfl, congrArg Array.size ht⟩, hS.F ht⟩) hS.2.2 dX3_placeOf_1
set_option maxHeartbeats 4000000 in
set_option maxRecDepth 100000 in
/-- Keyed.mayHold -/
theorem c_X3_mayHold_L (l : Launch) (dC : Nat → ClassId) (dI : Nat → Nat → Nat) (sz : Nat) (z0 : Nat) (v0 : Value) (v1 : Value) (v2 : Value) (v3 : Value) (v4 : Value) (p0 : Int32) : Met l yX3_mayHold wsX3_mayHold ({ frames := 0, cells := 0, slots := 0, locals := 0 }) (va_Pc [.ref z0, .int p0] (pk_PreR (dC, dI) [(z0, .inr (4, [v0, v1, v2, v3, v4]))] [] sz)) (va_Qi (fun (x : Int32) (_ : Unit) => x = 1) (fun _ (t : State) => t.heap.size = sz) ro_A) 0 0 ro_A := by
  refine Met.ofW (cc := cX3_mayHold) (maxL := 2) (ret := (some .boolean)) (by decide) rfl ?_
  intro p e s m args below meth c s₁ B hml hv
  obtain ⟨rfl, hsz, hP, hK⟩ := hv
  have hx := B.exec
  have hb := B.bytes
  have hr := B.returns
  have hts := atoms_spec (ws := wsX3_mayHold) B.pre
  have hown : s.vm.findClass RX3 = some m.cls := findClass_of_methodNamed B.named
  have hlocks := B.notSynchronized
  subst hsz
  have hS : va_S ro_A s.heap s.heap [] := va_S.rf
  have hP : va_P (dC, dI) vwCl [(z0, .inr (4, [v0, v1, v2, v3, v4]))] s.heap := hP
  have hl := lv_entry ([.ref z0, .int p0]) (n := 2) (Nat.le_of_ble_eq_true rfl)
  rw [lg_entry_eq]
  generalize (lg_sl ([.ref z0, .int p0]) ++ List.replicate (2 - (lg_sl ([.ref z0, .int p0])).length) Slot.unset).toArray = ls at hl ⊢
  have hl : lv_has ls 2 [(0, .ref z0), (1, .int p0)] := hl

  refine lv_iconst (v := 1) hx hb dX3_mayHold_0 (by decide) ?_
  refine W.widen (k := 0) (n := 0) (Nat.le_of_ble_eq_true rfl) (Nat.le_of_ble_eq_true rfl) ?_
  exact W.zret (v := 1) hx hb hr rfl (fun t ht hW => ⟨⟨1, (), rfl, rfl, congrArg Array.size ht⟩, hS.F ht⟩) hS.2.2 dX3_mayHold_1
set_option maxHeartbeats 4000000 in
set_option maxRecDepth 100000 in
/-- Keyed.howManyBefore -/
theorem c_X3_howManyBefore_L (l : Launch) (dC : Nat → ClassId) (dI : Nat → Nat → Nat) (sz : Nat) (z0 : Nat) (v0 : Value) (v1 : Value) (v2 : Value) (v3 : Value) (v4 : Value) (p0 : Int32) : Met l yX3_howManyBefore wsX3_howManyBefore ({ frames := 0, cells := 0, slots := 0, locals := 0 }) (va_Pc [.ref z0, .int p0] (pk_PreR (dC, dI) [(z0, .inr (4, [v0, v1, v2, v3, v4]))] [] sz)) (va_Qi (fun (x : Int32) (_ : Unit) => True) (fun _ (t : State) => t.heap.size = sz) ro_A) 0 0 ro_A := by
  refine Met.ofW (cc := cX3_howManyBefore) (maxL := 2) (ret := (some .int)) (by decide) rfl ?_
  intro p e s m args below meth c s₁ B hml hv
  obtain ⟨rfl, hsz, hP, hK⟩ := hv
  have hx := B.exec
  have hb := B.bytes
  have hr := B.returns
  have hts := atoms_spec (ws := wsX3_howManyBefore) B.pre
  have hown : s.vm.findClass RX3 = some m.cls := findClass_of_methodNamed B.named
  have hlocks := B.notSynchronized
  subst hsz
  have hS : va_S ro_A s.heap s.heap [] := va_S.rf
  have hP : va_P (dC, dI) vwCl [(z0, .inr (4, [v0, v1, v2, v3, v4]))] s.heap := hP
  have hl := lv_entry ([.ref z0, .int p0]) (n := 2) (Nat.le_of_ble_eq_true rfl)
  rw [lg_entry_eq]
  generalize (lg_sl ([.ref z0, .int p0]) ++ List.replicate (2 - (lg_sl ([.ref z0, .int p0])).length) Slot.unset).toArray = ls at hl ⊢
  have hl : lv_has ls 2 [(0, .ref z0), (1, .int p0)] := hl

  refine lv_iconst (v := 0) hx hb dX3_howManyBefore_0 (by decide) ?_
  refine W.widen (k := 0) (n := 0) (Nat.le_of_ble_eq_true rfl) (Nat.le_of_ble_eq_true rfl) ?_
  exact W.iret (v := 0) hx hb hr (fun t ht hW => ⟨⟨0, (), rfl, trivial, congrArg Array.size ht⟩, hS.F ht⟩) hS.2.2 dX3_howManyBefore_1
set_option maxHeartbeats 4000000 in
set_option maxRecDepth 100000 in
/-- Keyed.howManyUpTo -/
theorem c_X3_howManyUpTo_L (l : Launch) (dC : Nat → ClassId) (dI : Nat → Nat → Nat) (sz : Nat) (z0 : Nat) (v0 : Value) (v1 : Value) (v2 : Value) (v3 : Value) (v4 : Value) (p0 : Int32) : Met l yX3_howManyUpTo wsX3_howManyUpTo ({ frames := 0, cells := 0, slots := 0, locals := 0 }) (va_Pc [.ref z0, .int p0] (pk_PreR (dC, dI) [(z0, .inr (4, [v0, v1, v2, v3, v4]))] [] sz)) (va_Qi (fun (x : Int32) (_ : Unit) => True) (fun _ (t : State) => t.heap.size = sz) ro_A) 0 0 ro_A := by
  refine Met.ofW (cc := cX3_howManyUpTo) (maxL := 2) (ret := (some .int)) (by decide) rfl ?_
  intro p e s m args below meth c s₁ B hml hv
  obtain ⟨rfl, hsz, hP, hK⟩ := hv
  have hx := B.exec
  have hb := B.bytes
  have hr := B.returns
  have hts := atoms_spec (ws := wsX3_howManyUpTo) B.pre
  have hown : s.vm.findClass RX3 = some m.cls := findClass_of_methodNamed B.named
  have hlocks := B.notSynchronized
  subst hsz
  have hS : va_S ro_A s.heap s.heap [] := va_S.rf
  have hP : va_P (dC, dI) vwCl [(z0, .inr (4, [v0, v1, v2, v3, v4]))] s.heap := hP
  have hl := lv_entry ([.ref z0, .int p0]) (n := 2) (Nat.le_of_ble_eq_true rfl)
  rw [lg_entry_eq]
  generalize (lg_sl ([.ref z0, .int p0]) ++ List.replicate (2 - (lg_sl ([.ref z0, .int p0])).length) Slot.unset).toArray = ls at hl ⊢
  have hl : lv_has ls 2 [(0, .ref z0), (1, .int p0)] := hl

  refine lv_iconst (v := 0) hx hb dX3_howManyUpTo_0 (by decide) ?_
  refine W.widen (k := 0) (n := 0) (Nat.le_of_ble_eq_true rfl) (Nat.le_of_ble_eq_true rfl) ?_
  exact W.iret (v := 0) hx hb hr (fun t ht hW => ⟨⟨0, (), rfl, trivial, congrArg Array.size ht⟩, hS.F ht⟩) hS.2.2 dX3_howManyUpTo_1
set_option maxHeartbeats 4000000 in
set_option maxRecDepth 100000 in
/-- Keyed.tableLength -/
theorem c_X3_tableLength_L (l : Launch) (dC : Nat → ClassId) (dI : Nat → Nat → Nat) (sz : Nat) (z0 : Nat) (v0 : Value) (v1 : Value) (v2 : Value) (v3 : Value) (v4 : Value) : Met l yX3_tableLength wsX3_tableLength ({ frames := 0, cells := 0, slots := 0, locals := 0 }) (va_Pc [.ref z0] (pk_PreR (dC, dI) [(z0, .inr (4, [v0, v1, v2, v3, v4]))] [] sz)) (va_Qi (fun (x : Int32) (_ : Unit) => True) (fun _ (t : State) => t.heap.size = sz) ro_A) 0 0 ro_A := by
  refine Met.ofW (cc := cX3_tableLength) (maxL := 1) (ret := (some .int)) (by decide) rfl ?_
  intro p e s m args below meth c s₁ B hml hv
  obtain ⟨rfl, hsz, hP, hK⟩ := hv
  have hx := B.exec
  have hb := B.bytes
  have hr := B.returns
  have hts := atoms_spec (ws := wsX3_tableLength) B.pre
  have hown : s.vm.findClass RX3 = some m.cls := findClass_of_methodNamed B.named
  have hlocks := B.notSynchronized
  subst hsz
  have hS : va_S ro_A s.heap s.heap [] := va_S.rf
  have hP : va_P (dC, dI) vwCl [(z0, .inr (4, [v0, v1, v2, v3, v4]))] s.heap := hP
  have hl := lv_entry ([.ref z0]) (n := 1) (Nat.le_of_ble_eq_true rfl)
  rw [lg_entry_eq]
  generalize (lg_sl ([.ref z0]) ++ List.replicate (1 - (lg_sl ([.ref z0])).length) Slot.unset).toArray = ls at hl ⊢
  have hl : lv_has ls 1 [(0, .ref z0)] := hl

  refine lv_iconst (v := 0) hx hb dX3_tableLength_0 (by decide) ?_
  refine W.widen (k := 0) (n := 0) (Nat.le_of_ble_eq_true rfl) (Nat.le_of_ble_eq_true rfl) ?_
  exact W.iret (v := 0) hx hb hr (fun t ht hW => ⟨⟨0, (), rfl, trivial, congrArg Array.size ht⟩, hS.F ht⟩) hS.2.2 dX3_tableLength_1
set_option maxHeartbeats 4000000 in
set_option maxRecDepth 100000 in
/-- Keyed.howManyBushy -/
theorem c_X3_howManyBushy_L (l : Launch) (dC : Nat → ClassId) (dI : Nat → Nat → Nat) (sz : Nat) (z0 : Nat) (v0 : Value) (v1 : Value) (v2 : Value) (v3 : Value) (v4 : Value) : Met l yX3_howManyBushy wsX3_howManyBushy ({ frames := 0, cells := 0, slots := 0, locals := 0 }) (va_Pc [.ref z0] (pk_PreR (dC, dI) [(z0, .inr (4, [v0, v1, v2, v3, v4]))] [] sz)) (va_Qi (fun (x : Int32) (_ : Unit) => True) (fun _ (t : State) => t.heap.size = sz) ro_A) 0 0 ro_A := by
  refine Met.ofW (cc := cX3_howManyBushy) (maxL := 1) (ret := (some .int)) (by decide) rfl ?_
  intro p e s m args below meth c s₁ B hml hv
  obtain ⟨rfl, hsz, hP, hK⟩ := hv
  have hx := B.exec
  have hb := B.bytes
  have hr := B.returns
  have hts := atoms_spec (ws := wsX3_howManyBushy) B.pre
  have hown : s.vm.findClass RX3 = some m.cls := findClass_of_methodNamed B.named
  have hlocks := B.notSynchronized
  subst hsz
  have hS : va_S ro_A s.heap s.heap [] := va_S.rf
  have hP : va_P (dC, dI) vwCl [(z0, .inr (4, [v0, v1, v2, v3, v4]))] s.heap := hP
  have hl := lv_entry ([.ref z0]) (n := 1) (Nat.le_of_ble_eq_true rfl)
  rw [lg_entry_eq]
  generalize (lg_sl ([.ref z0]) ++ List.replicate (1 - (lg_sl ([.ref z0])).length) Slot.unset).toArray = ls at hl ⊢
  have hl : lv_has ls 1 [(0, .ref z0)] := hl

  refine lv_iconst (v := 0) hx hb dX3_howManyBushy_0 (by decide) ?_
  refine W.widen (k := 0) (n := 0) (Nat.le_of_ble_eq_true rfl) (Nat.le_of_ble_eq_true rfl) ?_
  exact W.iret (v := 0) hx hb hr (fun t ht hW => ⟨⟨0, (), rfl, trivial, congrArg Array.size ht⟩, hS.F ht⟩) hS.2.2 dX3_howManyBushy_1
set_option maxHeartbeats 4000000 in
set_option maxRecDepth 100000 in
/-- Keyed.noteUse -/
theorem c_X3_noteUse_S (l : Launch) (dC : Nat → ClassId) (dI : Nat → Nat → Nat) (sz : Nat) (z0 : Nat) (v0 : Value) (v1 : Value) (v2 : Value) (v3 : Value) (v4 : Value) (v5 : Value) (v6 : Value) (p0 : Int32) : Met l yX3_noteUse wsX3_noteUse ({ frames := 0, cells := 0, slots := 0, locals := 0 }) (va_Pc [.ref z0, .int p0] (pk_PreR (dC, dI) [(z0, .inr (6, [v0, v1, v2, v3, v4, v5, v6]))] [] sz)) (va_Qv (fun (_ : Unit) => True) (fun _ (t : State) => t.heap.size = sz) ro_A) 0 0 ro_A := by
  refine Met.ofW (cc := cX3_noteUse) (maxL := 2) (ret := none) (by decide) rfl ?_
  intro p e s m args below meth c s₁ B hml hv
  obtain ⟨rfl, hsz, hP, hK⟩ := hv
  have hx := B.exec
  have hb := B.bytes
  have hr := B.returns
  have hts := atoms_spec (ws := wsX3_noteUse) B.pre
  have hown : s.vm.findClass RX3 = some m.cls := findClass_of_methodNamed B.named
  have hlocks := B.notSynchronized
  subst hsz
  have hS : va_S ro_A s.heap s.heap [] := va_S.rf
  have hP : va_P (dC, dI) vwCl [(z0, .inr (6, [v0, v1, v2, v3, v4, v5, v6]))] s.heap := hP
  have hl := lv_entry ([.ref z0, .int p0]) (n := 2) (Nat.le_of_ble_eq_true rfl)
  rw [lg_entry_eq]
  generalize (lg_sl ([.ref z0, .int p0]) ++ List.replicate (2 - (lg_sl ([.ref z0, .int p0])).length) Slot.unset).toArray = ls at hl ⊢
  have hl : lv_has ls 2 [(0, .ref z0), (1, .int p0)] := hl

  refine W.widen (k := 0) (n := 0) (Nat.le_of_ble_eq_true rfl) (Nat.le_of_ble_eq_true rfl) ?_
  exact W.vret hx hb hr (fun t ht hW => ⟨⟨(), rfl, trivial, congrArg Array.size ht⟩, hS.F ht⟩) hS.2.2 dX3_noteUse_0
set_option maxHeartbeats 4000000 in
set_option maxRecDepth 100000 in
/-- Keyed.tableLength -/
theorem c_X3_tableLength_S (l : Launch) (dC : Nat → ClassId) (dI : Nat → Nat → Nat) (sz : Nat) (z0 : Nat) (v0 : Value) (v1 : Value) (v2 : Value) (v3 : Value) (v4 : Value) (v5 : Value) (v6 : Value) : Met l yX3_tableLength wsX3_tableLength ({ frames := 0, cells := 0, slots := 0, locals := 0 }) (va_Pc [.ref z0] (pk_PreR (dC, dI) [(z0, .inr (6, [v0, v1, v2, v3, v4, v5, v6]))] [] sz)) (va_Qi (fun (x : Int32) (_ : Unit) => True) (fun _ (t : State) => t.heap.size = sz) ro_A) 0 0 ro_A := by
  refine Met.ofW (cc := cX3_tableLength) (maxL := 1) (ret := (some .int)) (by decide) rfl ?_
  intro p e s m args below meth c s₁ B hml hv
  obtain ⟨rfl, hsz, hP, hK⟩ := hv
  have hx := B.exec
  have hb := B.bytes
  have hr := B.returns
  have hts := atoms_spec (ws := wsX3_tableLength) B.pre
  have hown : s.vm.findClass RX3 = some m.cls := findClass_of_methodNamed B.named
  have hlocks := B.notSynchronized
  subst hsz
  have hS : va_S ro_A s.heap s.heap [] := va_S.rf
  have hP : va_P (dC, dI) vwCl [(z0, .inr (6, [v0, v1, v2, v3, v4, v5, v6]))] s.heap := hP
  have hl := lv_entry ([.ref z0]) (n := 1) (Nat.le_of_ble_eq_true rfl)
  rw [lg_entry_eq]
  generalize (lg_sl ([.ref z0]) ++ List.replicate (1 - (lg_sl ([.ref z0])).length) Slot.unset).toArray = ls at hl ⊢
  have hl : lv_has ls 1 [(0, .ref z0)] := hl

  refine lv_iconst (v := 0) hx hb dX3_tableLength_0 (by decide) ?_
  refine W.widen (k := 0) (n := 0) (Nat.le_of_ble_eq_true rfl) (Nat.le_of_ble_eq_true rfl) ?_
  exact W.iret (v := 0) hx hb hr (fun t ht hW => ⟨⟨0, (), rfl, trivial, congrArg Array.size ht⟩, hS.F ht⟩) hS.2.2 dX3_tableLength_1
set_option maxHeartbeats 4000000 in
set_option maxRecDepth 100000 in
/-- Keyed.howManyBushy -/
theorem c_X3_howManyBushy_S (l : Launch) (dC : Nat → ClassId) (dI : Nat → Nat → Nat) (sz : Nat) (z0 : Nat) (v0 : Value) (v1 : Value) (v2 : Value) (v3 : Value) (v4 : Value) (v5 : Value) (v6 : Value) : Met l yX3_howManyBushy wsX3_howManyBushy ({ frames := 0, cells := 0, slots := 0, locals := 0 }) (va_Pc [.ref z0] (pk_PreR (dC, dI) [(z0, .inr (6, [v0, v1, v2, v3, v4, v5, v6]))] [] sz)) (va_Qi (fun (x : Int32) (_ : Unit) => True) (fun _ (t : State) => t.heap.size = sz) ro_A) 0 0 ro_A := by
  refine Met.ofW (cc := cX3_howManyBushy) (maxL := 1) (ret := (some .int)) (by decide) rfl ?_
  intro p e s m args below meth c s₁ B hml hv
  obtain ⟨rfl, hsz, hP, hK⟩ := hv
  have hx := B.exec
  have hb := B.bytes
  have hr := B.returns
  have hts := atoms_spec (ws := wsX3_howManyBushy) B.pre
  have hown : s.vm.findClass RX3 = some m.cls := findClass_of_methodNamed B.named
  have hlocks := B.notSynchronized
  subst hsz
  have hS : va_S ro_A s.heap s.heap [] := va_S.rf
  have hP : va_P (dC, dI) vwCl [(z0, .inr (6, [v0, v1, v2, v3, v4, v5, v6]))] s.heap := hP
  have hl := lv_entry ([.ref z0]) (n := 1) (Nat.le_of_ble_eq_true rfl)
  rw [lg_entry_eq]
  generalize (lg_sl ([.ref z0]) ++ List.replicate (1 - (lg_sl ([.ref z0])).length) Slot.unset).toArray = ls at hl ⊢
  have hl : lv_has ls 1 [(0, .ref z0)] := hl

  refine lv_iconst (v := 0) hx hb dX3_howManyBushy_0 (by decide) ?_
  refine W.widen (k := 0) (n := 0) (Nat.le_of_ble_eq_true rfl) (Nat.le_of_ble_eq_true rfl) ?_
  exact W.iret (v := 0) hx hb hr (fun t ht hW => ⟨⟨0, (), rfl, trivial, congrArg Array.size ht⟩, hS.F ht⟩) hS.2.2 dX3_howManyBushy_1
set_option maxHeartbeats 4000000 in
set_option maxRecDepth 100000 in
/-- X4.find -/
theorem c_X4_find (l : Launch) (dC : Nat → ClassId) (dI : Nat → Nat → Nat) (sz : Nat) (y0 : Nat) (kd : Int32) (wh : Int32) (lim : Nat) (bu : Int32) (x0 : Nat) (k0 : Nat) (w0 : Nat) (ck : ClassId) (cw : ClassId) (L : Nat) (f : Nat → Int32) (g : Nat → Int32) (nz : Nat) (ch : Int32) (p0 : Int32) (hR9 : rOK L nz) : Met l yX4_find wsX4_find ({ frames := 1, cells := 0, slots := 0, locals := 40 }) (va_Pc [.ref y0, .int p0] (pk_PreR (dC, dI) [(y0, .inr (4, [.ref x0, .int kd, .int wh, .int (nI lim), .int bu])), (x0, .inr (5, [.ref k0, .ref w0, .int (nI nz), .int ch])), (k0, .inl (ck, L, .inl f)), (w0, .inl (cw, L, .inl g))] [(ck, .int), (cw, .int)] sz)) (va_Qi (fun (x : Int32) (u : Unit) => x = -1 ∨ ∃ k : Nat, k < nz ∧ x = nI k) (fun _ (t : State) => t.heap.size = sz) ro_A) 0 0 ro_A := by
  refine Met.ofW (cc := cX4_find) (maxL := 4) (ret := (some .int)) (by decide) rfl ?_
  intro p e s m args below meth c s₁ B hml hv
  obtain ⟨rfl, hsz, hP, hK⟩ := hv
  have hx := B.exec
  have hb := B.bytes
  have hr := B.returns
  have hts := atoms_spec (ws := wsX4_find) B.pre
  have hown : s.vm.findClass RX4 = some m.cls := findClass_of_methodNamed B.named
  have hlocks := B.notSynchronized
  subst hsz
  have hS : va_S ro_A s.heap s.heap [] := va_S.rf
  have hP : va_P (dC, dI) vwCl [(y0, .inr (4, [.ref x0, .int kd, .int wh, .int (nI lim), .int bu])), (x0, .inr (5, [.ref k0, .ref w0, .int (nI nz), .int ch])), (k0, .inl (ck, L, .inl f)), (w0, .inl (cw, L, .inl g))] s.heap := hP
  have hl := lv_entry ([.ref y0, .int p0]) (n := 4) (Nat.le_of_ble_eq_true rfl)
  rw [lg_entry_eq]
  generalize (lg_sl ([.ref y0, .int p0]) ++ List.replicate (4 - (lg_sl ([.ref y0, .int p0])).length) Slot.unset).toArray = ls at hl ⊢
  have hl : lv_has ls 4 [(0, .ref y0), (1, .int p0)] := hl
  have hw0_ := hts (.fieldLink RX4 24 "KeyAtlas$Linked" "rows" "LKeyAtlas$Rows;") (List.mem_of_getElem? (l := wsX4_find) (i := 1) rfl)
  have hw1_ := hts (.sameField "KeyAtlas$Linked" "KeyAtlas$Keyed" "rows" "LKeyAtlas$Rows;") (List.mem_of_getElem? (l := wsX4_find) (i := 2) rfl)
  have hi0_ : ∀ w ∈ u_ws RX4 TX4 5, w ∈ wsX4_find := fun w h => List.mem_cons_of_mem _ (List.mem_append_left _ (List.mem_append_left _ (List.mem_append_right _ h)))
  obtain ⟨hL1, hL2, hz1, hz2⟩ := id hR9
  refine lv_aload_n hx hb dX4_find_0 rfl (lv_at hl 0 rfl) ?_
  refine va_get (D := (dC, dI)) (ci := 4) (v := .ref x0) (C := RX4) (T := TX4) (N := 5) hx hb hts hi0_ hown hK hP 0 rfl rfl 0 (by decide) hw0_ (u_same hw1_) rfl dX4_find_1 ?_
  have hPc := hP.sub (ws' := [(x0, .inr (5, [.ref k0, .ref w0, .int (nI nz), .int ch]))]) [1] rfl
  have hKc := hK.sub (tys' := []) [] rfl
  refine ro_calli (va_runV (As := []) (rest := []) ⟨hx, hb, hml, hown, hts⟩ (c_X5_size l  dC dI s.heap.size x0 (nI nz) (.ref k0) (.ref w0) (.int ch)) (cwV 0 hts gX4_find_X5_size rfl rfl rfl (by decide +kernel) ⟨(Nat.le_of_ble_eq_true rfl), (Nat.le_of_ble_eq_true rfl)⟩) ⟨pk_blindR, va_recv hKc hPc (ci := 5) (q0 := 0) rfl rfl, pk_callR hPc hKc⟩ rfl rfl hl.1 rfl (lv_room (Nat.le_of_ble_eq_true rfl)) dX4_find_4 ⟨(Nat.le_of_ble_eq_true rfl), (Nat.le_of_ble_eq_true rfl)⟩) (fun r_1 ur_1 hw => ?_)
  clear hPc hKc
  try dsimp only at hw
  obtain rfl : r_1 = nI nz := hw
  refine W.eq (g2 := F0 m 7 ls [.int (nI nz)]) rfl ?_
  refine lv_istore_n (lv' := [(2, .int (nI nz)), (0, .ref y0), (1, .int p0)]) hx hb dX4_find_7 rfl hl (by decide) rfl (fun ls hl => ?_)
  refine lv_iconst (v := 0) hx hb dX4_find_8 (by decide) ?_
  refine lv_istore_n (lv' := [(3, .int 0), (2, .int (nI nz)), (0, .ref y0), (1, .int p0)]) hx hb dX4_find_9 rfl hl (by decide) rfl (fun ls hl => ?_)
  obtain ⟨i3, es_i3⟩ : ∃ z : Nat, z = 0 := ⟨_, rfl⟩
  obtain ⟨x3, ex3⟩ : ∃ y : Int32, y = nI i3 := ⟨_, rfl⟩
  obtain ⟨n9, en9⟩ : ∃ n : Nat, n = nz + 1 := ⟨_, rfl⟩
  replace hl : lv_has ls 4 [(3, .int x3), (2, .int (nI nz)), (0, .ref y0), (1, .int p0)] := by subst ex3; subst es_i3; exact hl
  have hi3 : i3 ≤ nz := by subst ex3; subst es_i3; subst en9; exact Nat.zero_le _
  have hn3 : nz + 1 ≤ i3 + n9 := by subst ex3; subst es_i3; subst en9; exact by omega
  clear en9 es_i3
  induction n9 generalizing i3 x3 ls with
  | zero => exact absurd hn3 (by omega)
  | succ n9 ih =>
    subst ex3
    refine lv_iload_n hx hb dX4_find_10 rfl (lv_at hl 0 rfl) ?_
    refine lv_iload_n hx hb dX4_find_11 rfl (lv_at hl 1 rfl) ?_
    refine lv_icmp_ge (tgt := 35) hx hb dX4_find_12 (by decide) (fun c_2 => ?_) (fun c_2 => ?_)
    ·
      have ic_2 : ((nz : Nat) : Int) ≤ ((i3 : Nat) : Int) := tx_le (nI_toInt (by omega)) (nI_toInt (by omega)) c_2
      refine lv_iconst (v := (-1)) hx hb dX4_find_35 (by decide) ?_
      refine W.widen (k := 0) (n := 0) (Nat.le_of_ble_eq_true rfl) (Nat.le_of_ble_eq_true rfl) ?_
      exact W.iret (v := -1) hx hb hr (fun t ht hW => ⟨⟨-1, (), rfl, Or.inl rfl, congrArg Array.size ht⟩, hS.F ht⟩) hS.2.2 dX4_find_36
    ·
      have ic_2 : ((i3 : Nat) : Int) < ((nz : Nat) : Int) := tx_nle (nI_toInt (by omega)) (nI_toInt (by omega)) c_2
      refine lv_aload_n hx hb dX4_find_15 rfl (lv_at hl 2 rfl) ?_
      refine va_get (D := (dC, dI)) (ci := 4) (v := .ref x0) (C := RX4) (T := TX4) (N := 5) hx hb hts hi0_ hown hK hP 0 rfl rfl 0 (by decide) hw0_ (u_same hw1_) rfl dX4_find_16 ?_
      refine lv_iload_n hx hb dX4_find_19 rfl (lv_at hl 0 rfl) ?_
      have hPc := hP.sub (ws' := [(x0, .inr (5, [.ref k0, .ref w0, .int (nI nz), .int ch])), (k0, .inl (ck, L, .inl f)), (w0, .inl (cw, L, .inl g))]) [1, 2, 3] rfl
      have hKc := hK.sub (tys' := [(ck, .int), (cw, .int)]) [0, 1] rfl
      refine ro_calli (va_runV (As := [.int (nI i3)]) (rest := []) ⟨hx, hb, hml, hown, hts⟩ (c_X5_key l  dC dI s.heap.size x0 k0 w0 ck cw L f g nz ch (nI i3) hR9) (cwV 1 hts gX4_find_X5_key rfl rfl rfl (by decide +kernel) ⟨(Nat.le_of_ble_eq_true rfl), (Nat.le_of_ble_eq_true rfl)⟩) ⟨pk_blindR, va_recv hKc hPc (ci := 5) (q0 := 0) rfl rfl, pk_callR hPc hKc⟩ rfl rfl hl.1 rfl (lv_room (Nat.le_of_ble_eq_true rfl)) dX4_find_20 ⟨(Nat.le_of_ble_eq_true rfl), (Nat.le_of_ble_eq_true rfl)⟩) (fun r_3 ur_3 hw => ?_)
      clear hPc hKc
      try dsimp only at hw
      have jr_3 := hw
      refine W.eq (g2 := F0 m 23 ls [.int r_3]) rfl ?_
      refine lv_iload_n hx hb dX4_find_23 rfl (lv_at hl 3 rfl) ?_
      refine lv_icmp_ne (tgt := 29) hx hb dX4_find_24 (by decide) (fun c_4 => ?_) (fun c_4 => ?_)
      ·
        have ic_4 : ¬ r_3.toInt = p0.toInt := tx_ne rfl rfl c_4
        refine lv_iinc (v := nI (i3 + 1)) (lv' := [(3, .int (nI (i3 + 1))), (2, .int (nI nz)), (0, .ref y0), (1, .int p0)]) hx hb dX4_find_29 hl (k := 0) rfl (by rw [show Int32.ofInt 1 = nI 1 from rfl, nI_add]) (by decide) rfl (fun ls hl => ?_)
        refine lv_goto (tgt := 10) hx hb dX4_find_32 (by decide) ?_
        exact ih (i3 := i3 + 1) (x3 := nI (i3 + 1)) (ex3 := rfl) (ls := ls) (hi3 := by omega) (hn3 := by omega) (hl := lv_sub hl [0, 1, 2, 3] rfl)
      ·
        have ic_4 : r_3.toInt = p0.toInt := tx_eq rfl rfl c_4
        refine lv_iload_n hx hb dX4_find_27 rfl (lv_at hl 0 rfl) ?_
        refine W.widen (k := 0) (n := 0) (Nat.le_of_ble_eq_true rfl) (Nat.le_of_ble_eq_true rfl) ?_
        exact W.iret (v := nI i3) hx hb hr (fun t ht hW => ⟨⟨nI i3, (), rfl, Or.inr ⟨i3, by omega, rfl⟩, congrArg Array.size ht⟩, hS.F ht⟩) hS.2.2 dX4_find_28
set_option maxHeartbeats 4000000 in
set_option maxRecDepth 100000 in
/-- X4.hasRoomFor -/
theorem c_X4_hasRoomFor (l : Launch) (dC : Nat → ClassId) (dI : Nat → Nat → Nat) (sz : Nat) (y0 : Nat) (kd : Int32) (wh : Int32) (lim : Nat) (bu : Int32) (x0 : Nat) (k0 : Nat) (w0 : Nat) (ck : ClassId) (cw : ClassId) (L : Nat) (f : Nat → Int32) (g : Nat → Int32) (nz : Nat) (ch : Int32) (p0 : Int32) (hR9 : rOK L nz) (hlim : lim ≤ 1000) : Met l yX4_hasRoomFor wsX4_hasRoomFor ({ frames := 2, cells := 0, slots := 0, locals := 80 }) (va_Pc [.ref y0, .int p0] (pk_PreR (dC, dI) [(y0, .inr (4, [.ref x0, .int kd, .int wh, .int (nI lim), .int bu])), (x0, .inr (5, [.ref k0, .ref w0, .int (nI nz), .int ch])), (k0, .inl (ck, L, .inl f)), (w0, .inl (cw, L, .inl g))] [(ck, .int), (cw, .int)] sz)) (va_Qi (fun (x : Int32) (u : Unit) => x = 0 ∨ x = 1) (fun _ (t : State) => t.heap.size = sz) ro_A) 0 0 ro_A := by
  refine Met.ofW (cc := cX4_hasRoomFor) (maxL := 2) (ret := (some .boolean)) (by decide) rfl ?_
  intro p e s m args below meth c s₁ B hml hv
  obtain ⟨rfl, hsz, hP, hK⟩ := hv
  have hx := B.exec
  have hb := B.bytes
  have hr := B.returns
  have hts := atoms_spec (ws := wsX4_hasRoomFor) B.pre
  have hown : s.vm.findClass RX4 = some m.cls := findClass_of_methodNamed B.named
  have hlocks := B.notSynchronized
  subst hsz
  have hS : va_S ro_A s.heap s.heap [] := va_S.rf
  have hP : va_P (dC, dI) vwCl [(y0, .inr (4, [.ref x0, .int kd, .int wh, .int (nI lim), .int bu])), (x0, .inr (5, [.ref k0, .ref w0, .int (nI nz), .int ch])), (k0, .inl (ck, L, .inl f)), (w0, .inl (cw, L, .inl g))] s.heap := hP
  have hl := lv_entry ([.ref y0, .int p0]) (n := 2) (Nat.le_of_ble_eq_true rfl)
  rw [lg_entry_eq]
  generalize (lg_sl ([.ref y0, .int p0]) ++ List.replicate (2 - (lg_sl ([.ref y0, .int p0])).length) Slot.unset).toArray = ls at hl ⊢
  have hl : lv_has ls 2 [(0, .ref y0), (1, .int p0)] := hl
  have hw0_ := hts (.fieldLink RX4 14 "KeyAtlas$Linked" "limit" "I") (List.mem_of_getElem? (l := wsX4_hasRoomFor) (i := 1) rfl)
  have hi0_ : ∀ w ∈ u_ws RX4 TX4 5, w ∈ wsX4_hasRoomFor := fun w h => List.mem_cons_of_mem _ (List.mem_append_left _ (List.mem_append_left _ (List.mem_append_left _ (List.mem_append_right _ h))))
  refine lv_aload_n hx hb dX4_hasRoomFor_0 rfl (lv_at hl 0 rfl) ?_
  refine va_get (D := (dC, dI)) (ci := 4) (v := .int (nI lim)) (C := RX4) (T := TX4) (N := 5) hx hb hts hi0_ hown hK hP 0 rfl rfl 3 (by decide) hw0_ (fun _ h9 => h9) rfl dX4_hasRoomFor_1 ?_
  refine lv_if_gt (tgt := 15) hx hb dX4_hasRoomFor_4 (by decide) (fun c_1 => ?_) (fun c_1 => ?_)
  ·
    have ic_1 : 0 < ((lim : Nat) : Int) := tx_lt (by decide) (nI_toInt (by omega)) c_1
    refine lv_iconst (v := 1) hx hb dX4_hasRoomFor_15 (by decide) ?_
    refine lv_goto (tgt := 20) hx hb dX4_hasRoomFor_16 (by decide) ?_
    refine W.widen (k := 0) (n := 0) (Nat.le_of_ble_eq_true rfl) (Nat.le_of_ble_eq_true rfl) ?_
    exact W.zret (v := 1) hx hb hr rfl (fun t ht hW => ⟨⟨1, (), rfl, Or.inr rfl, congrArg Array.size ht⟩, hS.F ht⟩) hS.2.2 dX4_hasRoomFor_20
  ·
    have ic_1 : ((lim : Nat) : Int) ≤ 0 := tx_nlt (by decide) (nI_toInt (by omega)) c_1
    refine lv_aload_n hx hb dX4_hasRoomFor_7 rfl (lv_at hl 0 rfl) ?_
    refine lv_iload_n hx hb dX4_hasRoomFor_8 rfl (lv_at hl 1 rfl) ?_
    have hPc := hP.sub (ws' := [(y0, .inr (4, [.ref x0, .int kd, .int wh, .int (nI lim), .int bu])), (x0, .inr (5, [.ref k0, .ref w0, .int (nI nz), .int ch])), (k0, .inl (ck, L, .inl f)), (w0, .inl (cw, L, .inl g))]) [0, 1, 2, 3] rfl
    have hKc := hK.sub (tys' := [(ck, .int), (cw, .int)]) [0, 1] rfl
    refine ro_calli (va_runSU (hK.1 4 _ rfl).2 (As := [.int p0]) (rest := []) ⟨hx, hb, hml, hown, hts⟩ (c_X3_hasRoomFor_L l  dC dI s.heap.size y0 (.int kd) (.int wh) (.int (nI lim)) (.int bu) x0 k0 w0 ck cw L f g nz ch p0 hR9) (va_cwSU 1 hts gX4_hasRoomFor_X3_hasRoomFor_s36 rfl rfl rfl (by decide +kernel) ⟨(Nat.le_of_ble_eq_true rfl), (Nat.le_of_ble_eq_true rfl)⟩) ⟨pk_blindR, va_recv hKc hPc (ci := 4) (q0 := 0) rfl rfl, pk_callR hPc hKc⟩ rfl rfl hl.1 rfl (lv_room (Nat.le_of_ble_eq_true rfl)) dX4_hasRoomFor_9 ⟨(Nat.le_of_ble_eq_true rfl), (Nat.le_of_ble_eq_true rfl)⟩) (fun r_2 ur_2 hw => ?_)
    clear hPc hKc
    try dsimp only at hw
    have jr_2 := hw
    refine W.eq (g2 := F0 m 12 ls [.int r_2]) rfl ?_
    refine lv_if_eq (tgt := 19) hx hb dX4_hasRoomFor_12 (by decide) (fun c_3 => ?_) (fun c_3 => ?_)
    ·
      have ic_3 : r_2.toInt = 0 := tx_eq rfl (by decide) c_3
      refine lv_iconst (v := 0) hx hb dX4_hasRoomFor_19 (by decide) ?_
      refine W.widen (k := 0) (n := 0) (Nat.le_of_ble_eq_true rfl) (Nat.le_of_ble_eq_true rfl) ?_
      exact W.zret (v := 0) hx hb hr rfl (fun t ht hW => ⟨⟨0, (), rfl, Or.inl rfl, congrArg Array.size ht⟩, hS.F ht⟩) hS.2.2 dX4_hasRoomFor_20
    ·
      have ic_3 : ¬ r_2.toInt = 0 := tx_ne rfl (by decide) c_3
      refine lv_iconst (v := 1) hx hb dX4_hasRoomFor_15 (by decide) ?_
      refine lv_goto (tgt := 20) hx hb dX4_hasRoomFor_16 (by decide) ?_
      refine W.widen (k := 0) (n := 0) (Nat.le_of_ble_eq_true rfl) (Nat.le_of_ble_eq_true rfl) ?_
      exact W.zret (v := 1) hx hb hr rfl (fun t ht hW => ⟨⟨1, (), rfl, Or.inr rfl, congrArg Array.size ht⟩, hS.F ht⟩) hS.2.2 dX4_hasRoomFor_20
set_option maxHeartbeats 4000000 in
set_option maxRecDepth 100000 in
/-- X4.enter -/
theorem c_X4_enter (l : Launch) (dC : Nat → ClassId) (dI : Nat → Nat → Nat) (sz : Nat) (T0 : Nat) (y0 : Nat) (kd : Int32) (wh : Int32) (lim : Nat) (bu : Int32) (x0 : Nat) (k0 : Nat) (w0 : Nat) (ck : ClassId) (cw : ClassId) (L : Nat) (f : Nat → Int32) (g : Nat → Int32) (nz : Nat) (ch : Int32) (p0 : Int32) (p1 : Int32) (gs : Nat) (hR9 : rOK L nz) (hlim : lim ≤ 1000) (hG9 : nz < L ∨ 4 * L ≤ gs) : Met l yX4_enter wsX4_enter ({ frames := 3, cells := 2, slots := gs, locals := 150 }) (va_Pc [.ref y0, .int p0, .int p1] (pk_PreT (dC, dI) [(y0, .inr (4, [.ref x0, .int kd, .int wh, .int (nI lim), .int bu])), (x0, .inr (5, [.ref k0, .ref w0, .int (nI nz), .int ch])), (k0, .inl (ck, L, .inl f)), (w0, .inl (cw, L, .inl g))] [(ck, .int), (cw, .int)] sz T0)) (va_Qv (fun (u : Nat × Nat × ClassId × ClassId × Nat × (Nat → Int32) × (Nat → Int32) × Nat × Int32) => lnP L nz (u.2.2.2.2.1) (u.2.2.2.2.2.2.2.1)) (fun (u : Nat × Nat × ClassId × ClassId × Nat × (Nat → Int32) × (Nat → Int32) × Nat × Int32) (t : State) => va_P (dC, dI) vwCl [(y0, .inr (4, [.ref x0, .int kd, .int wh, .int (nI lim), .int bu])), (x0, .inr (5, [.ref u.1, .ref u.2.1, .int (nI (u.2.2.2.2.2.2.2.1)), .int u.2.2.2.2.2.2.2.2])), (u.1, .inl (u.2.2.1, u.2.2.2.2.1, .inl u.2.2.2.2.2.1)), (u.2.1, .inl (u.2.2.2.1, u.2.2.2.2.1, .inl u.2.2.2.2.2.2.1))] t.heap ∧ va_K (dC, dI) vwCl [(u.2.2.1, .int), (u.2.2.2.1, .int)] t ∧ va_D (va_A [(y0, .inr (4, [.ref x0, .int kd, .int wh, .int (nI lim), .int bu])), (x0, .inr (5, [.ref k0, .ref w0, .int (nI nz), .int ch])), (k0, .inl (ck, L, .inl f)), (w0, .inl (cw, L, .inl g))] sz) [(y0, .inr (4, [.ref x0, .int kd, .int wh, .int (nI lim), .int bu])), (x0, .inr (5, [.ref u.1, .ref u.2.1, .int (nI (u.2.2.2.2.2.2.2.1)), .int u.2.2.2.2.2.2.2.2])), (u.1, .inl (u.2.2.1, u.2.2.2.2.1, .inl u.2.2.2.2.2.1)), (u.2.1, .inl (u.2.2.2.1, u.2.2.2.2.1, .inl u.2.2.2.2.2.2.1))] ∧ hT t.heap + 4 * L ≤ T0 + 4 * (u.2.2.2.2.1) ∧ t.heap.size + 2 * lgN L ≤ sz + 2 * lgN (u.2.2.2.2.1)) (va_A [(y0, .inr (4, [.ref x0, .int kd, .int wh, .int (nI lim), .int bu])), (x0, .inr (5, [.ref k0, .ref w0, .int (nI nz), .int ch])), (k0, .inl (ck, L, .inl f)), (w0, .inl (cw, L, .inl g))] sz)) 2 gs (va_A [(y0, .inr (4, [.ref x0, .int kd, .int wh, .int (nI lim), .int bu])), (x0, .inr (5, [.ref k0, .ref w0, .int (nI nz), .int ch])), (k0, .inl (ck, L, .inl f)), (w0, .inl (cw, L, .inl g))] sz) := by
  refine Met.ofW (cc := cX4_enter) (maxL := 3) (ret := none) (by decide) rfl ?_
  intro p e s m args below meth c s₁ B hml hv
  obtain ⟨rfl, ⟨hsz, hP, hK, hD0⟩, hT0⟩ := hv
  have hx := B.exec
  have hb := B.bytes
  have hr := B.returns
  have hts := atoms_spec (ws := wsX4_enter) B.pre
  have hown : s.vm.findClass RX4 = some m.cls := findClass_of_methodNamed B.named
  have hlocks := B.notSynchronized
  subst hsz
  subst hT0
  have hD := hD0.self (sz := s.heap.size)
  generalize hAe : va_A [(y0, .inr (4, [.ref x0, .int kd, .int wh, .int (nI lim), .int bu])), (x0, .inr (5, [.ref k0, .ref w0, .int (nI nz), .int ch])), (k0, .inl (ck, L, .inl f)), (w0, .inl (cw, L, .inl g))] s.heap.size = A at hD ⊢
  have hA : ∀ q : Nat, s.heap.size ≤ q → A q := fun q h => by rw [← hAe]; exact Or.inr h
  have hS : va_S A s.heap s.heap [] := va_S.rf
  have hP : va_P (dC, dI) vwCl [(y0, .inr (4, [.ref x0, .int kd, .int wh, .int (nI lim), .int bu])), (x0, .inr (5, [.ref k0, .ref w0, .int (nI nz), .int ch])), (k0, .inl (ck, L, .inl f)), (w0, .inl (cw, L, .inl g))] s.heap := hP
  have hl := lv_entry ([.ref y0, .int p0, .int p1]) (n := 3) (Nat.le_of_ble_eq_true rfl)
  rw [lg_entry_eq]
  generalize (lg_sl ([.ref y0, .int p0, .int p1]) ++ List.replicate (3 - (lg_sl ([.ref y0, .int p0, .int p1])).length) Slot.unset).toArray = ls at hl ⊢
  have hl : lv_has ls 3 [(0, .ref y0), (1, .int p0), (2, .int p1)] := hl
  have hw0_ := hts (.fieldLink RX4 14 "KeyAtlas$Linked" "limit" "I") (List.mem_of_getElem? (l := wsX4_enter) (i := 1) rfl)
  have hw1_ := hts (.fieldLink RX4 24 "KeyAtlas$Linked" "rows" "LKeyAtlas$Rows;") (List.mem_of_getElem? (l := wsX4_enter) (i := 2) rfl)
  have hw2_ := hts (.sameField "KeyAtlas$Linked" "KeyAtlas$Keyed" "rows" "LKeyAtlas$Rows;") (List.mem_of_getElem? (l := wsX4_enter) (i := 3) rfl)
  have hi0_ : ∀ w ∈ u_ws RX4 TX4 5, w ∈ wsX4_enter := fun w h => List.mem_cons_of_mem _ (List.mem_append_left _ (List.mem_append_left _ (List.mem_append_left _ (List.mem_append_right _ h))))
  obtain ⟨hL1, hL2, hz1, hz2⟩ := id hR9
  refine lv_aload_n hx hb dX4_enter_0 rfl (lv_at hl 0 rfl) ?_
  refine va_get (D := (dC, dI)) (ci := 4) (v := .int (nI lim)) (C := RX4) (T := TX4) (N := 5) hx hb hts hi0_ hown hK hP 0 rfl rfl 3 (by decide) hw0_ (fun _ h9 => h9) rfl dX4_enter_1 ?_
  refine lv_if_le (tgt := 26) hx hb dX4_enter_4 (by decide) (fun c_1 => ?_) (fun c_1 => ?_)
  ·
    have ic_1 : ((lim : Nat) : Int) ≤ 0 := tx_le (nI_toInt (by omega)) (by decide) c_1
    refine lv_aload_n hx hb dX4_enter_26 rfl (lv_at hl 0 rfl) ?_
    refine va_get (D := (dC, dI)) (ci := 4) (v := .ref x0) (C := RX4) (T := TX4) (N := 5) hx hb hts hi0_ hown hK hP 0 rfl rfl 0 (by decide) hw1_ (u_same hw2_) rfl dX4_enter_27 ?_
    refine lv_aload_n hx hb dX4_enter_30 rfl (lv_at hl 0 rfl) ?_
    refine va_get (D := (dC, dI)) (ci := 4) (v := .ref x0) (C := RX4) (T := TX4) (N := 5) hx hb hts hi0_ hown hK hP 0 rfl rfl 0 (by decide) hw1_ (u_same hw2_) rfl dX4_enter_31 ?_
    have hPc := hP.sub (ws' := [(x0, .inr (5, [.ref k0, .ref w0, .int (nI nz), .int ch]))]) [1] rfl
    have hKc := hK.sub (tys' := []) [] rfl
    refine ro_calli (va_runV (As := []) (rest := [.ref x0]) ⟨hx, hb, hml, hown, hts⟩ (c_X5_size l  dC dI s.heap.size x0 (nI nz) (.ref k0) (.ref w0) (.int ch)) (cwV 0 hts gX4_enter_X5_size rfl rfl rfl (by decide +kernel) ⟨(Nat.le_of_ble_eq_true rfl), (Nat.le_of_ble_eq_true rfl)⟩) ⟨pk_blindR, va_recv hKc hPc (ci := 5) (q0 := 0) rfl rfl, pk_callR hPc hKc⟩ rfl rfl hl.1 rfl (lv_room (Nat.le_of_ble_eq_true rfl)) dX4_enter_34 ⟨(Nat.le_of_ble_eq_true rfl), (show 0 + 0 ≤ gs by omega)⟩) (fun r_2 ur_2 hw => ?_)
    clear hPc hKc
    try dsimp only at hw
    obtain rfl : r_2 = nI nz := hw
    refine W.eq (g2 := F0 m 37 ls [.int (nI nz), .ref x0]) rfl ?_
    refine lv_iload_n hx hb dX4_enter_37 rfl (lv_at hl 1 rfl) ?_
    refine lv_iload_n hx hb dX4_enter_38 rfl (lv_at hl 2 rfl) ?_
    have hPc := hP.sub (ws' := [(x0, .inr (5, [.ref k0, .ref w0, .int (nI nz), .int ch])), (k0, .inl (ck, L, .inl f)), (w0, .inl (cw, L, .inl g))]) [1, 2, 3] rfl
    have hDc := hD.sub (ws' := [(x0, .inr (5, [.ref k0, .ref w0, .int (nI nz), .int ch])), (k0, .inl (ck, L, .inl f)), (w0, .inl (cw, L, .inl g))]) [1, 2, 3] (by decide) rfl
    have hKc := hK.sub (tys' := [(ck, .int), (cw, .int)]) [0, 1] rfl
    have hFc := va_free (wc := [(x0, .inr (5, [.ref k0, .ref w0, .int (nI nz), .int ch])), (k0, .inl (ck, L, .inl f)), (w0, .inl (cw, L, .inl g))]) hD hS hA [1, 2, 3] rfl
    refine W.book (fun hz8_ hn8_ => ?_)
    refine va_callv (va_runV (As := [.int (nI nz), .int p0, .int p1]) (rest := []) ⟨hx, hb, hml, hown, hts⟩ (c_X5_insert l  dC dI s.heap.size (hT s.heap) x0 k0 w0 ck cw L f g nz ch (nI nz) p0 p1 2 gs hR9 (by omega)) (cwV 3 hts gX4_enter_X5_insert rfl rfl rfl (by decide +kernel) ⟨(Nat.le_of_ble_eq_true rfl), (Nat.le_of_ble_eq_true rfl)⟩) ⟨pk_blindT, va_recv hKc hPc (ci := 5) (q0 := 0) rfl rfl, pk_callT hPc hKc hDc⟩ rfl rfl hl.1 rfl (lv_room (Nat.le_of_ble_eq_true rfl)) dX4_enter_39 ⟨(Nat.le_of_ble_eq_true rfl), (show 0 + gs ≤ gs by omega)⟩) hS (fun q _ h => hFc q h) hFc (fun ur_3 t H1 locs ht hvm hw hB hz1 hk1 hS => ?_)
    try dsimp only at hw
    have jr_3 := hw
    obtain ⟨hP1, hK1, hD1, hC1_⟩ := hB
    rw [ht] at hP1 hC1_
    have hK1 := va_K.moved hvm.symm hK1
    obtain ⟨hP, hD⟩ := va_join (wr := [(y0, .inr (4, [.ref x0, .int kd, .int wh, .int (nI lim), .int bu]))]) (w1 := [(x0, .inr (5, [.ref ur_3.1, .ref ur_3.2.1, .int (nI (ur_3.2.2.2.2.2.2.2.1)), .int ur_3.2.2.2.2.2.2.2.2])), (ur_3.1, .inl (ur_3.2.2.1, ur_3.2.2.2.2.1, .inl ur_3.2.2.2.2.2.1)), (ur_3.2.1, .inl (ur_3.2.2.2.1, ur_3.2.2.2.2.1, .inl ur_3.2.2.2.2.2.2.1))]) hP hD [1, 2, 3] [0] rfl rfl (by decide) (by decide) hk1 hFc hP1 hD1
    have hK := hK.app hK1
    have hK : va_K (dC, dI) vwCl [(ck, .int), (cw, .int), (ur_3.2.2.1, .int), (ur_3.2.2.2.1, .int)] s := hK
    have hl7_ := jr_3.2.2.2
    have hn7_ : hT H1 ≤ hT s.heap + ((4 * (ur_3.2.2.2.2.1) - 4 * L)) := by omega
    have hz7_ : H1.size ≤ s.heap.size + ((2 * lgN (ur_3.2.2.2.2.1) - 2 * lgN L)) := by omega
    clear hC1_ hn8_ hz8_
    clear hk1 hz1 ht hPc hDc hKc hFc
    generalize H1 = H at hP hS hn7_ hz7_ ⊢
    replace hP : va_P (dC, dI) vwCl [(y0, .inr (4, [.ref x0, .int kd, .int wh, .int (nI lim), .int bu])), (x0, .inr (5, [.ref ur_3.1, .ref ur_3.2.1, .int (nI (ur_3.2.2.2.2.2.2.2.1)), .int ur_3.2.2.2.2.2.2.2.2])), (ur_3.1, .inl (ur_3.2.2.1, ur_3.2.2.2.2.1, .inl ur_3.2.2.2.2.2.1)), (ur_3.2.1, .inl (ur_3.2.2.2.1, ur_3.2.2.2.2.1, .inl ur_3.2.2.2.2.2.2.1))] H := hP
    replace hD : va_D A [(y0, .inr (4, [.ref x0, .int kd, .int wh, .int (nI lim), .int bu])), (x0, .inr (5, [.ref ur_3.1, .ref ur_3.2.1, .int (nI (ur_3.2.2.2.2.2.2.2.1)), .int ur_3.2.2.2.2.2.2.2.2])), (ur_3.1, .inl (ur_3.2.2.1, ur_3.2.2.2.2.1, .inl ur_3.2.2.2.2.2.1)), (ur_3.2.1, .inl (ur_3.2.2.2.1, ur_3.2.2.2.2.1, .inl ur_3.2.2.2.2.2.2.1))] := hD
    refine W.tight (k := (2 * lgN (ur_3.2.2.2.2.1) - 2 * lgN L)) (n := (4 * (ur_3.2.2.2.2.1) - 4 * L)) hz7_ hn7_ ?_
    clear hn7_ hz7_
    refine W.eq (g2 := F0 m 42 ls []) rfl ?_
    obtain ⟨⟨m1_, m2_, m3_, m4_⟩, m5_, m6_, m7_⟩ := jr_3
    have hlg1_ : lgN (ur_3.2.2.2.2.1) = lgN L ∨ lgN (ur_3.2.2.2.2.1) = lgN L + 1 := lgN_two (by omega) (by omega)
    refine W.book (fun hz9_ hn9_ => ?_)
    have hpost : lnP L nz (ur_3.2.2.2.2.1) (ur_3.2.2.2.2.2.2.2.1) := by unfold lnP rOK; omega
    have hlg1_ : lgN (ur_3.2.2.2.2.1) = lgN L ∨ lgN (ur_3.2.2.2.2.1) = lgN L + 1 := lgN_two (by omega) (by omega)
    have hcost : hT H + 4 * L ≤ hT s.heap + 4 * (ur_3.2.2.2.2.1) ∧ H.size + 2 * lgN L ≤ s.heap.size + 2 * lgN (ur_3.2.2.2.2.1) := by constructor <;> omega
    have hP9 := hP.sub (ws' := [(y0, .inr (4, [.ref x0, .int kd, .int wh, .int (nI lim), .int bu])), (x0, .inr (5, [.ref ur_3.1, .ref ur_3.2.1, .int (nI (ur_3.2.2.2.2.2.2.2.1)), .int ur_3.2.2.2.2.2.2.2.2])), (ur_3.1, .inl (ur_3.2.2.1, ur_3.2.2.2.2.1, .inl ur_3.2.2.2.2.2.1)), (ur_3.2.1, .inl (ur_3.2.2.2.1, ur_3.2.2.2.2.1, .inl ur_3.2.2.2.2.2.2.1))]) [0, 1, 2, 3] rfl
    have hD9 := hD.sub (ws' := [(y0, .inr (4, [.ref x0, .int kd, .int wh, .int (nI lim), .int bu])), (x0, .inr (5, [.ref ur_3.1, .ref ur_3.2.1, .int (nI (ur_3.2.2.2.2.2.2.2.1)), .int ur_3.2.2.2.2.2.2.2.2])), (ur_3.1, .inl (ur_3.2.2.1, ur_3.2.2.2.2.1, .inl ur_3.2.2.2.2.2.1)), (ur_3.2.1, .inl (ur_3.2.2.2.1, ur_3.2.2.2.2.1, .inl ur_3.2.2.2.2.2.2.1))]) [0, 1, 2, 3] (by decide) rfl
    have hK9 := hK.sub (tys' := [(ur_3.2.2.1, .int), (ur_3.2.2.2.1, .int)]) [2, 3] rfl
    refine W.widen (k := 2) (n := gs) (by omega) (by omega) ?_
    exact W.vret hx hb hr (fun t ht hW => ⟨⟨(ur_3.1, ur_3.2.1, ur_3.2.2.1, ur_3.2.2.2.1, ur_3.2.2.2.2.1, ur_3.2.2.2.2.2.1, ur_3.2.2.2.2.2.2.1, ur_3.2.2.2.2.2.2.2.1, ur_3.2.2.2.2.2.2.2.2), rfl, hpost, by rw [ht]; exact hP9, va_K.moved hW.alike hK9, hD9, by rw [ht]; exact hcost⟩, hS.F ht⟩) hS.2.2 dX4_enter_42
  ·
    have ic_1 : 0 < ((lim : Nat) : Int) := tx_nle (nI_toInt (by omega)) (by decide) c_1
    refine lv_aload_n hx hb dX4_enter_7 rfl (lv_at hl 0 rfl) ?_
    refine va_get (D := (dC, dI)) (ci := 4) (v := .ref x0) (C := RX4) (T := TX4) (N := 5) hx hb hts hi0_ hown hK hP 0 rfl rfl 0 (by decide) hw1_ (u_same hw2_) rfl dX4_enter_8 ?_
    have hPc := hP.sub (ws' := [(x0, .inr (5, [.ref k0, .ref w0, .int (nI nz), .int ch]))]) [1] rfl
    have hKc := hK.sub (tys' := []) [] rfl
    refine ro_calli (va_runV (As := []) (rest := []) ⟨hx, hb, hml, hown, hts⟩ (c_X5_size l  dC dI s.heap.size x0 (nI nz) (.ref k0) (.ref w0) (.int ch)) (cwV 0 hts gX4_enter_X5_size rfl rfl rfl (by decide +kernel) ⟨(Nat.le_of_ble_eq_true rfl), (Nat.le_of_ble_eq_true rfl)⟩) ⟨pk_blindR, va_recv hKc hPc (ci := 5) (q0 := 0) rfl rfl, pk_callR hPc hKc⟩ rfl rfl hl.1 rfl (lv_room (Nat.le_of_ble_eq_true rfl)) dX4_enter_11 ⟨(Nat.le_of_ble_eq_true rfl), (show 0 + 0 ≤ gs by omega)⟩) (fun r_4 ur_4 hw => ?_)
    clear hPc hKc
    try dsimp only at hw
    obtain rfl : r_4 = nI nz := hw
    refine W.eq (g2 := F0 m 14 ls [.int (nI nz)]) rfl ?_
    refine lv_aload_n hx hb dX4_enter_14 rfl (lv_at hl 0 rfl) ?_
    refine va_get (D := (dC, dI)) (ci := 4) (v := .int (nI lim)) (C := RX4) (T := TX4) (N := 5) hx hb hts hi0_ hown hK hP 0 rfl rfl 3 (by decide) hw0_ (fun _ h9 => h9) rfl dX4_enter_15 ?_
    refine lv_icmp_lt (tgt := 26) hx hb dX4_enter_18 (by decide) (fun c_5 => ?_) (fun c_5 => ?_)
    ·
      have ic_5 : ((nz : Nat) : Int) < ((lim : Nat) : Int) := tx_lt (nI_toInt (by omega)) (nI_toInt (by omega)) c_5
      refine lv_aload_n hx hb dX4_enter_26 rfl (lv_at hl 0 rfl) ?_
      refine va_get (D := (dC, dI)) (ci := 4) (v := .ref x0) (C := RX4) (T := TX4) (N := 5) hx hb hts hi0_ hown hK hP 0 rfl rfl 0 (by decide) hw1_ (u_same hw2_) rfl dX4_enter_27 ?_
      refine lv_aload_n hx hb dX4_enter_30 rfl (lv_at hl 0 rfl) ?_
      refine va_get (D := (dC, dI)) (ci := 4) (v := .ref x0) (C := RX4) (T := TX4) (N := 5) hx hb hts hi0_ hown hK hP 0 rfl rfl 0 (by decide) hw1_ (u_same hw2_) rfl dX4_enter_31 ?_
      have hPc := hP.sub (ws' := [(x0, .inr (5, [.ref k0, .ref w0, .int (nI nz), .int ch]))]) [1] rfl
      have hKc := hK.sub (tys' := []) [] rfl
      refine ro_calli (va_runV (As := []) (rest := [.ref x0]) ⟨hx, hb, hml, hown, hts⟩ (c_X5_size l  dC dI s.heap.size x0 (nI nz) (.ref k0) (.ref w0) (.int ch)) (cwV 0 hts gX4_enter_X5_size rfl rfl rfl (by decide +kernel) ⟨(Nat.le_of_ble_eq_true rfl), (Nat.le_of_ble_eq_true rfl)⟩) ⟨pk_blindR, va_recv hKc hPc (ci := 5) (q0 := 0) rfl rfl, pk_callR hPc hKc⟩ rfl rfl hl.1 rfl (lv_room (Nat.le_of_ble_eq_true rfl)) dX4_enter_34 ⟨(Nat.le_of_ble_eq_true rfl), (show 0 + 0 ≤ gs by omega)⟩) (fun r_6 ur_6 hw => ?_)
      clear hPc hKc
      try dsimp only at hw
      obtain rfl : r_6 = nI nz := hw
      refine W.eq (g2 := F0 m 37 ls [.int (nI nz), .ref x0]) rfl ?_
      refine lv_iload_n hx hb dX4_enter_37 rfl (lv_at hl 1 rfl) ?_
      refine lv_iload_n hx hb dX4_enter_38 rfl (lv_at hl 2 rfl) ?_
      have hPc := hP.sub (ws' := [(x0, .inr (5, [.ref k0, .ref w0, .int (nI nz), .int ch])), (k0, .inl (ck, L, .inl f)), (w0, .inl (cw, L, .inl g))]) [1, 2, 3] rfl
      have hDc := hD.sub (ws' := [(x0, .inr (5, [.ref k0, .ref w0, .int (nI nz), .int ch])), (k0, .inl (ck, L, .inl f)), (w0, .inl (cw, L, .inl g))]) [1, 2, 3] (by decide) rfl
      have hKc := hK.sub (tys' := [(ck, .int), (cw, .int)]) [0, 1] rfl
      have hFc := va_free (wc := [(x0, .inr (5, [.ref k0, .ref w0, .int (nI nz), .int ch])), (k0, .inl (ck, L, .inl f)), (w0, .inl (cw, L, .inl g))]) hD hS hA [1, 2, 3] rfl
      refine W.book (fun hz8_ hn8_ => ?_)
      refine va_callv (va_runV (As := [.int (nI nz), .int p0, .int p1]) (rest := []) ⟨hx, hb, hml, hown, hts⟩ (c_X5_insert l  dC dI s.heap.size (hT s.heap) x0 k0 w0 ck cw L f g nz ch (nI nz) p0 p1 2 gs hR9 (by omega)) (cwV 3 hts gX4_enter_X5_insert rfl rfl rfl (by decide +kernel) ⟨(Nat.le_of_ble_eq_true rfl), (Nat.le_of_ble_eq_true rfl)⟩) ⟨pk_blindT, va_recv hKc hPc (ci := 5) (q0 := 0) rfl rfl, pk_callT hPc hKc hDc⟩ rfl rfl hl.1 rfl (lv_room (Nat.le_of_ble_eq_true rfl)) dX4_enter_39 ⟨(Nat.le_of_ble_eq_true rfl), (show 0 + gs ≤ gs by omega)⟩) hS (fun q _ h => hFc q h) hFc (fun ur_7 t H1 locs ht hvm hw hB hz1 hk1 hS => ?_)
      try dsimp only at hw
      have jr_7 := hw
      obtain ⟨hP1, hK1, hD1, hC1_⟩ := hB
      rw [ht] at hP1 hC1_
      have hK1 := va_K.moved hvm.symm hK1
      obtain ⟨hP, hD⟩ := va_join (wr := [(y0, .inr (4, [.ref x0, .int kd, .int wh, .int (nI lim), .int bu]))]) (w1 := [(x0, .inr (5, [.ref ur_7.1, .ref ur_7.2.1, .int (nI (ur_7.2.2.2.2.2.2.2.1)), .int ur_7.2.2.2.2.2.2.2.2])), (ur_7.1, .inl (ur_7.2.2.1, ur_7.2.2.2.2.1, .inl ur_7.2.2.2.2.2.1)), (ur_7.2.1, .inl (ur_7.2.2.2.1, ur_7.2.2.2.2.1, .inl ur_7.2.2.2.2.2.2.1))]) hP hD [1, 2, 3] [0] rfl rfl (by decide) (by decide) hk1 hFc hP1 hD1
      have hK := hK.app hK1
      have hK : va_K (dC, dI) vwCl [(ck, .int), (cw, .int), (ur_7.2.2.1, .int), (ur_7.2.2.2.1, .int)] s := hK
      have hl7_ := jr_7.2.2.2
      have hn7_ : hT H1 ≤ hT s.heap + ((4 * (ur_7.2.2.2.2.1) - 4 * L)) := by omega
      have hz7_ : H1.size ≤ s.heap.size + ((2 * lgN (ur_7.2.2.2.2.1) - 2 * lgN L)) := by omega
      clear hC1_ hn8_ hz8_
      clear hk1 hz1 ht hPc hDc hKc hFc
      generalize H1 = H at hP hS hn7_ hz7_ ⊢
      replace hP : va_P (dC, dI) vwCl [(y0, .inr (4, [.ref x0, .int kd, .int wh, .int (nI lim), .int bu])), (x0, .inr (5, [.ref ur_7.1, .ref ur_7.2.1, .int (nI (ur_7.2.2.2.2.2.2.2.1)), .int ur_7.2.2.2.2.2.2.2.2])), (ur_7.1, .inl (ur_7.2.2.1, ur_7.2.2.2.2.1, .inl ur_7.2.2.2.2.2.1)), (ur_7.2.1, .inl (ur_7.2.2.2.1, ur_7.2.2.2.2.1, .inl ur_7.2.2.2.2.2.2.1))] H := hP
      replace hD : va_D A [(y0, .inr (4, [.ref x0, .int kd, .int wh, .int (nI lim), .int bu])), (x0, .inr (5, [.ref ur_7.1, .ref ur_7.2.1, .int (nI (ur_7.2.2.2.2.2.2.2.1)), .int ur_7.2.2.2.2.2.2.2.2])), (ur_7.1, .inl (ur_7.2.2.1, ur_7.2.2.2.2.1, .inl ur_7.2.2.2.2.2.1)), (ur_7.2.1, .inl (ur_7.2.2.2.1, ur_7.2.2.2.2.1, .inl ur_7.2.2.2.2.2.2.1))] := hD
      refine W.tight (k := (2 * lgN (ur_7.2.2.2.2.1) - 2 * lgN L)) (n := (4 * (ur_7.2.2.2.2.1) - 4 * L)) hz7_ hn7_ ?_
      clear hn7_ hz7_
      refine W.eq (g2 := F0 m 42 ls []) rfl ?_
      obtain ⟨⟨m1_, m2_, m3_, m4_⟩, m5_, m6_, m7_⟩ := jr_7
      have hlg1_ : lgN (ur_7.2.2.2.2.1) = lgN L ∨ lgN (ur_7.2.2.2.2.1) = lgN L + 1 := lgN_two (by omega) (by omega)
      refine W.book (fun hz9_ hn9_ => ?_)
      have hpost : lnP L nz (ur_7.2.2.2.2.1) (ur_7.2.2.2.2.2.2.2.1) := by unfold lnP rOK; omega
      have hlg1_ : lgN (ur_7.2.2.2.2.1) = lgN L ∨ lgN (ur_7.2.2.2.2.1) = lgN L + 1 := lgN_two (by omega) (by omega)
      have hcost : hT H + 4 * L ≤ hT s.heap + 4 * (ur_7.2.2.2.2.1) ∧ H.size + 2 * lgN L ≤ s.heap.size + 2 * lgN (ur_7.2.2.2.2.1) := by constructor <;> omega
      have hP9 := hP.sub (ws' := [(y0, .inr (4, [.ref x0, .int kd, .int wh, .int (nI lim), .int bu])), (x0, .inr (5, [.ref ur_7.1, .ref ur_7.2.1, .int (nI (ur_7.2.2.2.2.2.2.2.1)), .int ur_7.2.2.2.2.2.2.2.2])), (ur_7.1, .inl (ur_7.2.2.1, ur_7.2.2.2.2.1, .inl ur_7.2.2.2.2.2.1)), (ur_7.2.1, .inl (ur_7.2.2.2.1, ur_7.2.2.2.2.1, .inl ur_7.2.2.2.2.2.2.1))]) [0, 1, 2, 3] rfl
      have hD9 := hD.sub (ws' := [(y0, .inr (4, [.ref x0, .int kd, .int wh, .int (nI lim), .int bu])), (x0, .inr (5, [.ref ur_7.1, .ref ur_7.2.1, .int (nI (ur_7.2.2.2.2.2.2.2.1)), .int ur_7.2.2.2.2.2.2.2.2])), (ur_7.1, .inl (ur_7.2.2.1, ur_7.2.2.2.2.1, .inl ur_7.2.2.2.2.2.1)), (ur_7.2.1, .inl (ur_7.2.2.2.1, ur_7.2.2.2.2.1, .inl ur_7.2.2.2.2.2.2.1))]) [0, 1, 2, 3] (by decide) rfl
      have hK9 := hK.sub (tys' := [(ur_7.2.2.1, .int), (ur_7.2.2.2.1, .int)]) [2, 3] rfl
      refine W.widen (k := 2) (n := gs) (by omega) (by omega) ?_
      exact W.vret hx hb hr (fun t ht hW => ⟨⟨(ur_7.1, ur_7.2.1, ur_7.2.2.1, ur_7.2.2.2.1, ur_7.2.2.2.2.1, ur_7.2.2.2.2.2.1, ur_7.2.2.2.2.2.2.1, ur_7.2.2.2.2.2.2.2.1, ur_7.2.2.2.2.2.2.2.2), rfl, hpost, by rw [ht]; exact hP9, va_K.moved hW.alike hK9, hD9, by rw [ht]; exact hcost⟩, hS.F ht⟩) hS.2.2 dX4_enter_42
    ·
      have ic_5 : ((lim : Nat) : Int) ≤ ((nz : Nat) : Int) := tx_nlt (nI_toInt (by omega)) (nI_toInt (by omega)) c_5
      refine lv_aload_n hx hb dX4_enter_21 rfl (lv_at hl 0 rfl) ?_
      refine lv_iconst (v := 0) hx hb dX4_enter_22 (by decide) ?_
      have hPc := hP.sub (ws' := [(y0, .inr (4, [.ref x0, .int kd, .int wh, .int (nI lim), .int bu])), (x0, .inr (5, [.ref k0, .ref w0, .int (nI nz), .int ch])), (k0, .inl (ck, L, .inl f)), (w0, .inl (cw, L, .inl g))]) [0, 1, 2, 3] rfl
      have hDc := hD.sub (ws' := [(y0, .inr (4, [.ref x0, .int kd, .int wh, .int (nI lim), .int bu])), (x0, .inr (5, [.ref k0, .ref w0, .int (nI nz), .int ch])), (k0, .inl (ck, L, .inl f)), (w0, .inl (cw, L, .inl g))]) [0, 1, 2, 3] (by decide) rfl
      have hKc := hK.sub (tys' := [(ck, .int), (cw, .int)]) [0, 1] rfl
      have hFc := va_free (wc := [(y0, .inr (4, [.ref x0, .int kd, .int wh, .int (nI lim), .int bu])), (x0, .inr (5, [.ref k0, .ref w0, .int (nI nz), .int ch])), (k0, .inl (ck, L, .inl f)), (w0, .inl (cw, L, .inl g))]) hD hS hA [0, 1, 2, 3] rfl
      refine va_callv (va_runU (As := [.int 0]) (rest := []) ⟨hx, hb, hml, hown, hts⟩ (c_X3_leave_L l  dC dI s.heap.size y0 (.int kd) (.int wh) (.int (nI lim)) (.int bu) x0 k0 w0 ck cw L f g nz ch 0 hR9) (va_cwU 1 hts gX4_enter_X3_leave_u40X4 rfl rfl rfl rfl (by decide +kernel) ⟨(Nat.le_of_ble_eq_true rfl), (Nat.le_of_ble_eq_true rfl)⟩) ⟨pk_blind, va_recv hKc hPc (ci := 4) (q0 := 0) rfl rfl, pk_call hPc hKc hDc⟩ rfl rfl hl.1 rfl (lv_room (Nat.le_of_ble_eq_true rfl)) dX4_enter_23 ⟨(Nat.le_of_ble_eq_true rfl), (show 0 + 0 ≤ gs by omega)⟩) hS (fun q _ h => hFc q h) hFc (fun ur_8 t H1 locs ht hvm hw hB hz1 hk1 hS => ?_)
      try dsimp only at hw
      have jr_8 := hw
      obtain ⟨hP1, hK1, hD1⟩ := hB
      rw [ht] at hP1
      have hK1 := va_K.moved hvm.symm hK1
      obtain ⟨hP, hD⟩ := va_join (wr := []) (w1 := [(y0, .inr (4, [.ref x0, .int kd, .int wh, .int (nI lim), .int bu])), (x0, .inr (5, [.ref k0, .ref w0, .int (nI (ur_8.2.2.1)), .int ur_8.2.2.2])), (k0, .inl (ck, L, .inl ur_8.1)), (w0, .inl (cw, L, .inl ur_8.2.1))]) hP hD [0, 1, 2, 3] [] rfl rfl (by decide) (by decide) hk1 hFc hP1 hD1
      clear hk1 hz1 ht hPc hDc hKc hFc
      generalize H1 = H at hP hS ⊢
      replace hP : va_P (dC, dI) vwCl [(y0, .inr (4, [.ref x0, .int kd, .int wh, .int (nI lim), .int bu])), (x0, .inr (5, [.ref k0, .ref w0, .int (nI (ur_8.2.2.1)), .int ur_8.2.2.2])), (k0, .inl (ck, L, .inl ur_8.1)), (w0, .inl (cw, L, .inl ur_8.2.1))] H := hP
      replace hD : va_D A [(y0, .inr (4, [.ref x0, .int kd, .int wh, .int (nI lim), .int bu])), (x0, .inr (5, [.ref k0, .ref w0, .int (nI (ur_8.2.2.1)), .int ur_8.2.2.2])), (k0, .inl (ck, L, .inl ur_8.1)), (w0, .inl (cw, L, .inl ur_8.2.1))] := hD
      refine W.widen (k := 0) (n := 0) (Nat.le_of_ble_eq_true rfl) (Nat.le_of_ble_eq_true rfl) ?_
      refine W.eq (g2 := F0 m 26 ls []) rfl ?_
      have hR9 : rOK L (ur_8.2.2.1) := rOK_le hR9 jr_8
      refine lv_aload_n hx hb dX4_enter_26 rfl (lv_at hl 0 rfl) ?_
      refine va_get (D := (dC, dI)) (ci := 4) (v := .ref x0) (C := RX4) (T := TX4) (N := 5) hx hb hts hi0_ hown hK hP 0 rfl rfl 0 (by decide) hw1_ (u_same hw2_) rfl dX4_enter_27 ?_
      refine lv_aload_n hx hb dX4_enter_30 rfl (lv_at hl 0 rfl) ?_
      refine va_get (D := (dC, dI)) (ci := 4) (v := .ref x0) (C := RX4) (T := TX4) (N := 5) hx hb hts hi0_ hown hK hP 0 rfl rfl 0 (by decide) hw1_ (u_same hw2_) rfl dX4_enter_31 ?_
      have hPc := hP.sub (ws' := [(x0, .inr (5, [.ref k0, .ref w0, .int (nI (ur_8.2.2.1)), .int ur_8.2.2.2]))]) [1] rfl
      have hKc := hK.sub (tys' := []) [] rfl
      refine ro_calli (va_runV (As := []) (rest := [.ref x0]) ⟨hx, hb, hml, hown, hts⟩ (c_X5_size l  dC dI H.size x0 (nI (ur_8.2.2.1)) (.ref k0) (.ref w0) (.int ur_8.2.2.2)) (cwV 0 hts gX4_enter_X5_size rfl rfl rfl (by decide +kernel) ⟨(Nat.le_of_ble_eq_true rfl), (Nat.le_of_ble_eq_true rfl)⟩) ⟨pk_blindR, va_recv hKc hPc (ci := 5) (q0 := 0) rfl rfl, pk_callR hPc hKc⟩ rfl rfl hl.1 rfl (lv_room (Nat.le_of_ble_eq_true rfl)) dX4_enter_34 ⟨(Nat.le_of_ble_eq_true rfl), (show 0 + 0 ≤ gs by omega)⟩) (fun r_9 ur_9 hw => ?_)
      clear hPc hKc
      try dsimp only at hw
      obtain rfl : r_9 = nI (ur_8.2.2.1) := hw
      refine W.eq (g2 := F0 m 37 ls [.int (nI (ur_8.2.2.1)), .ref x0]) rfl ?_
      refine lv_iload_n hx hb dX4_enter_37 rfl (lv_at hl 1 rfl) ?_
      refine lv_iload_n hx hb dX4_enter_38 rfl (lv_at hl 2 rfl) ?_
      have hPc := hP.sub (ws' := [(x0, .inr (5, [.ref k0, .ref w0, .int (nI (ur_8.2.2.1)), .int ur_8.2.2.2])), (k0, .inl (ck, L, .inl ur_8.1)), (w0, .inl (cw, L, .inl ur_8.2.1))]) [1, 2, 3] rfl
      have hDc := hD.sub (ws' := [(x0, .inr (5, [.ref k0, .ref w0, .int (nI (ur_8.2.2.1)), .int ur_8.2.2.2])), (k0, .inl (ck, L, .inl ur_8.1)), (w0, .inl (cw, L, .inl ur_8.2.1))]) [1, 2, 3] (by decide) rfl
      have hKc := hK.sub (tys' := [(ck, .int), (cw, .int)]) [0, 1] rfl
      have hFc := va_free (wc := [(x0, .inr (5, [.ref k0, .ref w0, .int (nI (ur_8.2.2.1)), .int ur_8.2.2.2])), (k0, .inl (ck, L, .inl ur_8.1)), (w0, .inl (cw, L, .inl ur_8.2.1))]) hD hS hA [1, 2, 3] rfl
      refine W.book (fun hz8_ hn8_ => ?_)
      refine va_callv (va_runV (As := [.int (nI (ur_8.2.2.1)), .int p0, .int p1]) (rest := []) ⟨hx, hb, hml, hown, hts⟩ (c_X5_insert l  dC dI H.size (hT H) x0 k0 w0 ck cw L ur_8.1 ur_8.2.1 ur_8.2.2.1 ur_8.2.2.2 (nI (ur_8.2.2.1)) p0 p1 2 gs hR9 (by omega)) (cwV 3 hts gX4_enter_X5_insert rfl rfl rfl (by decide +kernel) ⟨(Nat.le_of_ble_eq_true rfl), (Nat.le_of_ble_eq_true rfl)⟩) ⟨pk_blindT, va_recv hKc hPc (ci := 5) (q0 := 0) rfl rfl, pk_callT hPc hKc hDc⟩ rfl rfl hl.1 rfl (lv_room (Nat.le_of_ble_eq_true rfl)) dX4_enter_39 ⟨(Nat.le_of_ble_eq_true rfl), (show 0 + gs ≤ gs by omega)⟩) hS (fun q _ h => hFc q h) hFc (fun ur_10 t H1 locs ht hvm hw hB hz1 hk1 hS => ?_)
      try dsimp only at hw
      have jr_10 := hw
      obtain ⟨hP1, hK1, hD1, hC1_⟩ := hB
      rw [ht] at hP1 hC1_
      have hK1 := va_K.moved hvm.symm hK1
      obtain ⟨hP, hD⟩ := va_join (wr := [(y0, .inr (4, [.ref x0, .int kd, .int wh, .int (nI lim), .int bu]))]) (w1 := [(x0, .inr (5, [.ref ur_10.1, .ref ur_10.2.1, .int (nI (ur_10.2.2.2.2.2.2.2.1)), .int ur_10.2.2.2.2.2.2.2.2])), (ur_10.1, .inl (ur_10.2.2.1, ur_10.2.2.2.2.1, .inl ur_10.2.2.2.2.2.1)), (ur_10.2.1, .inl (ur_10.2.2.2.1, ur_10.2.2.2.2.1, .inl ur_10.2.2.2.2.2.2.1))]) hP hD [1, 2, 3] [0] rfl rfl (by decide) (by decide) hk1 hFc hP1 hD1
      have hK := hK.app hK1
      have hK : va_K (dC, dI) vwCl [(ck, .int), (cw, .int), (ur_10.2.2.1, .int), (ur_10.2.2.2.1, .int)] s := hK
      have hl7_ := jr_10.2.2.2
      have hn7_ : hT H1 ≤ hT s.heap + ((4 * (ur_10.2.2.2.2.1) - 4 * L)) := by omega
      have hz7_ : H1.size ≤ s.heap.size + ((2 * lgN (ur_10.2.2.2.2.1) - 2 * lgN L)) := by omega
      clear hC1_ hn8_ hz8_
      clear hk1 hz1 ht hPc hDc hKc hFc
      generalize H1 = H at hP hS hn7_ hz7_ ⊢
      replace hP : va_P (dC, dI) vwCl [(y0, .inr (4, [.ref x0, .int kd, .int wh, .int (nI lim), .int bu])), (x0, .inr (5, [.ref ur_10.1, .ref ur_10.2.1, .int (nI (ur_10.2.2.2.2.2.2.2.1)), .int ur_10.2.2.2.2.2.2.2.2])), (ur_10.1, .inl (ur_10.2.2.1, ur_10.2.2.2.2.1, .inl ur_10.2.2.2.2.2.1)), (ur_10.2.1, .inl (ur_10.2.2.2.1, ur_10.2.2.2.2.1, .inl ur_10.2.2.2.2.2.2.1))] H := hP
      replace hD : va_D A [(y0, .inr (4, [.ref x0, .int kd, .int wh, .int (nI lim), .int bu])), (x0, .inr (5, [.ref ur_10.1, .ref ur_10.2.1, .int (nI (ur_10.2.2.2.2.2.2.2.1)), .int ur_10.2.2.2.2.2.2.2.2])), (ur_10.1, .inl (ur_10.2.2.1, ur_10.2.2.2.2.1, .inl ur_10.2.2.2.2.2.1)), (ur_10.2.1, .inl (ur_10.2.2.2.1, ur_10.2.2.2.2.1, .inl ur_10.2.2.2.2.2.2.1))] := hD
      refine W.tight (k := (2 * lgN (ur_10.2.2.2.2.1) - 2 * lgN L)) (n := (4 * (ur_10.2.2.2.2.1) - 4 * L)) hz7_ hn7_ ?_
      clear hn7_ hz7_
      refine W.eq (g2 := F0 m 42 ls []) rfl ?_
      obtain ⟨⟨m1_, m2_, m3_, m4_⟩, m5_, m6_, m7_⟩ := jr_10
      have hlg1_ : lgN (ur_10.2.2.2.2.1) = lgN L ∨ lgN (ur_10.2.2.2.2.1) = lgN L + 1 := lgN_two (by omega) (by omega)
      refine W.book (fun hz9_ hn9_ => ?_)
      have hpost : lnP L nz (ur_10.2.2.2.2.1) (ur_10.2.2.2.2.2.2.2.1) := by unfold lnP rOK; omega
      have hlg1_ : lgN (ur_10.2.2.2.2.1) = lgN L ∨ lgN (ur_10.2.2.2.2.1) = lgN L + 1 := lgN_two (by omega) (by omega)
      have hcost : hT H + 4 * L ≤ hT s.heap + 4 * (ur_10.2.2.2.2.1) ∧ H.size + 2 * lgN L ≤ s.heap.size + 2 * lgN (ur_10.2.2.2.2.1) := by constructor <;> omega
      have hP9 := hP.sub (ws' := [(y0, .inr (4, [.ref x0, .int kd, .int wh, .int (nI lim), .int bu])), (x0, .inr (5, [.ref ur_10.1, .ref ur_10.2.1, .int (nI (ur_10.2.2.2.2.2.2.2.1)), .int ur_10.2.2.2.2.2.2.2.2])), (ur_10.1, .inl (ur_10.2.2.1, ur_10.2.2.2.2.1, .inl ur_10.2.2.2.2.2.1)), (ur_10.2.1, .inl (ur_10.2.2.2.1, ur_10.2.2.2.2.1, .inl ur_10.2.2.2.2.2.2.1))]) [0, 1, 2, 3] rfl
      have hD9 := hD.sub (ws' := [(y0, .inr (4, [.ref x0, .int kd, .int wh, .int (nI lim), .int bu])), (x0, .inr (5, [.ref ur_10.1, .ref ur_10.2.1, .int (nI (ur_10.2.2.2.2.2.2.2.1)), .int ur_10.2.2.2.2.2.2.2.2])), (ur_10.1, .inl (ur_10.2.2.1, ur_10.2.2.2.2.1, .inl ur_10.2.2.2.2.2.1)), (ur_10.2.1, .inl (ur_10.2.2.2.1, ur_10.2.2.2.2.1, .inl ur_10.2.2.2.2.2.2.1))]) [0, 1, 2, 3] (by decide) rfl
      have hK9 := hK.sub (tys' := [(ur_10.2.2.1, .int), (ur_10.2.2.2.1, .int)]) [2, 3] rfl
      refine W.widen (k := 2) (n := gs) (by omega) (by omega) ?_
      exact W.vret hx hb hr (fun t ht hW => ⟨⟨(ur_10.1, ur_10.2.1, ur_10.2.2.1, ur_10.2.2.2.1, ur_10.2.2.2.2.1, ur_10.2.2.2.2.2.1, ur_10.2.2.2.2.2.2.1, ur_10.2.2.2.2.2.2.2.1, ur_10.2.2.2.2.2.2.2.2), rfl, hpost, by rw [ht]; exact hP9, va_K.moved hW.alike hK9, hD9, by rw [ht]; exact hcost⟩, hS.F ht⟩) hS.2.2 dX4_enter_42
set_option maxHeartbeats 4000000 in
set_option maxRecDepth 100000 in
/-- X4.noteUse -/
theorem c_X4_noteUse (l : Launch) (dC : Nat → ClassId) (dI : Nat → Nat → Nat) (sz : Nat) (y0 : Nat) (kd : Int32) (wh : Int32) (lim : Nat) (bu : Int32) (x0 : Nat) (k0 : Nat) (w0 : Nat) (ck : ClassId) (cw : ClassId) (L : Nat) (f : Nat → Int32) (g : Nat → Int32) (nz : Nat) (ch : Int32) (p0 : Int32) (hR9 : rOK L nz) : Met l yX4_noteUse wsX4_noteUse ({ frames := 2, cells := 0, slots := 0, locals := 100 }) (va_Pc [.ref y0, .int p0] (pk_Pre (dC, dI) [(y0, .inr (4, [.ref x0, .int kd, .int wh, .int (nI lim), .int bu])), (x0, .inr (5, [.ref k0, .ref w0, .int (nI nz), .int ch])), (k0, .inl (ck, L, .inl f)), (w0, .inl (cw, L, .inl g))] [(ck, .int), (cw, .int)] sz)) (va_Qv (fun (u : (Nat → Int32) × (Nat → Int32) × Int32) => True) (fun (u : (Nat → Int32) × (Nat → Int32) × Int32) (t : State) => va_P (dC, dI) vwCl [(y0, .inr (4, [.ref x0, .int kd, .int wh, .int (nI lim), .int bu])), (x0, .inr (5, [.ref k0, .ref w0, .int (nI nz), .int u.2.2])), (k0, .inl (ck, L, .inl u.1)), (w0, .inl (cw, L, .inl u.2.1))] t.heap ∧ va_K (dC, dI) vwCl [(ck, .int), (cw, .int)] t ∧ va_D (va_A [(y0, .inr (4, [.ref x0, .int kd, .int wh, .int (nI lim), .int bu])), (x0, .inr (5, [.ref k0, .ref w0, .int (nI nz), .int ch])), (k0, .inl (ck, L, .inl f)), (w0, .inl (cw, L, .inl g))] sz) [(y0, .inr (4, [.ref x0, .int kd, .int wh, .int (nI lim), .int bu])), (x0, .inr (5, [.ref k0, .ref w0, .int (nI nz), .int u.2.2])), (k0, .inl (ck, L, .inl u.1)), (w0, .inl (cw, L, .inl u.2.1))]) (va_A [(y0, .inr (4, [.ref x0, .int kd, .int wh, .int (nI lim), .int bu])), (x0, .inr (5, [.ref k0, .ref w0, .int (nI nz), .int ch])), (k0, .inl (ck, L, .inl f)), (w0, .inl (cw, L, .inl g))] sz)) 0 0 (va_A [(y0, .inr (4, [.ref x0, .int kd, .int wh, .int (nI lim), .int bu])), (x0, .inr (5, [.ref k0, .ref w0, .int (nI nz), .int ch])), (k0, .inl (ck, L, .inl f)), (w0, .inl (cw, L, .inl g))] sz) := by
  refine Met.ofW (cc := cX4_noteUse) (maxL := 2) (ret := none) (by decide) rfl ?_
  intro p e s m args below meth c s₁ B hml hv
  obtain ⟨rfl, hsz, hP, hK, hD0⟩ := hv
  have hx := B.exec
  have hb := B.bytes
  have hr := B.returns
  have hts := atoms_spec (ws := wsX4_noteUse) B.pre
  have hown : s.vm.findClass RX4 = some m.cls := findClass_of_methodNamed B.named
  have hlocks := B.notSynchronized
  subst hsz
  have hD := hD0.self (sz := s.heap.size)
  generalize hAe : va_A [(y0, .inr (4, [.ref x0, .int kd, .int wh, .int (nI lim), .int bu])), (x0, .inr (5, [.ref k0, .ref w0, .int (nI nz), .int ch])), (k0, .inl (ck, L, .inl f)), (w0, .inl (cw, L, .inl g))] s.heap.size = A at hD ⊢
  have hA : ∀ q : Nat, s.heap.size ≤ q → A q := fun q h => by rw [← hAe]; exact Or.inr h
  have hS : va_S A s.heap s.heap [] := va_S.rf
  have hP : va_P (dC, dI) vwCl [(y0, .inr (4, [.ref x0, .int kd, .int wh, .int (nI lim), .int bu])), (x0, .inr (5, [.ref k0, .ref w0, .int (nI nz), .int ch])), (k0, .inl (ck, L, .inl f)), (w0, .inl (cw, L, .inl g))] s.heap := hP
  have hl := lv_entry ([.ref y0, .int p0]) (n := 2) (Nat.le_of_ble_eq_true rfl)
  rw [lg_entry_eq]
  generalize (lg_sl ([.ref y0, .int p0]) ++ List.replicate (2 - (lg_sl ([.ref y0, .int p0])).length) Slot.unset).toArray = ls at hl ⊢
  have hl : lv_has ls 2 [(0, .ref y0), (1, .int p0)] := hl
  have hw0_ := hts (.fieldLink RX4 20 "KeyAtlas$Linked" "isByUse" "Z") (List.mem_of_getElem? (l := wsX4_noteUse) (i := 1) rfl)
  have hw1_ := hts (.fieldLink RX4 24 "KeyAtlas$Linked" "rows" "LKeyAtlas$Rows;") (List.mem_of_getElem? (l := wsX4_noteUse) (i := 2) rfl)
  have hw2_ := hts (.sameField "KeyAtlas$Linked" "KeyAtlas$Keyed" "rows" "LKeyAtlas$Rows;") (List.mem_of_getElem? (l := wsX4_noteUse) (i := 3) rfl)
  have hi0_ : ∀ w ∈ u_ws RX4 TX4 5, w ∈ wsX4_noteUse := fun w h => List.mem_cons_of_mem _ (List.mem_append_left _ (List.mem_append_left _ (List.mem_append_left _ (List.mem_append_right _ h))))
  refine lv_aload_n hx hb dX4_noteUse_0 rfl (lv_at hl 0 rfl) ?_
  refine va_get (D := (dC, dI)) (ci := 4) (v := .int bu) (C := RX4) (T := TX4) (N := 5) hx hb hts hi0_ hown hK hP 0 rfl rfl 4 (by decide) hw0_ (fun _ h9 => h9) rfl dX4_noteUse_1 ?_
  refine lv_if_eq (tgt := 15) hx hb dX4_noteUse_4 (by decide) (fun c_1 => ?_) (fun c_1 => ?_)
  ·
    have ic_1 : bu.toInt = 0 := tx_eq rfl (by decide) c_1
    have hP9 := hP.sub (ws' := [(y0, .inr (4, [.ref x0, .int kd, .int wh, .int (nI lim), .int bu])), (x0, .inr (5, [.ref k0, .ref w0, .int (nI nz), .int ch])), (k0, .inl (ck, L, .inl f)), (w0, .inl (cw, L, .inl g))]) [0, 1, 2, 3] rfl
    have hD9 := hD.sub (ws' := [(y0, .inr (4, [.ref x0, .int kd, .int wh, .int (nI lim), .int bu])), (x0, .inr (5, [.ref k0, .ref w0, .int (nI nz), .int ch])), (k0, .inl (ck, L, .inl f)), (w0, .inl (cw, L, .inl g))]) [0, 1, 2, 3] (by decide) rfl
    have hK9 := hK.sub (tys' := [(ck, .int), (cw, .int)]) [0, 1] rfl
    refine W.widen (k := 0) (n := 0) (Nat.le_of_ble_eq_true rfl) (Nat.le_of_ble_eq_true rfl) ?_
    exact W.vret hx hb hr (fun t ht hW => ⟨⟨(f, g, ch), rfl, trivial, by rw [ht]; exact hP9, va_K.moved hW.alike hK9, hD9⟩, hS.F ht⟩) hS.2.2 dX4_noteUse_15
  ·
    have ic_1 : ¬ bu.toInt = 0 := tx_ne rfl (by decide) c_1
    refine lv_aload_n hx hb dX4_noteUse_7 rfl (lv_at hl 0 rfl) ?_
    refine va_get (D := (dC, dI)) (ci := 4) (v := .ref x0) (C := RX4) (T := TX4) (N := 5) hx hb hts hi0_ hown hK hP 0 rfl rfl 0 (by decide) hw1_ (u_same hw2_) rfl dX4_noteUse_8 ?_
    refine lv_iload_n hx hb dX4_noteUse_11 rfl (lv_at hl 1 rfl) ?_
    have hPc := hP.sub (ws' := [(x0, .inr (5, [.ref k0, .ref w0, .int (nI nz), .int ch])), (k0, .inl (ck, L, .inl f)), (w0, .inl (cw, L, .inl g))]) [1, 2, 3] rfl
    have hDc := hD.sub (ws' := [(x0, .inr (5, [.ref k0, .ref w0, .int (nI nz), .int ch])), (k0, .inl (ck, L, .inl f)), (w0, .inl (cw, L, .inl g))]) [1, 2, 3] (by decide) rfl
    have hKc := hK.sub (tys' := [(ck, .int), (cw, .int)]) [0, 1] rfl
    have hFc := va_free (wc := [(x0, .inr (5, [.ref k0, .ref w0, .int (nI nz), .int ch])), (k0, .inl (ck, L, .inl f)), (w0, .inl (cw, L, .inl g))]) hD hS hA [1, 2, 3] rfl
    refine va_callv (va_runV (As := [.int p0]) (rest := []) ⟨hx, hb, hml, hown, hts⟩ (c_X5_moveToEnd l  dC dI s.heap.size x0 k0 w0 ck cw L f g nz ch p0 hR9) (cwV 1 hts gX4_noteUse_X5_moveToEnd rfl rfl rfl (by decide +kernel) ⟨(Nat.le_of_ble_eq_true rfl), (Nat.le_of_ble_eq_true rfl)⟩) ⟨pk_blind, va_recv hKc hPc (ci := 5) (q0 := 0) rfl rfl, pk_call hPc hKc hDc⟩ rfl rfl hl.1 rfl (lv_room (Nat.le_of_ble_eq_true rfl)) dX4_noteUse_12 ⟨(Nat.le_of_ble_eq_true rfl), (Nat.le_of_ble_eq_true rfl)⟩) hS (fun q _ h => hFc q h) hFc (fun ur_2 t H1 locs ht hvm hw hB hz1 hk1 hS => ?_)
    try dsimp only at hw
    have jr_2 := hw
    obtain ⟨hP1, hK1, hD1⟩ := hB
    rw [ht] at hP1
    have hK1 := va_K.moved hvm.symm hK1
    obtain ⟨hP, hD⟩ := va_join (wr := [(y0, .inr (4, [.ref x0, .int kd, .int wh, .int (nI lim), .int bu]))]) (w1 := [(x0, .inr (5, [.ref k0, .ref w0, .int (nI nz), .int ur_2.2.2])), (k0, .inl (ck, L, .inl ur_2.1)), (w0, .inl (cw, L, .inl ur_2.2.1))]) hP hD [1, 2, 3] [0] rfl rfl (by decide) (by decide) hk1 hFc hP1 hD1
    clear hk1 hz1 ht hPc hDc hKc hFc
    generalize H1 = H at hP hS ⊢
    replace hP : va_P (dC, dI) vwCl [(y0, .inr (4, [.ref x0, .int kd, .int wh, .int (nI lim), .int bu])), (x0, .inr (5, [.ref k0, .ref w0, .int (nI nz), .int ur_2.2.2])), (k0, .inl (ck, L, .inl ur_2.1)), (w0, .inl (cw, L, .inl ur_2.2.1))] H := hP
    replace hD : va_D A [(y0, .inr (4, [.ref x0, .int kd, .int wh, .int (nI lim), .int bu])), (x0, .inr (5, [.ref k0, .ref w0, .int (nI nz), .int ur_2.2.2])), (k0, .inl (ck, L, .inl ur_2.1)), (w0, .inl (cw, L, .inl ur_2.2.1))] := hD
    refine W.widen (k := 0) (n := 0) (Nat.le_of_ble_eq_true rfl) (Nat.le_of_ble_eq_true rfl) ?_
    refine W.eq (g2 := F0 m 15 ls []) rfl ?_
    have hP9 := hP.sub (ws' := [(y0, .inr (4, [.ref x0, .int kd, .int wh, .int (nI lim), .int bu])), (x0, .inr (5, [.ref k0, .ref w0, .int (nI nz), .int ur_2.2.2])), (k0, .inl (ck, L, .inl ur_2.1)), (w0, .inl (cw, L, .inl ur_2.2.1))]) [0, 1, 2, 3] rfl
    have hD9 := hD.sub (ws' := [(y0, .inr (4, [.ref x0, .int kd, .int wh, .int (nI lim), .int bu])), (x0, .inr (5, [.ref k0, .ref w0, .int (nI nz), .int ur_2.2.2])), (k0, .inl (ck, L, .inl ur_2.1)), (w0, .inl (cw, L, .inl ur_2.2.1))]) [0, 1, 2, 3] (by decide) rfl
    have hK9 := hK.sub (tys' := [(ck, .int), (cw, .int)]) [0, 1] rfl
    refine W.widen (k := 0) (n := 0) (Nat.le_of_ble_eq_true rfl) (Nat.le_of_ble_eq_true rfl) ?_
    exact W.vret hx hb hr (fun t ht hW => ⟨⟨(ur_2.1, ur_2.2.1, ur_2.2.2), rfl, trivial, by rw [ht]; exact hP9, va_K.moved hW.alike hK9, hD9⟩, hS.F ht⟩) hS.2.2 dX4_noteUse_15
