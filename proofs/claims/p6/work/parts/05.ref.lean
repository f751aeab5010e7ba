theorem dX8_thrown_0 : decode cX8_thrown 0 = .ok (.aload_n 0, 1) := by decide +kernel
theorem dX8_thrown_1 : decode cX8_thrown 1 = .ok (.getfield 60, 3) := by decide +kernel
theorem dX8_thrown_4 : decode cX8_thrown 4 = .ok (.ireturn, 1) := by decide +kernel
theorem dX8_refuse_0 : decode cX8_refuse 0 = .ok (.aload_n 0, 1) := by decide +kernel
theorem dX8_refuse_1 : decode cX8_refuse 1 = .ok (.iload_n 1, 1) := by decide +kernel
theorem dX8_refuse_2 : decode cX8_refuse 2 = .ok (.putfield 60, 3) := by decide +kernel
theorem dX8_refuse_5 : decode cX8_refuse 5 = .ok (.iconst 0, 1) := by decide +kernel
theorem dX8_refuse_6 : decode cX8_refuse 6 = .ok (.ireturn, 1) := by decide +kernel
theorem dX8_in_0 : decode cX8_in 0 = .ok (.iload_n 0, 1) := by decide +kernel
theorem dX8_in_1 : decode cX8_in 1 = .ok (.iload_n 1, 1) := by decide +kernel
theorem dX8_in_2 : decode cX8_in 2 = .ok (.if_icmp .lt 12, 3) := by decide +kernel
theorem dX8_in_14 : decode cX8_in 14 = .ok (.iconst 0, 1) := by decide +kernel
theorem dX8_in_15 : decode cX8_in 15 = .ok (.ireturn, 1) := by decide +kernel
theorem dX8_in_5 : decode cX8_in 5 = .ok (.iload_n 0, 1) := by decide +kernel
theorem dX8_in_6 : decode cX8_in 6 = .ok (.iload_n 2, 1) := by decide +kernel
theorem dX8_in_7 : decode cX8_in 7 = .ok (.if_icmp .gt 7, 3) := by decide +kernel
theorem dX8_in_10 : decode cX8_in 10 = .ok (.iconst 1, 1) := by decide +kernel
theorem dX8_in_11 : decode cX8_in 11 = .ok (.goto 4, 3) := by decide +kernel
theorem dX8_key_0 : decode cX8_key 0 = .ok (.aload_n 0, 1) := by decide +kernel
theorem dX8_key_1 : decode cX8_key 1 = .ok (.getfield 14, 3) := by decide +kernel
theorem dX8_key_4 : decode cX8_key 4 = .ok (.sipush 4200, 3) := by decide +kernel
theorem dX8_key_7 : decode cX8_key 7 = .ok (.iload_n 1, 1) := by decide +kernel
theorem dX8_key_8 : decode cX8_key 8 = .ok (.imul, 1) := by decide +kernel
theorem dX8_key_9 : decode cX8_key 9 = .ok (.iload_n 2, 1) := by decide +kernel
theorem dX8_key_10 : decode cX8_key 10 = .ok (.iadd, 1) := by decide +kernel
theorem dX8_key_11 : decode cX8_key 11 = .ok (.iaload, 1) := by decide +kernel
theorem dX8_key_12 : decode cX8_key 12 = .ok (.ireturn, 1) := by decide +kernel
theorem dX8_value_0 : decode cX8_value 0 = .ok (.aload_n 0, 1) := by decide +kernel
theorem dX8_value_1 : decode cX8_value 1 = .ok (.getfield 14, 3) := by decide +kernel
theorem dX8_value_4 : decode cX8_value 4 = .ok (.sipush 4200, 3) := by decide +kernel
theorem dX8_value_7 : decode cX8_value 7 = .ok (.iload_n 1, 1) := by decide +kernel
theorem dX8_value_8 : decode cX8_value 8 = .ok (.imul, 1) := by decide +kernel
theorem dX8_value_9 : decode cX8_value 9 = .ok (.sipush 1000, 3) := by decide +kernel
theorem dX8_value_12 : decode cX8_value 12 = .ok (.iadd, 1) := by decide +kernel
theorem dX8_value_13 : decode cX8_value 13 = .ok (.iload_n 2, 1) := by decide +kernel
theorem dX8_value_14 : decode cX8_value 14 = .ok (.iadd, 1) := by decide +kernel
theorem dX8_value_15 : decode cX8_value 15 = .ok (.iaload, 1) := by decide +kernel
theorem dX8_value_16 : decode cX8_value 16 = .ok (.ireturn, 1) := by decide +kernel
theorem dX8_set_0 : decode cX8_set 0 = .ok (.aload_n 0, 1) := by decide +kernel
theorem dX8_set_1 : decode cX8_set 1 = .ok (.getfield 14, 3) := by decide +kernel
theorem dX8_set_4 : decode cX8_set 4 = .ok (.sipush 4200, 3) := by decide +kernel
theorem dX8_set_7 : decode cX8_set 7 = .ok (.iload_n 1, 1) := by decide +kernel
theorem dX8_set_8 : decode cX8_set 8 = .ok (.imul, 1) := by decide +kernel
theorem dX8_set_9 : decode cX8_set 9 = .ok (.iload_n 2, 1) := by decide +kernel
theorem dX8_set_10 : decode cX8_set 10 = .ok (.iadd, 1) := by decide +kernel
theorem dX8_set_11 : decode cX8_set 11 = .ok (.iload_n 3, 1) := by decide +kernel
theorem dX8_set_12 : decode cX8_set 12 = .ok (.iastore, 1) := by decide +kernel
theorem dX8_set_13 : decode cX8_set 13 = .ok (.aload_n 0, 1) := by decide +kernel
theorem dX8_set_14 : decode cX8_set 14 = .ok (.getfield 14, 3) := by decide +kernel
theorem dX8_set_17 : decode cX8_set 17 = .ok (.sipush 4200, 3) := by decide +kernel
theorem dX8_set_20 : decode cX8_set 20 = .ok (.iload_n 1, 1) := by decide +kernel
theorem dX8_set_21 : decode cX8_set 21 = .ok (.imul, 1) := by decide +kernel
theorem dX8_set_22 : decode cX8_set 22 = .ok (.sipush 1000, 3) := by decide +kernel
theorem dX8_set_25 : decode cX8_set 25 = .ok (.iadd, 1) := by decide +kernel
theorem dX8_set_26 : decode cX8_set 26 = .ok (.iload_n 2, 1) := by decide +kernel
theorem dX8_set_27 : decode cX8_set 27 = .ok (.iadd, 1) := by decide +kernel
theorem dX8_set_28 : decode cX8_set 28 = .ok (.iload 4, 2) := by decide +kernel
theorem dX8_set_30 : decode cX8_set 30 = .ok (.iastore, 1) := by decide +kernel
theorem dX8_set_31 : decode cX8_set 31 = .ok (.return_, 1) := by decide +kernel
theorem dX8_isMap_0 : decode cX8_isMap 0 = .ok (.aload_n 0, 1) := by decide +kernel
theorem dX8_isMap_1 : decode cX8_isMap 1 = .ok (.getfield 7, 3) := by decide +kernel
theorem dX8_isMap_4 : decode cX8_isMap 4 = .ok (.iload_n 1, 1) := by decide +kernel
theorem dX8_isMap_5 : decode cX8_isMap 5 = .ok (.iaload, 1) := by decide +kernel
theorem dX8_isMap_6 : decode cX8_isMap 6 = .ok (.iconst 1, 1) := by decide +kernel
theorem dX8_isMap_7 : decode cX8_isMap 7 = .ok (.if_icmp .lt 17, 3) := by decide +kernel
theorem dX8_isMap_24 : decode cX8_isMap 24 = .ok (.iconst 0, 1) := by decide +kernel
theorem dX8_isMap_25 : decode cX8_isMap 25 = .ok (.ireturn, 1) := by decide +kernel
theorem dX8_isMap_10 : decode cX8_isMap 10 = .ok (.aload_n 0, 1) := by decide +kernel
theorem dX8_isMap_11 : decode cX8_isMap 11 = .ok (.getfield 7, 3) := by decide +kernel
theorem dX8_isMap_14 : decode cX8_isMap 14 = .ok (.iload_n 1, 1) := by decide +kernel
theorem dX8_isMap_15 : decode cX8_isMap 15 = .ok (.iaload, 1) := by decide +kernel
theorem dX8_isMap_16 : decode cX8_isMap 16 = .ok (.iconst 4, 1) := by decide +kernel
theorem dX8_isMap_17 : decode cX8_isMap 17 = .ok (.if_icmp .gt 7, 3) := by decide +kernel
theorem dX8_isMap_20 : decode cX8_isMap 20 = .ok (.iconst 1, 1) := by decide +kernel
theorem dX8_isMap_21 : decode cX8_isMap 21 = .ok (.goto 4, 3) := by decide +kernel
theorem dX8_isLimited_0 : decode cX8_isLimited 0 = .ok (.aload_n 0, 1) := by decide +kernel
theorem dX8_isLimited_1 : decode cX8_isLimited 1 = .ok (.getfield 7, 3) := by decide +kernel
theorem dX8_isLimited_4 : decode cX8_isLimited 4 = .ok (.iload_n 1, 1) := by decide +kernel
theorem dX8_isLimited_5 : decode cX8_isLimited 5 = .ok (.iaload, 1) := by decide +kernel
theorem dX8_isLimited_6 : decode cX8_isLimited 6 = .ok (.iconst 2, 1) := by decide +kernel
theorem dX8_isLimited_7 : decode cX8_isLimited 7 = .ok (.if_icmp .ne 16, 3) := by decide +kernel
theorem dX8_isLimited_23 : decode cX8_isLimited 23 = .ok (.iconst 0, 1) := by decide +kernel
theorem dX8_isLimited_24 : decode cX8_isLimited 24 = .ok (.ireturn, 1) := by decide +kernel
theorem dX8_isLimited_10 : decode cX8_isLimited 10 = .ok (.aload_n 0, 1) := by decide +kernel
theorem dX8_isLimited_11 : decode cX8_isLimited 11 = .ok (.getfield 20, 3) := by decide +kernel
theorem dX8_isLimited_14 : decode cX8_isLimited 14 = .ok (.iload_n 1, 1) := by decide +kernel
theorem dX8_isLimited_15 : decode cX8_isLimited 15 = .ok (.iaload, 1) := by decide +kernel
theorem dX8_isLimited_16 : decode cX8_isLimited 16 = .ok (.ifCond .le 7, 3) := by decide +kernel
theorem dX8_isLimited_19 : decode cX8_isLimited 19 = .ok (.iconst 1, 1) := by decide +kernel
theorem dX8_isLimited_20 : decode cX8_isLimited 20 = .ok (.goto 4, 3) := by decide +kernel
theorem dX8_isThere_0 : decode cX8_isThere 0 = .ok (.iload_n 1, 1) := by decide +kernel
theorem dX8_isThere_1 : decode cX8_isThere 1 = .ok (.iconst 0, 1) := by decide +kernel
theorem dX8_isThere_2 : decode cX8_isThere 2 = .ok (.bipush 15, 2) := by decide +kernel
set_option maxRecDepth 20000 in
theorem ggX8_isThere_X8_in : GoodIn wsX8_isThere wsX8_in := goodIn_r _ [5] rfl (by decide +kernel)
set_option maxRecDepth 20000 in
theorem gX8_isThere_X8_in : GoodIn wsX8_isThere (va_wsS RX8 64 yX8_in wsX8_in) := goodIn_app (goodIn_of _ (by decide +kernel)) ggX8_isThere_X8_in
theorem dX8_isThere_4 : decode cX8_isThere 4 = .ok (.invokestatic 64, 3) := by decide +kernel
theorem dX8_isThere_7 : decode cX8_isThere 7 = .ok (.ifCond .eq 16, 3) := by decide +kernel
theorem dX8_isThere_23 : decode cX8_isThere 23 = .ok (.iconst 0, 1) := by decide +kernel
theorem dX8_isThere_24 : decode cX8_isThere 24 = .ok (.ireturn, 1) := by decide +kernel
theorem dX8_isThere_10 : decode cX8_isThere 10 = .ok (.aload_n 0, 1) := by decide +kernel
theorem dX8_isThere_11 : decode cX8_isThere 11 = .ok (.getfield 7, 3) := by decide +kernel
theorem dX8_isThere_14 : decode cX8_isThere 14 = .ok (.iload_n 1, 1) := by decide +kernel
theorem dX8_isThere_15 : decode cX8_isThere 15 = .ok (.iaload, 1) := by decide +kernel
theorem dX8_isThere_16 : decode cX8_isThere 16 = .ok (.ifCond .eq 7, 3) := by decide +kernel
theorem dX8_isThere_19 : decode cX8_isThere 19 = .ok (.iconst 1, 1) := by decide +kernel
theorem dX8_isThere_20 : decode cX8_isThere 20 = .ok (.goto 4, 3) := by decide +kernel
theorem dX8_born_0 : decode cX8_born 0 = .ok (.aload_n 0, 1) := by decide +kernel
theorem dX8_born_1 : decode cX8_born 1 = .ok (.getfield 7, 3) := by decide +kernel
theorem dX8_born_4 : decode cX8_born 4 = .ok (.iload_n 1, 1) := by decide +kernel
theorem dX8_born_5 : decode cX8_born 5 = .ok (.iload_n 2, 1) := by decide +kernel
theorem dX8_born_6 : decode cX8_born 6 = .ok (.iastore, 1) := by decide +kernel
theorem dX8_born_7 : decode cX8_born 7 = .ok (.aload_n 0, 1) := by decide +kernel
theorem dX8_born_8 : decode cX8_born 8 = .ok (.getfield 17, 3) := by decide +kernel
theorem dX8_born_11 : decode cX8_born 11 = .ok (.iload_n 1, 1) := by decide +kernel
theorem dX8_born_12 : decode cX8_born 12 = .ok (.iconst 0, 1) := by decide +kernel
theorem dX8_born_13 : decode cX8_born 13 = .ok (.iastore, 1) := by decide +kernel
theorem dX8_born_14 : decode cX8_born 14 = .ok (.aload_n 0, 1) := by decide +kernel
theorem dX8_born_15 : decode cX8_born 15 = .ok (.getfield 26, 3) := by decide +kernel
theorem dX8_born_18 : decode cX8_born 18 = .ok (.iload_n 1, 1) := by decide +kernel
theorem dX8_born_19 : decode cX8_born 19 = .ok (.iconst 0, 1) := by decide +kernel
theorem dX8_born_20 : decode cX8_born 20 = .ok (.iastore, 1) := by decide +kernel
theorem dX8_born_21 : decode cX8_born 21 = .ok (.aload_n 0, 1) := by decide +kernel
theorem dX8_born_22 : decode cX8_born 22 = .ok (.getfield 29, 3) := by decide +kernel
theorem dX8_born_25 : decode cX8_born 25 = .ok (.iload_n 1, 1) := by decide +kernel
theorem dX8_born_26 : decode cX8_born 26 = .ok (.iconst 0, 1) := by decide +kernel
theorem dX8_born_27 : decode cX8_born 27 = .ok (.iastore, 1) := by decide +kernel
theorem dX8_born_28 : decode cX8_born 28 = .ok (.aload_n 0, 1) := by decide +kernel
theorem dX8_born_29 : decode cX8_born 29 = .ok (.getfield 32, 3) := by decide +kernel
theorem dX8_born_32 : decode cX8_born 32 = .ok (.iload_n 1, 1) := by decide +kernel
theorem dX8_born_33 : decode cX8_born 33 = .ok (.iconst (-1), 1) := by decide +kernel
theorem dX8_born_34 : decode cX8_born 34 = .ok (.iastore, 1) := by decide +kernel
theorem dX8_born_35 : decode cX8_born 35 = .ok (.iload_n 1, 1) := by decide +kernel
theorem dX8_born_36 : decode cX8_born 36 = .ok (.ireturn, 1) := by decide +kernel
set_option maxHeartbeats 4000000 in
set_option maxRecDepth 100000 in
/-- thrown -/
theorem c_X8_thrown (l : Launch) (dC : Nat → ClassId) (dI : Nat → Nat → Nat) (sz : Nat) (h0 : Nat) (th : Int32) (v1 : Value) (v2 : Value) (v3 : Value) (v4 : Value) (v5 : Value) (v6 : Value) (v7 : Value) (v8 : Value) (v9 : Value) (v10 : Value) (v11 : Value) (v12 : Value) (v13 : Value) (v14 : Value) (v15 : Value) (v16 : Value) : Met l yX8_thrown wsX8_thrown ({ frames := 0, cells := 0, slots := 0, locals := 0 }) (va_Pc [.ref h0] (pk_Pre (dC, dI) [(h0, .inr (8, [.int th, v1, v2, v3, v4, v5, v6, v7, v8, v9, v10, v11, v12, v13, v14, v15, v16]))] [] sz)) (va_Qi (fun (r : Int32) (_ : Unit) => r = th) (fun (_ : Unit) (t : State) => va_P (dC, dI) vwCl [(h0, .inr (8, [.int th, v1, v2, v3, v4, v5, v6, v7, v8, v9, v10, v11, v12, v13, v14, v15, v16]))] t.heap ∧ va_K (dC, dI) vwCl [] t ∧ va_D (va_A [(h0, .inr (8, [.int th, v1, v2, v3, v4, v5, v6, v7, v8, v9, v10, v11, v12, v13, v14, v15, v16]))] sz) [(h0, .inr (8, [.int th, v1, v2, v3, v4, v5, v6, v7, v8, v9, v10, v11, v12, v13, v14, v15, v16]))]) (va_A [(h0, .inr (8, [.int th, v1, v2, v3, v4, v5, v6, v7, v8, v9, v10, v11, v12, v13, v14, v15, v16]))] sz)) 0 0 (va_A [(h0, .inr (8, [.int th, v1, v2, v3, v4, v5, v6, v7, v8, v9, v10, v11, v12, v13, v14, v15, v16]))] sz) := by
  refine Met.ofW (cc := cX8_thrown) (maxL := 1) (ret := (some .int)) (by decide) rfl ?_
  intro p e s m args below meth c s₁ B hml hv
  obtain ⟨rfl, hsz, hP, hK, hD0⟩ := hv
  have hx := B.exec
  have hb := B.bytes
  have hr := B.returns
  have hts := atoms_spec (ws := wsX8_thrown) B.pre
  have hown : s.vm.findClass RX8 = some m.cls := findClass_of_methodNamed B.named
  have hlocks := B.notSynchronized
  subst hsz
  have hD := hD0.self (sz := s.heap.size)
  generalize hAe : va_A [(h0, .inr (8, [.int th, v1, v2, v3, v4, v5, v6, v7, v8, v9, v10, v11, v12, v13, v14, v15, v16]))] s.heap.size = A at hD ⊢
  have hA : ∀ q : Nat, s.heap.size ≤ q → A q := fun q h => by rw [← hAe]; exact Or.inr h
  have hS : va_S A s.heap s.heap [] := va_S.rf
  have hP : va_P (dC, dI) vwCl [(h0, .inr (8, [.int th, v1, v2, v3, v4, v5, v6, v7, v8, v9, v10, v11, v12, v13, v14, v15, v16]))] s.heap := hP
  have hl := lv_entry ([.ref h0]) (n := 1) (Nat.le_of_ble_eq_true rfl)
  rw [lg_entry_eq]
  generalize (lg_sl ([.ref h0]) ++ List.replicate (1 - (lg_sl ([.ref h0])).length) Slot.unset).toArray = ls at hl ⊢
  have hl : lv_has ls 1 [(0, .ref h0)] := hl
  have hw0_ := hts (.fieldLink RX8 60 "KeyAtlasModel" "thrown" "I") (List.mem_of_getElem? (l := wsX8_thrown) (i := 1) rfl)
  have hi0_ : ∀ w ∈ u_ws RX8 TX8 17, w ∈ wsX8_thrown := fun w h => List.mem_cons_of_mem _ (List.mem_append_right _ h)
  refine lv_aload_n hx hb dX8_thrown_0 rfl (lv_at hl 0 rfl) ?_
  refine va_get (D := (dC, dI)) (ci := 8) (v := .int th) (C := RX8) (T := TX8) (N := 17) hx hb hts hi0_ hown hK hP 0 rfl rfl 0 (by decide) hw0_ (fun _ h9 => h9) rfl dX8_thrown_1 ?_
  have hP9 := hP.sub (ws' := [(h0, .inr (8, [.int th, v1, v2, v3, v4, v5, v6, v7, v8, v9, v10, v11, v12, v13, v14, v15, v16]))]) [0] rfl
  have hD9 := hD.sub (ws' := [(h0, .inr (8, [.int th, v1, v2, v3, v4, v5, v6, v7, v8, v9, v10, v11, v12, v13, v14, v15, v16]))]) [0] (by decide) rfl
  have hK9 := hK.sub (tys' := []) [] rfl
  refine W.widen (k := 0) (n := 0) (Nat.le_of_ble_eq_true rfl) (Nat.le_of_ble_eq_true rfl) ?_
  exact W.iret (v := th) hx hb hr (fun t ht hW => ⟨⟨th, (), rfl, rfl, by rw [ht]; exact hP9, va_K.moved hW.alike hK9, hD9⟩, hS.F ht⟩) hS.2.2 dX8_thrown_4
set_option maxHeartbeats 4000000 in
set_option maxRecDepth 100000 in
/-- refuse -/
theorem c_X8_refuse (l : Launch) (dC : Nat → ClassId) (dI : Nat → Nat → Nat) (sz : Nat) (h0 : Nat) (th : Int32) (v1 : Value) (v2 : Value) (v3 : Value) (v4 : Value) (v5 : Value) (v6 : Value) (v7 : Value) (v8 : Value) (v9 : Value) (v10 : Value) (v11 : Value) (v12 : Value) (v13 : Value) (v14 : Value) (v15 : Value) (v16 : Value) (p0 : Int32) : Met l yX8_refuse wsX8_refuse ({ frames := 0, cells := 0, slots := 0, locals := 0 }) (va_Pc [.ref h0, .int p0] (pk_Pre (dC, dI) [(h0, .inr (8, [.int th, v1, v2, v3, v4, v5, v6, v7, v8, v9, v10, v11, v12, v13, v14, v15, v16]))] [] sz)) (va_Qi (fun (r : Int32) (_ : Unit) => r = 0) (fun (_ : Unit) (t : State) => va_P (dC, dI) vwCl [(h0, .inr (8, [.int p0, v1, v2, v3, v4, v5, v6, v7, v8, v9, v10, v11, v12, v13, v14, v15, v16]))] t.heap ∧ va_K (dC, dI) vwCl [] t ∧ va_D (va_A [(h0, .inr (8, [.int th, v1, v2, v3, v4, v5, v6, v7, v8, v9, v10, v11, v12, v13, v14, v15, v16]))] sz) [(h0, .inr (8, [.int p0, v1, v2, v3, v4, v5, v6, v7, v8, v9, v10, v11, v12, v13, v14, v15, v16]))]) (va_A [(h0, .inr (8, [.int th, v1, v2, v3, v4, v5, v6, v7, v8, v9, v10, v11, v12, v13, v14, v15, v16]))] sz)) 0 0 (va_A [(h0, .inr (8, [.int th, v1, v2, v3, v4, v5, v6, v7, v8, v9, v10, v11, v12, v13, v14, v15, v16]))] sz) := by
  refine Met.ofW (cc := cX8_refuse) (maxL := 2) (ret := (some .int)) (by decide) rfl ?_
  intro p e s m args below meth c s₁ B hml hv
  obtain ⟨rfl, hsz, hP, hK, hD0⟩ := hv
  have hx := B.exec
  have hb := B.bytes
  have hr := B.returns
  have hts := atoms_spec (ws := wsX8_refuse) B.pre
  have hown : s.vm.findClass RX8 = some m.cls := findClass_of_methodNamed B.named
  have hlocks := B.notSynchronized
  subst hsz
  have hD := hD0.self (sz := s.heap.size)
  generalize hAe : va_A [(h0, .inr (8, [.int th, v1, v2, v3, v4, v5, v6, v7, v8, v9, v10, v11, v12, v13, v14, v15, v16]))] s.heap.size = A at hD ⊢
  have hA : ∀ q : Nat, s.heap.size ≤ q → A q := fun q h => by rw [← hAe]; exact Or.inr h
  have hS : va_S A s.heap s.heap [] := va_S.rf
  have hP : va_P (dC, dI) vwCl [(h0, .inr (8, [.int th, v1, v2, v3, v4, v5, v6, v7, v8, v9, v10, v11, v12, v13, v14, v15, v16]))] s.heap := hP
  have hl := lv_entry ([.ref h0, .int p0]) (n := 2) (Nat.le_of_ble_eq_true rfl)
  rw [lg_entry_eq]
  generalize (lg_sl ([.ref h0, .int p0]) ++ List.replicate (2 - (lg_sl ([.ref h0, .int p0])).length) Slot.unset).toArray = ls at hl ⊢
  have hl : lv_has ls 2 [(0, .ref h0), (1, .int p0)] := hl
  have hw0_ := hts (.fieldLink RX8 60 "KeyAtlasModel" "thrown" "I") (List.mem_of_getElem? (l := wsX8_refuse) (i := 1) rfl)
  have hi0_ : ∀ w ∈ u_ws RX8 TX8 17, w ∈ wsX8_refuse := fun w h => List.mem_cons_of_mem _ (List.mem_append_right _ h)
  refine lv_aload_n hx hb dX8_refuse_0 rfl (lv_at hl 0 rfl) ?_
  refine lv_iload_n hx hb dX8_refuse_1 rfl (lv_at hl 1 rfl) ?_
  refine va_put (D := (dC, dI)) (ci := 8) (v := .int p0) (ty := .int) (C := RX8) (T := TX8) (N := 17) hx hb hts hi0_ tyX8 tyX8_ok nmX8 hown hK hP hD hS 0 rfl rfl 0 (by decide) hw0_ (fun _ h9 => h9) rfl (by decide +kernel) rfl rfl (Nat.le_of_ble_eq_true rfl) dX8_refuse_2 (fun H locs hP hD hS => ?_)
  replace hP : va_P (dC, dI) vwCl [(h0, .inr (8, [.int p0, v1, v2, v3, v4, v5, v6, v7, v8, v9, v10, v11, v12, v13, v14, v15, v16]))] H := hP
  replace hD : va_D A [(h0, .inr (8, [.int p0, v1, v2, v3, v4, v5, v6, v7, v8, v9, v10, v11, v12, v13, v14, v15, v16]))] := hD
  refine lv_iconst (v := 0) hx hb dX8_refuse_5 (by decide) ?_
  have hP9 := hP.sub (ws' := [(h0, .inr (8, [.int p0, v1, v2, v3, v4, v5, v6, v7, v8, v9, v10, v11, v12, v13, v14, v15, v16]))]) [0] rfl
  have hD9 := hD.sub (ws' := [(h0, .inr (8, [.int p0, v1, v2, v3, v4, v5, v6, v7, v8, v9, v10, v11, v12, v13, v14, v15, v16]))]) [0] (by decide) rfl
  have hK9 := hK.sub (tys' := []) [] rfl
  refine W.widen (k := 0) (n := 0) (Nat.le_of_ble_eq_true rfl) (Nat.le_of_ble_eq_true rfl) ?_
  exact W.iret (v := 0) hx hb hr (fun t ht hW => ⟨⟨0, (), rfl, rfl, by rw [ht]; exact hP9, va_K.moved hW.alike hK9, hD9⟩, hS.F ht⟩) hS.2.2 dX8_refuse_6
set_option maxHeartbeats 4000000 in
set_option maxRecDepth 100000 in
/-- low <= v <= high -/
theorem c_X8_in (l : Launch) (dC : Nat → ClassId) (dI : Nat → Nat → Nat) (sz : Nat) (p0 : Int32) (p1 : Int32) (p2 : Int32) (n0 : Int) (n1 : Int) (n2 : Int) (hn0 : p0.toInt = n0) (hn1 : p1.toInt = n1) (hn2 : p2.toInt = n2) : Met l yX8_in wsX8_in ({ frames := 0, cells := 0, slots := 0, locals := 0 }) (va_Pc [.int p0, .int p1, .int p2] (pk_Pre (dC, dI) [] [] sz)) (va_Qi (fun (r : Int32) (_ : Unit) => (r.toInt = 1 ∧ n1 ≤ n0 ∧ n0 ≤ n2) ∨ (r.toInt = 0 ∧ (n0 < n1 ∨ n2 < n0))) (fun (_ : Unit) (_ : State) => True) (va_A [] sz)) 0 0 (va_A [] sz) := by
  refine Met.ofW (cc := cX8_in) (maxL := 3) (ret := (some .boolean)) (by decide) rfl ?_
  intro p e s m args below meth c s₁ B hml hv
  obtain ⟨rfl, hsz, hP, hK, hD0⟩ := hv
  have hx := B.exec
  have hb := B.bytes
  have hr := B.returns
  have hts := atoms_spec (ws := wsX8_in) B.pre
  have hown : s.vm.findClass RX8 = some m.cls := findClass_of_methodNamed B.named
  have hlocks := B.notSynchronized
  subst hsz
  have hD := hD0.self (sz := s.heap.size)
  generalize hAe : va_A [] s.heap.size = A at hD ⊢
  have hA : ∀ q : Nat, s.heap.size ≤ q → A q := fun q h => by rw [← hAe]; exact Or.inr h
  have hS : va_S A s.heap s.heap [] := va_S.rf
  have hP : va_P (dC, dI) vwCl [] s.heap := hP
  have hl := lv_entry ([.int p0, .int p1, .int p2]) (n := 3) (Nat.le_of_ble_eq_true rfl)
  rw [lg_entry_eq]
  generalize (lg_sl ([.int p0, .int p1, .int p2]) ++ List.replicate (3 - (lg_sl ([.int p0, .int p1, .int p2])).length) Slot.unset).toArray = ls at hl ⊢
  have hl : lv_has ls 3 [(0, .int p0), (1, .int p1), (2, .int p2)] := hl

  refine lv_iload_n hx hb dX8_in_0 rfl (lv_at hl 0 rfl) ?_
  refine lv_iload_n hx hb dX8_in_1 rfl (lv_at hl 1 rfl) ?_
  refine lv_icmp_lt (tgt := 14) hx hb dX8_in_2 (by decide) (fun c_1 => ?_) (fun c_1 => ?_)
  ·
    have ic_1 : p0.toInt < p1.toInt := tx_lt rfl rfl c_1
    refine lv_iconst (v := 0) hx hb dX8_in_14 (by decide) ?_
    refine W.widen (k := 0) (n := 0) (Nat.le_of_ble_eq_true rfl) (Nat.le_of_ble_eq_true rfl) ?_
    exact W.zret (v := 0) hx hb hr rfl (fun t ht hW => ⟨⟨0, (), rfl, Or.inr ⟨by decide, by omega⟩, trivial⟩, hS.F ht⟩) hS.2.2 dX8_in_15
  ·
    have ic_1 : p1.toInt ≤ p0.toInt := tx_nlt rfl rfl c_1
    refine lv_iload_n hx hb dX8_in_5 rfl (lv_at hl 0 rfl) ?_
    refine lv_iload_n hx hb dX8_in_6 rfl (lv_at hl 2 rfl) ?_
    refine lv_icmp_gt (tgt := 14) hx hb dX8_in_7 (by decide) (fun c_2 => ?_) (fun c_2 => ?_)
    ·
      have ic_2 : p2.toInt < p0.toInt := tx_lt rfl rfl c_2
      refine lv_iconst (v := 0) hx hb dX8_in_14 (by decide) ?_
      refine W.widen (k := 0) (n := 0) (Nat.le_of_ble_eq_true rfl) (Nat.le_of_ble_eq_true rfl) ?_
      exact W.zret (v := 0) hx hb hr rfl (fun t ht hW => ⟨⟨0, (), rfl, Or.inr ⟨by decide, by omega⟩, trivial⟩, hS.F ht⟩) hS.2.2 dX8_in_15
    ·
      have ic_2 : p0.toInt ≤ p2.toInt := tx_nlt rfl rfl c_2
      refine lv_iconst (v := 1) hx hb dX8_in_10 (by decide) ?_
      refine lv_goto (tgt := 15) hx hb dX8_in_11 (by decide) ?_
      refine W.widen (k := 0) (n := 0) (Nat.le_of_ble_eq_true rfl) (Nat.le_of_ble_eq_true rfl) ?_
      exact W.zret (v := 1) hx hb hr rfl (fun t ht hW => ⟨⟨1, (), rfl, Or.inl ⟨by decide, by omega, by omega⟩, trivial⟩, hS.F ht⟩) hS.2.2 dX8_in_15
set_option maxHeartbeats 4000000 in
set_option maxRecDepth 100000 in
/-- key -/
theorem c_X8_key (l : Launch) (dC : Nat → ClassId) (dI : Nat → Nat → Nat) (sz : Nat) (h0 : Nat) (th : Int32) (q2 : Nat) (c2 : ClassId) (a2 : Nat → Int32) (v1 : Value) (v3 : Value) (v4 : Value) (v5 : Value) (v6 : Value) (v7 : Value) (v8 : Value) (v9 : Value) (v10 : Value) (v11 : Value) (v12 : Value) (v13 : Value) (v14 : Value) (v15 : Value) (v16 : Value) (r : Nat) (i : Nat) (hr9 : r < 16) (hi9 : i < 1000) : Met l yX8_key wsX8_key ({ frames := 0, cells := 0, slots := 0, locals := 0 }) (va_Pc [.ref h0, .int (nI r), .int (nI i)] (pk_Pre (dC, dI) [(h0, .inr (8, [.int th, v1, .ref q2, v3, v4, v5, v6, v7, v8, v9, v10, v11, v12, v13, v14, v15, v16])), (q2, .inl (c2, 67200, .inl a2))] [(c2, .int)] sz)) (va_Qi (fun (x : Int32) (_ : Unit) => x = a2 (4200 * r + i)) (fun (_ : Unit) (t : State) => va_P (dC, dI) vwCl [(h0, .inr (8, [.int th, v1, .ref q2, v3, v4, v5, v6, v7, v8, v9, v10, v11, v12, v13, v14, v15, v16])), (q2, .inl (c2, 67200, .inl a2))] t.heap ∧ va_K (dC, dI) vwCl [(c2, .int)] t ∧ va_D (va_A [(h0, .inr (8, [.int th, v1, .ref q2, v3, v4, v5, v6, v7, v8, v9, v10, v11, v12, v13, v14, v15, v16])), (q2, .inl (c2, 67200, .inl a2))] sz) [(h0, .inr (8, [.int th, v1, .ref q2, v3, v4, v5, v6, v7, v8, v9, v10, v11, v12, v13, v14, v15, v16])), (q2, .inl (c2, 67200, .inl a2))]) (va_A [(h0, .inr (8, [.int th, v1, .ref q2, v3, v4, v5, v6, v7, v8, v9, v10, v11, v12, v13, v14, v15, v16])), (q2, .inl (c2, 67200, .inl a2))] sz)) 0 0 (va_A [(h0, .inr (8, [.int th, v1, .ref q2, v3, v4, v5, v6, v7, v8, v9, v10, v11, v12, v13, v14, v15, v16])), (q2, .inl (c2, 67200, .inl a2))] sz) := by
  refine Met.ofW (cc := cX8_key) (maxL := 3) (ret := (some .int)) (by decide) rfl ?_
  intro p e s m args below meth c s₁ B hml hv
  obtain ⟨rfl, hsz, hP, hK, hD0⟩ := hv
  have hx := B.exec
  have hb := B.bytes
  have hr := B.returns
  have hts := atoms_spec (ws := wsX8_key) B.pre
  have hown : s.vm.findClass RX8 = some m.cls := findClass_of_methodNamed B.named
  have hlocks := B.notSynchronized
  subst hsz
  have hD := hD0.self (sz := s.heap.size)
  generalize hAe : va_A [(h0, .inr (8, [.int th, v1, .ref q2, v3, v4, v5, v6, v7, v8, v9, v10, v11, v12, v13, v14, v15, v16])), (q2, .inl (c2, 67200, .inl a2))] s.heap.size = A at hD ⊢
  have hA : ∀ q : Nat, s.heap.size ≤ q → A q := fun q h => by rw [← hAe]; exact Or.inr h
  have hS : va_S A s.heap s.heap [] := va_S.rf
  have hP : va_P (dC, dI) vwCl [(h0, .inr (8, [.int th, v1, .ref q2, v3, v4, v5, v6, v7, v8, v9, v10, v11, v12, v13, v14, v15, v16])), (q2, .inl (c2, 67200, .inl a2))] s.heap := hP
  have hl := lv_entry ([.ref h0, .int (nI r), .int (nI i)]) (n := 3) (Nat.le_of_ble_eq_true rfl)
  rw [lg_entry_eq]
  generalize (lg_sl ([.ref h0, .int (nI r), .int (nI i)]) ++ List.replicate (3 - (lg_sl ([.ref h0, .int (nI r), .int (nI i)])).length) Slot.unset).toArray = ls at hl ⊢
  have hl : lv_has ls 3 [(0, .ref h0), (1, .int (nI r)), (2, .int (nI i))] := hl
  have hw0_ := hts (.fieldLink RX8 14 "KeyAtlasModel" "cell" "[I") (List.mem_of_getElem? (l := wsX8_key) (i := 1) rfl)
  have hi0_ : ∀ w ∈ u_ws RX8 TX8 17, w ∈ wsX8_key := fun w h => List.mem_cons_of_mem _ (List.mem_append_right _ h)
  refine lv_aload_n hx hb dX8_key_0 rfl (lv_at hl 0 rfl) ?_
  refine va_get (D := (dC, dI)) (ci := 8) (v := .ref q2) (C := RX8) (T := TX8) (N := 17) hx hb hts hi0_ hown hK hP 0 rfl rfl 2 (by decide) hw0_ (fun _ h9 => h9) rfl dX8_key_1 ?_
  refine lv_sipush (v := 4200) hx hb dX8_key_4 (by decide) ?_
  refine lv_iload_n hx hb dX8_key_7 rfl (lv_at hl 1 rfl) ?_
  refine lv_imul hx hb dX8_key_8 ?_
  refine lv_topi (fun z_1 ez_1 => ?_)
  obtain rfl : z_1 = nI (4200 * r) := ez_1.trans (by rw [show (4200 : Int32) = nI 4200 from rfl, pk_mul])
  refine lv_iload_n hx hb dX8_key_9 rfl (lv_at hl 2 rfl) ?_
  refine lv_iadd hx hb dX8_key_10 ?_
  refine lv_topi (fun z_2 ez_2 => ?_)
  obtain rfl : z_2 = nI ((4200 * r) + i) := ez_2.trans (by rw [nI_add])
  refine va_iald (i := nI ((4200 * r) + i)) hx hb hK hP 1 0 rfl rfl (vp_in_nI (by omega) (by omega)) dX8_key_11 ?_
  refine W.eq (g2 := F0 m 12 ls [.int (a2 ((4200 * r) + i))]) (by rw [nI_clamp (by omega)]) ?_
  have hP9 := hP.sub (ws' := [(h0, .inr (8, [.int th, v1, .ref q2, v3, v4, v5, v6, v7, v8, v9, v10, v11, v12, v13, v14, v15, v16])), (q2, .inl (c2, 67200, .inl a2))]) [0, 1] rfl
  have hD9 := hD.sub (ws' := [(h0, .inr (8, [.int th, v1, .ref q2, v3, v4, v5, v6, v7, v8, v9, v10, v11, v12, v13, v14, v15, v16])), (q2, .inl (c2, 67200, .inl a2))]) [0, 1] (by decide) rfl
  have hK9 := hK.sub (tys' := [(c2, .int)]) [0] rfl
  refine W.widen (k := 0) (n := 0) (Nat.le_of_ble_eq_true rfl) (Nat.le_of_ble_eq_true rfl) ?_
  exact W.iret (v := a2 ((4200 * r) + i)) hx hb hr (fun t ht hW => ⟨⟨a2 ((4200 * r) + i), (), rfl, rfl, by rw [ht]; exact hP9, va_K.moved hW.alike hK9, hD9⟩, hS.F ht⟩) hS.2.2 dX8_key_12
set_option maxHeartbeats 4000000 in
set_option maxRecDepth 100000 in
/-- value -/
theorem c_X8_value (l : Launch) (dC : Nat → ClassId) (dI : Nat → Nat → Nat) (sz : Nat) (h0 : Nat) (th : Int32) (q2 : Nat) (c2 : ClassId) (a2 : Nat → Int32) (v1 : Value) (v3 : Value) (v4 : Value) (v5 : Value) (v6 : Value) (v7 : Value) (v8 : Value) (v9 : Value) (v10 : Value) (v11 : Value) (v12 : Value) (v13 : Value) (v14 : Value) (v15 : Value) (v16 : Value) (r : Nat) (i : Nat) (hr9 : r < 16) (hi9 : i < 1000) : Met l yX8_value wsX8_value ({ frames := 0, cells := 0, slots := 0, locals := 0 }) (va_Pc [.ref h0, .int (nI r), .int (nI i)] (pk_Pre (dC, dI) [(h0, .inr (8, [.int th, v1, .ref q2, v3, v4, v5, v6, v7, v8, v9, v10, v11, v12, v13, v14, v15, v16])), (q2, .inl (c2, 67200, .inl a2))] [(c2, .int)] sz)) (va_Qi (fun (x : Int32) (_ : Unit) => x = a2 (4200 * r + 1000 + i)) (fun (_ : Unit) (t : State) => va_P (dC, dI) vwCl [(h0, .inr (8, [.int th, v1, .ref q2, v3, v4, v5, v6, v7, v8, v9, v10, v11, v12, v13, v14, v15, v16])), (q2, .inl (c2, 67200, .inl a2))] t.heap ∧ va_K (dC, dI) vwCl [(c2, .int)] t ∧ va_D (va_A [(h0, .inr (8, [.int th, v1, .ref q2, v3, v4, v5, v6, v7, v8, v9, v10, v11, v12, v13, v14, v15, v16])), (q2, .inl (c2, 67200, .inl a2))] sz) [(h0, .inr (8, [.int th, v1, .ref q2, v3, v4, v5, v6, v7, v8, v9, v10, v11, v12, v13, v14, v15, v16])), (q2, .inl (c2, 67200, .inl a2))]) (va_A [(h0, .inr (8, [.int th, v1, .ref q2, v3, v4, v5, v6, v7, v8, v9, v10, v11, v12, v13, v14, v15, v16])), (q2, .inl (c2, 67200, .inl a2))] sz)) 0 0 (va_A [(h0, .inr (8, [.int th, v1, .ref q2, v3, v4, v5, v6, v7, v8, v9, v10, v11, v12, v13, v14, v15, v16])), (q2, .inl (c2, 67200, .inl a2))] sz) := by
  refine Met.ofW (cc := cX8_value) (maxL := 3) (ret := (some .int)) (by decide) rfl ?_
  intro p e s m args below meth c s₁ B hml hv
  obtain ⟨rfl, hsz, hP, hK, hD0⟩ := hv
  have hx := B.exec
  have hb := B.bytes
  have hr := B.returns
  have hts := atoms_spec (ws := wsX8_value) B.pre
  have hown : s.vm.findClass RX8 = some m.cls := findClass_of_methodNamed B.named
  have hlocks := B.notSynchronized
  subst hsz
  have hD := hD0.self (sz := s.heap.size)
  generalize hAe : va_A [(h0, .inr (8, [.int th, v1, .ref q2, v3, v4, v5, v6, v7, v8, v9, v10, v11, v12, v13, v14, v15, v16])), (q2, .inl (c2, 67200, .inl a2))] s.heap.size = A at hD ⊢
  have hA : ∀ q : Nat, s.heap.size ≤ q → A q := fun q h => by rw [← hAe]; exact Or.inr h
  have hS : va_S A s.heap s.heap [] := va_S.rf
  have hP : va_P (dC, dI) vwCl [(h0, .inr (8, [.int th, v1, .ref q2, v3, v4, v5, v6, v7, v8, v9, v10, v11, v12, v13, v14, v15, v16])), (q2, .inl (c2, 67200, .inl a2))] s.heap := hP
  have hl := lv_entry ([.ref h0, .int (nI r), .int (nI i)]) (n := 3) (Nat.le_of_ble_eq_true rfl)
  rw [lg_entry_eq]
  generalize (lg_sl ([.ref h0, .int (nI r), .int (nI i)]) ++ List.replicate (3 - (lg_sl ([.ref h0, .int (nI r), .int (nI i)])).length) Slot.unset).toArray = ls at hl ⊢
  have hl : lv_has ls 3 [(0, .ref h0), (1, .int (nI r)), (2, .int (nI i))] := hl
  have hw0_ := hts (.fieldLink RX8 14 "KeyAtlasModel" "cell" "[I") (List.mem_of_getElem? (l := wsX8_value) (i := 1) rfl)
  have hi0_ : ∀ w ∈ u_ws RX8 TX8 17, w ∈ wsX8_value := fun w h => List.mem_cons_of_mem _ (List.mem_append_right _ h)
  refine lv_aload_n hx hb dX8_value_0 rfl (lv_at hl 0 rfl) ?_
  refine va_get (D := (dC, dI)) (ci := 8) (v := .ref q2) (C := RX8) (T := TX8) (N := 17) hx hb hts hi0_ hown hK hP 0 rfl rfl 2 (by decide) hw0_ (fun _ h9 => h9) rfl dX8_value_1 ?_
  refine lv_sipush (v := 4200) hx hb dX8_value_4 (by decide) ?_
  refine lv_iload_n hx hb dX8_value_7 rfl (lv_at hl 1 rfl) ?_
  refine lv_imul hx hb dX8_value_8 ?_
  refine lv_topi (fun z_1 ez_1 => ?_)
  obtain rfl : z_1 = nI (4200 * r) := ez_1.trans (by rw [show (4200 : Int32) = nI 4200 from rfl, pk_mul])
  refine lv_sipush (v := 1000) hx hb dX8_value_9 (by decide) ?_
  refine lv_iadd hx hb dX8_value_12 ?_
  refine lv_topi (fun z_2 ez_2 => ?_)
  obtain rfl : z_2 = nI ((4200 * r) + 1000) := ez_2.trans (by rw [show (1000 : Int32) = nI 1000 from rfl, nI_add])
  refine lv_iload_n hx hb dX8_value_13 rfl (lv_at hl 2 rfl) ?_
  refine lv_iadd hx hb dX8_value_14 ?_
  refine lv_topi (fun z_3 ez_3 => ?_)
  obtain rfl : z_3 = nI (((4200 * r) + 1000) + i) := ez_3.trans (by rw [nI_add])
  refine va_iald (i := nI (((4200 * r) + 1000) + i)) hx hb hK hP 1 0 rfl rfl (vp_in_nI (by omega) (by omega)) dX8_value_15 ?_
  refine W.eq (g2 := F0 m 16 ls [.int (a2 (((4200 * r) + 1000) + i))]) (by rw [nI_clamp (by omega)]) ?_
  have hP9 := hP.sub (ws' := [(h0, .inr (8, [.int th, v1, .ref q2, v3, v4, v5, v6, v7, v8, v9, v10, v11, v12, v13, v14, v15, v16])), (q2, .inl (c2, 67200, .inl a2))]) [0, 1] rfl
  have hD9 := hD.sub (ws' := [(h0, .inr (8, [.int th, v1, .ref q2, v3, v4, v5, v6, v7, v8, v9, v10, v11, v12, v13, v14, v15, v16])), (q2, .inl (c2, 67200, .inl a2))]) [0, 1] (by decide) rfl
  have hK9 := hK.sub (tys' := [(c2, .int)]) [0] rfl
  refine W.widen (k := 0) (n := 0) (Nat.le_of_ble_eq_true rfl) (Nat.le_of_ble_eq_true rfl) ?_
  exact W.iret (v := a2 (((4200 * r) + 1000) + i)) hx hb hr (fun t ht hW => ⟨⟨a2 (((4200 * r) + 1000) + i), (), rfl, rfl, by rw [ht]; exact hP9, va_K.moved hW.alike hK9, hD9⟩, hS.F ht⟩) hS.2.2 dX8_value_16
set_option maxHeartbeats 4000000 in
set_option maxRecDepth 100000 in
/-- set -/
theorem c_X8_set (l : Launch) (dC : Nat → ClassId) (dI : Nat → Nat → Nat) (sz : Nat) (h0 : Nat) (th : Int32) (q2 : Nat) (c2 : ClassId) (a2 : Nat → Int32) (v1 : Value) (v3 : Value) (v4 : Value) (v5 : Value) (v6 : Value) (v7 : Value) (v8 : Value) (v9 : Value) (v10 : Value) (v11 : Value) (v12 : Value) (v13 : Value) (v14 : Value) (v15 : Value) (v16 : Value) (r : Nat) (i : Nat) (p2 : Int32) (p3 : Int32) (hr9 : r < 16) (hi9 : i < 1000) : Met l yX8_set wsX8_set ({ frames := 0, cells := 0, slots := 0, locals := 0 }) (va_Pc [.ref h0, .int (nI r), .int (nI i), .int p2, .int p3] (pk_Pre (dC, dI) [(h0, .inr (8, [.int th, v1, .ref q2, v3, v4, v5, v6, v7, v8, v9, v10, v11, v12, v13, v14, v15, v16])), (q2, .inl (c2, 67200, .inl a2))] [(c2, .int)] sz)) (va_Qv (fun (_ : Unit) => True) (fun (_ : Unit) (t : State) => va_P (dC, dI) vwCl [(h0, .inr (8, [.int th, v1, .ref q2, v3, v4, v5, v6, v7, v8, v9, v10, v11, v12, v13, v14, v15, v16])), (q2, .inl (c2, 67200, .inl (upd (upd a2 (4200 * r + i) p2) (4200 * r + 1000 + i) p3)))] t.heap ∧ va_K (dC, dI) vwCl [(c2, .int)] t ∧ va_D (va_A [(h0, .inr (8, [.int th, v1, .ref q2, v3, v4, v5, v6, v7, v8, v9, v10, v11, v12, v13, v14, v15, v16])), (q2, .inl (c2, 67200, .inl a2))] sz) [(h0, .inr (8, [.int th, v1, .ref q2, v3, v4, v5, v6, v7, v8, v9, v10, v11, v12, v13, v14, v15, v16])), (q2, .inl (c2, 67200, .inl (upd (upd a2 (4200 * r + i) p2) (4200 * r + 1000 + i) p3)))]) (va_A [(h0, .inr (8, [.int th, v1, .ref q2, v3, v4, v5, v6, v7, v8, v9, v10, v11, v12, v13, v14, v15, v16])), (q2, .inl (c2, 67200, .inl a2))] sz)) 0 0 (va_A [(h0, .inr (8, [.int th, v1, .ref q2, v3, v4, v5, v6, v7, v8, v9, v10, v11, v12, v13, v14, v15, v16])), (q2, .inl (c2, 67200, .inl a2))] sz) := by
  refine Met.ofW (cc := cX8_set) (maxL := 5) (ret := none) (by decide) rfl ?_
  intro p e s m args below meth c s₁ B hml hv
  obtain ⟨rfl, hsz, hP, hK, hD0⟩ := hv
  have hx := B.exec
  have hb := B.bytes
  have hr := B.returns
  have hts := atoms_spec (ws := wsX8_set) B.pre
  have hown : s.vm.findClass RX8 = some m.cls := findClass_of_methodNamed B.named
  have hlocks := B.notSynchronized
  subst hsz
  have hD := hD0.self (sz := s.heap.size)
  generalize hAe : va_A [(h0, .inr (8, [.int th, v1, .ref q2, v3, v4, v5, v6, v7, v8, v9, v10, v11, v12, v13, v14, v15, v16])), (q2, .inl (c2, 67200, .inl a2))] s.heap.size = A at hD ⊢
  have hA : ∀ q : Nat, s.heap.size ≤ q → A q := fun q h => by rw [← hAe]; exact Or.inr h
  have hS : va_S A s.heap s.heap [] := va_S.rf
  have hP : va_P (dC, dI) vwCl [(h0, .inr (8, [.int th, v1, .ref q2, v3, v4, v5, v6, v7, v8, v9, v10, v11, v12, v13, v14, v15, v16])), (q2, .inl (c2, 67200, .inl a2))] s.heap := hP
  have hl := lv_entry ([.ref h0, .int (nI r), .int (nI i), .int p2, .int p3]) (n := 5) (Nat.le_of_ble_eq_true rfl)
  rw [lg_entry_eq]
  generalize (lg_sl ([.ref h0, .int (nI r), .int (nI i), .int p2, .int p3]) ++ List.replicate (5 - (lg_sl ([.ref h0, .int (nI r), .int (nI i), .int p2, .int p3])).length) Slot.unset).toArray = ls at hl ⊢
  have hl : lv_has ls 5 [(0, .ref h0), (1, .int (nI r)), (2, .int (nI i)), (3, .int p2), (4, .int p3)] := hl
  have hw0_ := hts (.fieldLink RX8 14 "KeyAtlasModel" "cell" "[I") (List.mem_of_getElem? (l := wsX8_set) (i := 1) rfl)
  have hi0_ : ∀ w ∈ u_ws RX8 TX8 17, w ∈ wsX8_set := fun w h => List.mem_cons_of_mem _ (List.mem_append_right _ h)
  refine lv_aload_n hx hb dX8_set_0 rfl (lv_at hl 0 rfl) ?_
  refine va_get (D := (dC, dI)) (ci := 8) (v := .ref q2) (C := RX8) (T := TX8) (N := 17) hx hb hts hi0_ hown hK hP 0 rfl rfl 2 (by decide) hw0_ (fun _ h9 => h9) rfl dX8_set_1 ?_
  refine lv_sipush (v := 4200) hx hb dX8_set_4 (by decide) ?_
  refine lv_iload_n hx hb dX8_set_7 rfl (lv_at hl 1 rfl) ?_
  refine lv_imul hx hb dX8_set_8 ?_
  refine lv_topi (fun z_1 ez_1 => ?_)
  obtain rfl : z_1 = nI (4200 * r) := ez_1.trans (by rw [show (4200 : Int32) = nI 4200 from rfl, pk_mul])
  refine lv_iload_n hx hb dX8_set_9 rfl (lv_at hl 2 rfl) ?_
  refine lv_iadd hx hb dX8_set_10 ?_
  refine lv_topi (fun z_2 ez_2 => ?_)
  obtain rfl : z_2 = nI ((4200 * r) + i) := ez_2.trans (by rw [nI_add])
  refine lv_iload_n hx hb dX8_set_11 rfl (lv_at hl 3 rfl) ?_
  refine va_iast (i := nI ((4200 * r) + i)) hx hb hK hP hD hS 1 0 rfl rfl (vp_in_nI (by omega) (by omega)) dX8_set_12 (fun H locs hP hD hS => ?_)
  rw [nI_clamp (by omega)] at hP hD
  replace hP : va_P (dC, dI) vwCl [(h0, .inr (8, [.int th, v1, .ref q2, v3, v4, v5, v6, v7, v8, v9, v10, v11, v12, v13, v14, v15, v16])), (q2, .inl (c2, 67200, .inl (upd a2 ((4200 * r) + i) p2)))] H := hP
  replace hD : va_D A [(h0, .inr (8, [.int th, v1, .ref q2, v3, v4, v5, v6, v7, v8, v9, v10, v11, v12, v13, v14, v15, v16])), (q2, .inl (c2, 67200, .inl (upd a2 ((4200 * r) + i) p2)))] := hD
  refine lv_aload_n hx hb dX8_set_13 rfl (lv_at hl 0 rfl) ?_
  refine va_get (D := (dC, dI)) (ci := 8) (v := .ref q2) (C := RX8) (T := TX8) (N := 17) hx hb hts hi0_ hown hK hP 0 rfl rfl 2 (by decide) hw0_ (fun _ h9 => h9) rfl dX8_set_14 ?_
  refine lv_sipush (v := 4200) hx hb dX8_set_17 (by decide) ?_
  refine lv_iload_n hx hb dX8_set_20 rfl (lv_at hl 1 rfl) ?_
  refine lv_imul hx hb dX8_set_21 ?_
  refine lv_topi (fun z_3 ez_3 => ?_)
  obtain rfl : z_3 = nI (4200 * r) := ez_3.trans (by rw [show (4200 : Int32) = nI 4200 from rfl, pk_mul])
  refine lv_sipush (v := 1000) hx hb dX8_set_22 (by decide) ?_
  refine lv_iadd hx hb dX8_set_25 ?_
  refine lv_topi (fun z_4 ez_4 => ?_)
  obtain rfl : z_4 = nI ((4200 * r) + 1000) := ez_4.trans (by rw [show (1000 : Int32) = nI 1000 from rfl, nI_add])
  refine lv_iload_n hx hb dX8_set_26 rfl (lv_at hl 2 rfl) ?_
  refine lv_iadd hx hb dX8_set_27 ?_
  refine lv_topi (fun z_5 ez_5 => ?_)
  obtain rfl : z_5 = nI (((4200 * r) + 1000) + i) := ez_5.trans (by rw [nI_add])
  refine lv_iload hx hb dX8_set_28 (lv_at hl 4 rfl) ?_
  refine va_iast (i := nI (((4200 * r) + 1000) + i)) hx hb hK hP hD hS 1 0 rfl rfl (vp_in_nI (by omega) (by omega)) dX8_set_30 (fun H locs hP hD hS => ?_)
  rw [nI_clamp (by omega)] at hP hD
  replace hP : va_P (dC, dI) vwCl [(h0, .inr (8, [.int th, v1, .ref q2, v3, v4, v5, v6, v7, v8, v9, v10, v11, v12, v13, v14, v15, v16])), (q2, .inl (c2, 67200, .inl (upd (upd a2 ((4200 * r) + i) p2) (((4200 * r) + 1000) + i) p3)))] H := hP
  replace hD : va_D A [(h0, .inr (8, [.int th, v1, .ref q2, v3, v4, v5, v6, v7, v8, v9, v10, v11, v12, v13, v14, v15, v16])), (q2, .inl (c2, 67200, .inl (upd (upd a2 ((4200 * r) + i) p2) (((4200 * r) + 1000) + i) p3)))] := hD
  have hP9 := hP.sub (ws' := [(h0, .inr (8, [.int th, v1, .ref q2, v3, v4, v5, v6, v7, v8, v9, v10, v11, v12, v13, v14, v15, v16])), (q2, .inl (c2, 67200, .inl (upd (upd a2 ((4200 * r) + i) p2) (((4200 * r) + 1000) + i) p3)))]) [0, 1] rfl
  have hD9 := hD.sub (ws' := [(h0, .inr (8, [.int th, v1, .ref q2, v3, v4, v5, v6, v7, v8, v9, v10, v11, v12, v13, v14, v15, v16])), (q2, .inl (c2, 67200, .inl (upd (upd a2 ((4200 * r) + i) p2) (((4200 * r) + 1000) + i) p3)))]) [0, 1] (by decide) rfl
  have hK9 := hK.sub (tys' := [(c2, .int)]) [0] rfl
  refine W.widen (k := 0) (n := 0) (Nat.le_of_ble_eq_true rfl) (Nat.le_of_ble_eq_true rfl) ?_
  exact W.vret hx hb hr (fun t ht hW => ⟨⟨(), rfl, trivial, by rw [ht]; exact hP9, va_K.moved hW.alike hK9, hD9⟩, hS.F ht⟩) hS.2.2 dX8_set_31
set_option maxHeartbeats 4000000 in
set_option maxRecDepth 100000 in
/-- isMap -/
theorem c_X8_isMap (l : Launch) (dC : Nat → ClassId) (dI : Nat → Nat → Nat) (sz : Nat) (h0 : Nat) (th : Int32) (q1 : Nat) (c1 : ClassId) (a1 : Nat → Int32) (v2 : Value) (v3 : Value) (v4 : Value) (v5 : Value) (v6 : Value) (v7 : Value) (v8 : Value) (v9 : Value) (v10 : Value) (v11 : Value) (v12 : Value) (v13 : Value) (v14 : Value) (v15 : Value) (v16 : Value) (o : Nat) (ho9 : o < 16) : Met l yX8_isMap wsX8_isMap ({ frames := 0, cells := 0, slots := 0, locals := 0 }) (va_Pc [.ref h0, .int (nI o)] (pk_Pre (dC, dI) [(h0, .inr (8, [.int th, .ref q1, v2, v3, v4, v5, v6, v7, v8, v9, v10, v11, v12, v13, v14, v15, v16])), (q1, .inl (c1, 16, .inl a1))] [(c1, .int)] sz)) (va_Qi (fun (x : Int32) (_ : Unit) => (x.toInt = 1 ∧ 1 ≤ (a1 o).toInt ∧ (a1 o).toInt ≤ 4) ∨ (x.toInt = 0 ∧ ((a1 o).toInt < 1 ∨ 4 < (a1 o).toInt))) (fun (_ : Unit) (t : State) => va_P (dC, dI) vwCl [(h0, .inr (8, [.int th, .ref q1, v2, v3, v4, v5, v6, v7, v8, v9, v10, v11, v12, v13, v14, v15, v16])), (q1, .inl (c1, 16, .inl a1))] t.heap ∧ va_K (dC, dI) vwCl [(c1, .int)] t ∧ va_D (va_A [(h0, .inr (8, [.int th, .ref q1, v2, v3, v4, v5, v6, v7, v8, v9, v10, v11, v12, v13, v14, v15, v16])), (q1, .inl (c1, 16, .inl a1))] sz) [(h0, .inr (8, [.int th, .ref q1, v2, v3, v4, v5, v6, v7, v8, v9, v10, v11, v12, v13, v14, v15, v16])), (q1, .inl (c1, 16, .inl a1))]) (va_A [(h0, .inr (8, [.int th, .ref q1, v2, v3, v4, v5, v6, v7, v8, v9, v10, v11, v12, v13, v14, v15, v16])), (q1, .inl (c1, 16, .inl a1))] sz)) 0 0 (va_A [(h0, .inr (8, [.int th, .ref q1, v2, v3, v4, v5, v6, v7, v8, v9, v10, v11, v12, v13, v14, v15, v16])), (q1, .inl (c1, 16, .inl a1))] sz) := by
  refine Met.ofW (cc := cX8_isMap) (maxL := 2) (ret := (some .boolean)) (by decide) rfl ?_
  intro p e s m args below meth c s₁ B hml hv
  obtain ⟨rfl, hsz, hP, hK, hD0⟩ := hv
  have hx := B.exec
  have hb := B.bytes
  have hr := B.returns
  have hts := atoms_spec (ws := wsX8_isMap) B.pre
  have hown : s.vm.findClass RX8 = some m.cls := findClass_of_methodNamed B.named
  have hlocks := B.notSynchronized
  subst hsz
  have hD := hD0.self (sz := s.heap.size)
  generalize hAe : va_A [(h0, .inr (8, [.int th, .ref q1, v2, v3, v4, v5, v6, v7, v8, v9, v10, v11, v12, v13, v14, v15, v16])), (q1, .inl (c1, 16, .inl a1))] s.heap.size = A at hD ⊢
  have hA : ∀ q : Nat, s.heap.size ≤ q → A q := fun q h => by rw [← hAe]; exact Or.inr h
  have hS : va_S A s.heap s.heap [] := va_S.rf
  have hP : va_P (dC, dI) vwCl [(h0, .inr (8, [.int th, .ref q1, v2, v3, v4, v5, v6, v7, v8, v9, v10, v11, v12, v13, v14, v15, v16])), (q1, .inl (c1, 16, .inl a1))] s.heap := hP
  have hl := lv_entry ([.ref h0, .int (nI o)]) (n := 2) (Nat.le_of_ble_eq_true rfl)
  rw [lg_entry_eq]
  generalize (lg_sl ([.ref h0, .int (nI o)]) ++ List.replicate (2 - (lg_sl ([.ref h0, .int (nI o)])).length) Slot.unset).toArray = ls at hl ⊢
  have hl : lv_has ls 2 [(0, .ref h0), (1, .int (nI o))] := hl
  have hw0_ := hts (.fieldLink RX8 7 "KeyAtlasModel" "kind" "[I") (List.mem_of_getElem? (l := wsX8_isMap) (i := 1) rfl)
  have hi0_ : ∀ w ∈ u_ws RX8 TX8 17, w ∈ wsX8_isMap := fun w h => List.mem_cons_of_mem _ (List.mem_append_right _ h)
  refine lv_aload_n hx hb dX8_isMap_0 rfl (lv_at hl 0 rfl) ?_
  refine va_get (D := (dC, dI)) (ci := 8) (v := .ref q1) (C := RX8) (T := TX8) (N := 17) hx hb hts hi0_ hown hK hP 0 rfl rfl 1 (by decide) hw0_ (fun _ h9 => h9) rfl dX8_isMap_1 ?_
  refine lv_iload_n hx hb dX8_isMap_4 rfl (lv_at hl 1 rfl) ?_
  refine va_iald (i := nI o) hx hb hK hP 1 0 rfl rfl (vp_in_nI (by omega) (by omega)) dX8_isMap_5 ?_
  refine W.eq (g2 := F0 m 6 ls [.int (a1 o)]) (by rw [nI_clamp (by omega)]) ?_
  refine lv_iconst (v := 1) hx hb dX8_isMap_6 (by decide) ?_
  refine lv_icmp_lt (tgt := 24) hx hb dX8_isMap_7 (by decide) (fun c_1 => ?_) (fun c_1 => ?_)
  ·
    have ic_1 : (a1 o).toInt < 1 := tx_lt rfl (by decide) c_1
    refine lv_iconst (v := 0) hx hb dX8_isMap_24 (by decide) ?_
    have hP9 := hP.sub (ws' := [(h0, .inr (8, [.int th, .ref q1, v2, v3, v4, v5, v6, v7, v8, v9, v10, v11, v12, v13, v14, v15, v16])), (q1, .inl (c1, 16, .inl a1))]) [0, 1] rfl
    have hD9 := hD.sub (ws' := [(h0, .inr (8, [.int th, .ref q1, v2, v3, v4, v5, v6, v7, v8, v9, v10, v11, v12, v13, v14, v15, v16])), (q1, .inl (c1, 16, .inl a1))]) [0, 1] (by decide) rfl
    have hK9 := hK.sub (tys' := [(c1, .int)]) [0] rfl
    refine W.widen (k := 0) (n := 0) (Nat.le_of_ble_eq_true rfl) (Nat.le_of_ble_eq_true rfl) ?_
    exact W.zret (v := 0) hx hb hr rfl (fun t ht hW => ⟨⟨0, (), rfl, Or.inr ⟨by decide, by omega⟩, by rw [ht]; exact hP9, va_K.moved hW.alike hK9, hD9⟩, hS.F ht⟩) hS.2.2 dX8_isMap_25
  ·
    have ic_1 : 1 ≤ (a1 o).toInt := tx_nlt rfl (by decide) c_1
    refine lv_aload_n hx hb dX8_isMap_10 rfl (lv_at hl 0 rfl) ?_
    refine va_get (D := (dC, dI)) (ci := 8) (v := .ref q1) (C := RX8) (T := TX8) (N := 17) hx hb hts hi0_ hown hK hP 0 rfl rfl 1 (by decide) hw0_ (fun _ h9 => h9) rfl dX8_isMap_11 ?_
    refine lv_iload_n hx hb dX8_isMap_14 rfl (lv_at hl 1 rfl) ?_
    refine va_iald (i := nI o) hx hb hK hP 1 0 rfl rfl (vp_in_nI (by omega) (by omega)) dX8_isMap_15 ?_
    refine W.eq (g2 := F0 m 16 ls [.int (a1 o)]) (by rw [nI_clamp (by omega)]) ?_
    refine lv_iconst (v := 4) hx hb dX8_isMap_16 (by decide) ?_
    refine lv_icmp_gt (tgt := 24) hx hb dX8_isMap_17 (by decide) (fun c_2 => ?_) (fun c_2 => ?_)
    ·
      have ic_2 : 4 < (a1 o).toInt := tx_lt (by decide) rfl c_2
      refine lv_iconst (v := 0) hx hb dX8_isMap_24 (by decide) ?_
      have hP9 := hP.sub (ws' := [(h0, .inr (8, [.int th, .ref q1, v2, v3, v4, v5, v6, v7, v8, v9, v10, v11, v12, v13, v14, v15, v16])), (q1, .inl (c1, 16, .inl a1))]) [0, 1] rfl
      have hD9 := hD.sub (ws' := [(h0, .inr (8, [.int th, .ref q1, v2, v3, v4, v5, v6, v7, v8, v9, v10, v11, v12, v13, v14, v15, v16])), (q1, .inl (c1, 16, .inl a1))]) [0, 1] (by decide) rfl
      have hK9 := hK.sub (tys' := [(c1, .int)]) [0] rfl
      refine W.widen (k := 0) (n := 0) (Nat.le_of_ble_eq_true rfl) (Nat.le_of_ble_eq_true rfl) ?_
      exact W.zret (v := 0) hx hb hr rfl (fun t ht hW => ⟨⟨0, (), rfl, Or.inr ⟨by decide, by omega⟩, by rw [ht]; exact hP9, va_K.moved hW.alike hK9, hD9⟩, hS.F ht⟩) hS.2.2 dX8_isMap_25
    ·
      have ic_2 : (a1 o).toInt ≤ 4 := tx_nlt (by decide) rfl c_2
      refine lv_iconst (v := 1) hx hb dX8_isMap_20 (by decide) ?_
      refine lv_goto (tgt := 25) hx hb dX8_isMap_21 (by decide) ?_
      have hP9 := hP.sub (ws' := [(h0, .inr (8, [.int th, .ref q1, v2, v3, v4, v5, v6, v7, v8, v9, v10, v11, v12, v13, v14, v15, v16])), (q1, .inl (c1, 16, .inl a1))]) [0, 1] rfl
      have hD9 := hD.sub (ws' := [(h0, .inr (8, [.int th, .ref q1, v2, v3, v4, v5, v6, v7, v8, v9, v10, v11, v12, v13, v14, v15, v16])), (q1, .inl (c1, 16, .inl a1))]) [0, 1] (by decide) rfl
      have hK9 := hK.sub (tys' := [(c1, .int)]) [0] rfl
      refine W.widen (k := 0) (n := 0) (Nat.le_of_ble_eq_true rfl) (Nat.le_of_ble_eq_true rfl) ?_
      exact W.zret (v := 1) hx hb hr rfl (fun t ht hW => ⟨⟨1, (), rfl, Or.inl ⟨by decide, by omega, by omega⟩, by rw [ht]; exact hP9, va_K.moved hW.alike hK9, hD9⟩, hS.F ht⟩) hS.2.2 dX8_isMap_25
set_option maxHeartbeats 4000000 in
set_option maxRecDepth 100000 in
/-- isLimited -/
theorem c_X8_isLimited (l : Launch) (dC : Nat → ClassId) (dI : Nat → Nat → Nat) (sz : Nat) (h0 : Nat) (th : Int32) (q1 : Nat) (q4 : Nat) (c1 : ClassId) (c4 : ClassId) (a1 : Nat → Int32) (a4 : Nat → Int32) (v2 : Value) (v3 : Value) (v5 : Value) (v6 : Value) (v7 : Value) (v8 : Value) (v9 : Value) (v10 : Value) (v11 : Value) (v12 : Value) (v13 : Value) (v14 : Value) (v15 : Value) (v16 : Value) (o : Nat) (ho9 : o < 16) : Met l yX8_isLimited wsX8_isLimited ({ frames := 0, cells := 0, slots := 0, locals := 0 }) (va_Pc [.ref h0, .int (nI o)] (pk_Pre (dC, dI) [(h0, .inr (8, [.int th, .ref q1, v2, v3, .ref q4, v5, v6, v7, v8, v9, v10, v11, v12, v13, v14, v15, v16])), (q1, .inl (c1, 16, .inl a1)), (q4, .inl (c4, 16, .inl a4))] [(c1, .int), (c4, .int)] sz)) (va_Qi (fun (x : Int32) (_ : Unit) => (x.toInt = 1 ∧ (a1 o).toInt = 2 ∧ 0 < (a4 o).toInt) ∨ (x.toInt = 0 ∧ (¬ (a1 o).toInt = 2 ∨ (a4 o).toInt ≤ 0))) (fun (_ : Unit) (t : State) => va_P (dC, dI) vwCl [(h0, .inr (8, [.int th, .ref q1, v2, v3, .ref q4, v5, v6, v7, v8, v9, v10, v11, v12, v13, v14, v15, v16])), (q1, .inl (c1, 16, .inl a1)), (q4, .inl (c4, 16, .inl a4))] t.heap ∧ va_K (dC, dI) vwCl [(c1, .int), (c4, .int)] t ∧ va_D (va_A [(h0, .inr (8, [.int th, .ref q1, v2, v3, .ref q4, v5, v6, v7, v8, v9, v10, v11, v12, v13, v14, v15, v16])), (q1, .inl (c1, 16, .inl a1)), (q4, .inl (c4, 16, .inl a4))] sz) [(h0, .inr (8, [.int th, .ref q1, v2, v3, .ref q4, v5, v6, v7, v8, v9, v10, v11, v12, v13, v14, v15, v16])), (q1, .inl (c1, 16, .inl a1)), (q4, .inl (c4, 16, .inl a4))]) (va_A [(h0, .inr (8, [.int th, .ref q1, v2, v3, .ref q4, v5, v6, v7, v8, v9, v10, v11, v12, v13, v14, v15, v16])), (q1, .inl (c1, 16, .inl a1)), (q4, .inl (c4, 16, .inl a4))] sz)) 0 0 (va_A [(h0, .inr (8, [.int th, .ref q1, v2, v3, .ref q4, v5, v6, v7, v8, v9, v10, v11, v12, v13, v14, v15, v16])), (q1, .inl (c1, 16, .inl a1)), (q4, .inl (c4, 16, .inl a4))] sz) := by
  refine Met.ofW (cc := cX8_isLimited) (maxL := 2) (ret := (some .boolean)) (by decide) rfl ?_
  intro p e s m args below meth c s₁ B hml hv
  obtain ⟨rfl, hsz, hP, hK, hD0⟩ := hv
  have hx := B.exec
  have hb := B.bytes
  have hr := B.returns
  have hts := atoms_spec (ws := wsX8_isLimited) B.pre
  have hown : s.vm.findClass RX8 = some m.cls := findClass_of_methodNamed B.named
  have hlocks := B.notSynchronized
  subst hsz
  have hD := hD0.self (sz := s.heap.size)
  generalize hAe : va_A [(h0, .inr (8, [.int th, .ref q1, v2, v3, .ref q4, v5, v6, v7, v8, v9, v10, v11, v12, v13, v14, v15, v16])), (q1, .inl (c1, 16, .inl a1)), (q4, .inl (c4, 16, .inl a4))] s.heap.size = A at hD ⊢
  have hA : ∀ q : Nat, s.heap.size ≤ q → A q := fun q h => by rw [← hAe]; exact Or.inr h
  have hS : va_S A s.heap s.heap [] := va_S.rf
  have hP : va_P (dC, dI) vwCl [(h0, .inr (8, [.int th, .ref q1, v2, v3, .ref q4, v5, v6, v7, v8, v9, v10, v11, v12, v13, v14, v15, v16])), (q1, .inl (c1, 16, .inl a1)), (q4, .inl (c4, 16, .inl a4))] s.heap := hP
  have hl := lv_entry ([.ref h0, .int (nI o)]) (n := 2) (Nat.le_of_ble_eq_true rfl)
  rw [lg_entry_eq]
  generalize (lg_sl ([.ref h0, .int (nI o)]) ++ List.replicate (2 - (lg_sl ([.ref h0, .int (nI o)])).length) Slot.unset).toArray = ls at hl ⊢
  have hl : lv_has ls 2 [(0, .ref h0), (1, .int (nI o))] := hl
  have hw0_ := hts (.fieldLink RX8 7 "KeyAtlasModel" "kind" "[I") (List.mem_of_getElem? (l := wsX8_isLimited) (i := 1) rfl)
  have hw1_ := hts (.fieldLink RX8 20 "KeyAtlasModel" "first" "[I") (List.mem_of_getElem? (l := wsX8_isLimited) (i := 2) rfl)
  have hi0_ : ∀ w ∈ u_ws RX8 TX8 17, w ∈ wsX8_isLimited := fun w h => List.mem_cons_of_mem _ (List.mem_append_right _ h)
  refine lv_aload_n hx hb dX8_isLimited_0 rfl (lv_at hl 0 rfl) ?_
  refine va_get (D := (dC, dI)) (ci := 8) (v := .ref q1) (C := RX8) (T := TX8) (N := 17) hx hb hts hi0_ hown hK hP 0 rfl rfl 1 (by decide) hw0_ (fun _ h9 => h9) rfl dX8_isLimited_1 ?_
  refine lv_iload_n hx hb dX8_isLimited_4 rfl (lv_at hl 1 rfl) ?_
  refine va_iald (i := nI o) hx hb hK hP 1 0 rfl rfl (vp_in_nI (by omega) (by omega)) dX8_isLimited_5 ?_
  refine W.eq (g2 := F0 m 6 ls [.int (a1 o)]) (by rw [nI_clamp (by omega)]) ?_
  refine lv_iconst (v := 2) hx hb dX8_isLimited_6 (by decide) ?_
  refine lv_icmp_ne (tgt := 23) hx hb dX8_isLimited_7 (by decide) (fun c_1 => ?_) (fun c_1 => ?_)
  ·
    have ic_1 : ¬ (a1 o).toInt = 2 := tx_ne rfl (by decide) c_1
    refine lv_iconst (v := 0) hx hb dX8_isLimited_23 (by decide) ?_
    have hP9 := hP.sub (ws' := [(h0, .inr (8, [.int th, .ref q1, v2, v3, .ref q4, v5, v6, v7, v8, v9, v10, v11, v12, v13, v14, v15, v16])), (q1, .inl (c1, 16, .inl a1)), (q4, .inl (c4, 16, .inl a4))]) [0, 1, 2] rfl
    have hD9 := hD.sub (ws' := [(h0, .inr (8, [.int th, .ref q1, v2, v3, .ref q4, v5, v6, v7, v8, v9, v10, v11, v12, v13, v14, v15, v16])), (q1, .inl (c1, 16, .inl a1)), (q4, .inl (c4, 16, .inl a4))]) [0, 1, 2] (by decide) rfl
    have hK9 := hK.sub (tys' := [(c1, .int), (c4, .int)]) [0, 1] rfl
    refine W.widen (k := 0) (n := 0) (Nat.le_of_ble_eq_true rfl) (Nat.le_of_ble_eq_true rfl) ?_
    exact W.zret (v := 0) hx hb hr rfl (fun t ht hW => ⟨⟨0, (), rfl, Or.inr ⟨by decide, by omega⟩, by rw [ht]; exact hP9, va_K.moved hW.alike hK9, hD9⟩, hS.F ht⟩) hS.2.2 dX8_isLimited_24
  ·
    have ic_1 : (a1 o).toInt = 2 := tx_eq rfl (by decide) c_1
    refine lv_aload_n hx hb dX8_isLimited_10 rfl (lv_at hl 0 rfl) ?_
    refine va_get (D := (dC, dI)) (ci := 8) (v := .ref q4) (C := RX8) (T := TX8) (N := 17) hx hb hts hi0_ hown hK hP 0 rfl rfl 4 (by decide) hw1_ (fun _ h9 => h9) rfl dX8_isLimited_11 ?_
    refine lv_iload_n hx hb dX8_isLimited_14 rfl (lv_at hl 1 rfl) ?_
    refine va_iald (i := nI o) hx hb hK hP 2 1 rfl rfl (vp_in_nI (by omega) (by omega)) dX8_isLimited_15 ?_
    refine W.eq (g2 := F0 m 16 ls [.int (a4 o)]) (by rw [nI_clamp (by omega)]) ?_
    refine lv_if_le (tgt := 23) hx hb dX8_isLimited_16 (by decide) (fun c_2 => ?_) (fun c_2 => ?_)
    ·
      have ic_2 : (a4 o).toInt ≤ 0 := tx_le rfl (by decide) c_2
      refine lv_iconst (v := 0) hx hb dX8_isLimited_23 (by decide) ?_
      have hP9 := hP.sub (ws' := [(h0, .inr (8, [.int th, .ref q1, v2, v3, .ref q4, v5, v6, v7, v8, v9, v10, v11, v12, v13, v14, v15, v16])), (q1, .inl (c1, 16, .inl a1)), (q4, .inl (c4, 16, .inl a4))]) [0, 1, 2] rfl
      have hD9 := hD.sub (ws' := [(h0, .inr (8, [.int th, .ref q1, v2, v3, .ref q4, v5, v6, v7, v8, v9, v10, v11, v12, v13, v14, v15, v16])), (q1, .inl (c1, 16, .inl a1)), (q4, .inl (c4, 16, .inl a4))]) [0, 1, 2] (by decide) rfl
      have hK9 := hK.sub (tys' := [(c1, .int), (c4, .int)]) [0, 1] rfl
      refine W.widen (k := 0) (n := 0) (Nat.le_of_ble_eq_true rfl) (Nat.le_of_ble_eq_true rfl) ?_
      exact W.zret (v := 0) hx hb hr rfl (fun t ht hW => ⟨⟨0, (), rfl, Or.inr ⟨by decide, by omega⟩, by rw [ht]; exact hP9, va_K.moved hW.alike hK9, hD9⟩, hS.F ht⟩) hS.2.2 dX8_isLimited_24
    ·
      have ic_2 : 0 < (a4 o).toInt := tx_nle rfl (by decide) c_2
      refine lv_iconst (v := 1) hx hb dX8_isLimited_19 (by decide) ?_
      refine lv_goto (tgt := 24) hx hb dX8_isLimited_20 (by decide) ?_
      have hP9 := hP.sub (ws' := [(h0, .inr (8, [.int th, .ref q1, v2, v3, .ref q4, v5, v6, v7, v8, v9, v10, v11, v12, v13, v14, v15, v16])), (q1, .inl (c1, 16, .inl a1)), (q4, .inl (c4, 16, .inl a4))]) [0, 1, 2] rfl
      have hD9 := hD.sub (ws' := [(h0, .inr (8, [.int th, .ref q1, v2, v3, .ref q4, v5, v6, v7, v8, v9, v10, v11, v12, v13, v14, v15, v16])), (q1, .inl (c1, 16, .inl a1)), (q4, .inl (c4, 16, .inl a4))]) [0, 1, 2] (by decide) rfl
      have hK9 := hK.sub (tys' := [(c1, .int), (c4, .int)]) [0, 1] rfl
      refine W.widen (k := 0) (n := 0) (Nat.le_of_ble_eq_true rfl) (Nat.le_of_ble_eq_true rfl) ?_
      exact W.zret (v := 1) hx hb hr rfl (fun t ht hW => ⟨⟨1, (), rfl, Or.inl ⟨by decide, by omega, by omega⟩, by rw [ht]; exact hP9, va_K.moved hW.alike hK9, hD9⟩, hS.F ht⟩) hS.2.2 dX8_isLimited_24
set_option maxHeartbeats 4000000 in
set_option maxRecDepth 100000 in
/-- isThere -/
theorem c_X8_isThere (l : Launch) (dC : Nat → ClassId) (dI : Nat → Nat → Nat) (sz : Nat) (h0 : Nat) (th : Int32) (q1 : Nat) (c1 : ClassId) (a1 : Nat → Int32) (v2 : Value) (v3 : Value) (v4 : Value) (v5 : Value) (v6 : Value) (v7 : Value) (v8 : Value) (v9 : Value) (v10 : Value) (v11 : Value) (v12 : Value) (v13 : Value) (v14 : Value) (v15 : Value) (v16 : Value) (p0 : Int32) : Met l yX8_isThere wsX8_isThere ({ frames := 1, cells := 0, slots := 0, locals := 30 }) (va_Pc [.ref h0, .int p0] (pk_Pre (dC, dI) [(h0, .inr (8, [.int th, .ref q1, v2, v3, v4, v5, v6, v7, v8, v9, v10, v11, v12, v13, v14, v15, v16])), (q1, .inl (c1, 16, .inl a1))] [(c1, .int)] sz)) (va_Qi (fun (x : Int32) (_ : Unit) => (x.toInt = 1 ∧ ∃ o : Nat, o < 16 ∧ p0 = nI o ∧ ¬ (a1 o).toInt = 0) ∨ (x.toInt = 0 ∧ ∀ o : Nat, o < 16 → p0 = nI o → (a1 o).toInt = 0)) (fun (_ : Unit) (t : State) => va_P (dC, dI) vwCl [(h0, .inr (8, [.int th, .ref q1, v2, v3, v4, v5, v6, v7, v8, v9, v10, v11, v12, v13, v14, v15, v16])), (q1, .inl (c1, 16, .inl a1))] t.heap ∧ va_K (dC, dI) vwCl [(c1, .int)] t ∧ va_D (va_A [(h0, .inr (8, [.int th, .ref q1, v2, v3, v4, v5, v6, v7, v8, v9, v10, v11, v12, v13, v14, v15, v16])), (q1, .inl (c1, 16, .inl a1))] sz) [(h0, .inr (8, [.int th, .ref q1, v2, v3, v4, v5, v6, v7, v8, v9, v10, v11, v12, v13, v14, v15, v16])), (q1, .inl (c1, 16, .inl a1))]) (va_A [(h0, .inr (8, [.int th, .ref q1, v2, v3, v4, v5, v6, v7, v8, v9, v10, v11, v12, v13, v14, v15, v16])), (q1, .inl (c1, 16, .inl a1))] sz)) 0 0 (va_A [(h0, .inr (8, [.int th, .ref q1, v2, v3, v4, v5, v6, v7, v8, v9, v10, v11, v12, v13, v14, v15, v16])), (q1, .inl (c1, 16, .inl a1))] sz) := by
  refine Met.ofW (cc := cX8_isThere) (maxL := 2) (ret := (some .boolean)) (by decide) rfl ?_
  intro p e s m args below meth c s₁ B hml hv
  obtain ⟨rfl, hsz, hP, hK, hD0⟩ := hv
  have hx := B.exec
  have hb := B.bytes
  have hr := B.returns
  have hts := atoms_spec (ws := wsX8_isThere) B.pre
  have hown : s.vm.findClass RX8 = some m.cls := findClass_of_methodNamed B.named
  have hlocks := B.notSynchronized
  subst hsz
  have hD := hD0.self (sz := s.heap.size)
  generalize hAe : va_A [(h0, .inr (8, [.int th, .ref q1, v2, v3, v4, v5, v6, v7, v8, v9, v10, v11, v12, v13, v14, v15, v16])), (q1, .inl (c1, 16, .inl a1))] s.heap.size = A at hD ⊢
  have hA : ∀ q : Nat, s.heap.size ≤ q → A q := fun q h => by rw [← hAe]; exact Or.inr h
  have hS : va_S A s.heap s.heap [] := va_S.rf
  have hP : va_P (dC, dI) vwCl [(h0, .inr (8, [.int th, .ref q1, v2, v3, v4, v5, v6, v7, v8, v9, v10, v11, v12, v13, v14, v15, v16])), (q1, .inl (c1, 16, .inl a1))] s.heap := hP
  have hl := lv_entry ([.ref h0, .int p0]) (n := 2) (Nat.le_of_ble_eq_true rfl)
  rw [lg_entry_eq]
  generalize (lg_sl ([.ref h0, .int p0]) ++ List.replicate (2 - (lg_sl ([.ref h0, .int p0])).length) Slot.unset).toArray = ls at hl ⊢
  have hl : lv_has ls 2 [(0, .ref h0), (1, .int p0)] := hl
  have hw0_ := hts (.fieldLink RX8 7 "KeyAtlasModel" "kind" "[I") (List.mem_of_getElem? (l := wsX8_isThere) (i := 1) rfl)
  have hi0_ : ∀ w ∈ u_ws RX8 TX8 17, w ∈ wsX8_isThere := fun w h => List.mem_cons_of_mem _ (List.mem_append_right _ h)
  refine lv_iload_n hx hb dX8_isThere_0 rfl (lv_at hl 1 rfl) ?_
  refine lv_iconst (v := 0) hx hb dX8_isThere_1 (by decide) ?_
  refine lv_bipush (v := 15) hx hb dX8_isThere_2 (by decide) ?_
  have hPc := hP.sub (ws' := []) [] rfl
  have hDc := hD.sub (ws' := []) [] (by decide) rfl
  have hKc := hK.sub (tys' := []) [] rfl
  have hFc := va_free (wc := []) hD hS hA [] rfl
  refine va_calli (va_runS (As := [.int p0, .int 0, .int 15]) (rest := []) ⟨hx, hb, hml, hown, hts⟩ (c_X8_in l  dC dI s.heap.size p0 0 15 p0.toInt 0 15 rfl (by decide) (by decide)) (va_cwS 3 hts gX8_isThere_X8_in rfl rfl rfl (by decide +kernel) ⟨(Nat.le_of_ble_eq_true rfl), (Nat.le_of_ble_eq_true rfl)⟩) ⟨pk_blind, pk_call hPc hKc hDc⟩ rfl rfl hl.1 rfl (lv_room (Nat.le_of_ble_eq_true rfl)) dX8_isThere_4 ⟨(Nat.le_of_ble_eq_true rfl), (Nat.le_of_ble_eq_true rfl)⟩) hS (fun q _ h => hFc q h) hFc (fun r_1 ur_1 t H1 locs ht hvm hw hB hz1 hk1 hS => ?_)
  try dsimp only at hw
  have jr_1 := hw
  obtain ⟨hP, hD⟩ := va_join (wr := [(h0, .inr (8, [.int th, .ref q1, v2, v3, v4, v5, v6, v7, v8, v9, v10, v11, v12, v13, v14, v15, v16])), (q1, .inl (c1, 16, .inl a1))]) (w1 := []) hP hD [] [0, 1] rfl rfl (by decide) (by decide) hk1 hFc tx_P0 tx_D0
  clear hk1 hz1 ht hPc hDc hKc hFc
  generalize H1 = H at hP hS ⊢
  replace hP : va_P (dC, dI) vwCl [(h0, .inr (8, [.int th, .ref q1, v2, v3, v4, v5, v6, v7, v8, v9, v10, v11, v12, v13, v14, v15, v16])), (q1, .inl (c1, 16, .inl a1))] H := hP
  replace hD : va_D A [(h0, .inr (8, [.int th, .ref q1, v2, v3, v4, v5, v6, v7, v8, v9, v10, v11, v12, v13, v14, v15, v16])), (q1, .inl (c1, 16, .inl a1))] := hD
  refine W.widen (k := 0) (n := 0) (Nat.le_of_ble_eq_true rfl) (Nat.le_of_ble_eq_true rfl) ?_
  refine W.eq (g2 := F0 m 7 ls [.int r_1]) rfl ?_
  refine lv_if_eq (tgt := 23) hx hb dX8_isThere_7 (by decide) (fun c_2 => ?_) (fun c_2 => ?_)
  ·
    have ic_2 : r_1.toInt = 0 := tx_eq rfl (by decide) c_2
    refine lv_iconst (v := 0) hx hb dX8_isThere_23 (by decide) ?_
    have hP9 := hP.sub (ws' := [(h0, .inr (8, [.int th, .ref q1, v2, v3, v4, v5, v6, v7, v8, v9, v10, v11, v12, v13, v14, v15, v16])), (q1, .inl (c1, 16, .inl a1))]) [0, 1] rfl
    have hD9 := hD.sub (ws' := [(h0, .inr (8, [.int th, .ref q1, v2, v3, v4, v5, v6, v7, v8, v9, v10, v11, v12, v13, v14, v15, v16])), (q1, .inl (c1, 16, .inl a1))]) [0, 1] (by decide) rfl
    have hK9 := hK.sub (tys' := [(c1, .int)]) [0] rfl
    refine W.widen (k := 0) (n := 0) (Nat.le_of_ble_eq_true rfl) (Nat.le_of_ble_eq_true rfl) ?_
    exact W.zret (v := 0) hx hb hr rfl (fun t ht hW => ⟨⟨0, (), rfl, Or.inr ⟨by decide, fun o ho e => by subst e; have h9 := nI_toInt (n := o) (by omega); omega⟩, by rw [ht]; exact hP9, va_K.moved hW.alike hK9, hD9⟩, hS.F ht⟩) hS.2.2 dX8_isThere_24
  ·
    have ic_2 : ¬ r_1.toInt = 0 := tx_ne rfl (by decide) c_2
    refine lv_aload_n hx hb dX8_isThere_10 rfl (lv_at hl 0 rfl) ?_
    refine va_get (D := (dC, dI)) (ci := 8) (v := .ref q1) (C := RX8) (T := TX8) (N := 17) hx hb hts hi0_ hown hK hP 0 rfl rfl 1 (by decide) hw0_ (fun _ h9 => h9) rfl dX8_isThere_11 ?_
    refine lv_iload_n hx hb dX8_isThere_14 rfl (lv_at hl 1 rfl) ?_
    obtain ⟨o9, ho9, rfl⟩ : ∃ o : Nat, o < 16 ∧ p0 = nI o := vp_in_of (tx_in (n := 16) (by omega) (by omega)) (by omega)
    refine va_iald (i := nI o9) hx hb hK hP 1 0 rfl rfl (vp_in_nI (by omega) (by omega)) dX8_isThere_15 ?_
    refine W.eq (g2 := F0 m 16 ls [.int (a1 o9)]) (by rw [nI_clamp (by omega)]) ?_
    refine lv_if_eq (tgt := 23) hx hb dX8_isThere_16 (by decide) (fun c_3 => ?_) (fun c_3 => ?_)
    ·
      have ic_3 : (a1 o9).toInt = 0 := tx_eq rfl (by decide) c_3
      refine lv_iconst (v := 0) hx hb dX8_isThere_23 (by decide) ?_
      have hP9 := hP.sub (ws' := [(h0, .inr (8, [.int th, .ref q1, v2, v3, v4, v5, v6, v7, v8, v9, v10, v11, v12, v13, v14, v15, v16])), (q1, .inl (c1, 16, .inl a1))]) [0, 1] rfl
      have hD9 := hD.sub (ws' := [(h0, .inr (8, [.int th, .ref q1, v2, v3, v4, v5, v6, v7, v8, v9, v10, v11, v12, v13, v14, v15, v16])), (q1, .inl (c1, 16, .inl a1))]) [0, 1] (by decide) rfl
      have hK9 := hK.sub (tys' := [(c1, .int)]) [0] rfl
      refine W.widen (k := 0) (n := 0) (Nat.le_of_ble_eq_true rfl) (Nat.le_of_ble_eq_true rfl) ?_
      exact W.zret (v := 0) hx hb hr rfl (fun t ht hW => ⟨⟨0, (), rfl, Or.inr ⟨by decide, fun o ho e => by rw [(nI_eq (by omega) (by omega)).mp e.symm]; omega⟩, by rw [ht]; exact hP9, va_K.moved hW.alike hK9, hD9⟩, hS.F ht⟩) hS.2.2 dX8_isThere_24
    ·
      have ic_3 : ¬ (a1 o9).toInt = 0 := tx_ne rfl (by decide) c_3
      refine lv_iconst (v := 1) hx hb dX8_isThere_19 (by decide) ?_
      refine lv_goto (tgt := 24) hx hb dX8_isThere_20 (by decide) ?_
      have hP9 := hP.sub (ws' := [(h0, .inr (8, [.int th, .ref q1, v2, v3, v4, v5, v6, v7, v8, v9, v10, v11, v12, v13, v14, v15, v16])), (q1, .inl (c1, 16, .inl a1))]) [0, 1] rfl
      have hD9 := hD.sub (ws' := [(h0, .inr (8, [.int th, .ref q1, v2, v3, v4, v5, v6, v7, v8, v9, v10, v11, v12, v13, v14, v15, v16])), (q1, .inl (c1, 16, .inl a1))]) [0, 1] (by decide) rfl
      have hK9 := hK.sub (tys' := [(c1, .int)]) [0] rfl
      refine W.widen (k := 0) (n := 0) (Nat.le_of_ble_eq_true rfl) (Nat.le_of_ble_eq_true rfl) ?_
      exact W.zret (v := 1) hx hb hr rfl (fun t ht hW => ⟨⟨1, (), rfl, Or.inl ⟨by decide, o9, ho9, rfl, by omega⟩, by rw [ht]; exact hP9, va_K.moved hW.alike hK9, hD9⟩, hS.F ht⟩) hS.2.2 dX8_isThere_24
set_option maxHeartbeats 4000000 in
set_option maxRecDepth 100000 in
/-- born -/
theorem c_X8_born (l : Launch) (dC : Nat → ClassId) (dI : Nat → Nat → Nat) (sz : Nat) (h0 : Nat) (th : Int32) (q1 : Nat) (q3 : Nat) (q6 : Nat) (q7 : Nat) (q8 : Nat) (c1 : ClassId) (c3 : ClassId) (c6 : ClassId) (c7 : ClassId) (c8 : ClassId) (a1 : Nat → Int32) (a3 : Nat → Int32) (a6 : Nat → Int32) (a7 : Nat → Int32) (a8 : Nat → Int32) (v2 : Value) (v4 : Value) (v5 : Value) (v9 : Value) (v10 : Value) (v11 : Value) (v12 : Value) (v13 : Value) (v14 : Value) (v15 : Value) (v16 : Value) (o : Nat) (p1 : Int32) (ho9 : o < 16) : Met l yX8_born wsX8_born ({ frames := 0, cells := 0, slots := 0, locals := 0 }) (va_Pc [.ref h0, .int (nI o), .int p1] (pk_Pre (dC, dI) [(h0, .inr (8, [.int th, .ref q1, v2, .ref q3, v4, v5, .ref q6, .ref q7, .ref q8, v9, v10, v11, v12, v13, v14, v15, v16])), (q1, .inl (c1, 16, .inl a1)), (q3, .inl (c3, 16, .inl a3)), (q6, .inl (c6, 16, .inl a6)), (q7, .inl (c7, 16, .inl a7)), (q8, .inl (c8, 16, .inl a8))] [(c1, .int), (c3, .int), (c6, .int), (c7, .int), (c8, .int)] sz)) (va_Qi (fun (x : Int32) (_ : Unit) => x = nI o) (fun (_ : Unit) (t : State) => va_P (dC, dI) vwCl [(h0, .inr (8, [.int th, .ref q1, v2, .ref q3, v4, v5, .ref q6, .ref q7, .ref q8, v9, v10, v11, v12, v13, v14, v15, v16])), (q1, .inl (c1, 16, .inl (upd a1 o p1))), (q3, .inl (c3, 16, .inl (upd a3 o 0))), (q6, .inl (c6, 16, .inl (upd a6 o 0))), (q7, .inl (c7, 16, .inl (upd a7 o 0))), (q8, .inl (c8, 16, .inl (upd a8 o (-1))))] t.heap ∧ va_K (dC, dI) vwCl [(c1, .int), (c3, .int), (c6, .int), (c7, .int), (c8, .int)] t ∧ va_D (va_A [(h0, .inr (8, [.int th, .ref q1, v2, .ref q3, v4, v5, .ref q6, .ref q7, .ref q8, v9, v10, v11, v12, v13, v14, v15, v16])), (q1, .inl (c1, 16, .inl a1)), (q3, .inl (c3, 16, .inl a3)), (q6, .inl (c6, 16, .inl a6)), (q7, .inl (c7, 16, .inl a7)), (q8, .inl (c8, 16, .inl a8))] sz) [(h0, .inr (8, [.int th, .ref q1, v2, .ref q3, v4, v5, .ref q6, .ref q7, .ref q8, v9, v10, v11, v12, v13, v14, v15, v16])), (q1, .inl (c1, 16, .inl (upd a1 o p1))), (q3, .inl (c3, 16, .inl (upd a3 o 0))), (q6, .inl (c6, 16, .inl (upd a6 o 0))), (q7, .inl (c7, 16, .inl (upd a7 o 0))), (q8, .inl (c8, 16, .inl (upd a8 o (-1))))]) (va_A [(h0, .inr (8, [.int th, .ref q1, v2, .ref q3, v4, v5, .ref q6, .ref q7, .ref q8, v9, v10, v11, v12, v13, v14, v15, v16])), (q1, .inl (c1, 16, .inl a1)), (q3, .inl (c3, 16, .inl a3)), (q6, .inl (c6, 16, .inl a6)), (q7, .inl (c7, 16, .inl a7)), (q8, .inl (c8, 16, .inl a8))] sz)) 0 0 (va_A [(h0, .inr (8, [.int th, .ref q1, v2, .ref q3, v4, v5, .ref q6, .ref q7, .ref q8, v9, v10, v11, v12, v13, v14, v15, v16])), (q1, .inl (c1, 16, .inl a1)), (q3, .inl (c3, 16, .inl a3)), (q6, .inl (c6, 16, .inl a6)), (q7, .inl (c7, 16, .inl a7)), (q8, .inl (c8, 16, .inl a8))] sz) := by
  refine Met.ofW (cc := cX8_born) (maxL := 3) (ret := (some .int)) (by decide) rfl ?_
  intro p e s m args below meth c s₁ B hml hv
  obtain ⟨rfl, hsz, hP, hK, hD0⟩ := hv
  have hx := B.exec
  have hb := B.bytes
  have hr := B.returns
  have hts := atoms_spec (ws := wsX8_born) B.pre
  have hown : s.vm.findClass RX8 = some m.cls := findClass_of_methodNamed B.named
  have hlocks := B.notSynchronized
  subst hsz
  have hD := hD0.self (sz := s.heap.size)
  generalize hAe : va_A [(h0, .inr (8, [.int th, .ref q1, v2, .ref q3, v4, v5, .ref q6, .ref q7, .ref q8, v9, v10, v11, v12, v13, v14, v15, v16])), (q1, .inl (c1, 16, .inl a1)), (q3, .inl (c3, 16, .inl a3)), (q6, .inl (c6, 16, .inl a6)), (q7, .inl (c7, 16, .inl a7)), (q8, .inl (c8, 16, .inl a8))] s.heap.size = A at hD ⊢
  have hA : ∀ q : Nat, s.heap.size ≤ q → A q := fun q h => by rw [← hAe]; exact Or.inr h
  have hS : va_S A s.heap s.heap [] := va_S.rf
  have hP : va_P (dC, dI) vwCl [(h0, .inr (8, [.int th, .ref q1, v2, .ref q3, v4, v5, .ref q6, .ref q7, .ref q8, v9, v10, v11, v12, v13, v14, v15, v16])), (q1, .inl (c1, 16, .inl a1)), (q3, .inl (c3, 16, .inl a3)), (q6, .inl (c6, 16, .inl a6)), (q7, .inl (c7, 16, .inl a7)), (q8, .inl (c8, 16, .inl a8))] s.heap := hP
  have hl := lv_entry ([.ref h0, .int (nI o), .int p1]) (n := 3) (Nat.le_of_ble_eq_true rfl)
  rw [lg_entry_eq]
  generalize (lg_sl ([.ref h0, .int (nI o), .int p1]) ++ List.replicate (3 - (lg_sl ([.ref h0, .int (nI o), .int p1])).length) Slot.unset).toArray = ls at hl ⊢
  have hl : lv_has ls 3 [(0, .ref h0), (1, .int (nI o)), (2, .int p1)] := hl
  have hw0_ := hts (.fieldLink RX8 7 "KeyAtlasModel" "kind" "[I") (List.mem_of_getElem? (l := wsX8_born) (i := 1) rfl)
  have hw1_ := hts (.fieldLink RX8 17 "KeyAtlasModel" "size" "[I") (List.mem_of_getElem? (l := wsX8_born) (i := 2) rfl)
  have hw2_ := hts (.fieldLink RX8 26 "KeyAtlasModel" "table" "[I") (List.mem_of_getElem? (l := wsX8_born) (i := 3) rfl)
  have hw3_ := hts (.fieldLink RX8 29 "KeyAtlasModel" "changes" "[I") (List.mem_of_getElem? (l := wsX8_born) (i := 4) rfl)
  have hw4_ := hts (.fieldLink RX8 32 "KeyAtlasModel" "parent" "[I") (List.mem_of_getElem? (l := wsX8_born) (i := 5) rfl)
  have hi0_ : ∀ w ∈ u_ws RX8 TX8 17, w ∈ wsX8_born := fun w h => List.mem_cons_of_mem _ (List.mem_append_right _ h)
  refine lv_aload_n hx hb dX8_born_0 rfl (lv_at hl 0 rfl) ?_
  refine va_get (D := (dC, dI)) (ci := 8) (v := .ref q1) (C := RX8) (T := TX8) (N := 17) hx hb hts hi0_ hown hK hP 0 rfl rfl 1 (by decide) hw0_ (fun _ h9 => h9) rfl dX8_born_1 ?_
  refine lv_iload_n hx hb dX8_born_4 rfl (lv_at hl 1 rfl) ?_
  refine lv_iload_n hx hb dX8_born_5 rfl (lv_at hl 2 rfl) ?_
  refine va_iast (i := nI o) hx hb hK hP hD hS 1 0 rfl rfl (vp_in_nI (by omega) (by omega)) dX8_born_6 (fun H locs hP hD hS => ?_)
  rw [nI_clamp (by omega)] at hP hD
  replace hP : va_P (dC, dI) vwCl [(h0, .inr (8, [.int th, .ref q1, v2, .ref q3, v4, v5, .ref q6, .ref q7, .ref q8, v9, v10, v11, v12, v13, v14, v15, v16])), (q1, .inl (c1, 16, .inl (upd a1 o p1))), (q3, .inl (c3, 16, .inl a3)), (q6, .inl (c6, 16, .inl a6)), (q7, .inl (c7, 16, .inl a7)), (q8, .inl (c8, 16, .inl a8))] H := hP
  replace hD : va_D A [(h0, .inr (8, [.int th, .ref q1, v2, .ref q3, v4, v5, .ref q6, .ref q7, .ref q8, v9, v10, v11, v12, v13, v14, v15, v16])), (q1, .inl (c1, 16, .inl (upd a1 o p1))), (q3, .inl (c3, 16, .inl a3)), (q6, .inl (c6, 16, .inl a6)), (q7, .inl (c7, 16, .inl a7)), (q8, .inl (c8, 16, .inl a8))] := hD
  refine lv_aload_n hx hb dX8_born_7 rfl (lv_at hl 0 rfl) ?_
  refine va_get (D := (dC, dI)) (ci := 8) (v := .ref q3) (C := RX8) (T := TX8) (N := 17) hx hb hts hi0_ hown hK hP 0 rfl rfl 3 (by decide) hw1_ (fun _ h9 => h9) rfl dX8_born_8 ?_
  refine lv_iload_n hx hb dX8_born_11 rfl (lv_at hl 1 rfl) ?_
  refine lv_iconst (v := 0) hx hb dX8_born_12 (by decide) ?_
  refine va_iast (i := nI o) hx hb hK hP hD hS 2 1 rfl rfl (vp_in_nI (by omega) (by omega)) dX8_born_13 (fun H locs hP hD hS => ?_)
  rw [nI_clamp (by omega)] at hP hD
  replace hP : va_P (dC, dI) vwCl [(h0, .inr (8, [.int th, .ref q1, v2, .ref q3, v4, v5, .ref q6, .ref q7, .ref q8, v9, v10, v11, v12, v13, v14, v15, v16])), (q1, .inl (c1, 16, .inl (upd a1 o p1))), (q3, .inl (c3, 16, .inl (upd a3 o 0))), (q6, .inl (c6, 16, .inl a6)), (q7, .inl (c7, 16, .inl a7)), (q8, .inl (c8, 16, .inl a8))] H := hP
  replace hD : va_D A [(h0, .inr (8, [.int th, .ref q1, v2, .ref q3, v4, v5, .ref q6, .ref q7, .ref q8, v9, v10, v11, v12, v13, v14, v15, v16])), (q1, .inl (c1, 16, .inl (upd a1 o p1))), (q3, .inl (c3, 16, .inl (upd a3 o 0))), (q6, .inl (c6, 16, .inl a6)), (q7, .inl (c7, 16, .inl a7)), (q8, .inl (c8, 16, .inl a8))] := hD
  refine lv_aload_n hx hb dX8_born_14 rfl (lv_at hl 0 rfl) ?_
  refine va_get (D := (dC, dI)) (ci := 8) (v := .ref q6) (C := RX8) (T := TX8) (N := 17) hx hb hts hi0_ hown hK hP 0 rfl rfl 6 (by decide) hw2_ (fun _ h9 => h9) rfl dX8_born_15 ?_
  refine lv_iload_n hx hb dX8_born_18 rfl (lv_at hl 1 rfl) ?_
  refine lv_iconst (v := 0) hx hb dX8_born_19 (by decide) ?_
  refine va_iast (i := nI o) hx hb hK hP hD hS 3 2 rfl rfl (vp_in_nI (by omega) (by omega)) dX8_born_20 (fun H locs hP hD hS => ?_)
  rw [nI_clamp (by omega)] at hP hD
  replace hP : va_P (dC, dI) vwCl [(h0, .inr (8, [.int th, .ref q1, v2, .ref q3, v4, v5, .ref q6, .ref q7, .ref q8, v9, v10, v11, v12, v13, v14, v15, v16])), (q1, .inl (c1, 16, .inl (upd a1 o p1))), (q3, .inl (c3, 16, .inl (upd a3 o 0))), (q6, .inl (c6, 16, .inl (upd a6 o 0))), (q7, .inl (c7, 16, .inl a7)), (q8, .inl (c8, 16, .inl a8))] H := hP
  replace hD : va_D A [(h0, .inr (8, [.int th, .ref q1, v2, .ref q3, v4, v5, .ref q6, .ref q7, .ref q8, v9, v10, v11, v12, v13, v14, v15, v16])), (q1, .inl (c1, 16, .inl (upd a1 o p1))), (q3, .inl (c3, 16, .inl (upd a3 o 0))), (q6, .inl (c6, 16, .inl (upd a6 o 0))), (q7, .inl (c7, 16, .inl a7)), (q8, .inl (c8, 16, .inl a8))] := hD
  refine lv_aload_n hx hb dX8_born_21 rfl (lv_at hl 0 rfl) ?_
  refine va_get (D := (dC, dI)) (ci := 8) (v := .ref q7) (C := RX8) (T := TX8) (N := 17) hx hb hts hi0_ hown hK hP 0 rfl rfl 7 (by decide) hw3_ (fun _ h9 => h9) rfl dX8_born_22 ?_
  refine lv_iload_n hx hb dX8_born_25 rfl (lv_at hl 1 rfl) ?_
  refine lv_iconst (v := 0) hx hb dX8_born_26 (by decide) ?_
  refine va_iast (i := nI o) hx hb hK hP hD hS 4 3 rfl rfl (vp_in_nI (by omega) (by omega)) dX8_born_27 (fun H locs hP hD hS => ?_)
  rw [nI_clamp (by omega)] at hP hD
  replace hP : va_P (dC, dI) vwCl [(h0, .inr (8, [.int th, .ref q1, v2, .ref q3, v4, v5, .ref q6, .ref q7, .ref q8, v9, v10, v11, v12, v13, v14, v15, v16])), (q1, .inl (c1, 16, .inl (upd a1 o p1))), (q3, .inl (c3, 16, .inl (upd a3 o 0))), (q6, .inl (c6, 16, .inl (upd a6 o 0))), (q7, .inl (c7, 16, .inl (upd a7 o 0))), (q8, .inl (c8, 16, .inl a8))] H := hP
  replace hD : va_D A [(h0, .inr (8, [.int th, .ref q1, v2, .ref q3, v4, v5, .ref q6, .ref q7, .ref q8, v9, v10, v11, v12, v13, v14, v15, v16])), (q1, .inl (c1, 16, .inl (upd a1 o p1))), (q3, .inl (c3, 16, .inl (upd a3 o 0))), (q6, .inl (c6, 16, .inl (upd a6 o 0))), (q7, .inl (c7, 16, .inl (upd a7 o 0))), (q8, .inl (c8, 16, .inl a8))] := hD
  refine lv_aload_n hx hb dX8_born_28 rfl (lv_at hl 0 rfl) ?_
  refine va_get (D := (dC, dI)) (ci := 8) (v := .ref q8) (C := RX8) (T := TX8) (N := 17) hx hb hts hi0_ hown hK hP 0 rfl rfl 8 (by decide) hw4_ (fun _ h9 => h9) rfl dX8_born_29 ?_
  refine lv_iload_n hx hb dX8_born_32 rfl (lv_at hl 1 rfl) ?_
  refine lv_iconst (v := (-1)) hx hb dX8_born_33 (by decide) ?_
  refine va_iast (i := nI o) hx hb hK hP hD hS 5 4 rfl rfl (vp_in_nI (by omega) (by omega)) dX8_born_34 (fun H locs hP hD hS => ?_)
  rw [nI_clamp (by omega)] at hP hD
  replace hP : va_P (dC, dI) vwCl [(h0, .inr (8, [.int th, .ref q1, v2, .ref q3, v4, v5, .ref q6, .ref q7, .ref q8, v9, v10, v11, v12, v13, v14, v15, v16])), (q1, .inl (c1, 16, .inl (upd a1 o p1))), (q3, .inl (c3, 16, .inl (upd a3 o 0))), (q6, .inl (c6, 16, .inl (upd a6 o 0))), (q7, .inl (c7, 16, .inl (upd a7 o 0))), (q8, .inl (c8, 16, .inl (upd a8 o (-1))))] H := hP
  replace hD : va_D A [(h0, .inr (8, [.int th, .ref q1, v2, .ref q3, v4, v5, .ref q6, .ref q7, .ref q8, v9, v10, v11, v12, v13, v14, v15, v16])), (q1, .inl (c1, 16, .inl (upd a1 o p1))), (q3, .inl (c3, 16, .inl (upd a3 o 0))), (q6, .inl (c6, 16, .inl (upd a6 o 0))), (q7, .inl (c7, 16, .inl (upd a7 o 0))), (q8, .inl (c8, 16, .inl (upd a8 o (-1))))] := hD
  refine lv_iload_n hx hb dX8_born_35 rfl (lv_at hl 1 rfl) ?_
  have hP9 := hP.sub (ws' := [(h0, .inr (8, [.int th, .ref q1, v2, .ref q3, v4, v5, .ref q6, .ref q7, .ref q8, v9, v10, v11, v12, v13, v14, v15, v16])), (q1, .inl (c1, 16, .inl (upd a1 o p1))), (q3, .inl (c3, 16, .inl (upd a3 o 0))), (q6, .inl (c6, 16, .inl (upd a6 o 0))), (q7, .inl (c7, 16, .inl (upd a7 o 0))), (q8, .inl (c8, 16, .inl (upd a8 o (-1))))]) [0, 1, 2, 3, 4, 5] rfl
  have hD9 := hD.sub (ws' := [(h0, .inr (8, [.int th, .ref q1, v2, .ref q3, v4, v5, .ref q6, .ref q7, .ref q8, v9, v10, v11, v12, v13, v14, v15, v16])), (q1, .inl (c1, 16, .inl (upd a1 o p1))), (q3, .inl (c3, 16, .inl (upd a3 o 0))), (q6, .inl (c6, 16, .inl (upd a6 o 0))), (q7, .inl (c7, 16, .inl (upd a7 o 0))), (q8, .inl (c8, 16, .inl (upd a8 o (-1))))]) [0, 1, 2, 3, 4, 5] (by decide) rfl
  have hK9 := hK.sub (tys' := [(c1, .int), (c3, .int), (c6, .int), (c7, .int), (c8, .int)]) [0, 1, 2, 3, 4] rfl
  refine W.widen (k := 0) (n := 0) (Nat.le_of_ble_eq_true rfl) (Nat.le_of_ble_eq_true rfl) ?_
  exact W.iret (v := nI o) hx hb hr (fun t ht hW => ⟨⟨nI o, (), rfl, rfl, by rw [ht]; exact hP9, va_K.moved hW.alike hK9, hD9⟩, hS.F ht⟩) hS.2.2 dX8_born_36
