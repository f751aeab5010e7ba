theorem dX2_binOf_0 : decode cX2_binOf 0 = .ok (.aload_n 0, 1) := by decide +kernel
theorem dX2_binOf_1 : decode cX2_binOf 1 = .ok (.getfield 24, 3) := by decide +kernel
theorem dX2_binOf_4 : decode cX2_binOf 4 = .ok (.ifCond .ne 7, 3) := by decide +kernel
theorem dX2_binOf_11 : decode cX2_binOf 11 = .ok (.aload_n 0, 1) := by decide +kernel
theorem dX2_binOf_12 : decode cX2_binOf 12 = .ok (.getfield 24, 3) := by decide +kernel
theorem dX2_binOf_15 : decode cX2_binOf 15 = .ok (.iconst 1, 1) := by decide +kernel
theorem dX2_binOf_16 : decode cX2_binOf 16 = .ok (.if_icmp .ne 10, 3) := by decide +kernel
theorem dX2_binOf_26 : decode cX2_binOf 26 = .ok (.aload_n 0, 1) := by decide +kernel
theorem dX2_binOf_27 : decode cX2_binOf 27 = .ok (.getfield 24, 3) := by decide +kernel
theorem dX2_binOf_30 : decode cX2_binOf 30 = .ok (.iconst 2, 1) := by decide +kernel
theorem dX2_binOf_31 : decode cX2_binOf 31 = .ok (.if_icmp .ne 8, 3) := by decide +kernel
theorem dX2_binOf_39 : decode cX2_binOf 39 = .ok (.iload_n 1, 1) := by decide +kernel
theorem dX2_binOf_40 : decode cX2_binOf 40 = .ok (.ldc 27, 2) := by decide +kernel
theorem dX2_binOf_42 : decode cX2_binOf 42 = .ok (.imul, 1) := by decide +kernel
theorem dX2_binOf_43 : decode cX2_binOf 43 = .ok (.istore_n 2, 1) := by decide +kernel
theorem dX2_binOf_44 : decode cX2_binOf 44 = .ok (.iload_n 2, 1) := by decide +kernel
theorem dX2_binOf_45 : decode cX2_binOf 45 = .ok (.iload_n 2, 1) := by decide +kernel
theorem dX2_binOf_46 : decode cX2_binOf 46 = .ok (.bipush 16, 2) := by decide +kernel
theorem dX2_binOf_48 : decode cX2_binOf 48 = .ok (.iushr, 1) := by decide +kernel
theorem dX2_binOf_49 : decode cX2_binOf 49 = .ok (.ixor, 1) := by decide +kernel
theorem dX2_binOf_50 : decode cX2_binOf 50 = .ok (.aload_n 0, 1) := by decide +kernel
theorem dX2_binOf_51 : decode cX2_binOf 51 = .ok (.getfield 28, 3) := by decide +kernel
theorem dX2_binOf_54 : decode cX2_binOf 54 = .ok (.iconst 1, 1) := by decide +kernel
theorem dX2_binOf_55 : decode cX2_binOf 55 = .ok (.isub, 1) := by decide +kernel
theorem dX2_binOf_56 : decode cX2_binOf 56 = .ok (.iand, 1) := by decide +kernel
theorem dX2_binOf_57 : decode cX2_binOf 57 = .ok (.ireturn, 1) := by decide +kernel
theorem dX2_binOf_34 : decode cX2_binOf 34 = .ok (.bipush 7, 2) := by decide +kernel
theorem dX2_binOf_36 : decode cX2_binOf 36 = .ok (.goto 7, 3) := by decide +kernel
theorem dX2_binOf_19 : decode cX2_binOf 19 = .ok (.iload_n 1, 1) := by decide +kernel
theorem dX2_binOf_20 : decode cX2_binOf 20 = .ok (.bipush 15, 2) := by decide +kernel
theorem dX2_binOf_22 : decode cX2_binOf 22 = .ok (.iand, 1) := by decide +kernel
theorem dX2_binOf_23 : decode cX2_binOf 23 = .ok (.goto 20, 3) := by decide +kernel
theorem dX2_binOf_7 : decode cX2_binOf 7 = .ok (.iload_n 1, 1) := by decide +kernel
theorem dX2_binOf_8 : decode cX2_binOf 8 = .ok (.goto 35, 3) := by decide +kernel
theorem dX2_startOf_0 : decode cX2_startOf 0 = .ok (.iconst 0, 1) := by decide +kernel
theorem dX2_startOf_1 : decode cX2_startOf 1 = .ok (.istore_n 2, 1) := by decide +kernel
theorem dX2_startOf_2 : decode cX2_startOf 2 = .ok (.aload_n 0, 1) := by decide +kernel
theorem dX2_startOf_3 : decode cX2_startOf 3 = .ok (.getfield 31, 3) := by decide +kernel
set_option maxRecDepth 20000 in
theorem ggX2_startOf_X5_size : GoodIn wsX2_startOf wsX5_size := goodIn_r _ [7, 8, 41, 42, 43, 44] rfl (by decide +kernel)
set_option maxRecDepth 20000 in
theorem gX2_startOf_X5_size : GoodIn wsX2_startOf (wsV RX2 35 RX5 yX5_size wsX5_size) := goodIn_app (goodIn_of _ (by decide +kernel)) ggX2_startOf_X5_size
theorem dX2_startOf_6 : decode cX2_startOf 6 = .ok (.invokevirtual 35, 3) := by decide +kernel
theorem dX2_startOf_9 : decode cX2_startOf 9 = .ok (.istore_n 3, 1) := by decide +kernel
theorem dX2_startOf_10 : decode cX2_startOf 10 = .ok (.iconst 0, 1) := by decide +kernel
theorem dX2_startOf_11 : decode cX2_startOf 11 = .ok (.istore 4, 2) := by decide +kernel
theorem dX2_startOf_13 : decode cX2_startOf 13 = .ok (.iload 4, 2) := by decide +kernel
theorem dX2_startOf_15 : decode cX2_startOf 15 = .ok (.bipush 32, 2) := by decide +kernel
theorem dX2_startOf_17 : decode cX2_startOf 17 = .ok (.if_icmp .ge 49, 3) := by decide +kernel
theorem dX2_startOf_66 : decode cX2_startOf 66 = .ok (.iload_n 2, 1) := by decide +kernel
theorem dX2_startOf_67 : decode cX2_startOf 67 = .ok (.ireturn, 1) := by decide +kernel
theorem dX2_startOf_20 : decode cX2_startOf 20 = .ok (.iload_n 2, 1) := by decide +kernel
theorem dX2_startOf_21 : decode cX2_startOf 21 = .ok (.iload_n 3, 1) := by decide +kernel
theorem dX2_startOf_22 : decode cX2_startOf 22 = .ok (.if_icmp .ge 44, 3) := by decide +kernel
theorem dX2_startOf_25 : decode cX2_startOf 25 = .ok (.iload_n 2, 1) := by decide +kernel
theorem dX2_startOf_26 : decode cX2_startOf 26 = .ok (.iload_n 3, 1) := by decide +kernel
theorem dX2_startOf_27 : decode cX2_startOf 27 = .ok (.iadd, 1) := by decide +kernel
theorem dX2_startOf_28 : decode cX2_startOf 28 = .ok (.iconst 2, 1) := by decide +kernel
theorem dX2_startOf_29 : decode cX2_startOf 29 = .ok (.idiv, 1) := by decide +kernel
theorem dX2_startOf_30 : decode cX2_startOf 30 = .ok (.istore 5, 2) := by decide +kernel
theorem dX2_startOf_32 : decode cX2_startOf 32 = .ok (.aload_n 0, 1) := by decide +kernel
theorem dX2_startOf_33 : decode cX2_startOf 33 = .ok (.aload_n 0, 1) := by decide +kernel
theorem dX2_startOf_34 : decode cX2_startOf 34 = .ok (.getfield 31, 3) := by decide +kernel
theorem dX2_startOf_37 : decode cX2_startOf 37 = .ok (.iload 5, 2) := by decide +kernel
set_option maxRecDepth 20000 in
theorem ggX2_startOf_X5_key : GoodIn wsX2_startOf wsX5_key := goodIn_r _ [12, 8, 13, 41, 42, 43, 44] rfl (by decide +kernel)
set_option maxRecDepth 20000 in
theorem gX2_startOf_X5_key : GoodIn wsX2_startOf (wsV RX2 39 RX5 yX5_key wsX5_key) := goodIn_app (goodIn_of _ (by decide +kernel)) ggX2_startOf_X5_key
theorem dX2_startOf_39 : decode cX2_startOf 39 = .ok (.invokevirtual 39, 3) := by decide +kernel
set_option maxRecDepth 20000 in
theorem ggX2_startOf_X2_binOf : GoodIn wsX2_startOf wsX2_binOf := goodIn_r _ [18, 19, 20, 21, 22, 23, 24, 25, 26, 27, 28] rfl (by decide +kernel)
set_option maxRecDepth 20000 in
theorem gX2_startOf_X2_binOf : GoodIn wsX2_startOf (wsV RX2 43 RX2 yX2_binOf wsX2_binOf) := goodIn_app (goodIn_of _ (by decide +kernel)) ggX2_startOf_X2_binOf
theorem dX2_startOf_42 : decode cX2_startOf 42 = .ok (.invokevirtual 43, 3) := by decide +kernel
theorem dX2_startOf_45 : decode cX2_startOf 45 = .ok (.iload_n 1, 1) := by decide +kernel
theorem dX2_startOf_46 : decode cX2_startOf 46 = .ok (.if_icmp .ge 11, 3) := by decide +kernel
theorem dX2_startOf_57 : decode cX2_startOf 57 = .ok (.iload 5, 2) := by decide +kernel
theorem dX2_startOf_59 : decode cX2_startOf 59 = .ok (.istore_n 3, 1) := by decide +kernel
theorem dX2_startOf_60 : decode cX2_startOf 60 = .ok (.iinc 4 1, 3) := by decide +kernel
theorem dX2_startOf_63 : decode cX2_startOf 63 = .ok (.goto (-50), 3) := by decide +kernel
theorem dX2_startOf_49 : decode cX2_startOf 49 = .ok (.iload 5, 2) := by decide +kernel
theorem dX2_startOf_51 : decode cX2_startOf 51 = .ok (.iconst 1, 1) := by decide +kernel
theorem dX2_startOf_52 : decode cX2_startOf 52 = .ok (.iadd, 1) := by decide +kernel
theorem dX2_startOf_53 : decode cX2_startOf 53 = .ok (.istore_n 2, 1) := by decide +kernel
theorem dX2_startOf_54 : decode cX2_startOf 54 = .ok (.goto 6, 3) := by decide +kernel
theorem dX2_howManyIn_0 : decode cX2_howManyIn 0 = .ok (.aload_n 0, 1) := by decide +kernel
theorem dX2_howManyIn_1 : decode cX2_howManyIn 1 = .ok (.iload_n 1, 1) := by decide +kernel
theorem dX2_howManyIn_2 : decode cX2_howManyIn 2 = .ok (.iconst 1, 1) := by decide +kernel
theorem dX2_howManyIn_3 : decode cX2_howManyIn 3 = .ok (.iadd, 1) := by decide +kernel
set_option maxRecDepth 20000 in
theorem ggX2_howManyIn_X2_startOf : GoodIn wsX2_howManyIn wsX2_startOf := goodIn_r _ [5, 6, 7, 8, 9, 10, 11, 12, 13, 14, 15, 16, 17, 18, 19, 20, 21, 4, 22, 23, 24, 25, 26, 27, 28, 29, 30, 31, 32, 33, 34, 35, 36, 37, 38, 39, 40, 41, 42, 43, 44, 45, 46, 47, 48] rfl (by decide +kernel)
set_option maxRecDepth 20000 in
theorem gX2_howManyIn_X2_startOf : GoodIn wsX2_howManyIn (wsV RX2 46 RX2 yX2_startOf wsX2_startOf) := goodIn_app (goodIn_of _ (by decide +kernel)) ggX2_howManyIn_X2_startOf
theorem dX2_howManyIn_4 : decode cX2_howManyIn 4 = .ok (.invokevirtual 46, 3) := by decide +kernel
theorem dX2_howManyIn_7 : decode cX2_howManyIn 7 = .ok (.aload_n 0, 1) := by decide +kernel
theorem dX2_howManyIn_8 : decode cX2_howManyIn 8 = .ok (.iload_n 1, 1) := by decide +kernel
theorem dX2_howManyIn_9 : decode cX2_howManyIn 9 = .ok (.invokevirtual 46, 3) := by decide +kernel
theorem dX2_howManyIn_12 : decode cX2_howManyIn 12 = .ok (.isub, 1) := by decide +kernel
theorem dX2_howManyIn_13 : decode cX2_howManyIn 13 = .ok (.ireturn, 1) := by decide +kernel
theorem dX2_find_0 : decode cX2_find 0 = .ok (.aload_n 0, 1) := by decide +kernel
theorem dX2_find_1 : decode cX2_find 1 = .ok (.getfield 28, 3) := by decide +kernel
theorem dX2_find_4 : decode cX2_find 4 = .ok (.ifCond .ne 5, 3) := by decide +kernel
theorem dX2_find_9 : decode cX2_find 9 = .ok (.aload_n 0, 1) := by decide +kernel
theorem dX2_find_10 : decode cX2_find 10 = .ok (.iload_n 1, 1) := by decide +kernel
set_option maxRecDepth 20000 in
theorem ggX2_find_X2_binOf : GoodIn wsX2_find wsX2_binOf := goodIn_r _ [8, 9, 10, 1, 26, 27, 28, 29, 30, 31, 32] rfl (by decide +kernel)
set_option maxRecDepth 20000 in
theorem gX2_find_X2_binOf : GoodIn wsX2_find (wsV RX2 43 RX2 yX2_binOf wsX2_binOf) := goodIn_app (goodIn_of _ (by decide +kernel)) ggX2_find_X2_binOf
theorem dX2_find_11 : decode cX2_find 11 = .ok (.invokevirtual 43, 3) := by decide +kernel
theorem dX2_find_14 : decode cX2_find 14 = .ok (.istore_n 2, 1) := by decide +kernel
theorem dX2_find_15 : decode cX2_find 15 = .ok (.aload_n 0, 1) := by decide +kernel
theorem dX2_find_16 : decode cX2_find 16 = .ok (.iload_n 2, 1) := by decide +kernel
theorem dX2_find_17 : decode cX2_find 17 = .ok (.iconst 1, 1) := by decide +kernel
theorem dX2_find_18 : decode cX2_find 18 = .ok (.iadd, 1) := by decide +kernel
set_option maxRecDepth 20000 in
theorem ggX2_find_X2_startOf : GoodIn wsX2_find wsX2_startOf := goodIn_r _ [14, 2, 3, 15, 16, 17, 18, 19, 20, 21, 22, 23, 24, 25, 4, 5, 6, 7, 8, 9, 10, 1, 26, 27, 28, 29, 30, 31, 32, 33, 34, 35, 36, 37, 38, 39, 40, 41, 42, 43, 44, 45, 46, 47, 48] rfl (by decide +kernel)
set_option maxRecDepth 20000 in
theorem gX2_find_X2_startOf : GoodIn wsX2_find (wsV RX2 46 RX2 yX2_startOf wsX2_startOf) := goodIn_app (goodIn_of _ (by decide +kernel)) ggX2_find_X2_startOf
theorem dX2_find_19 : decode cX2_find 19 = .ok (.invokevirtual 46, 3) := by decide +kernel
theorem dX2_find_22 : decode cX2_find 22 = .ok (.istore_n 3, 1) := by decide +kernel
theorem dX2_find_23 : decode cX2_find 23 = .ok (.aload_n 0, 1) := by decide +kernel
theorem dX2_find_24 : decode cX2_find 24 = .ok (.iload_n 2, 1) := by decide +kernel
theorem dX2_find_25 : decode cX2_find 25 = .ok (.invokevirtual 46, 3) := by decide +kernel
theorem dX2_find_28 : decode cX2_find 28 = .ok (.istore 4, 2) := by decide +kernel
theorem dX2_find_30 : decode cX2_find 30 = .ok (.iload 4, 2) := by decide +kernel
theorem dX2_find_32 : decode cX2_find 32 = .ok (.iload_n 3, 1) := by decide +kernel
theorem dX2_find_33 : decode cX2_find 33 = .ok (.if_icmp .ge 25, 3) := by decide +kernel
theorem dX2_find_58 : decode cX2_find 58 = .ok (.iconst (-1), 1) := by decide +kernel
theorem dX2_find_59 : decode cX2_find 59 = .ok (.ireturn, 1) := by decide +kernel
theorem dX2_find_36 : decode cX2_find 36 = .ok (.aload_n 0, 1) := by decide +kernel
theorem dX2_find_37 : decode cX2_find 37 = .ok (.getfield 31, 3) := by decide +kernel
theorem dX2_find_40 : decode cX2_find 40 = .ok (.iload 4, 2) := by decide +kernel
set_option maxRecDepth 20000 in
theorem ggX2_find_X5_key : GoodIn wsX2_find wsX5_key := goodIn_r _ [24, 20, 25, 45, 46, 47, 48] rfl (by decide +kernel)
set_option maxRecDepth 20000 in
theorem gX2_find_X5_key : GoodIn wsX2_find (wsV RX2 39 RX5 yX5_key wsX5_key) := goodIn_app (goodIn_of _ (by decide +kernel)) ggX2_find_X5_key
theorem dX2_find_42 : decode cX2_find 42 = .ok (.invokevirtual 39, 3) := by decide +kernel
theorem dX2_find_45 : decode cX2_find 45 = .ok (.iload_n 1, 1) := by decide +kernel
theorem dX2_find_46 : decode cX2_find 46 = .ok (.if_icmp .ne 6, 3) := by decide +kernel
theorem dX2_find_52 : decode cX2_find 52 = .ok (.iinc 4 1, 3) := by decide +kernel
theorem dX2_find_55 : decode cX2_find 55 = .ok (.goto (-25), 3) := by decide +kernel
theorem dX2_find_49 : decode cX2_find 49 = .ok (.iload 4, 2) := by decide +kernel
theorem dX2_find_51 : decode cX2_find 51 = .ok (.ireturn, 1) := by decide +kernel
theorem dX2_find_7 : decode cX2_find 7 = .ok (.iconst (-1), 1) := by decide +kernel
theorem dX2_find_8 : decode cX2_find 8 = .ok (.ireturn, 1) := by decide +kernel
theorem dX2_setBushy_0 : decode cX2_setBushy 0 = .ok (.iload_n 1, 1) := by decide +kernel
theorem dX2_setBushy_1 : decode cX2_setBushy 1 = .ok (.ifCond .lt 19, 3) := by decide +kernel
theorem dX2_setBushy_20 : decode cX2_setBushy 20 = .ok (.return_, 1) := by decide +kernel
theorem dX2_setBushy_4 : decode cX2_setBushy 4 = .ok (.iload_n 1, 1) := by decide +kernel
theorem dX2_setBushy_5 : decode cX2_setBushy 5 = .ok (.aload_n 0, 1) := by decide +kernel
theorem dX2_setBushy_6 : decode cX2_setBushy 6 = .ok (.getfield 14, 3) := by decide +kernel
theorem dX2_setBushy_9 : decode cX2_setBushy 9 = .ok (.arraylength, 1) := by decide +kernel
theorem dX2_setBushy_10 : decode cX2_setBushy 10 = .ok (.if_icmp .ge 10, 3) := by decide +kernel
theorem dX2_setBushy_13 : decode cX2_setBushy 13 = .ok (.aload_n 0, 1) := by decide +kernel
theorem dX2_setBushy_14 : decode cX2_setBushy 14 = .ok (.getfield 14, 3) := by decide +kernel
theorem dX2_setBushy_17 : decode cX2_setBushy 17 = .ok (.iload_n 1, 1) := by decide +kernel
theorem dX2_setBushy_18 : decode cX2_setBushy 18 = .ok (.iload_n 2, 1) := by decide +kernel
theorem dX2_setBushy_19 : decode cX2_setBushy 19 = .ok (.bastore, 1) := by decide +kernel
set_option maxHeartbeats 4000000 in
set_option maxRecDepth 100000 in
/-- Hash.binOf -/
theorem c_X2_binOf (l : Launch) (dC : Nat → ClassId) (dI : Nat → Nat → Nat) (sz : Nat) (y0 : Nat) (ru : Int32) (p1 : Int32) (v0 : Value) (v1 : Value) (v2 : Value) (v3 : Value) (v6 : Value) (p0 : Int32) : Met l yX2_binOf wsX2_binOf ({ frames := 0, cells := 0, slots := 0, locals := 0 }) (va_Pc [.ref y0, .int p0] (pk_PreR (dC, dI) [(y0, .inr (3, [v0, v1, v2, v3, .int ru, .int p1, v6]))] [] sz)) (va_Qi (fun (_ : Int32) (_ : Unit) => True) (fun _ (t : State) => t.heap.size = sz) ro_A) 0 0 ro_A := by
  refine Met.ofW (cc := cX2_binOf) (maxL := 3) (ret := (some .int)) (by decide) rfl ?_
  intro p e s m args below meth c s₁ B hml hv
  obtain ⟨rfl, hsz, hP, hK⟩ := hv
  have hx := B.exec
  have hb := B.bytes
  have hr := B.returns
  have hts := atoms_spec (ws := wsX2_binOf) B.pre
  have hown : s.vm.findClass RX2 = some m.cls := findClass_of_methodNamed B.named
  have hlocks := B.notSynchronized
  subst hsz
  have hS : va_S ro_A s.heap s.heap [] := va_S.rf
  have hP : va_P (dC, dI) vwCl [(y0, .inr (3, [v0, v1, v2, v3, .int ru, .int p1, v6]))] s.heap := hP
  have hl := lv_entry ([.ref y0, .int p0]) (n := 3) (Nat.le_of_ble_eq_true rfl)
  rw [lg_entry_eq]
  generalize (lg_sl ([.ref y0, .int p0]) ++ List.replicate (3 - (lg_sl ([.ref y0, .int p0])).length) Slot.unset).toArray = ls at hl ⊢
  have hl : lv_has ls 3 [(0, .ref y0), (1, .int p0)] := hl
  have hw0_ := hts (.fieldLink RX2 24 "KeyAtlas$Hash" "rule" "I") (List.mem_of_getElem? (l := wsX2_binOf) (i := 1) rfl)
  have hw1_ := hts (.constant RX2 27 (-1640531527)) (List.mem_of_getElem? (l := wsX2_binOf) (i := 2) rfl)
  have hw2_ := hts (.fieldLink RX2 28 "KeyAtlas$Hash" "table" "I") (List.mem_of_getElem? (l := wsX2_binOf) (i := 3) rfl)
  have hi0_ : ∀ w ∈ u_ws RX2 TX2 7, w ∈ wsX2_binOf := fun w h => List.mem_cons_of_mem _ (List.mem_append_right _ h)
  refine lv_aload_n hx hb dX2_binOf_0 rfl (lv_at hl 0 rfl) ?_
  refine va_get (D := (dC, dI)) (ci := 3) (v := .int ru) (C := RX2) (T := TX2) (N := 7) hx hb hts hi0_ hown hK hP 0 rfl rfl 4 (by decide) hw0_ (fun _ h9 => h9) rfl dX2_binOf_1 ?_
  refine lv_if_ne (tgt := 11) hx hb dX2_binOf_4 (by decide) (fun c_1 => ?_) (fun c_1 => ?_)
  ·
    have ic_1 : ¬ ru.toInt = 0 := tx_ne rfl (by decide) c_1
    refine lv_aload_n hx hb dX2_binOf_11 rfl (lv_at hl 0 rfl) ?_
    refine va_get (D := (dC, dI)) (ci := 3) (v := .int ru) (C := RX2) (T := TX2) (N := 7) hx hb hts hi0_ hown hK hP 0 rfl rfl 4 (by decide) hw0_ (fun _ h9 => h9) rfl dX2_binOf_12 ?_
    refine lv_iconst (v := 1) hx hb dX2_binOf_15 (by decide) ?_
    refine lv_icmp_ne (tgt := 26) hx hb dX2_binOf_16 (by decide) (fun c_2 => ?_) (fun c_2 => ?_)
    ·
      have ic_2 : ¬ ru.toInt = 1 := tx_ne rfl (by decide) c_2
      refine lv_aload_n hx hb dX2_binOf_26 rfl (lv_at hl 0 rfl) ?_
      refine va_get (D := (dC, dI)) (ci := 3) (v := .int ru) (C := RX2) (T := TX2) (N := 7) hx hb hts hi0_ hown hK hP 0 rfl rfl 4 (by decide) hw0_ (fun _ h9 => h9) rfl dX2_binOf_27 ?_
      refine lv_iconst (v := 2) hx hb dX2_binOf_30 (by decide) ?_
      refine lv_icmp_ne (tgt := 39) hx hb dX2_binOf_31 (by decide) (fun c_3 => ?_) (fun c_3 => ?_)
      ·
        have ic_3 : ¬ ru.toInt = 2 := tx_ne rfl (by decide) c_3
        refine lv_iload_n hx hb dX2_binOf_39 rfl (lv_at hl 1 rfl) ?_
        refine lv_ldc (v := (-1640531527)) hx hb hown hw1_ dX2_binOf_40 ?_
        refine lv_imul hx hb dX2_binOf_42 ?_
        refine lv_istore_n (lv' := [(2, .int (p0 * (-1640531527))), (0, .ref y0), (1, .int p0)]) hx hb dX2_binOf_43 rfl hl (by decide) rfl (fun ls hl => ?_)
        refine lv_iload_n hx hb dX2_binOf_44 rfl (lv_at hl 0 rfl) ?_
        refine lv_iload_n hx hb dX2_binOf_45 rfl (lv_at hl 0 rfl) ?_
        refine lv_bipush (v := 16) hx hb dX2_binOf_46 (by decide) ?_
        refine lv_iushr (v := (Int32.toUInt32 (p0 * (-1640531527)) >>> (Int32.toUInt32 16 &&& Int32.toUInt32 31)).toInt32) hx hb dX2_binOf_48 rfl ?_
        refine lv_topi (fun z_4 ez_4 => ?_)
        refine lv_ixor hx hb dX2_binOf_49 ?_
        refine lv_aload_n hx hb dX2_binOf_50 rfl (lv_at hl 1 rfl) ?_
        refine va_get (D := (dC, dI)) (ci := 3) (v := .int p1) (C := RX2) (T := TX2) (N := 7) hx hb hts hi0_ hown hK hP 0 rfl rfl 5 (by decide) hw2_ (fun _ h9 => h9) rfl dX2_binOf_51 ?_
        refine lv_iconst (v := 1) hx hb dX2_binOf_54 (by decide) ?_
        refine lv_isub hx hb dX2_binOf_55 ?_
        refine lv_iand hx hb dX2_binOf_56 ?_
        refine W.widen (k := 0) (n := 0) (Nat.le_of_ble_eq_true rfl) (Nat.le_of_ble_eq_true rfl) ?_
        exact W.iret (v := ((p0 * (-1640531527)) ^^^ z_4) &&& (p1 - 1)) hx hb hr (fun t ht hW => ⟨⟨((p0 * (-1640531527)) ^^^ z_4) &&& (p1 - 1), (), rfl, trivial, congrArg Array.size ht⟩, hS.F ht⟩) hS.2.2 dX2_binOf_57
      ·
        have ic_3 : ru.toInt = 2 := tx_eq rfl (by decide) c_3
        refine lv_bipush (v := 7) hx hb dX2_binOf_34 (by decide) ?_
        refine lv_goto (tgt := 43) hx hb dX2_binOf_36 (by decide) ?_
        refine lv_istore_n (lv' := [(2, .int 7), (0, .ref y0), (1, .int p0)]) hx hb dX2_binOf_43 rfl hl (by decide) rfl (fun ls hl => ?_)
        refine lv_iload_n hx hb dX2_binOf_44 rfl (lv_at hl 0 rfl) ?_
        refine lv_iload_n hx hb dX2_binOf_45 rfl (lv_at hl 0 rfl) ?_
        refine lv_bipush (v := 16) hx hb dX2_binOf_46 (by decide) ?_
        refine lv_iushr (v := (Int32.toUInt32 7 >>> (Int32.toUInt32 16 &&& Int32.toUInt32 31)).toInt32) hx hb dX2_binOf_48 rfl ?_
        refine lv_topi (fun z_5 ez_5 => ?_)
        refine lv_ixor hx hb dX2_binOf_49 ?_
        refine lv_aload_n hx hb dX2_binOf_50 rfl (lv_at hl 1 rfl) ?_
        refine va_get (D := (dC, dI)) (ci := 3) (v := .int p1) (C := RX2) (T := TX2) (N := 7) hx hb hts hi0_ hown hK hP 0 rfl rfl 5 (by decide) hw2_ (fun _ h9 => h9) rfl dX2_binOf_51 ?_
        refine lv_iconst (v := 1) hx hb dX2_binOf_54 (by decide) ?_
        refine lv_isub hx hb dX2_binOf_55 ?_
        refine lv_iand hx hb dX2_binOf_56 ?_
        refine W.widen (k := 0) (n := 0) (Nat.le_of_ble_eq_true rfl) (Nat.le_of_ble_eq_true rfl) ?_
        exact W.iret (v := (7 ^^^ z_5) &&& (p1 - 1)) hx hb hr (fun t ht hW => ⟨⟨(7 ^^^ z_5) &&& (p1 - 1), (), rfl, trivial, congrArg Array.size ht⟩, hS.F ht⟩) hS.2.2 dX2_binOf_57
    ·
      have ic_2 : ru.toInt = 1 := tx_eq rfl (by decide) c_2
      refine lv_iload_n hx hb dX2_binOf_19 rfl (lv_at hl 1 rfl) ?_
      refine lv_bipush (v := 15) hx hb dX2_binOf_20 (by decide) ?_
      refine lv_iand hx hb dX2_binOf_22 ?_
      refine lv_goto (tgt := 43) hx hb dX2_binOf_23 (by decide) ?_
      refine lv_istore_n (lv' := [(2, .int (p0 &&& 15)), (0, .ref y0), (1, .int p0)]) hx hb dX2_binOf_43 rfl hl (by decide) rfl (fun ls hl => ?_)
      refine lv_iload_n hx hb dX2_binOf_44 rfl (lv_at hl 0 rfl) ?_
      refine lv_iload_n hx hb dX2_binOf_45 rfl (lv_at hl 0 rfl) ?_
      refine lv_bipush (v := 16) hx hb dX2_binOf_46 (by decide) ?_
      refine lv_iushr (v := (Int32.toUInt32 (p0 &&& 15) >>> (Int32.toUInt32 16 &&& Int32.toUInt32 31)).toInt32) hx hb dX2_binOf_48 rfl ?_
      refine lv_topi (fun z_6 ez_6 => ?_)
      refine lv_ixor hx hb dX2_binOf_49 ?_
      refine lv_aload_n hx hb dX2_binOf_50 rfl (lv_at hl 1 rfl) ?_
      refine va_get (D := (dC, dI)) (ci := 3) (v := .int p1) (C := RX2) (T := TX2) (N := 7) hx hb hts hi0_ hown hK hP 0 rfl rfl 5 (by decide) hw2_ (fun _ h9 => h9) rfl dX2_binOf_51 ?_
      refine lv_iconst (v := 1) hx hb dX2_binOf_54 (by decide) ?_
      refine lv_isub hx hb dX2_binOf_55 ?_
      refine lv_iand hx hb dX2_binOf_56 ?_
      refine W.widen (k := 0) (n := 0) (Nat.le_of_ble_eq_true rfl) (Nat.le_of_ble_eq_true rfl) ?_
      exact W.iret (v := ((p0 &&& 15) ^^^ z_6) &&& (p1 - 1)) hx hb hr (fun t ht hW => ⟨⟨((p0 &&& 15) ^^^ z_6) &&& (p1 - 1), (), rfl, trivial, congrArg Array.size ht⟩, hS.F ht⟩) hS.2.2 dX2_binOf_57
  ·
    have ic_1 : ru.toInt = 0 := tx_eq rfl (by decide) c_1
    refine lv_iload_n hx hb dX2_binOf_7 rfl (lv_at hl 1 rfl) ?_
    refine lv_goto (tgt := 43) hx hb dX2_binOf_8 (by decide) ?_
    refine lv_istore_n (lv' := [(2, .int p0), (0, .ref y0), (1, .int p0)]) hx hb dX2_binOf_43 rfl hl (by decide) rfl (fun ls hl => ?_)
    refine lv_iload_n hx hb dX2_binOf_44 rfl (lv_at hl 0 rfl) ?_
    refine lv_iload_n hx hb dX2_binOf_45 rfl (lv_at hl 0 rfl) ?_
    refine lv_bipush (v := 16) hx hb dX2_binOf_46 (by decide) ?_
    refine lv_iushr (v := (Int32.toUInt32 p0 >>> (Int32.toUInt32 16 &&& Int32.toUInt32 31)).toInt32) hx hb dX2_binOf_48 rfl ?_
    refine lv_topi (fun z_7 ez_7 => ?_)
    refine lv_ixor hx hb dX2_binOf_49 ?_
    refine lv_aload_n hx hb dX2_binOf_50 rfl (lv_at hl 1 rfl) ?_
    refine va_get (D := (dC, dI)) (ci := 3) (v := .int p1) (C := RX2) (T := TX2) (N := 7) hx hb hts hi0_ hown hK hP 0 rfl rfl 5 (by decide) hw2_ (fun _ h9 => h9) rfl dX2_binOf_51 ?_
    refine lv_iconst (v := 1) hx hb dX2_binOf_54 (by decide) ?_
    refine lv_isub hx hb dX2_binOf_55 ?_
    refine lv_iand hx hb dX2_binOf_56 ?_
    refine W.widen (k := 0) (n := 0) (Nat.le_of_ble_eq_true rfl) (Nat.le_of_ble_eq_true rfl) ?_
    exact W.iret (v := (p0 ^^^ z_7) &&& (p1 - 1)) hx hb hr (fun t ht hW => ⟨⟨(p0 ^^^ z_7) &&& (p1 - 1), (), rfl, trivial, congrArg Array.size ht⟩, hS.F ht⟩) hS.2.2 dX2_binOf_57
set_option maxHeartbeats 4000000 in
set_option maxRecDepth 100000 in
/-- Hash.startOf -/
theorem c_X2_startOf (l : Launch) (dC : Nat → ClassId) (dI : Nat → Nat → Nat) (sz : Nat) (y0 : Nat) (kd : Int32) (wh : Int32) (cap : Nat) (ru : Int32) (tb : Nat) (b0 : Nat) (cb : ClassId) (bf : Nat → Int32) (x0 : Nat) (k0 : Nat) (w0 : Nat) (ck : ClassId) (cw : ClassId) (L : Nat) (f : Nat → Int32) (g : Nat → Int32) (nz : Nat) (ch : Int32) (p0 : Int32) (hR9 : rOK L nz) : Met l yX2_startOf wsX2_startOf ({ frames := 1, cells := 0, slots := 0, locals := 40 }) (va_Pc [.ref y0, .int p0] (pk_PreR (dC, dI) [(y0, .inr (3, [.ref x0, .int kd, .int wh, .int (nI cap), .int ru, .int (nI tb), .ref b0])), (x0, .inr (5, [.ref k0, .ref w0, .int (nI nz), .int ch])), (k0, .inl (ck, L, .inl f)), (w0, .inl (cw, L, .inl g)), (b0, .inl (cb, tb, .inl bf))] [(ck, .int), (cw, .int), (cb, .boolean)] sz)) (va_Qi (fun (x : Int32) (u : Unit) => ∃ k : Nat, k ≤ nz ∧ x = nI k) (fun _ (t : State) => t.heap.size = sz) ro_A) 0 0 ro_A := by
  refine Met.ofW (cc := cX2_startOf) (maxL := 6) (ret := (some .int)) (by decide) rfl ?_
  intro p e s m args below meth c s₁ B hml hv
  obtain ⟨rfl, hsz, hP, hK⟩ := hv
  have hx := B.exec
  have hb := B.bytes
  have hr := B.returns
  have hts := atoms_spec (ws := wsX2_startOf) B.pre
  have hown : s.vm.findClass RX2 = some m.cls := findClass_of_methodNamed B.named
  have hlocks := B.notSynchronized
  subst hsz
  have hS : va_S ro_A s.heap s.heap [] := va_S.rf
  have hP : va_P (dC, dI) vwCl [(y0, .inr (3, [.ref x0, .int kd, .int wh, .int (nI cap), .int ru, .int (nI tb), .ref b0])), (x0, .inr (5, [.ref k0, .ref w0, .int (nI nz), .int ch])), (k0, .inl (ck, L, .inl f)), (w0, .inl (cw, L, .inl g)), (b0, .inl (cb, tb, .inl bf))] s.heap := hP
  have hl := lv_entry ([.ref y0, .int p0]) (n := 6) (Nat.le_of_ble_eq_true rfl)
  rw [lg_entry_eq]
  generalize (lg_sl ([.ref y0, .int p0]) ++ List.replicate (6 - (lg_sl ([.ref y0, .int p0])).length) Slot.unset).toArray = ls at hl ⊢
  have hl : lv_has ls 6 [(0, .ref y0), (1, .int p0)] := hl
  have hw0_ := hts (.fieldLink RX2 31 "KeyAtlas$Hash" "rows" "LKeyAtlas$Rows;") (List.mem_of_getElem? (l := wsX2_startOf) (i := 1) rfl)
  have hw1_ := hts (.sameField "KeyAtlas$Hash" "KeyAtlas$Keyed" "rows" "LKeyAtlas$Rows;") (List.mem_of_getElem? (l := wsX2_startOf) (i := 2) rfl)
  have hi0_ : ∀ w ∈ u_ws RX2 TX2 7, w ∈ wsX2_startOf := fun w h => List.mem_cons_of_mem _ (List.mem_append_left _ (List.mem_append_left _ (List.mem_append_left _ (List.mem_append_right _ h))))
  obtain ⟨hL1, hL2, hz1, hz2⟩ := id hR9
  refine lv_iconst (v := 0) hx hb dX2_startOf_0 (by decide) ?_
  refine lv_istore_n (lv' := [(2, .int 0), (0, .ref y0), (1, .int p0)]) hx hb dX2_startOf_1 rfl hl (by decide) rfl (fun ls hl => ?_)
  refine lv_aload_n hx hb dX2_startOf_2 rfl (lv_at hl 1 rfl) ?_
  refine va_get (D := (dC, dI)) (ci := 3) (v := .ref x0) (C := RX2) (T := TX2) (N := 7) hx hb hts hi0_ hown hK hP 0 rfl rfl 0 (by decide) hw0_ (u_same hw1_) rfl dX2_startOf_3 ?_
  have hPc := hP.sub (ws' := [(x0, .inr (5, [.ref k0, .ref w0, .int (nI nz), .int ch]))]) [1] rfl
  have hKc := hK.sub (tys' := []) [] rfl
  refine ro_calli (va_runV (As := []) (rest := []) ⟨hx, hb, hml, hown, hts⟩ (c_X5_size l  dC dI s.heap.size x0 (nI nz) (.ref k0) (.ref w0) (.int ch)) (cwV 0 hts gX2_startOf_X5_size rfl rfl rfl (by decide +kernel) ⟨(Nat.le_of_ble_eq_true rfl), (Nat.le_of_ble_eq_true rfl)⟩) ⟨pk_blindR, va_recv hKc hPc (ci := 5) (q0 := 0) rfl rfl, pk_callR hPc hKc⟩ rfl rfl hl.1 rfl (lv_room (Nat.le_of_ble_eq_true rfl)) dX2_startOf_6 ⟨(Nat.le_of_ble_eq_true rfl), (Nat.le_of_ble_eq_true rfl)⟩) (fun r_1 ur_1 hw => ?_)
  clear hPc hKc
  try dsimp only at hw
  obtain rfl : r_1 = nI nz := hw
  refine W.eq (g2 := F0 m 9 ls [.int (nI nz)]) rfl ?_
  refine lv_istore_n (lv' := [(3, .int (nI nz)), (2, .int 0), (0, .ref y0), (1, .int p0)]) hx hb dX2_startOf_9 rfl hl (by decide) rfl (fun ls hl => ?_)
  refine lv_iconst (v := 0) hx hb dX2_startOf_10 (by decide) ?_
  refine lv_istore (lv' := [(4, .int 0), (3, .int (nI nz)), (2, .int 0), (0, .ref y0), (1, .int p0)]) hx hb dX2_startOf_11 hl (by decide) rfl (fun ls hl => ?_)
  obtain ⟨i4, es_i4⟩ : ∃ z : Nat, z = 0 := ⟨_, rfl⟩
  obtain ⟨x4, ex4⟩ : ∃ y : Int32, y = nI i4 := ⟨_, rfl⟩
  obtain ⟨e2, es_e2⟩ : ∃ z : Nat, z = 0 := ⟨_, rfl⟩
  obtain ⟨x2, ex2⟩ : ∃ y : Int32, y = nI e2 := ⟨_, rfl⟩
  obtain ⟨e3, es_e3⟩ : ∃ z : Nat, z = nz := ⟨_, rfl⟩
  obtain ⟨x3, ex3⟩ : ∃ y : Int32, y = nI e3 := ⟨_, rfl⟩
  obtain ⟨n9, en9⟩ : ∃ n : Nat, n = 33 := ⟨_, rfl⟩
  replace hl : lv_has ls 6 [(4, .int x4), (3, .int x3), (2, .int x2), (0, .ref y0), (1, .int p0)] := by subst ex4; subst es_i4; subst ex2; subst es_e2; subst ex3; subst es_e3; exact hl
  have hi4 : i4 ≤ 32 := by subst ex4; subst es_i4; subst ex2; subst es_e2; subst ex3; subst es_e3; subst en9; exact by omega
  have hn4 : 33 ≤ i4 + n9 := by subst ex4; subst es_i4; subst ex2; subst es_e2; subst ex3; subst es_e3; subst en9; exact by omega
  have he2 : e2 ≤ nz := by subst ex4; subst es_i4; subst ex2; subst es_e2; subst ex3; subst es_e3; subst en9; exact by omega
  have he3 : e3 ≤ nz := by subst ex4; subst es_i4; subst ex2; subst es_e2; subst ex3; subst es_e3; subst en9; exact by omega
  clear en9 es_i4 es_e2 es_e3
  induction n9 generalizing i4 x4 e2 x2 e3 x3 ls with
  | zero => exact absurd hn4 (by omega)
  | succ n9 ih =>
    subst ex4
    subst ex2
    subst ex3
    refine lv_iload hx hb dX2_startOf_13 (lv_at hl 0 rfl) ?_
    refine lv_bipush (v := 32) hx hb dX2_startOf_15 (by decide) ?_
    refine lv_icmp_ge (tgt := 66) hx hb dX2_startOf_17 (by decide) (fun c_2 => ?_) (fun c_2 => ?_)
    ·
      have ic_2 : 32 ≤ ((i4 : Nat) : Int) := tx_le (by decide) (nI_toInt (by omega)) c_2
      refine lv_iload_n hx hb dX2_startOf_66 rfl (lv_at hl 2 rfl) ?_
      refine W.widen (k := 0) (n := 0) (Nat.le_of_ble_eq_true rfl) (Nat.le_of_ble_eq_true rfl) ?_
      exact W.iret (v := nI e2) hx hb hr (fun t ht hW => ⟨⟨nI e2, (), rfl, ⟨e2, he2, rfl⟩, congrArg Array.size ht⟩, hS.F ht⟩) hS.2.2 dX2_startOf_67
    ·
      have ic_2 : ((i4 : Nat) : Int) < 32 := tx_nle (by decide) (nI_toInt (by omega)) c_2
      refine lv_iload_n hx hb dX2_startOf_20 rfl (lv_at hl 2 rfl) ?_
      refine lv_iload_n hx hb dX2_startOf_21 rfl (lv_at hl 1 rfl) ?_
      refine lv_icmp_ge (tgt := 66) hx hb dX2_startOf_22 (by decide) (fun c_3 => ?_) (fun c_3 => ?_)
      ·
        have ic_3 : ((e3 : Nat) : Int) ≤ ((e2 : Nat) : Int) := tx_le (nI_toInt (by omega)) (nI_toInt (by omega)) c_3
        refine lv_iload_n hx hb dX2_startOf_66 rfl (lv_at hl 2 rfl) ?_
        refine W.widen (k := 0) (n := 0) (Nat.le_of_ble_eq_true rfl) (Nat.le_of_ble_eq_true rfl) ?_
        exact W.iret (v := nI e2) hx hb hr (fun t ht hW => ⟨⟨nI e2, (), rfl, ⟨e2, he2, rfl⟩, congrArg Array.size ht⟩, hS.F ht⟩) hS.2.2 dX2_startOf_67
      ·
        have ic_3 : ((e2 : Nat) : Int) < ((e3 : Nat) : Int) := tx_nle (nI_toInt (by omega)) (nI_toInt (by omega)) c_3
        refine lv_iload_n hx hb dX2_startOf_25 rfl (lv_at hl 2 rfl) ?_
        refine lv_iload_n hx hb dX2_startOf_26 rfl (lv_at hl 1 rfl) ?_
        refine lv_iadd hx hb dX2_startOf_27 ?_
        refine lv_topi (fun z_4 ez_4 => ?_)
        obtain rfl : z_4 = nI (e2 + e3) := ez_4.trans (by rw [nI_add])
        refine lv_iconst (v := 2) hx hb dX2_startOf_28 (by decide) ?_
        refine lv_idiv hx hb dX2_startOf_29 (by decide) ?_
        refine lv_topi (fun z_5 ez_5 => ?_)
        obtain rfl : z_5 = nI ((e2 + e3) / 2) := ez_5.trans (by rw [show (2 : Int32) = nI 2 from rfl]; exact pk_div (by omega) (by omega) (by omega))
        refine lv_istore (lv' := [(5, .int (nI ((e2 + e3) / 2))), (4, .int (nI i4)), (3, .int (nI e3)), (2, .int (nI e2)), (0, .ref y0), (1, .int p0)]) hx hb dX2_startOf_30 hl (by decide) rfl (fun ls hl => ?_)
        refine lv_aload_n hx hb dX2_startOf_32 rfl (lv_at hl 4 rfl) ?_
        refine lv_aload_n hx hb dX2_startOf_33 rfl (lv_at hl 4 rfl) ?_
        refine va_get (D := (dC, dI)) (ci := 3) (v := .ref x0) (C := RX2) (T := TX2) (N := 7) hx hb hts hi0_ hown hK hP 0 rfl rfl 0 (by decide) hw0_ (u_same hw1_) rfl dX2_startOf_34 ?_
        refine lv_iload hx hb dX2_startOf_37 (lv_at hl 0 rfl) ?_
        have hPc := hP.sub (ws' := [(x0, .inr (5, [.ref k0, .ref w0, .int (nI nz), .int ch])), (k0, .inl (ck, L, .inl f)), (w0, .inl (cw, L, .inl g))]) [1, 2, 3] rfl
        have hKc := hK.sub (tys' := [(ck, .int), (cw, .int)]) [0, 1] rfl
        refine ro_calli (va_runV (As := [.int (nI ((e2 + e3) / 2))]) (rest := [.ref y0]) ⟨hx, hb, hml, hown, hts⟩ (c_X5_key l  dC dI s.heap.size x0 k0 w0 ck cw L f g nz ch (nI ((e2 + e3) / 2)) hR9) (cwV 1 hts gX2_startOf_X5_key rfl rfl rfl (by decide +kernel) ⟨(Nat.le_of_ble_eq_true rfl), (Nat.le_of_ble_eq_true rfl)⟩) ⟨pk_blindR, va_recv hKc hPc (ci := 5) (q0 := 0) rfl rfl, pk_callR hPc hKc⟩ rfl rfl hl.1 rfl (lv_room (Nat.le_of_ble_eq_true rfl)) dX2_startOf_39 ⟨(Nat.le_of_ble_eq_true rfl), (Nat.le_of_ble_eq_true rfl)⟩) (fun r_6 ur_6 hw => ?_)
        clear hPc hKc
        try dsimp only at hw
        have jr_6 := hw
        refine W.eq (g2 := F0 m 42 ls [.int r_6, .ref y0]) rfl ?_
        have hPc := hP.sub (ws' := [(y0, .inr (3, [.ref x0, .int kd, .int wh, .int (nI cap), .int ru, .int (nI tb), .ref b0]))]) [0] rfl
        have hKc := hK.sub (tys' := []) [] rfl
        refine ro_calli (va_runV (As := [.int r_6]) (rest := []) ⟨hx, hb, hml, hown, hts⟩ (c_X2_binOf l  dC dI s.heap.size y0 ru (nI tb) (.ref x0) (.int kd) (.int wh) (.int (nI cap)) (.ref b0) r_6) (cwV 1 hts gX2_startOf_X2_binOf rfl rfl rfl (by decide +kernel) ⟨(Nat.le_of_ble_eq_true rfl), (Nat.le_of_ble_eq_true rfl)⟩) ⟨pk_blindR, va_recv hKc hPc (ci := 3) (q0 := 0) rfl rfl, pk_callR hPc hKc⟩ rfl rfl hl.1 rfl (lv_room (Nat.le_of_ble_eq_true rfl)) dX2_startOf_42 ⟨(Nat.le_of_ble_eq_true rfl), (Nat.le_of_ble_eq_true rfl)⟩) (fun r_7 ur_7 hw => ?_)
        clear hPc hKc
        try dsimp only at hw
        have jr_7 := hw
        refine W.eq (g2 := F0 m 45 ls [.int r_7]) rfl ?_
        refine lv_iload_n hx hb dX2_startOf_45 rfl (lv_at hl 5 rfl) ?_
        refine lv_icmp_ge (tgt := 57) hx hb dX2_startOf_46 (by decide) (fun c_8 => ?_) (fun c_8 => ?_)
        ·
          have ic_8 : p0.toInt ≤ r_7.toInt := tx_le rfl rfl c_8
          refine lv_iload hx hb dX2_startOf_57 (lv_at hl 0 rfl) ?_
          refine lv_istore_n (lv' := [(3, .int (nI ((e2 + e3) / 2))), (5, .int (nI ((e2 + e3) / 2))), (4, .int (nI i4)), (2, .int (nI e2)), (0, .ref y0), (1, .int p0)]) hx hb dX2_startOf_59 rfl hl (by decide) rfl (fun ls hl => ?_)
          refine lv_iinc (v := nI (i4 + 1)) (lv' := [(4, .int (nI (i4 + 1))), (3, .int (nI ((e2 + e3) / 2))), (5, .int (nI ((e2 + e3) / 2))), (2, .int (nI e2)), (0, .ref y0), (1, .int p0)]) hx hb dX2_startOf_60 hl (k := 2) rfl (by rw [show Int32.ofInt 1 = nI 1 from rfl, nI_add]) (by decide) rfl (fun ls hl => ?_)
          refine lv_goto (tgt := 13) hx hb dX2_startOf_63 (by decide) ?_
          exact ih (i4 := i4 + 1) (x4 := nI (i4 + 1)) (ex4 := rfl) (e2 := e2) (x2 := nI e2) (ex2 := rfl) (e3 := (e2 + e3) / 2) (x3 := nI ((e2 + e3) / 2)) (ex3 := rfl) (ls := ls) (hi4 := by omega) (hn4 := by omega) (he2 := by omega) (he3 := by omega) (hl := lv_sub hl [0, 1, 3, 4, 5] rfl)
        ·
          have ic_8 : r_7.toInt < p0.toInt := tx_nle rfl rfl c_8
          refine lv_iload hx hb dX2_startOf_49 (lv_at hl 0 rfl) ?_
          refine lv_iconst (v := 1) hx hb dX2_startOf_51 (by decide) ?_
          refine lv_iadd hx hb dX2_startOf_52 ?_
          refine lv_topi (fun z_9 ez_9 => ?_)
          obtain rfl : z_9 = nI (((e2 + e3) / 2) + 1) := ez_9.trans (by rw [show (1 : Int32) = nI 1 from rfl, nI_add])
          refine lv_istore_n (lv' := [(2, .int (nI (((e2 + e3) / 2) + 1))), (5, .int (nI ((e2 + e3) / 2))), (4, .int (nI i4)), (3, .int (nI e3)), (0, .ref y0), (1, .int p0)]) hx hb dX2_startOf_53 rfl hl (by decide) rfl (fun ls hl => ?_)
          refine lv_goto (tgt := 60) hx hb dX2_startOf_54 (by decide) ?_
          refine lv_iinc (v := nI (i4 + 1)) (lv' := [(4, .int (nI (i4 + 1))), (2, .int (nI (((e2 + e3) / 2) + 1))), (5, .int (nI ((e2 + e3) / 2))), (3, .int (nI e3)), (0, .ref y0), (1, .int p0)]) hx hb dX2_startOf_60 hl (k := 2) rfl (by rw [show Int32.ofInt 1 = nI 1 from rfl, nI_add]) (by decide) rfl (fun ls hl => ?_)
          refine lv_goto (tgt := 13) hx hb dX2_startOf_63 (by decide) ?_
          exact ih (i4 := i4 + 1) (x4 := nI (i4 + 1)) (ex4 := rfl) (e2 := ((e2 + e3) / 2) + 1) (x2 := nI (((e2 + e3) / 2) + 1)) (ex2 := rfl) (e3 := e3) (x3 := nI e3) (ex3 := rfl) (ls := ls) (hi4 := by omega) (hn4 := by omega) (he2 := by omega) (he3 := by omega) (hl := lv_sub hl [0, 3, 1, 4, 5] rfl)
set_option maxHeartbeats 4000000 in
set_option maxRecDepth 100000 in
/-- Hash.howManyIn -/
theorem c_X2_howManyIn (l : Launch) (dC : Nat → ClassId) (dI : Nat → Nat → Nat) (sz : Nat) (y0 : Nat) (kd : Int32) (wh : Int32) (cap : Nat) (ru : Int32) (tb : Nat) (b0 : Nat) (cb : ClassId) (bf : Nat → Int32) (x0 : Nat) (k0 : Nat) (w0 : Nat) (ck : ClassId) (cw : ClassId) (L : Nat) (f : Nat → Int32) (g : Nat → Int32) (nz : Nat) (ch : Int32) (p0 : Int32) (hR9 : rOK L nz) : Met l yX2_howManyIn wsX2_howManyIn ({ frames := 2, cells := 0, slots := 0, locals := 80 }) (va_Pc [.ref y0, .int p0] (pk_PreR (dC, dI) [(y0, .inr (3, [.ref x0, .int kd, .int wh, .int (nI cap), .int ru, .int (nI tb), .ref b0])), (x0, .inr (5, [.ref k0, .ref w0, .int (nI nz), .int ch])), (k0, .inl (ck, L, .inl f)), (w0, .inl (cw, L, .inl g)), (b0, .inl (cb, tb, .inl bf))] [(ck, .int), (cw, .int), (cb, .boolean)] sz)) (va_Qi (fun (x : Int32) (u : Unit) => x.toInt ≤ nz) (fun _ (t : State) => t.heap.size = sz) ro_A) 0 0 ro_A := by
  refine Met.ofW (cc := cX2_howManyIn) (maxL := 2) (ret := (some .int)) (by decide) rfl ?_
  intro p e s m args below meth c s₁ B hml hv
  obtain ⟨rfl, hsz, hP, hK⟩ := hv
  have hx := B.exec
  have hb := B.bytes
  have hr := B.returns
  have hts := atoms_spec (ws := wsX2_howManyIn) B.pre
  have hown : s.vm.findClass RX2 = some m.cls := findClass_of_methodNamed B.named
  have hlocks := B.notSynchronized
  subst hsz
  have hS : va_S ro_A s.heap s.heap [] := va_S.rf
  have hP : va_P (dC, dI) vwCl [(y0, .inr (3, [.ref x0, .int kd, .int wh, .int (nI cap), .int ru, .int (nI tb), .ref b0])), (x0, .inr (5, [.ref k0, .ref w0, .int (nI nz), .int ch])), (k0, .inl (ck, L, .inl f)), (w0, .inl (cw, L, .inl g)), (b0, .inl (cb, tb, .inl bf))] s.heap := hP
  have hl := lv_entry ([.ref y0, .int p0]) (n := 2) (Nat.le_of_ble_eq_true rfl)
  rw [lg_entry_eq]
  generalize (lg_sl ([.ref y0, .int p0]) ++ List.replicate (2 - (lg_sl ([.ref y0, .int p0])).length) Slot.unset).toArray = ls at hl ⊢
  have hl : lv_has ls 2 [(0, .ref y0), (1, .int p0)] := hl

  obtain ⟨hL1, hL2, hz1, hz2⟩ := id hR9
  refine lv_aload_n hx hb dX2_howManyIn_0 rfl (lv_at hl 0 rfl) ?_
  refine lv_iload_n hx hb dX2_howManyIn_1 rfl (lv_at hl 1 rfl) ?_
  refine lv_iconst (v := 1) hx hb dX2_howManyIn_2 (by decide) ?_
  refine lv_iadd hx hb dX2_howManyIn_3 ?_
  have hPc := hP.sub (ws' := [(y0, .inr (3, [.ref x0, .int kd, .int wh, .int (nI cap), .int ru, .int (nI tb), .ref b0])), (x0, .inr (5, [.ref k0, .ref w0, .int (nI nz), .int ch])), (k0, .inl (ck, L, .inl f)), (w0, .inl (cw, L, .inl g)), (b0, .inl (cb, tb, .inl bf))]) [0, 1, 2, 3, 4] rfl
  have hKc := hK.sub (tys' := [(ck, .int), (cw, .int), (cb, .boolean)]) [0, 1, 2] rfl
  refine ro_calli (va_runV (As := [.int (p0 + 1)]) (rest := []) ⟨hx, hb, hml, hown, hts⟩ (c_X2_startOf l  dC dI s.heap.size y0 kd wh cap ru tb b0 cb bf x0 k0 w0 ck cw L f g nz ch (p0 + 1) hR9) (cwV 1 hts gX2_howManyIn_X2_startOf rfl rfl rfl (by decide +kernel) ⟨(Nat.le_of_ble_eq_true rfl), (Nat.le_of_ble_eq_true rfl)⟩) ⟨pk_blindR, va_recv hKc hPc (ci := 3) (q0 := 0) rfl rfl, pk_callR hPc hKc⟩ rfl rfl hl.1 rfl (lv_room (Nat.le_of_ble_eq_true rfl)) dX2_howManyIn_4 ⟨(Nat.le_of_ble_eq_true rfl), (Nat.le_of_ble_eq_true rfl)⟩) (fun r_1 ur_1 hw => ?_)
  clear hPc hKc
  try dsimp only at hw
  have jr_1 := hw
  obtain ⟨ka, hka, rfl⟩ := jr_1
  refine W.eq (g2 := F0 m 7 ls [.int (nI ka)]) rfl ?_
  refine lv_aload_n hx hb dX2_howManyIn_7 rfl (lv_at hl 0 rfl) ?_
  refine lv_iload_n hx hb dX2_howManyIn_8 rfl (lv_at hl 1 rfl) ?_
  have hPc := hP.sub (ws' := [(y0, .inr (3, [.ref x0, .int kd, .int wh, .int (nI cap), .int ru, .int (nI tb), .ref b0])), (x0, .inr (5, [.ref k0, .ref w0, .int (nI nz), .int ch])), (k0, .inl (ck, L, .inl f)), (w0, .inl (cw, L, .inl g)), (b0, .inl (cb, tb, .inl bf))]) [0, 1, 2, 3, 4] rfl
  have hKc := hK.sub (tys' := [(ck, .int), (cw, .int), (cb, .boolean)]) [0, 1, 2] rfl
  refine ro_calli (va_runV (As := [.int p0]) (rest := [.int (nI ka)]) ⟨hx, hb, hml, hown, hts⟩ (c_X2_startOf l  dC dI s.heap.size y0 kd wh cap ru tb b0 cb bf x0 k0 w0 ck cw L f g nz ch p0 hR9) (cwV 1 hts gX2_howManyIn_X2_startOf rfl rfl rfl (by decide +kernel) ⟨(Nat.le_of_ble_eq_true rfl), (Nat.le_of_ble_eq_true rfl)⟩) ⟨pk_blindR, va_recv hKc hPc (ci := 3) (q0 := 0) rfl rfl, pk_callR hPc hKc⟩ rfl rfl hl.1 rfl (lv_room (Nat.le_of_ble_eq_true rfl)) dX2_howManyIn_9 ⟨(Nat.le_of_ble_eq_true rfl), (Nat.le_of_ble_eq_true rfl)⟩) (fun r_2 ur_2 hw => ?_)
  clear hPc hKc
  try dsimp only at hw
  have jr_2 := hw
  obtain ⟨kb, hkb, rfl⟩ := jr_2
  refine W.eq (g2 := F0 m 12 ls [.int (nI kb), .int (nI ka)]) rfl ?_
  refine lv_isub hx hb dX2_howManyIn_12 ?_
  refine lv_topi (fun z_ ez_ => ?_)
  obtain rfl : z_ = nI ka - nI kb := ez_.trans (rfl)
  refine W.widen (k := 0) (n := 0) (Nat.le_of_ble_eq_true rfl) (Nat.le_of_ble_eq_true rfl) ?_
  exact W.iret (v := nI ka - nI kb) hx hb hr (fun t ht hW => ⟨⟨nI ka - nI kb, (), rfl, by show (nI ka - nI kb).toInt ≤ nz; rw [pk_sub_toInt (by omega) (by omega)]; omega, congrArg Array.size ht⟩, hS.F ht⟩) hS.2.2 dX2_howManyIn_13
set_option maxHeartbeats 4000000 in
set_option maxRecDepth 100000 in
/-- Hash.find -/
theorem c_X2_find (l : Launch) (dC : Nat → ClassId) (dI : Nat → Nat → Nat) (sz : Nat) (y0 : Nat) (kd : Int32) (wh : Int32) (cap : Nat) (ru : Int32) (tb : Nat) (b0 : Nat) (cb : ClassId) (bf : Nat → Int32) (x0 : Nat) (k0 : Nat) (w0 : Nat) (ck : ClassId) (cw : ClassId) (L : Nat) (f : Nat → Int32) (g : Nat → Int32) (nz : Nat) (ch : Int32) (p0 : Int32) (hR9 : rOK L nz) (htb : tb ≤ 2048) : Met l yX2_find wsX2_find ({ frames := 2, cells := 0, slots := 0, locals := 80 }) (va_Pc [.ref y0, .int p0] (pk_PreR (dC, dI) [(y0, .inr (3, [.ref x0, .int kd, .int wh, .int (nI cap), .int ru, .int (nI tb), .ref b0])), (x0, .inr (5, [.ref k0, .ref w0, .int (nI nz), .int ch])), (k0, .inl (ck, L, .inl f)), (w0, .inl (cw, L, .inl g)), (b0, .inl (cb, tb, .inl bf))] [(ck, .int), (cw, .int), (cb, .boolean)] sz)) (va_Qi (fun (x : Int32) (u : Unit) => x = -1 ∨ ∃ k : Nat, k < nz ∧ x = nI k) (fun _ (t : State) => t.heap.size = sz) ro_A) 0 0 ro_A := by
  refine Met.ofW (cc := cX2_find) (maxL := 5) (ret := (some .int)) (by decide) rfl ?_
  intro p e s m args below meth c s₁ B hml hv
  obtain ⟨rfl, hsz, hP, hK⟩ := hv
  have hx := B.exec
  have hb := B.bytes
  have hr := B.returns
  have hts := atoms_spec (ws := wsX2_find) B.pre
  have hown : s.vm.findClass RX2 = some m.cls := findClass_of_methodNamed B.named
  have hlocks := B.notSynchronized
  subst hsz
  have hS : va_S ro_A s.heap s.heap [] := va_S.rf
  have hP : va_P (dC, dI) vwCl [(y0, .inr (3, [.ref x0, .int kd, .int wh, .int (nI cap), .int ru, .int (nI tb), .ref b0])), (x0, .inr (5, [.ref k0, .ref w0, .int (nI nz), .int ch])), (k0, .inl (ck, L, .inl f)), (w0, .inl (cw, L, .inl g)), (b0, .inl (cb, tb, .inl bf))] s.heap := hP
  have hl := lv_entry ([.ref y0, .int p0]) (n := 5) (Nat.le_of_ble_eq_true rfl)
  rw [lg_entry_eq]
  generalize (lg_sl ([.ref y0, .int p0]) ++ List.replicate (5 - (lg_sl ([.ref y0, .int p0])).length) Slot.unset).toArray = ls at hl ⊢
  have hl : lv_has ls 5 [(0, .ref y0), (1, .int p0)] := hl
  have hw0_ := hts (.fieldLink RX2 28 "KeyAtlas$Hash" "table" "I") (List.mem_of_getElem? (l := wsX2_find) (i := 1) rfl)
  have hw1_ := hts (.fieldLink RX2 31 "KeyAtlas$Hash" "rows" "LKeyAtlas$Rows;") (List.mem_of_getElem? (l := wsX2_find) (i := 2) rfl)
  have hw2_ := hts (.sameField "KeyAtlas$Hash" "KeyAtlas$Keyed" "rows" "LKeyAtlas$Rows;") (List.mem_of_getElem? (l := wsX2_find) (i := 3) rfl)
  have hi0_ : ∀ w ∈ u_ws RX2 TX2 7, w ∈ wsX2_find := fun w h => List.mem_cons_of_mem _ (List.mem_append_left _ (List.mem_append_left _ (List.mem_append_left _ (List.mem_append_right _ h))))
  obtain ⟨hL1, hL2, hz1, hz2⟩ := id hR9
  refine lv_aload_n hx hb dX2_find_0 rfl (lv_at hl 0 rfl) ?_
  refine va_get (D := (dC, dI)) (ci := 3) (v := .int (nI tb)) (C := RX2) (T := TX2) (N := 7) hx hb hts hi0_ hown hK hP 0 rfl rfl 5 (by decide) hw0_ (fun _ h9 => h9) rfl dX2_find_1 ?_
  refine lv_if_ne (tgt := 9) hx hb dX2_find_4 (by decide) (fun c_1 => ?_) (fun c_1 => ?_)
  ·
    have ic_1 : ¬ ((tb : Nat) : Int) = 0 := tx_ne (nI_toInt (by omega)) (by decide) c_1
    refine lv_aload_n hx hb dX2_find_9 rfl (lv_at hl 0 rfl) ?_
    refine lv_iload_n hx hb dX2_find_10 rfl (lv_at hl 1 rfl) ?_
    have hPc := hP.sub (ws' := [(y0, .inr (3, [.ref x0, .int kd, .int wh, .int (nI cap), .int ru, .int (nI tb), .ref b0]))]) [0] rfl
    have hKc := hK.sub (tys' := []) [] rfl
    refine ro_calli (va_runV (As := [.int p0]) (rest := []) ⟨hx, hb, hml, hown, hts⟩ (c_X2_binOf l  dC dI s.heap.size y0 ru (nI tb) (.ref x0) (.int kd) (.int wh) (.int (nI cap)) (.ref b0) p0) (cwV 1 hts gX2_find_X2_binOf rfl rfl rfl (by decide +kernel) ⟨(Nat.le_of_ble_eq_true rfl), (Nat.le_of_ble_eq_true rfl)⟩) ⟨pk_blindR, va_recv hKc hPc (ci := 3) (q0 := 0) rfl rfl, pk_callR hPc hKc⟩ rfl rfl hl.1 rfl (lv_room (Nat.le_of_ble_eq_true rfl)) dX2_find_11 ⟨(Nat.le_of_ble_eq_true rfl), (Nat.le_of_ble_eq_true rfl)⟩) (fun r_2 ur_2 hw => ?_)
    clear hPc hKc
    try dsimp only at hw
    have jr_2 := hw
    refine W.eq (g2 := F0 m 14 ls [.int r_2]) rfl ?_
    refine lv_istore_n (lv' := [(2, .int r_2), (0, .ref y0), (1, .int p0)]) hx hb dX2_find_14 rfl hl (by decide) rfl (fun ls hl => ?_)
    refine lv_aload_n hx hb dX2_find_15 rfl (lv_at hl 1 rfl) ?_
    refine lv_iload_n hx hb dX2_find_16 rfl (lv_at hl 0 rfl) ?_
    refine lv_iconst (v := 1) hx hb dX2_find_17 (by decide) ?_
    refine lv_iadd hx hb dX2_find_18 ?_
    have hPc := hP.sub (ws' := [(y0, .inr (3, [.ref x0, .int kd, .int wh, .int (nI cap), .int ru, .int (nI tb), .ref b0])), (x0, .inr (5, [.ref k0, .ref w0, .int (nI nz), .int ch])), (k0, .inl (ck, L, .inl f)), (w0, .inl (cw, L, .inl g)), (b0, .inl (cb, tb, .inl bf))]) [0, 1, 2, 3, 4] rfl
    have hKc := hK.sub (tys' := [(ck, .int), (cw, .int), (cb, .boolean)]) [0, 1, 2] rfl
    refine ro_calli (va_runV (As := [.int (r_2 + 1)]) (rest := []) ⟨hx, hb, hml, hown, hts⟩ (c_X2_startOf l  dC dI s.heap.size y0 kd wh cap ru tb b0 cb bf x0 k0 w0 ck cw L f g nz ch (r_2 + 1) hR9) (cwV 1 hts gX2_find_X2_startOf rfl rfl rfl (by decide +kernel) ⟨(Nat.le_of_ble_eq_true rfl), (Nat.le_of_ble_eq_true rfl)⟩) ⟨pk_blindR, va_recv hKc hPc (ci := 3) (q0 := 0) rfl rfl, pk_callR hPc hKc⟩ rfl rfl hl.1 rfl (lv_room (Nat.le_of_ble_eq_true rfl)) dX2_find_19 ⟨(Nat.le_of_ble_eq_true rfl), (Nat.le_of_ble_eq_true rfl)⟩) (fun r_3 ur_3 hw => ?_)
    clear hPc hKc
    try dsimp only at hw
    have jr_3 := hw
    obtain ⟨ka, hka, rfl⟩ := jr_3
    refine W.eq (g2 := F0 m 22 ls [.int (nI ka)]) rfl ?_
    refine lv_istore_n (lv' := [(3, .int (nI ka)), (2, .int r_2), (0, .ref y0), (1, .int p0)]) hx hb dX2_find_22 rfl hl (by decide) rfl (fun ls hl => ?_)
    refine lv_aload_n hx hb dX2_find_23 rfl (lv_at hl 2 rfl) ?_
    refine lv_iload_n hx hb dX2_find_24 rfl (lv_at hl 1 rfl) ?_
    have hPc := hP.sub (ws' := [(y0, .inr (3, [.ref x0, .int kd, .int wh, .int (nI cap), .int ru, .int (nI tb), .ref b0])), (x0, .inr (5, [.ref k0, .ref w0, .int (nI nz), .int ch])), (k0, .inl (ck, L, .inl f)), (w0, .inl (cw, L, .inl g)), (b0, .inl (cb, tb, .inl bf))]) [0, 1, 2, 3, 4] rfl
    have hKc := hK.sub (tys' := [(ck, .int), (cw, .int), (cb, .boolean)]) [0, 1, 2] rfl
    refine ro_calli (va_runV (As := [.int r_2]) (rest := []) ⟨hx, hb, hml, hown, hts⟩ (c_X2_startOf l  dC dI s.heap.size y0 kd wh cap ru tb b0 cb bf x0 k0 w0 ck cw L f g nz ch r_2 hR9) (cwV 1 hts gX2_find_X2_startOf rfl rfl rfl (by decide +kernel) ⟨(Nat.le_of_ble_eq_true rfl), (Nat.le_of_ble_eq_true rfl)⟩) ⟨pk_blindR, va_recv hKc hPc (ci := 3) (q0 := 0) rfl rfl, pk_callR hPc hKc⟩ rfl rfl hl.1 rfl (lv_room (Nat.le_of_ble_eq_true rfl)) dX2_find_25 ⟨(Nat.le_of_ble_eq_true rfl), (Nat.le_of_ble_eq_true rfl)⟩) (fun r_4 ur_4 hw => ?_)
    clear hPc hKc
    try dsimp only at hw
    have jr_4 := hw
    obtain ⟨kb, hkb, rfl⟩ := jr_4
    refine W.eq (g2 := F0 m 28 ls [.int (nI kb)]) rfl ?_
    refine lv_istore (lv' := [(4, .int (nI kb)), (3, .int (nI ka)), (2, .int r_2), (0, .ref y0), (1, .int p0)]) hx hb dX2_find_28 hl (by decide) rfl (fun ls hl => ?_)
    obtain ⟨i4, es_i4⟩ : ∃ z : Nat, z = kb := ⟨_, rfl⟩
    obtain ⟨x4, ex4⟩ : ∃ y : Int32, y = nI i4 := ⟨_, rfl⟩
    obtain ⟨n9, en9⟩ : ∃ n : Nat, n = nz + 2 := ⟨_, rfl⟩
    replace hl : lv_has ls 5 [(4, .int x4), (3, .int (nI ka)), (2, .int r_2), (0, .ref y0), (1, .int p0)] := by subst ex4; subst es_i4; exact hl
    have hi4 : i4 ≤ nz := by subst ex4; subst es_i4; subst en9; exact by omega
    have hn4 : nz + 1 ≤ i4 + n9 := by subst ex4; subst es_i4; subst en9; exact by omega
    clear en9 es_i4
    induction n9 generalizing i4 x4 ls with
    | zero => exact absurd hn4 (by omega)
    | succ n9 ih =>
      subst ex4
      refine lv_iload hx hb dX2_find_30 (lv_at hl 0 rfl) ?_
      refine lv_iload_n hx hb dX2_find_32 rfl (lv_at hl 1 rfl) ?_
      refine lv_icmp_ge (tgt := 58) hx hb dX2_find_33 (by decide) (fun c_5 => ?_) (fun c_5 => ?_)
      ·
        have ic_5 : ((ka : Nat) : Int) ≤ ((i4 : Nat) : Int) := tx_le (nI_toInt (by omega)) (nI_toInt (by omega)) c_5
        refine lv_iconst (v := (-1)) hx hb dX2_find_58 (by decide) ?_
        refine W.widen (k := 0) (n := 0) (Nat.le_of_ble_eq_true rfl) (Nat.le_of_ble_eq_true rfl) ?_
        exact W.iret (v := -1) hx hb hr (fun t ht hW => ⟨⟨-1, (), rfl, Or.inl rfl, congrArg Array.size ht⟩, hS.F ht⟩) hS.2.2 dX2_find_59
      ·
        have ic_5 : ((i4 : Nat) : Int) < ((ka : Nat) : Int) := tx_nle (nI_toInt (by omega)) (nI_toInt (by omega)) c_5
        refine lv_aload_n hx hb dX2_find_36 rfl (lv_at hl 3 rfl) ?_
        refine va_get (D := (dC, dI)) (ci := 3) (v := .ref x0) (C := RX2) (T := TX2) (N := 7) hx hb hts hi0_ hown hK hP 0 rfl rfl 0 (by decide) hw1_ (u_same hw2_) rfl dX2_find_37 ?_
        refine lv_iload hx hb dX2_find_40 (lv_at hl 0 rfl) ?_
        have hPc := hP.sub (ws' := [(x0, .inr (5, [.ref k0, .ref w0, .int (nI nz), .int ch])), (k0, .inl (ck, L, .inl f)), (w0, .inl (cw, L, .inl g))]) [1, 2, 3] rfl
        have hKc := hK.sub (tys' := [(ck, .int), (cw, .int)]) [0, 1] rfl
        refine ro_calli (va_runV (As := [.int (nI i4)]) (rest := []) ⟨hx, hb, hml, hown, hts⟩ (c_X5_key l  dC dI s.heap.size x0 k0 w0 ck cw L f g nz ch (nI i4) hR9) (cwV 1 hts gX2_find_X5_key rfl rfl rfl (by decide +kernel) ⟨(Nat.le_of_ble_eq_true rfl), (Nat.le_of_ble_eq_true rfl)⟩) ⟨pk_blindR, va_recv hKc hPc (ci := 5) (q0 := 0) rfl rfl, pk_callR hPc hKc⟩ rfl rfl hl.1 rfl (lv_room (Nat.le_of_ble_eq_true rfl)) dX2_find_42 ⟨(Nat.le_of_ble_eq_true rfl), (Nat.le_of_ble_eq_true rfl)⟩) (fun r_6 ur_6 hw => ?_)
        clear hPc hKc
        try dsimp only at hw
        have jr_6 := hw
        refine W.eq (g2 := F0 m 45 ls [.int r_6]) rfl ?_
        refine lv_iload_n hx hb dX2_find_45 rfl (lv_at hl 4 rfl) ?_
        refine lv_icmp_ne (tgt := 52) hx hb dX2_find_46 (by decide) (fun c_7 => ?_) (fun c_7 => ?_)
        ·
          have ic_7 : ¬ r_6.toInt = p0.toInt := tx_ne rfl rfl c_7
          refine lv_iinc (v := nI (i4 + 1)) (lv' := [(4, .int (nI (i4 + 1))), (3, .int (nI ka)), (2, .int r_2), (0, .ref y0), (1, .int p0)]) hx hb dX2_find_52 hl (k := 0) rfl (by rw [show Int32.ofInt 1 = nI 1 from rfl, nI_add]) (by decide) rfl (fun ls hl => ?_)
          refine lv_goto (tgt := 30) hx hb dX2_find_55 (by decide) ?_
          exact ih (i4 := i4 + 1) (x4 := nI (i4 + 1)) (ex4 := rfl) (ls := ls) (hi4 := by omega) (hn4 := by omega) (hl := lv_sub hl [0, 1, 2, 3, 4] rfl)
        ·
          have ic_7 : r_6.toInt = p0.toInt := tx_eq rfl rfl c_7
          refine lv_iload hx hb dX2_find_49 (lv_at hl 0 rfl) ?_
          refine W.widen (k := 0) (n := 0) (Nat.le_of_ble_eq_true rfl) (Nat.le_of_ble_eq_true rfl) ?_
          exact W.iret (v := nI i4) hx hb hr (fun t ht hW => ⟨⟨nI i4, (), rfl, Or.inr ⟨i4, by omega, rfl⟩, congrArg Array.size ht⟩, hS.F ht⟩) hS.2.2 dX2_find_51
  ·
    have ic_1 : ((tb : Nat) : Int) = 0 := tx_eq (nI_toInt (by omega)) (by decide) c_1
    refine lv_iconst (v := (-1)) hx hb dX2_find_7 (by decide) ?_
    refine W.widen (k := 0) (n := 0) (Nat.le_of_ble_eq_true rfl) (Nat.le_of_ble_eq_true rfl) ?_
    exact W.iret (v := -1) hx hb hr (fun t ht hW => ⟨⟨-1, (), rfl, Or.inl rfl, congrArg Array.size ht⟩, hS.F ht⟩) hS.2.2 dX2_find_8
set_option maxHeartbeats 4000000 in
set_option maxRecDepth 100000 in
/-- Hash.setBushy -/
theorem c_X2_setBushy (l : Launch) (dC : Nat → ClassId) (dI : Nat → Nat → Nat) (sz : Nat) (y0 : Nat) (kd : Int32) (wh : Int32) (cap : Nat) (ru : Int32) (tb : Nat) (b0 : Nat) (cb : ClassId) (bf : Nat → Int32) (x0 : Nat) (k0 : Nat) (w0 : Nat) (ck : ClassId) (cw : ClassId) (L : Nat) (f : Nat → Int32) (g : Nat → Int32) (nz : Nat) (ch : Int32) (p0 : Int32) (p1 : Int32) (htb : tb ≤ 4096) : Met l yX2_setBushy wsX2_setBushy ({ frames := 0, cells := 0, slots := 0, locals := 0 }) (va_Pc [.ref y0, .int p0, .int p1] (pk_Pre (dC, dI) [(y0, .inr (3, [.ref x0, .int kd, .int wh, .int (nI cap), .int ru, .int (nI tb), .ref b0])), (x0, .inr (5, [.ref k0, .ref w0, .int (nI nz), .int ch])), (k0, .inl (ck, L, .inl f)), (w0, .inl (cw, L, .inl g)), (b0, .inl (cb, tb, .inl bf))] [(ck, .int), (cw, .int), (cb, .boolean)] sz)) (va_Qv (fun (u : (Nat → Int32)) => True) (fun (u : (Nat → Int32)) (t : State) => va_P (dC, dI) vwCl [(y0, .inr (3, [.ref x0, .int kd, .int wh, .int (nI cap), .int ru, .int (nI tb), .ref b0])), (x0, .inr (5, [.ref k0, .ref w0, .int (nI nz), .int ch])), (k0, .inl (ck, L, .inl f)), (w0, .inl (cw, L, .inl g)), (b0, .inl (cb, tb, .inl u))] t.heap ∧ va_K (dC, dI) vwCl [(ck, .int), (cw, .int), (cb, .boolean)] t ∧ va_D (va_A [(y0, .inr (3, [.ref x0, .int kd, .int wh, .int (nI cap), .int ru, .int (nI tb), .ref b0])), (x0, .inr (5, [.ref k0, .ref w0, .int (nI nz), .int ch])), (k0, .inl (ck, L, .inl f)), (w0, .inl (cw, L, .inl g)), (b0, .inl (cb, tb, .inl bf))] sz) [(y0, .inr (3, [.ref x0, .int kd, .int wh, .int (nI cap), .int ru, .int (nI tb), .ref b0])), (x0, .inr (5, [.ref k0, .ref w0, .int (nI nz), .int ch])), (k0, .inl (ck, L, .inl f)), (w0, .inl (cw, L, .inl g)), (b0, .inl (cb, tb, .inl u))]) (va_A [(y0, .inr (3, [.ref x0, .int kd, .int wh, .int (nI cap), .int ru, .int (nI tb), .ref b0])), (x0, .inr (5, [.ref k0, .ref w0, .int (nI nz), .int ch])), (k0, .inl (ck, L, .inl f)), (w0, .inl (cw, L, .inl g)), (b0, .inl (cb, tb, .inl bf))] sz)) 0 0 (va_A [(y0, .inr (3, [.ref x0, .int kd, .int wh, .int (nI cap), .int ru, .int (nI tb), .ref b0])), (x0, .inr (5, [.ref k0, .ref w0, .int (nI nz), .int ch])), (k0, .inl (ck, L, .inl f)), (w0, .inl (cw, L, .inl g)), (b0, .inl (cb, tb, .inl bf))] sz) := by
  refine Met.ofW (cc := cX2_setBushy) (maxL := 3) (ret := none) (by decide) rfl ?_
  intro p e s m args below meth c s₁ B hml hv
  obtain ⟨rfl, hsz, hP, hK, hD0⟩ := hv
  have hx := B.exec
  have hb := B.bytes
  have hr := B.returns
  have hts := atoms_spec (ws := wsX2_setBushy) B.pre
  have hown : s.vm.findClass RX2 = some m.cls := findClass_of_methodNamed B.named
  have hlocks := B.notSynchronized
  subst hsz
  have hD := hD0.self (sz := s.heap.size)
  generalize hAe : va_A [(y0, .inr (3, [.ref x0, .int kd, .int wh, .int (nI cap), .int ru, .int (nI tb), .ref b0])), (x0, .inr (5, [.ref k0, .ref w0, .int (nI nz), .int ch])), (k0, .inl (ck, L, .inl f)), (w0, .inl (cw, L, .inl g)), (b0, .inl (cb, tb, .inl bf))] s.heap.size = A at hD ⊢
  have hA : ∀ q : Nat, s.heap.size ≤ q → A q := fun q h => by rw [← hAe]; exact Or.inr h
  have hS : va_S A s.heap s.heap [] := va_S.rf
  have hP : va_P (dC, dI) vwCl [(y0, .inr (3, [.ref x0, .int kd, .int wh, .int (nI cap), .int ru, .int (nI tb), .ref b0])), (x0, .inr (5, [.ref k0, .ref w0, .int (nI nz), .int ch])), (k0, .inl (ck, L, .inl f)), (w0, .inl (cw, L, .inl g)), (b0, .inl (cb, tb, .inl bf))] s.heap := hP
  have hl := lv_entry ([.ref y0, .int p0, .int p1]) (n := 3) (Nat.le_of_ble_eq_true rfl)
  rw [lg_entry_eq]
  generalize (lg_sl ([.ref y0, .int p0, .int p1]) ++ List.replicate (3 - (lg_sl ([.ref y0, .int p0, .int p1])).length) Slot.unset).toArray = ls at hl ⊢
  have hl : lv_has ls 3 [(0, .ref y0), (1, .int p0), (2, .int p1)] := hl
  have hw0_ := hts (.fieldLink RX2 14 "KeyAtlas$Hash" "bushy" "[Z") (List.mem_of_getElem? (l := wsX2_setBushy) (i := 1) rfl)
  have hi0_ : ∀ w ∈ u_ws RX2 TX2 7, w ∈ wsX2_setBushy := fun w h => List.mem_cons_of_mem _ (List.mem_append_right _ h)
  refine lv_iload_n hx hb dX2_setBushy_0 rfl (lv_at hl 1 rfl) ?_
  refine lv_if_lt (tgt := 20) hx hb dX2_setBushy_1 (by decide) (fun c_1 => ?_) (fun c_1 => ?_)
  ·
    have ic_1 : p0.toInt < 0 := tx_lt rfl (by decide) c_1
    have hP9 := hP.sub (ws' := [(y0, .inr (3, [.ref x0, .int kd, .int wh, .int (nI cap), .int ru, .int (nI tb), .ref b0])), (x0, .inr (5, [.ref k0, .ref w0, .int (nI nz), .int ch])), (k0, .inl (ck, L, .inl f)), (w0, .inl (cw, L, .inl g)), (b0, .inl (cb, tb, .inl bf))]) [0, 1, 2, 3, 4] rfl
    have hD9 := hD.sub (ws' := [(y0, .inr (3, [.ref x0, .int kd, .int wh, .int (nI cap), .int ru, .int (nI tb), .ref b0])), (x0, .inr (5, [.ref k0, .ref w0, .int (nI nz), .int ch])), (k0, .inl (ck, L, .inl f)), (w0, .inl (cw, L, .inl g)), (b0, .inl (cb, tb, .inl bf))]) [0, 1, 2, 3, 4] (by decide) rfl
    have hK9 := hK.sub (tys' := [(ck, .int), (cw, .int), (cb, .boolean)]) [0, 1, 2] rfl
    refine W.widen (k := 0) (n := 0) (Nat.le_of_ble_eq_true rfl) (Nat.le_of_ble_eq_true rfl) ?_
    exact W.vret hx hb hr (fun t ht hW => ⟨⟨(bf), rfl, trivial, by rw [ht]; exact hP9, va_K.moved hW.alike hK9, hD9⟩, hS.F ht⟩) hS.2.2 dX2_setBushy_20
  ·
    have ic_1 : 0 ≤ p0.toInt := tx_nlt rfl (by decide) c_1
    refine lv_iload_n hx hb dX2_setBushy_4 rfl (lv_at hl 1 rfl) ?_
    refine lv_aload_n hx hb dX2_setBushy_5 rfl (lv_at hl 0 rfl) ?_
    refine va_get (D := (dC, dI)) (ci := 3) (v := .ref b0) (C := RX2) (T := TX2) (N := 7) hx hb hts hi0_ hown hK hP 0 rfl rfl 6 (by decide) hw0_ (fun _ h9 => h9) rfl dX2_setBushy_6 ?_
    refine va_alen (v := nI tb) hx hb hK hP 4 2 rfl rfl rfl dX2_setBushy_9 ?_
    refine lv_icmp_ge (tgt := 20) hx hb dX2_setBushy_10 (by decide) (fun c_2 => ?_) (fun c_2 => ?_)
    ·
      have ic_2 : ((tb : Nat) : Int) ≤ p0.toInt := tx_le (nI_toInt (by omega)) rfl c_2
      have hP9 := hP.sub (ws' := [(y0, .inr (3, [.ref x0, .int kd, .int wh, .int (nI cap), .int ru, .int (nI tb), .ref b0])), (x0, .inr (5, [.ref k0, .ref w0, .int (nI nz), .int ch])), (k0, .inl (ck, L, .inl f)), (w0, .inl (cw, L, .inl g)), (b0, .inl (cb, tb, .inl bf))]) [0, 1, 2, 3, 4] rfl
      have hD9 := hD.sub (ws' := [(y0, .inr (3, [.ref x0, .int kd, .int wh, .int (nI cap), .int ru, .int (nI tb), .ref b0])), (x0, .inr (5, [.ref k0, .ref w0, .int (nI nz), .int ch])), (k0, .inl (ck, L, .inl f)), (w0, .inl (cw, L, .inl g)), (b0, .inl (cb, tb, .inl bf))]) [0, 1, 2, 3, 4] (by decide) rfl
      have hK9 := hK.sub (tys' := [(ck, .int), (cw, .int), (cb, .boolean)]) [0, 1, 2] rfl
      refine W.widen (k := 0) (n := 0) (Nat.le_of_ble_eq_true rfl) (Nat.le_of_ble_eq_true rfl) ?_
      exact W.vret hx hb hr (fun t ht hW => ⟨⟨(bf), rfl, trivial, by rw [ht]; exact hP9, va_K.moved hW.alike hK9, hD9⟩, hS.F ht⟩) hS.2.2 dX2_setBushy_20
    ·
      have ic_2 : p0.toInt < ((tb : Nat) : Int) := tx_nle (nI_toInt (by omega)) rfl c_2
      obtain ⟨i, hi, rfl⟩ := nI_nat (x := p0) (n := 4096) (by omega) (by omega) (by omega)
      have hit : (nI i).toInt = (i : Int) := nI_toInt (by omega)
      refine lv_aload_n hx hb dX2_setBushy_13 rfl (lv_at hl 0 rfl) ?_
      refine va_get (D := (dC, dI)) (ci := 3) (v := .ref b0) (C := RX2) (T := TX2) (N := 7) hx hb hts hi0_ hown hK hP 0 rfl rfl 6 (by decide) hw0_ (fun _ h9 => h9) rfl dX2_setBushy_14 ?_
      refine lv_iload_n hx hb dX2_setBushy_17 rfl (lv_at hl 1 rfl) ?_
      refine lv_iload_n hx hb dX2_setBushy_18 rfl (lv_at hl 2 rfl) ?_
      refine va_zast (i := nI i) hx hb hK hP hD hS 4 2 rfl rfl (vp_in_nI (by omega) (by omega)) dX2_setBushy_19 (fun H locs hP hD hS => ?_)
      rw [nI_clamp (by omega)] at hP hD
      replace hP : va_P (dC, dI) vwCl [(y0, .inr (3, [.ref x0, .int kd, .int wh, .int (nI cap), .int ru, .int (nI tb), .ref b0])), (x0, .inr (5, [.ref k0, .ref w0, .int (nI nz), .int ch])), (k0, .inl (ck, L, .inl f)), (w0, .inl (cw, L, .inl g)), (b0, .inl (cb, tb, .inl (upd bf i (vp_nar .boolean p1))))] H := hP
      replace hD : va_D A [(y0, .inr (3, [.ref x0, .int kd, .int wh, .int (nI cap), .int ru, .int (nI tb), .ref b0])), (x0, .inr (5, [.ref k0, .ref w0, .int (nI nz), .int ch])), (k0, .inl (ck, L, .inl f)), (w0, .inl (cw, L, .inl g)), (b0, .inl (cb, tb, .inl (upd bf i (vp_nar .boolean p1))))] := hD
      have hP9 := hP.sub (ws' := [(y0, .inr (3, [.ref x0, .int kd, .int wh, .int (nI cap), .int ru, .int (nI tb), .ref b0])), (x0, .inr (5, [.ref k0, .ref w0, .int (nI nz), .int ch])), (k0, .inl (ck, L, .inl f)), (w0, .inl (cw, L, .inl g)), (b0, .inl (cb, tb, .inl (upd bf i (vp_nar .boolean p1))))]) [0, 1, 2, 3, 4] rfl
      have hD9 := hD.sub (ws' := [(y0, .inr (3, [.ref x0, .int kd, .int wh, .int (nI cap), .int ru, .int (nI tb), .ref b0])), (x0, .inr (5, [.ref k0, .ref w0, .int (nI nz), .int ch])), (k0, .inl (ck, L, .inl f)), (w0, .inl (cw, L, .inl g)), (b0, .inl (cb, tb, .inl (upd bf i (vp_nar .boolean p1))))]) [0, 1, 2, 3, 4] (by decide) rfl
      have hK9 := hK.sub (tys' := [(ck, .int), (cw, .int), (cb, .boolean)]) [0, 1, 2] rfl
      refine W.widen (k := 0) (n := 0) (Nat.le_of_ble_eq_true rfl) (Nat.le_of_ble_eq_true rfl) ?_
      exact W.vret hx hb hr (fun t ht hW => ⟨⟨((upd bf i (vp_nar .boolean p1))), rfl, trivial, by rw [ht]; exact hP9, va_K.moved hW.alike hK9, hD9⟩, hS.F ht⟩) hS.2.2 dX2_setBushy_20
