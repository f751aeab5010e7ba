theorem dX8_entries_0 : decode cX8_entries 0 = .ok (.aload_n 0, 1) := by decide +kernel
theorem dX8_entries_1 : decode cX8_entries 1 = .ok (.iload_n 1, 1) := by decide +kernel
set_option maxRecDepth 20000 in
theorem ggX8_entries_X8_root : GoodIn wsX8_entries wsX8_root := goodIn_r _ [6, 7, 8, 39, 40, 41, 42, 43, 44, 45, 46, 47, 48, 49, 50, 51, 52, 53, 54, 55] rfl (by decide +kernel)
set_option maxRecDepth 20000 in
theorem gX8_entries_X8_root : GoodIn wsX8_entries (wsV RX8 95 RX8 yX8_root wsX8_root) := goodIn_app (goodIn_of _ (by decide +kernel)) ggX8_entries_X8_root
theorem dX8_entries_2 : decode cX8_entries 2 = .ok (.invokevirtual 95, 3) := by decide +kernel
theorem dX8_entries_5 : decode cX8_entries 5 = .ok (.istore_n 2, 1) := by decide +kernel
theorem dX8_entries_6 : decode cX8_entries 6 = .ok (.iconst 0, 1) := by decide +kernel
theorem dX8_entries_7 : decode cX8_entries 7 = .ok (.istore_n 3, 1) := by decide +kernel
theorem dX8_entries_8 : decode cX8_entries 8 = .ok (.iconst 0, 1) := by decide +kernel
theorem dX8_entries_9 : decode cX8_entries 9 = .ok (.istore 4, 2) := by decide +kernel
theorem dX8_entries_11 : decode cX8_entries 11 = .ok (.iload 4, 2) := by decide +kernel
theorem dX8_entries_13 : decode cX8_entries 13 = .ok (.aload_n 0, 1) := by decide +kernel
theorem dX8_entries_14 : decode cX8_entries 14 = .ok (.getfield 17, 3) := by decide +kernel
theorem dX8_entries_17 : decode cX8_entries 17 = .ok (.iload_n 2, 1) := by decide +kernel
theorem dX8_entries_18 : decode cX8_entries 18 = .ok (.iaload, 1) := by decide +kernel
theorem dX8_entries_19 : decode cX8_entries 19 = .ok (.if_icmp .ge 32, 3) := by decide +kernel
theorem dX8_entries_51 : decode cX8_entries 51 = .ok (.iload_n 3, 1) := by decide +kernel
theorem dX8_entries_52 : decode cX8_entries 52 = .ok (.ireturn, 1) := by decide +kernel
theorem dX8_entries_22 : decode cX8_entries 22 = .ok (.iload_n 3, 1) := by decide +kernel
theorem dX8_entries_23 : decode cX8_entries 23 = .ok (.aload_n 0, 1) := by decide +kernel
theorem dX8_entries_24 : decode cX8_entries 24 = .ok (.iload_n 1, 1) := by decide +kernel
theorem dX8_entries_25 : decode cX8_entries 25 = .ok (.aload_n 0, 1) := by decide +kernel
theorem dX8_entries_26 : decode cX8_entries 26 = .ok (.iload_n 2, 1) := by decide +kernel
theorem dX8_entries_27 : decode cX8_entries 27 = .ok (.iload 4, 2) := by decide +kernel
set_option maxRecDepth 20000 in
theorem ggX8_entries_X8_key : GoodIn wsX8_entries wsX8_key := goodIn_r _ [12, 13, 39, 40, 41, 42, 43, 44, 45, 46, 47, 48, 49, 50, 51, 52, 53, 54, 55] rfl (by decide +kernel)
set_option maxRecDepth 20000 in
theorem gX8_entries_X8_key : GoodIn wsX8_entries (wsV RX8 111 RX8 yX8_key wsX8_key) := goodIn_app (goodIn_of _ (by decide +kernel)) ggX8_entries_X8_key
theorem dX8_entries_29 : decode cX8_entries 29 = .ok (.invokevirtual 111, 3) := by decide +kernel
set_option maxRecDepth 20000 in
theorem ggX8_entries_X8_isWithin : GoodIn wsX8_entries wsX8_isWithin := goodIn_r _ [17, 7, 8, 18, 19, 20, 21, 22, 23, 5, 24, 25, 2, 3, 4, 6, 26, 27, 28, 29, 30, 31, 32, 33, 34, 35, 36, 37, 38, 39, 40, 41, 42, 43, 44, 45, 46, 47, 48, 49, 50, 51, 52, 53, 54, 55] rfl (by decide +kernel)
set_option maxRecDepth 20000 in
theorem gX8_entries_X8_isWithin : GoodIn wsX8_entries (wsV RX8 108 RX8 yX8_isWithin wsX8_isWithin) := goodIn_app (goodIn_of _ (by decide +kernel)) ggX8_entries_X8_isWithin
theorem dX8_entries_32 : decode cX8_entries 32 = .ok (.invokevirtual 108, 3) := by decide +kernel
theorem dX8_entries_35 : decode cX8_entries 35 = .ok (.ifCond .eq 7, 3) := by decide +kernel
theorem dX8_entries_42 : decode cX8_entries 42 = .ok (.iconst 0, 1) := by decide +kernel
theorem dX8_entries_43 : decode cX8_entries 43 = .ok (.iadd, 1) := by decide +kernel
theorem dX8_entries_44 : decode cX8_entries 44 = .ok (.istore_n 3, 1) := by decide +kernel
theorem dX8_entries_45 : decode cX8_entries 45 = .ok (.iinc 4 1, 3) := by decide +kernel
theorem dX8_entries_48 : decode cX8_entries 48 = .ok (.goto (-37), 3) := by decide +kernel
theorem dX8_entries_38 : decode cX8_entries 38 = .ok (.iconst 1, 1) := by decide +kernel
theorem dX8_entries_39 : decode cX8_entries 39 = .ok (.goto 4, 3) := by decide +kernel
theorem dX8_nth_0 : decode cX8_nth 0 = .ok (.aload_n 0, 1) := by decide +kernel
theorem dX8_nth_1 : decode cX8_nth 1 = .ok (.iload_n 1, 1) := by decide +kernel
set_option maxRecDepth 20000 in
theorem ggX8_nth_X8_root : GoodIn wsX8_nth wsX8_root := goodIn_r _ [6, 7, 8, 39, 40, 41, 42, 43, 44, 45, 46, 47, 48, 49, 50, 51, 52, 53, 54, 55] rfl (by decide +kernel)
set_option maxRecDepth 20000 in
theorem gX8_nth_X8_root : GoodIn wsX8_nth (wsV RX8 95 RX8 yX8_root wsX8_root) := goodIn_app (goodIn_of _ (by decide +kernel)) ggX8_nth_X8_root
theorem dX8_nth_2 : decode cX8_nth 2 = .ok (.invokevirtual 95, 3) := by decide +kernel
theorem dX8_nth_5 : decode cX8_nth 5 = .ok (.istore_n 3, 1) := by decide +kernel
theorem dX8_nth_6 : decode cX8_nth 6 = .ok (.aload_n 0, 1) := by decide +kernel
theorem dX8_nth_7 : decode cX8_nth 7 = .ok (.iload_n 1, 1) := by decide +kernel
set_option maxRecDepth 20000 in
theorem ggX8_nth_X8_isTurned : GoodIn wsX8_nth wsX8_isTurned := goodIn_r _ [12, 7, 13, 8, 39, 40, 41, 42, 43, 44, 45, 46, 47, 48, 49, 50, 51, 52, 53, 54, 55] rfl (by decide +kernel)
set_option maxRecDepth 20000 in
theorem gX8_nth_X8_isTurned : GoodIn wsX8_nth (wsV RX8 102 RX8 yX8_isTurned wsX8_isTurned) := goodIn_app (goodIn_of _ (by decide +kernel)) ggX8_nth_X8_isTurned
theorem dX8_nth_8 : decode cX8_nth 8 = .ok (.invokevirtual 102, 3) := by decide +kernel
theorem dX8_nth_11 : decode cX8_nth 11 = .ok (.istore 4, 2) := by decide +kernel
theorem dX8_nth_13 : decode cX8_nth 13 = .ok (.iload_n 2, 1) := by decide +kernel
theorem dX8_nth_14 : decode cX8_nth 14 = .ok (.istore 5, 2) := by decide +kernel
theorem dX8_nth_16 : decode cX8_nth 16 = .ok (.iconst 0, 1) := by decide +kernel
theorem dX8_nth_17 : decode cX8_nth 17 = .ok (.istore 6, 2) := by decide +kernel
theorem dX8_nth_19 : decode cX8_nth 19 = .ok (.iload 6, 2) := by decide +kernel
theorem dX8_nth_21 : decode cX8_nth 21 = .ok (.aload_n 0, 1) := by decide +kernel
theorem dX8_nth_22 : decode cX8_nth 22 = .ok (.getfield 17, 3) := by decide +kernel
theorem dX8_nth_25 : decode cX8_nth 25 = .ok (.iload_n 3, 1) := by decide +kernel
theorem dX8_nth_26 : decode cX8_nth 26 = .ok (.iaload, 1) := by decide +kernel
theorem dX8_nth_27 : decode cX8_nth 27 = .ok (.if_icmp .ge 61, 3) := by decide +kernel
theorem dX8_nth_88 : decode cX8_nth 88 = .ok (.iconst (-1), 1) := by decide +kernel
theorem dX8_nth_30 : decode cX8_nth 30 = .ok (.iload 4, 2) := by decide +kernel
theorem dX8_nth_32 : decode cX8_nth 32 = .ok (.ifCond .eq 17, 3) := by decide +kernel
theorem dX8_nth_49 : decode cX8_nth 49 = .ok (.iload 6, 2) := by decide +kernel
theorem dX8_nth_51 : decode cX8_nth 51 = .ok (.istore 7, 2) := by decide +kernel
theorem dX8_nth_53 : decode cX8_nth 53 = .ok (.aload_n 0, 1) := by decide +kernel
theorem dX8_nth_54 : decode cX8_nth 54 = .ok (.iload_n 1, 1) := by decide +kernel
theorem dX8_nth_55 : decode cX8_nth 55 = .ok (.aload_n 0, 1) := by decide +kernel
theorem dX8_nth_56 : decode cX8_nth 56 = .ok (.iload_n 3, 1) := by decide +kernel
theorem dX8_nth_57 : decode cX8_nth 57 = .ok (.iload 7, 2) := by decide +kernel
set_option maxRecDepth 20000 in
theorem ggX8_nth_X8_key : GoodIn wsX8_nth wsX8_key := goodIn_r _ [17, 18, 39, 40, 41, 42, 43, 44, 45, 46, 47, 48, 49, 50, 51, 52, 53, 54, 55] rfl (by decide +kernel)
set_option maxRecDepth 20000 in
theorem gX8_nth_X8_key : GoodIn wsX8_nth (wsV RX8 111 RX8 yX8_key wsX8_key) := goodIn_app (goodIn_of _ (by decide +kernel)) ggX8_nth_X8_key
theorem dX8_nth_59 : decode cX8_nth 59 = .ok (.invokevirtual 111, 3) := by decide +kernel
set_option maxRecDepth 20000 in
theorem ggX8_nth_X8_isWithin : GoodIn wsX8_nth wsX8_isWithin := goodIn_r _ [22, 7, 8, 13, 23, 24, 25, 26, 27, 5, 28, 29, 2, 3, 4, 6, 30, 31, 32, 33, 34, 35, 36, 37, 38, 9, 10, 11, 12, 39, 40, 41, 42, 43, 44, 45, 46, 47, 48, 49, 50, 51, 52, 53, 54, 55] rfl (by decide +kernel)
set_option maxRecDepth 20000 in
theorem gX8_nth_X8_isWithin : GoodIn wsX8_nth (wsV RX8 108 RX8 yX8_isWithin wsX8_isWithin) := goodIn_app (goodIn_of _ (by decide +kernel)) ggX8_nth_X8_isWithin
theorem dX8_nth_62 : decode cX8_nth 62 = .ok (.invokevirtual 108, 3) := by decide +kernel
theorem dX8_nth_65 : decode cX8_nth 65 = .ok (.ifCond .ne 6, 3) := by decide +kernel
theorem dX8_nth_71 : decode cX8_nth 71 = .ok (.iload 5, 2) := by decide +kernel
theorem dX8_nth_73 : decode cX8_nth 73 = .ok (.ifCond .ne 6, 3) := by decide +kernel
theorem dX8_nth_79 : decode cX8_nth 79 = .ok (.iinc 5 (-1), 3) := by decide +kernel
theorem dX8_nth_82 : decode cX8_nth 82 = .ok (.iinc 6 1, 3) := by decide +kernel
theorem dX8_nth_85 : decode cX8_nth 85 = .ok (.goto (-66), 3) := by decide +kernel
theorem dX8_nth_76 : decode cX8_nth 76 = .ok (.iload 7, 2) := by decide +kernel
theorem dX8_nth_78 : decode cX8_nth 78 = .ok (.ireturn, 1) := by decide +kernel
theorem dX8_nth_68 : decode cX8_nth 68 = .ok (.goto 14, 3) := by decide +kernel
theorem dX8_nth_35 : decode cX8_nth 35 = .ok (.aload_n 0, 1) := by decide +kernel
theorem dX8_nth_36 : decode cX8_nth 36 = .ok (.getfield 17, 3) := by decide +kernel
theorem dX8_nth_39 : decode cX8_nth 39 = .ok (.iload_n 3, 1) := by decide +kernel
theorem dX8_nth_40 : decode cX8_nth 40 = .ok (.iaload, 1) := by decide +kernel
theorem dX8_nth_41 : decode cX8_nth 41 = .ok (.iconst 1, 1) := by decide +kernel
theorem dX8_nth_42 : decode cX8_nth 42 = .ok (.isub, 1) := by decide +kernel
theorem dX8_nth_43 : decode cX8_nth 43 = .ok (.iload 6, 2) := by decide +kernel
theorem dX8_nth_45 : decode cX8_nth 45 = .ok (.isub, 1) := by decide +kernel
theorem dX8_nth_46 : decode cX8_nth 46 = .ok (.goto 5, 3) := by decide +kernel
set_option maxHeartbeats 4000000 in
set_option maxRecDepth 100000 in
/-- entries -/
theorem c_X8_entries (l : Launch) (dC : Nat → ClassId) (dI : Nat → Nat → Nat) (sz : Nat) (h0 : Nat) (th : Int32) (q1 : Nat) (q2 : Nat) (q3 : Nat) (q4 : Nat) (q8 : Nat) (q9 : Nat) (q10 : Nat) (q11 : Nat) (c1 : ClassId) (c2 : ClassId) (c3 : ClassId) (c4 : ClassId) (c8 : ClassId) (c9 : ClassId) (c10 : ClassId) (c11 : ClassId) (a1 : Nat → Int32) (a2 : Nat → Int32) (a3 : Nat → Int32) (a4 : Nat → Int32) (a8 : Nat → Int32) (a9 : Nat → Int32) (a10 : Nat → Int32) (a11 : Nat → Int32) (v5 : Value) (v6 : Value) (v7 : Value) (v12 : Value) (v13 : Value) (v14 : Value) (v15 : Value) (v16 : Value) (o : Nat) (dep : Nat → Nat) (nz : Nat) (ho9 : o < 16) (hF9 : rF a1 a8 dep) (hd9 : dep o < 17) (hs9 : a3 (rtN a1 a8 17 o) = nI nz) (hz9 : nz ≤ 1000) : Met l yX8_entries wsX8_entries ({ frames := 4, cells := 0, slots := 0, locals := 150 }) (va_Pc [.ref h0, .int (nI o)] (pk_Pre (dC, dI) [(h0, .inr (8, [.int th, .ref q1, .ref q2, .ref q3, .ref q4, v5, v6, v7, .ref q8, .ref q9, .ref q10, .ref q11, v12, v13, v14, v15, v16])), (q1, .inl (c1, 16, .inl a1)), (q2, .inl (c2, 67200, .inl a2)), (q3, .inl (c3, 16, .inl a3)), (q4, .inl (c4, 16, .inl a4)), (q8, .inl (c8, 16, .inl a8)), (q9, .inl (c9, 16, .inl a9)), (q10, .inl (c10, 16, .inl a10)), (q11, .inl (c11, 16, .inl a11))] [(c1, .int), (c2, .int), (c3, .int), (c4, .int), (c8, .int), (c9, .int), (c10, .int), (c11, .int)] sz)) (va_Qi (fun (x : Int32) (_ : Unit) => x = nI (cntN (inO a1 a2 a4 a8 a9 a10 a11 o) nz)) (fun (_ : Unit) (t : State) => va_P (dC, dI) vwCl [(h0, .inr (8, [.int th, .ref q1, .ref q2, .ref q3, .ref q4, v5, v6, v7, .ref q8, .ref q9, .ref q10, .ref q11, v12, v13, v14, v15, v16])), (q1, .inl (c1, 16, .inl a1)), (q2, .inl (c2, 67200, .inl a2)), (q3, .inl (c3, 16, .inl a3)), (q4, .inl (c4, 16, .inl a4)), (q8, .inl (c8, 16, .inl a8)), (q9, .inl (c9, 16, .inl a9)), (q10, .inl (c10, 16, .inl a10)), (q11, .inl (c11, 16, .inl a11))] t.heap ∧ va_K (dC, dI) vwCl [(c1, .int), (c2, .int), (c3, .int), (c4, .int), (c8, .int), (c9, .int), (c10, .int), (c11, .int)] t ∧ va_D (va_A [(h0, .inr (8, [.int th, .ref q1, .ref q2, .ref q3, .ref q4, v5, v6, v7, .ref q8, .ref q9, .ref q10, .ref q11, v12, v13, v14, v15, v16])), (q1, .inl (c1, 16, .inl a1)), (q2, .inl (c2, 67200, .inl a2)), (q3, .inl (c3, 16, .inl a3)), (q4, .inl (c4, 16, .inl a4)), (q8, .inl (c8, 16, .inl a8)), (q9, .inl (c9, 16, .inl a9)), (q10, .inl (c10, 16, .inl a10)), (q11, .inl (c11, 16, .inl a11))] sz) [(h0, .inr (8, [.int th, .ref q1, .ref q2, .ref q3, .ref q4, v5, v6, v7, .ref q8, .ref q9, .ref q10, .ref q11, v12, v13, v14, v15, v16])), (q1, .inl (c1, 16, .inl a1)), (q2, .inl (c2, 67200, .inl a2)), (q3, .inl (c3, 16, .inl a3)), (q4, .inl (c4, 16, .inl a4)), (q8, .inl (c8, 16, .inl a8)), (q9, .inl (c9, 16, .inl a9)), (q10, .inl (c10, 16, .inl a10)), (q11, .inl (c11, 16, .inl a11))]) (va_A [(h0, .inr (8, [.int th, .ref q1, .ref q2, .ref q3, .ref q4, v5, v6, v7, .ref q8, .ref q9, .ref q10, .ref q11, v12, v13, v14, v15, v16])), (q1, .inl (c1, 16, .inl a1)), (q2, .inl (c2, 67200, .inl a2)), (q3, .inl (c3, 16, .inl a3)), (q4, .inl (c4, 16, .inl a4)), (q8, .inl (c8, 16, .inl a8)), (q9, .inl (c9, 16, .inl a9)), (q10, .inl (c10, 16, .inl a10)), (q11, .inl (c11, 16, .inl a11))] sz)) 0 0 (va_A [(h0, .inr (8, [.int th, .ref q1, .ref q2, .ref q3, .ref q4, v5, v6, v7, .ref q8, .ref q9, .ref q10, .ref q11, v12, v13, v14, v15, v16])), (q1, .inl (c1, 16, .inl a1)), (q2, .inl (c2, 67200, .inl a2)), (q3, .inl (c3, 16, .inl a3)), (q4, .inl (c4, 16, .inl a4)), (q8, .inl (c8, 16, .inl a8)), (q9, .inl (c9, 16, .inl a9)), (q10, .inl (c10, 16, .inl a10)), (q11, .inl (c11, 16, .inl a11))] sz) := by
  refine Met.ofW (cc := cX8_entries) (maxL := 5) (ret := (some .int)) (by decide) rfl ?_
  intro p e s m args below meth c s₁ B hml hv
  obtain ⟨rfl, hsz, hP, hK, hD0⟩ := hv
  have hx := B.exec
  have hb := B.bytes
  have hr := B.returns
  have hts := atoms_spec (ws := wsX8_entries) B.pre
  have hown : s.vm.findClass RX8 = some m.cls := findClass_of_methodNamed B.named
  have hlocks := B.notSynchronized
  subst hsz
  have hD := hD0.self (sz := s.heap.size)
  generalize hAe : va_A [(h0, .inr (8, [.int th, .ref q1, .ref q2, .ref q3, .ref q4, v5, v6, v7, .ref q8, .ref q9, .ref q10, .ref q11, v12, v13, v14, v15, v16])), (q1, .inl (c1, 16, .inl a1)), (q2, .inl (c2, 67200, .inl a2)), (q3, .inl (c3, 16, .inl a3)), (q4, .inl (c4, 16, .inl a4)), (q8, .inl (c8, 16, .inl a8)), (q9, .inl (c9, 16, .inl a9)), (q10, .inl (c10, 16, .inl a10)), (q11, .inl (c11, 16, .inl a11))] s.heap.size = A at hD ⊢
  have hA : ∀ q : Nat, s.heap.size ≤ q → A q := fun q h => by rw [← hAe]; exact Or.inr h
  have hS : va_S A s.heap s.heap [] := va_S.rf
  have hP : va_P (dC, dI) vwCl [(h0, .inr (8, [.int th, .ref q1, .ref q2, .ref q3, .ref q4, v5, v6, v7, .ref q8, .ref q9, .ref q10, .ref q11, v12, v13, v14, v15, v16])), (q1, .inl (c1, 16, .inl a1)), (q2, .inl (c2, 67200, .inl a2)), (q3, .inl (c3, 16, .inl a3)), (q4, .inl (c4, 16, .inl a4)), (q8, .inl (c8, 16, .inl a8)), (q9, .inl (c9, 16, .inl a9)), (q10, .inl (c10, 16, .inl a10)), (q11, .inl (c11, 16, .inl a11))] s.heap := hP
  have hl := lv_entry ([.ref h0, .int (nI o)]) (n := 5) (Nat.le_of_ble_eq_true rfl)
  rw [lg_entry_eq]
  generalize (lg_sl ([.ref h0, .int (nI o)]) ++ List.replicate (5 - (lg_sl ([.ref h0, .int (nI o)])).length) Slot.unset).toArray = ls at hl ⊢
  have hl : lv_has ls 5 [(0, .ref h0), (1, .int (nI o))] := hl
  have hw0_ := hts (.fieldLink RX8 17 "KeyAtlasModel" "size" "[I") (List.mem_of_getElem? (l := wsX8_entries) (i := 1) rfl)
  have hi0_ : ∀ w ∈ u_ws RX8 TX8 17, w ∈ wsX8_entries := fun w h => List.mem_cons_of_mem _ (List.mem_append_right _ h)
  refine lv_aload_n hx hb dX8_entries_0 rfl (lv_at hl 0 rfl) ?_
  refine lv_iload_n hx hb dX8_entries_1 rfl (lv_at hl 1 rfl) ?_
  have hPc := hP.sub (ws' := [(h0, .inr (8, [.int th, .ref q1, .ref q2, .ref q3, .ref q4, v5, v6, v7, .ref q8, .ref q9, .ref q10, .ref q11, v12, v13, v14, v15, v16])), (q1, .inl (c1, 16, .inl a1)), (q8, .inl (c8, 16, .inl a8))]) [0, 1, 5] rfl
  have hDc := hD.sub (ws' := [(h0, .inr (8, [.int th, .ref q1, .ref q2, .ref q3, .ref q4, v5, v6, v7, .ref q8, .ref q9, .ref q10, .ref q11, v12, v13, v14, v15, v16])), (q1, .inl (c1, 16, .inl a1)), (q8, .inl (c8, 16, .inl a8))]) [0, 1, 5] (by decide) rfl
  have hKc := hK.sub (tys' := [(c1, .int), (c8, .int)]) [0, 4] rfl
  have hFc := va_free (wc := [(h0, .inr (8, [.int th, .ref q1, .ref q2, .ref q3, .ref q4, v5, v6, v7, .ref q8, .ref q9, .ref q10, .ref q11, v12, v13, v14, v15, v16])), (q1, .inl (c1, 16, .inl a1)), (q8, .inl (c8, 16, .inl a8))]) hD hS hA [0, 1, 5] rfl
  refine va_calli (va_runV (As := [.int (nI o)]) (rest := []) ⟨hx, hb, hml, hown, hts⟩ (c_X8_root l  dC dI s.heap.size h0 th q1 q8 c1 c8 a1 a8 (.ref q2) (.ref q3) (.ref q4) v5 v6 v7 (.ref q9) (.ref q10) (.ref q11) v12 v13 v14 v15 v16 o dep ho9 hF9 hd9) (cwV 1 hts gX8_entries_X8_root rfl rfl rfl (by decide +kernel) ⟨(Nat.le_of_ble_eq_true rfl), (Nat.le_of_ble_eq_true rfl)⟩) ⟨pk_blind, va_recv hKc hPc (ci := 8) (q0 := 0) rfl rfl, pk_call hPc hKc hDc⟩ rfl rfl hl.1 rfl (lv_room (Nat.le_of_ble_eq_true rfl)) dX8_entries_2 ⟨(Nat.le_of_ble_eq_true rfl), (Nat.le_of_ble_eq_true rfl)⟩) hS (fun q _ h => hFc q h) hFc (fun r_1 ur_1 t H1 locs ht hvm hw hB hz1 hk1 hS => ?_)
  try dsimp only at hw
  have jr_1 := hw
  obtain ⟨hP1, hK1, hD1⟩ := hB
  rw [ht] at hP1
  have hK1 := va_K.moved hvm.symm hK1
  obtain ⟨hP, hD⟩ := va_join (wr := [(q2, .inl (c2, 67200, .inl a2)), (q3, .inl (c3, 16, .inl a3)), (q4, .inl (c4, 16, .inl a4)), (q9, .inl (c9, 16, .inl a9)), (q10, .inl (c10, 16, .inl a10)), (q11, .inl (c11, 16, .inl a11))]) (w1 := [(h0, .inr (8, [.int th, .ref q1, .ref q2, .ref q3, .ref q4, v5, v6, v7, .ref q8, .ref q9, .ref q10, .ref q11, v12, v13, v14, v15, v16])), (q1, .inl (c1, 16, .inl a1)), (q8, .inl (c8, 16, .inl a8))]) hP hD [0, 1, 5] [2, 3, 4, 6, 7, 8] rfl rfl (by decide) (by decide) hk1 hFc hP1 hD1
  clear hk1 hz1 ht hPc hDc hKc hFc
  generalize H1 = H at hP hS ⊢
  replace hP : va_P (dC, dI) vwCl [(q2, .inl (c2, 67200, .inl a2)), (q3, .inl (c3, 16, .inl a3)), (q4, .inl (c4, 16, .inl a4)), (q9, .inl (c9, 16, .inl a9)), (q10, .inl (c10, 16, .inl a10)), (q11, .inl (c11, 16, .inl a11)), (h0, .inr (8, [.int th, .ref q1, .ref q2, .ref q3, .ref q4, v5, v6, v7, .ref q8, .ref q9, .ref q10, .ref q11, v12, v13, v14, v15, v16])), (q1, .inl (c1, 16, .inl a1)), (q8, .inl (c8, 16, .inl a8))] H := hP
  replace hD : va_D A [(q2, .inl (c2, 67200, .inl a2)), (q3, .inl (c3, 16, .inl a3)), (q4, .inl (c4, 16, .inl a4)), (q9, .inl (c9, 16, .inl a9)), (q10, .inl (c10, 16, .inl a10)), (q11, .inl (c11, 16, .inl a11)), (h0, .inr (8, [.int th, .ref q1, .ref q2, .ref q3, .ref q4, v5, v6, v7, .ref q8, .ref q9, .ref q10, .ref q11, v12, v13, v14, v15, v16])), (q1, .inl (c1, 16, .inl a1)), (q8, .inl (c8, 16, .inl a8))] := hD
  refine W.widen (k := 0) (n := 0) (Nat.le_of_ble_eq_true rfl) (Nat.le_of_ble_eq_true rfl) ?_
  obtain ⟨rfl, hr9, hr8⟩ := jr_1
  refine W.eq (g2 := F0 m 5 ls [.int (nI (rtN a1 a8 17 o))]) rfl ?_
  refine lv_istore_n (lv' := [(2, .int (nI (rtN a1 a8 17 o))), (0, .ref h0), (1, .int (nI o))]) hx hb dX8_entries_5 rfl hl (by decide) rfl (fun ls hl => ?_)
  refine lv_iconst (v := 0) hx hb dX8_entries_6 (by decide) ?_
  refine lv_istore_n (lv' := [(3, .int 0), (2, .int (nI (rtN a1 a8 17 o))), (0, .ref h0), (1, .int (nI o))]) hx hb dX8_entries_7 rfl hl (by decide) rfl (fun ls hl => ?_)
  refine lv_iconst (v := 0) hx hb dX8_entries_8 (by decide) ?_
  refine lv_istore (lv' := [(4, .int 0), (3, .int 0), (2, .int (nI (rtN a1 a8 17 o))), (0, .ref h0), (1, .int (nI o))]) hx hb dX8_entries_9 hl (by decide) rfl (fun ls hl => ?_)
  obtain ⟨i, es_i⟩ : ∃ z : Nat, z = 0 := ⟨_, rfl⟩
  obtain ⟨x9, ex9⟩ : ∃ y : Int32, y = nI i := ⟨_, rfl⟩
  obtain ⟨e9, es_e9⟩ : ∃ z : Nat, z = 0 := ⟨_, rfl⟩
  obtain ⟨y9, ey9⟩ : ∃ y : Int32, y = nI e9 := ⟨_, rfl⟩
  obtain ⟨n9, en9⟩ : ∃ n : Nat, n = nz + 1 := ⟨_, rfl⟩
  replace hl : lv_has ls 5 [(4, .int x9), (3, .int y9), (2, .int (nI (rtN a1 a8 17 o))), (0, .ref h0), (1, .int (nI o))] := by subst ex9; subst es_i; subst ey9; subst es_e9; exact hl
  have hi9 : i ≤ nz := by subst ex9; subst es_i; subst ey9; subst es_e9; subst en9; exact Nat.zero_le _
  have hn9 : nz + 1 ≤ i + n9 := by subst ex9; subst es_i; subst ey9; subst es_e9; subst en9; exact by omega
  have hv9 : e9 = cntN (inO a1 a2 a4 a8 a9 a10 a11 o) i := by subst ex9; subst es_i; subst ey9; subst es_e9; subst en9; exact rfl
  clear en9 es_i es_e9
  induction n9 generalizing i x9 e9 y9 ls H locs with
  | zero => exact absurd hn9 (by omega)
  | succ n9 ih =>
    subst ex9
    subst ey9
    refine lv_iload hx hb dX8_entries_11 (lv_at hl 0 rfl) ?_
    refine lv_aload_n hx hb dX8_entries_13 rfl (lv_at hl 3 rfl) ?_
    refine va_get (D := (dC, dI)) (ci := 8) (v := .ref q3) (C := RX8) (T := TX8) (N := 17) hx hb hts hi0_ hown hK hP 6 rfl rfl 3 (by decide) hw0_ (fun _ h9 => h9) rfl dX8_entries_14 ?_
    refine lv_iload_n hx hb dX8_entries_17 rfl (lv_at hl 2 rfl) ?_
    refine va_iald (i := nI (rtN a1 a8 17 o)) hx hb hK hP 1 2 rfl rfl (vp_in_nI (by omega) (by omega)) dX8_entries_18 ?_
    refine W.eq (g2 := F0 m 19 ls [.int (a3 (rtN a1 a8 17 o)), .int (nI i)]) (by rw [nI_clamp (by omega)]) ?_
    refine W.eq (g2 := F0 m 19 ls [.int (nI nz), .int (nI i)]) (by rw [hs9]) ?_
    refine lv_icmp_ge (tgt := 51) hx hb dX8_entries_19 (by decide) (fun c_2 => ?_) (fun c_2 => ?_)
    ·
      have ic_2 : ((nz : Nat) : Int) ≤ ((i : Nat) : Int) := tx_le (nI_toInt (by omega)) (nI_toInt (by omega)) c_2
      refine lv_iload_n hx hb dX8_entries_51 rfl (lv_at hl 1 rfl) ?_
      have hP9 := hP.sub (ws' := [(h0, .inr (8, [.int th, .ref q1, .ref q2, .ref q3, .ref q4, v5, v6, v7, .ref q8, .ref q9, .ref q10, .ref q11, v12, v13, v14, v15, v16])), (q1, .inl (c1, 16, .inl a1)), (q2, .inl (c2, 67200, .inl a2)), (q3, .inl (c3, 16, .inl a3)), (q4, .inl (c4, 16, .inl a4)), (q8, .inl (c8, 16, .inl a8)), (q9, .inl (c9, 16, .inl a9)), (q10, .inl (c10, 16, .inl a10)), (q11, .inl (c11, 16, .inl a11))]) [6, 7, 0, 1, 2, 8, 3, 4, 5] rfl
      have hD9 := hD.sub (ws' := [(h0, .inr (8, [.int th, .ref q1, .ref q2, .ref q3, .ref q4, v5, v6, v7, .ref q8, .ref q9, .ref q10, .ref q11, v12, v13, v14, v15, v16])), (q1, .inl (c1, 16, .inl a1)), (q2, .inl (c2, 67200, .inl a2)), (q3, .inl (c3, 16, .inl a3)), (q4, .inl (c4, 16, .inl a4)), (q8, .inl (c8, 16, .inl a8)), (q9, .inl (c9, 16, .inl a9)), (q10, .inl (c10, 16, .inl a10)), (q11, .inl (c11, 16, .inl a11))]) [6, 7, 0, 1, 2, 8, 3, 4, 5] (by decide) rfl
      have hK9 := hK.sub (tys' := [(c1, .int), (c2, .int), (c3, .int), (c4, .int), (c8, .int), (c9, .int), (c10, .int), (c11, .int)]) [0, 1, 2, 3, 4, 5, 6, 7] rfl
      refine W.widen (k := 0) (n := 0) (Nat.le_of_ble_eq_true rfl) (Nat.le_of_ble_eq_true rfl) ?_
      exact W.iret (v := nI e9) hx hb hr (fun t ht hW => ⟨⟨nI e9, (), rfl, by show nI e9 = _; rw [hv9, show i = nz by omega], by rw [ht]; exact hP9, va_K.moved hW.alike hK9, hD9⟩, hS.F ht⟩) hS.2.2 dX8_entries_52
    ·
      have ic_2 : ((i : Nat) : Int) < ((nz : Nat) : Int) := tx_nle (nI_toInt (by omega)) (nI_toInt (by omega)) c_2
      refine lv_iload_n hx hb dX8_entries_22 rfl (lv_at hl 1 rfl) ?_
      refine lv_aload_n hx hb dX8_entries_23 rfl (lv_at hl 3 rfl) ?_
      refine lv_iload_n hx hb dX8_entries_24 rfl (lv_at hl 4 rfl) ?_
      refine lv_aload_n hx hb dX8_entries_25 rfl (lv_at hl 3 rfl) ?_
      refine lv_iload_n hx hb dX8_entries_26 rfl (lv_at hl 2 rfl) ?_
      refine lv_iload hx hb dX8_entries_27 (lv_at hl 0 rfl) ?_
      have hPc := hP.sub (ws' := [(h0, .inr (8, [.int th, .ref q1, .ref q2, .ref q3, .ref q4, v5, v6, v7, .ref q8, .ref q9, .ref q10, .ref q11, v12, v13, v14, v15, v16])), (q2, .inl (c2, 67200, .inl a2))]) [6, 0] rfl
      have hDc := hD.sub (ws' := [(h0, .inr (8, [.int th, .ref q1, .ref q2, .ref q3, .ref q4, v5, v6, v7, .ref q8, .ref q9, .ref q10, .ref q11, v12, v13, v14, v15, v16])), (q2, .inl (c2, 67200, .inl a2))]) [6, 0] (by decide) rfl
      have hKc := hK.sub (tys' := [(c2, .int)]) [1] rfl
      have hFc := va_free (wc := [(h0, .inr (8, [.int th, .ref q1, .ref q2, .ref q3, .ref q4, v5, v6, v7, .ref q8, .ref q9, .ref q10, .ref q11, v12, v13, v14, v15, v16])), (q2, .inl (c2, 67200, .inl a2))]) hD hS hA [6, 0] rfl
      refine va_calli (va_runV (As := [.int (nI (rtN a1 a8 17 o)), .int (nI i)]) (rest := [.int (nI o), .ref h0, .int (nI e9)]) ⟨hx, hb, hml, hown, hts⟩ (c_X8_key l  dC dI H.size h0 th q2 c2 a2 (.ref q1) (.ref q3) (.ref q4) v5 v6 v7 (.ref q8) (.ref q9) (.ref q10) (.ref q11) v12 v13 v14 v15 v16 (rtN a1 a8 17 o) i hr9 (by omega)) (cwV 2 hts gX8_entries_X8_key rfl rfl rfl (by decide +kernel) ⟨(Nat.le_of_ble_eq_true rfl), (Nat.le_of_ble_eq_true rfl)⟩) ⟨pk_blind, va_recv hKc hPc (ci := 8) (q0 := 0) rfl rfl, pk_call hPc hKc hDc⟩ rfl rfl hl.1 rfl (lv_room (Nat.le_of_ble_eq_true rfl)) dX8_entries_29 ⟨(Nat.le_of_ble_eq_true rfl), (Nat.le_of_ble_eq_true rfl)⟩) hS (fun q _ h => hFc q h) hFc (fun r_3 ur_3 t H1 locs ht hvm hw hB hz1 hk1 hS => ?_)
      try dsimp only at hw
      obtain ⟨hP1, hK1, hD1⟩ := hB
      rw [ht] at hP1
      have hK1 := va_K.moved hvm.symm hK1
      obtain ⟨hP, hD⟩ := va_join (wr := [(q3, .inl (c3, 16, .inl a3)), (q4, .inl (c4, 16, .inl a4)), (q9, .inl (c9, 16, .inl a9)), (q10, .inl (c10, 16, .inl a10)), (q11, .inl (c11, 16, .inl a11)), (q1, .inl (c1, 16, .inl a1)), (q8, .inl (c8, 16, .inl a8))]) (w1 := [(h0, .inr (8, [.int th, .ref q1, .ref q2, .ref q3, .ref q4, v5, v6, v7, .ref q8, .ref q9, .ref q10, .ref q11, v12, v13, v14, v15, v16])), (q2, .inl (c2, 67200, .inl a2))]) hP hD [6, 0] [1, 2, 3, 4, 5, 7, 8] rfl rfl (by decide) (by decide) hk1 hFc hP1 hD1
      clear hk1 hz1 ht hPc hDc hKc hFc
      generalize H1 = H at hP hS ⊢
      replace hP : va_P (dC, dI) vwCl [(q3, .inl (c3, 16, .inl a3)), (q4, .inl (c4, 16, .inl a4)), (q9, .inl (c9, 16, .inl a9)), (q10, .inl (c10, 16, .inl a10)), (q11, .inl (c11, 16, .inl a11)), (q1, .inl (c1, 16, .inl a1)), (q8, .inl (c8, 16, .inl a8)), (h0, .inr (8, [.int th, .ref q1, .ref q2, .ref q3, .ref q4, v5, v6, v7, .ref q8, .ref q9, .ref q10, .ref q11, v12, v13, v14, v15, v16])), (q2, .inl (c2, 67200, .inl a2))] H := hP
      replace hD : va_D A [(q3, .inl (c3, 16, .inl a3)), (q4, .inl (c4, 16, .inl a4)), (q9, .inl (c9, 16, .inl a9)), (q10, .inl (c10, 16, .inl a10)), (q11, .inl (c11, 16, .inl a11)), (q1, .inl (c1, 16, .inl a1)), (q8, .inl (c8, 16, .inl a8)), (h0, .inr (8, [.int th, .ref q1, .ref q2, .ref q3, .ref q4, v5, v6, v7, .ref q8, .ref q9, .ref q10, .ref q11, v12, v13, v14, v15, v16])), (q2, .inl (c2, 67200, .inl a2))] := hD
      refine W.widen (k := 0) (n := 0) (Nat.le_of_ble_eq_true rfl) (Nat.le_of_ble_eq_true rfl) ?_
      obtain rfl : r_3 = a2 (4200 * rtN a1 a8 17 o + i) := hw
      refine W.eq (g2 := F0 m 32 ls [.int (a2 (4200 * rtN a1 a8 17 o + i)), .int (nI o), .ref h0, .int (nI e9)]) rfl ?_
      have hPc := hP.sub (ws' := [(h0, .inr (8, [.int th, .ref q1, .ref q2, .ref q3, .ref q4, v5, v6, v7, .ref q8, .ref q9, .ref q10, .ref q11, v12, v13, v14, v15, v16])), (q1, .inl (c1, 16, .inl a1)), (q4, .inl (c4, 16, .inl a4)), (q8, .inl (c8, 16, .inl a8)), (q9, .inl (c9, 16, .inl a9)), (q10, .inl (c10, 16, .inl a10)), (q11, .inl (c11, 16, .inl a11))]) [7, 5, 1, 6, 2, 3, 4] rfl
      have hDc := hD.sub (ws' := [(h0, .inr (8, [.int th, .ref q1, .ref q2, .ref q3, .ref q4, v5, v6, v7, .ref q8, .ref q9, .ref q10, .ref q11, v12, v13, v14, v15, v16])), (q1, .inl (c1, 16, .inl a1)), (q4, .inl (c4, 16, .inl a4)), (q8, .inl (c8, 16, .inl a8)), (q9, .inl (c9, 16, .inl a9)), (q10, .inl (c10, 16, .inl a10)), (q11, .inl (c11, 16, .inl a11))]) [7, 5, 1, 6, 2, 3, 4] (by decide) rfl
      have hKc := hK.sub (tys' := [(c1, .int), (c4, .int), (c8, .int), (c9, .int), (c10, .int), (c11, .int)]) [0, 3, 4, 5, 6, 7] rfl
      have hFc := va_free (wc := [(h0, .inr (8, [.int th, .ref q1, .ref q2, .ref q3, .ref q4, v5, v6, v7, .ref q8, .ref q9, .ref q10, .ref q11, v12, v13, v14, v15, v16])), (q1, .inl (c1, 16, .inl a1)), (q4, .inl (c4, 16, .inl a4)), (q8, .inl (c8, 16, .inl a8)), (q9, .inl (c9, 16, .inl a9)), (q10, .inl (c10, 16, .inl a10)), (q11, .inl (c11, 16, .inl a11))]) hD hS hA [7, 5, 1, 6, 2, 3, 4] rfl
      refine va_calli (va_runV (As := [.int (nI o), .int (a2 (4200 * rtN a1 a8 17 o + i))]) (rest := [.int (nI e9)]) ⟨hx, hb, hml, hown, hts⟩ (c_X8_isWithin l  dC dI H.size h0 th q1 q4 q8 q9 q10 q11 c1 c4 c8 c9 c10 c11 a1 a4 a8 a9 a10 a11 (.ref q2) (.ref q3) v5 v6 v7 v12 v13 v14 v15 v16 o dep (a2 (4200 * rtN a1 a8 17 o + i)) ho9 hF9 hd9) (cwV 2 hts gX8_entries_X8_isWithin rfl rfl rfl (by decide +kernel) ⟨(Nat.le_of_ble_eq_true rfl), (Nat.le_of_ble_eq_true rfl)⟩) ⟨pk_blind, va_recv hKc hPc (ci := 8) (q0 := 0) rfl rfl, pk_call hPc hKc hDc⟩ rfl rfl hl.1 rfl (lv_room (Nat.le_of_ble_eq_true rfl)) dX8_entries_32 ⟨(Nat.le_of_ble_eq_true rfl), (Nat.le_of_ble_eq_true rfl)⟩) hS (fun q _ h => hFc q h) hFc (fun r_4 ur_4 t H1 locs ht hvm hw hB hz1 hk1 hS => ?_)
      try dsimp only at hw
      obtain ⟨hP1, hK1, hD1⟩ := hB
      rw [ht] at hP1
      have hK1 := va_K.moved hvm.symm hK1
      obtain ⟨hP, hD⟩ := va_join (wr := [(q3, .inl (c3, 16, .inl a3)), (q2, .inl (c2, 67200, .inl a2))]) (w1 := [(h0, .inr (8, [.int th, .ref q1, .ref q2, .ref q3, .ref q4, v5, v6, v7, .ref q8, .ref q9, .ref q10, .ref q11, v12, v13, v14, v15, v16])), (q1, .inl (c1, 16, .inl a1)), (q4, .inl (c4, 16, .inl a4)), (q8, .inl (c8, 16, .inl a8)), (q9, .inl (c9, 16, .inl a9)), (q10, .inl (c10, 16, .inl a10)), (q11, .inl (c11, 16, .inl a11))]) hP hD [7, 5, 1, 6, 2, 3, 4] [0, 8] rfl rfl (by decide) (by decide) hk1 hFc hP1 hD1
      clear hk1 hz1 ht hPc hDc hKc hFc
      generalize H1 = H at hP hS ⊢
      replace hP : va_P (dC, dI) vwCl [(q3, .inl (c3, 16, .inl a3)), (q2, .inl (c2, 67200, .inl a2)), (h0, .inr (8, [.int th, .ref q1, .ref q2, .ref q3, .ref q4, v5, v6, v7, .ref q8, .ref q9, .ref q10, .ref q11, v12, v13, v14, v15, v16])), (q1, .inl (c1, 16, .inl a1)), (q4, .inl (c4, 16, .inl a4)), (q8, .inl (c8, 16, .inl a8)), (q9, .inl (c9, 16, .inl a9)), (q10, .inl (c10, 16, .inl a10)), (q11, .inl (c11, 16, .inl a11))] H := hP
      replace hD : va_D A [(q3, .inl (c3, 16, .inl a3)), (q2, .inl (c2, 67200, .inl a2)), (h0, .inr (8, [.int th, .ref q1, .ref q2, .ref q3, .ref q4, v5, v6, v7, .ref q8, .ref q9, .ref q10, .ref q11, v12, v13, v14, v15, v16])), (q1, .inl (c1, 16, .inl a1)), (q4, .inl (c4, 16, .inl a4)), (q8, .inl (c8, 16, .inl a8)), (q9, .inl (c9, 16, .inl a9)), (q10, .inl (c10, 16, .inl a10)), (q11, .inl (c11, 16, .inl a11))] := hD
      refine W.widen (k := 0) (n := 0) (Nat.le_of_ble_eq_true rfl) (Nat.le_of_ble_eq_true rfl) ?_
      obtain rfl : r_4 = tz (winN a1 a8 a11 a9 a10 a4 17 o (a2 (4200 * rtN a1 a8 17 o + i))) := hw
      refine W.eq (g2 := F0 m 35 ls [.int (tz (winN a1 a8 a11 a9 a10 a4 17 o (a2 (4200 * rtN a1 a8 17 o + i)))), .int (nI e9)]) rfl ?_
      refine lv_if_eq (tgt := 42) hx hb dX8_entries_35 (by decide) (fun c_5 => ?_) (fun c_5 => ?_)
      ·
        have ic_5 : (tz (winN a1 a8 a11 a9 a10 a4 17 o (a2 (4200 * rtN a1 a8 17 o + i)))).toInt = 0 := tx_eq rfl (by decide) c_5
        refine lv_iconst (v := 0) hx hb dX8_entries_42 (by decide) ?_
        refine lv_iadd hx hb dX8_entries_43 ?_
        refine lv_topi (fun z_6 ez_6 => ?_)
        obtain rfl : z_6 = nI (e9 + 0) := ez_6.trans (by rw [show (0 : Int32) = nI 0 from rfl, nI_add])
        refine lv_istore_n (lv' := [(3, .int (nI (e9 + 0))), (4, .int (nI i)), (2, .int (nI (rtN a1 a8 17 o))), (0, .ref h0), (1, .int (nI o))]) hx hb dX8_entries_44 rfl hl (by decide) rfl (fun ls hl => ?_)
        refine lv_iinc (v := nI (i + 1)) (lv' := [(4, .int (nI (i + 1))), (3, .int (nI (e9 + 0))), (2, .int (nI (rtN a1 a8 17 o))), (0, .ref h0), (1, .int (nI o))]) hx hb dX8_entries_45 hl (k := 1) rfl (by rw [show Int32.ofInt 1 = nI 1 from rfl, nI_add]) (by decide) rfl (fun ls hl => ?_)
        refine lv_goto (tgt := 11) hx hb dX8_entries_48 (by decide) ?_
        exact ih (i := i + 1) (x9 := nI (i + 1)) (ex9 := rfl) (e9 := e9 + 0) (y9 := nI (e9 + 0)) (ey9 := rfl) (ls := ls) (H := H) (locs := locs) (hP := hP.sub (ws' := [(q2, .inl (c2, 67200, .inl a2)), (q3, .inl (c3, 16, .inl a3)), (q4, .inl (c4, 16, .inl a4)), (q9, .inl (c9, 16, .inl a9)), (q10, .inl (c10, 16, .inl a10)), (q11, .inl (c11, 16, .inl a11)), (h0, .inr (8, [.int th, .ref q1, .ref q2, .ref q3, .ref q4, v5, v6, v7, .ref q8, .ref q9, .ref q10, .ref q11, v12, v13, v14, v15, v16])), (q1, .inl (c1, 16, .inl a1)), (q8, .inl (c8, 16, .inl a8))]) [1, 0, 4, 6, 7, 8, 2, 3, 5] rfl) (hS := hS) (hi9 := by omega) (hn9 := by omega) (hv9 := by rw [hv9]; exact (cnt_f (f := inO a1 a2 a4 a8 a9 a10 a11 o) (tz_0 ic_5)).symm) (hl := lv_sub hl [0, 1, 2, 3, 4] rfl)
      ·
        have ic_5 : ¬ (tz (winN a1 a8 a11 a9 a10 a4 17 o (a2 (4200 * rtN a1 a8 17 o + i)))).toInt = 0 := tx_ne rfl (by decide) c_5
        refine lv_iconst (v := 1) hx hb dX8_entries_38 (by decide) ?_
        refine lv_goto (tgt := 43) hx hb dX8_entries_39 (by decide) ?_
        refine lv_iadd hx hb dX8_entries_43 ?_
        refine lv_topi (fun z_7 ez_7 => ?_)
        obtain rfl : z_7 = nI (e9 + 1) := ez_7.trans (by rw [show (1 : Int32) = nI 1 from rfl, nI_add])
        refine lv_istore_n (lv' := [(3, .int (nI (e9 + 1))), (4, .int (nI i)), (2, .int (nI (rtN a1 a8 17 o))), (0, .ref h0), (1, .int (nI o))]) hx hb dX8_entries_44 rfl hl (by decide) rfl (fun ls hl => ?_)
        refine lv_iinc (v := nI (i + 1)) (lv' := [(4, .int (nI (i + 1))), (3, .int (nI (e9 + 1))), (2, .int (nI (rtN a1 a8 17 o))), (0, .ref h0), (1, .int (nI o))]) hx hb dX8_entries_45 hl (k := 1) rfl (by rw [show Int32.ofInt 1 = nI 1 from rfl, nI_add]) (by decide) rfl (fun ls hl => ?_)
        refine lv_goto (tgt := 11) hx hb dX8_entries_48 (by decide) ?_
        exact ih (i := i + 1) (x9 := nI (i + 1)) (ex9 := rfl) (e9 := e9 + 1) (y9 := nI (e9 + 1)) (ey9 := rfl) (ls := ls) (H := H) (locs := locs) (hP := hP.sub (ws' := [(q2, .inl (c2, 67200, .inl a2)), (q3, .inl (c3, 16, .inl a3)), (q4, .inl (c4, 16, .inl a4)), (q9, .inl (c9, 16, .inl a9)), (q10, .inl (c10, 16, .inl a10)), (q11, .inl (c11, 16, .inl a11)), (h0, .inr (8, [.int th, .ref q1, .ref q2, .ref q3, .ref q4, v5, v6, v7, .ref q8, .ref q9, .ref q10, .ref q11, v12, v13, v14, v15, v16])), (q1, .inl (c1, 16, .inl a1)), (q8, .inl (c8, 16, .inl a8))]) [1, 0, 4, 6, 7, 8, 2, 3, 5] rfl) (hS := hS) (hi9 := by omega) (hn9 := by omega) (hv9 := by rw [hv9]; exact (cnt_t (f := inO a1 a2 a4 a8 a9 a10 a11 o) (tz_1 ic_5)).symm) (hl := lv_sub hl [0, 1, 2, 3, 4] rfl)
set_option maxHeartbeats 4000000 in
set_option maxRecDepth 100000 in
/-- nth -/
theorem c_X8_nth (l : Launch) (dC : Nat → ClassId) (dI : Nat → Nat → Nat) (sz : Nat) (h0 : Nat) (th : Int32) (q1 : Nat) (q2 : Nat) (q3 : Nat) (q4 : Nat) (q8 : Nat) (q9 : Nat) (q10 : Nat) (q11 : Nat) (c1 : ClassId) (c2 : ClassId) (c3 : ClassId) (c4 : ClassId) (c8 : ClassId) (c9 : ClassId) (c10 : ClassId) (c11 : ClassId) (a1 : Nat → Int32) (a2 : Nat → Int32) (a3 : Nat → Int32) (a4 : Nat → Int32) (a8 : Nat → Int32) (a9 : Nat → Int32) (a10 : Nat → Int32) (a11 : Nat → Int32) (v5 : Value) (v6 : Value) (v7 : Value) (v12 : Value) (v13 : Value) (v14 : Value) (v15 : Value) (v16 : Value) (o : Nat) (dep : Nat → Nat) (nz : Nat) (u9 : Nat) (ho9 : o < 16) (hF9 : rF a1 a8 dep) (hd9 : dep o < 17) (hs9 : a3 (rtN a1 a8 17 o) = nI nz) (hz9 : nz ≤ 1000) (ht9 : u9 < cntN (inO a1 a2 a4 a8 a9 a10 a11 o) nz) : Met l yX8_nth wsX8_nth ({ frames := 4, cells := 0, slots := 0, locals := 150 }) (va_Pc [.ref h0, .int (nI o), .int (nI u9)] (pk_Pre (dC, dI) [(h0, .inr (8, [.int th, .ref q1, .ref q2, .ref q3, .ref q4, v5, v6, v7, .ref q8, .ref q9, .ref q10, .ref q11, v12, v13, v14, v15, v16])), (q1, .inl (c1, 16, .inl a1)), (q2, .inl (c2, 67200, .inl a2)), (q3, .inl (c3, 16, .inl a3)), (q4, .inl (c4, 16, .inl a4)), (q8, .inl (c8, 16, .inl a8)), (q9, .inl (c9, 16, .inl a9)), (q10, .inl (c10, 16, .inl a10)), (q11, .inl (c11, 16, .inl a11))] [(c1, .int), (c2, .int), (c3, .int), (c4, .int), (c8, .int), (c9, .int), (c10, .int), (c11, .int)] sz)) (va_Qi (fun (x : Int32) (_ : Unit) => ∃ j : Nat, j < nz ∧ x = nI j ∧ inO a1 a2 a4 a8 a9 a10 a11 o j = true) (fun (_ : Unit) (t : State) => va_P (dC, dI) vwCl [(h0, .inr (8, [.int th, .ref q1, .ref q2, .ref q3, .ref q4, v5, v6, v7, .ref q8, .ref q9, .ref q10, .ref q11, v12, v13, v14, v15, v16])), (q1, .inl (c1, 16, .inl a1)), (q2, .inl (c2, 67200, .inl a2)), (q3, .inl (c3, 16, .inl a3)), (q4, .inl (c4, 16, .inl a4)), (q8, .inl (c8, 16, .inl a8)), (q9, .inl (c9, 16, .inl a9)), (q10, .inl (c10, 16, .inl a10)), (q11, .inl (c11, 16, .inl a11))] t.heap ∧ va_K (dC, dI) vwCl [(c1, .int), (c2, .int), (c3, .int), (c4, .int), (c8, .int), (c9, .int), (c10, .int), (c11, .int)] t ∧ va_D (va_A [(h0, .inr (8, [.int th, .ref q1, .ref q2, .ref q3, .ref q4, v5, v6, v7, .ref q8, .ref q9, .ref q10, .ref q11, v12, v13, v14, v15, v16])), (q1, .inl (c1, 16, .inl a1)), (q2, .inl (c2, 67200, .inl a2)), (q3, .inl (c3, 16, .inl a3)), (q4, .inl (c4, 16, .inl a4)), (q8, .inl (c8, 16, .inl a8)), (q9, .inl (c9, 16, .inl a9)), (q10, .inl (c10, 16, .inl a10)), (q11, .inl (c11, 16, .inl a11))] sz) [(h0, .inr (8, [.int th, .ref q1, .ref q2, .ref q3, .ref q4, v5, v6, v7, .ref q8, .ref q9, .ref q10, .ref q11, v12, v13, v14, v15, v16])), (q1, .inl (c1, 16, .inl a1)), (q2, .inl (c2, 67200, .inl a2)), (q3, .inl (c3, 16, .inl a3)), (q4, .inl (c4, 16, .inl a4)), (q8, .inl (c8, 16, .inl a8)), (q9, .inl (c9, 16, .inl a9)), (q10, .inl (c10, 16, .inl a10)), (q11, .inl (c11, 16, .inl a11))]) (va_A [(h0, .inr (8, [.int th, .ref q1, .ref q2, .ref q3, .ref q4, v5, v6, v7, .ref q8, .ref q9, .ref q10, .ref q11, v12, v13, v14, v15, v16])), (q1, .inl (c1, 16, .inl a1)), (q2, .inl (c2, 67200, .inl a2)), (q3, .inl (c3, 16, .inl a3)), (q4, .inl (c4, 16, .inl a4)), (q8, .inl (c8, 16, .inl a8)), (q9, .inl (c9, 16, .inl a9)), (q10, .inl (c10, 16, .inl a10)), (q11, .inl (c11, 16, .inl a11))] sz)) 0 0 (va_A [(h0, .inr (8, [.int th, .ref q1, .ref q2, .ref q3, .ref q4, v5, v6, v7, .ref q8, .ref q9, .ref q10, .ref q11, v12, v13, v14, v15, v16])), (q1, .inl (c1, 16, .inl a1)), (q2, .inl (c2, 67200, .inl a2)), (q3, .inl (c3, 16, .inl a3)), (q4, .inl (c4, 16, .inl a4)), (q8, .inl (c8, 16, .inl a8)), (q9, .inl (c9, 16, .inl a9)), (q10, .inl (c10, 16, .inl a10)), (q11, .inl (c11, 16, .inl a11))] sz) := by
  refine Met.ofW (cc := cX8_nth) (maxL := 8) (ret := (some .int)) (by decide) rfl ?_
  intro p e s m args below meth c s₁ B hml hv
  obtain ⟨rfl, hsz, hP, hK, hD0⟩ := hv
  have hx := B.exec
  have hb := B.bytes
  have hr := B.returns
  have hts := atoms_spec (ws := wsX8_nth) B.pre
  have hown : s.vm.findClass RX8 = some m.cls := findClass_of_methodNamed B.named
  have hlocks := B.notSynchronized
  subst hsz
  have hD := hD0.self (sz := s.heap.size)
  generalize hAe : va_A [(h0, .inr (8, [.int th, .ref q1, .ref q2, .ref q3, .ref q4, v5, v6, v7, .ref q8, .ref q9, .ref q10, .ref q11, v12, v13, v14, v15, v16])), (q1, .inl (c1, 16, .inl a1)), (q2, .inl (c2, 67200, .inl a2)), (q3, .inl (c3, 16, .inl a3)), (q4, .inl (c4, 16, .inl a4)), (q8, .inl (c8, 16, .inl a8)), (q9, .inl (c9, 16, .inl a9)), (q10, .inl (c10, 16, .inl a10)), (q11, .inl (c11, 16, .inl a11))] s.heap.size = A at hD ⊢
  have hA : ∀ q : Nat, s.heap.size ≤ q → A q := fun q h => by rw [← hAe]; exact Or.inr h
  have hS : va_S A s.heap s.heap [] := va_S.rf
  have hP : va_P (dC, dI) vwCl [(h0, .inr (8, [.int th, .ref q1, .ref q2, .ref q3, .ref q4, v5, v6, v7, .ref q8, .ref q9, .ref q10, .ref q11, v12, v13, v14, v15, v16])), (q1, .inl (c1, 16, .inl a1)), (q2, .inl (c2, 67200, .inl a2)), (q3, .inl (c3, 16, .inl a3)), (q4, .inl (c4, 16, .inl a4)), (q8, .inl (c8, 16, .inl a8)), (q9, .inl (c9, 16, .inl a9)), (q10, .inl (c10, 16, .inl a10)), (q11, .inl (c11, 16, .inl a11))] s.heap := hP
  have hl := lv_entry ([.ref h0, .int (nI o), .int (nI u9)]) (n := 8) (Nat.le_of_ble_eq_true rfl)
  rw [lg_entry_eq]
  generalize (lg_sl ([.ref h0, .int (nI o), .int (nI u9)]) ++ List.replicate (8 - (lg_sl ([.ref h0, .int (nI o), .int (nI u9)])).length) Slot.unset).toArray = ls at hl ⊢
  have hl : lv_has ls 8 [(0, .ref h0), (1, .int (nI o)), (2, .int (nI u9))] := hl
  have hw0_ := hts (.fieldLink RX8 17 "KeyAtlasModel" "size" "[I") (List.mem_of_getElem? (l := wsX8_nth) (i := 1) rfl)
  have hi0_ : ∀ w ∈ u_ws RX8 TX8 17, w ∈ wsX8_nth := fun w h => List.mem_cons_of_mem _ (List.mem_append_right _ h)
  have hc9 := cnt_le (inO a1 a2 a4 a8 a9 a10 a11 o) nz
  refine lv_aload_n hx hb dX8_nth_0 rfl (lv_at hl 0 rfl) ?_
  refine lv_iload_n hx hb dX8_nth_1 rfl (lv_at hl 1 rfl) ?_
  have hPc := hP.sub (ws' := [(h0, .inr (8, [.int th, .ref q1, .ref q2, .ref q3, .ref q4, v5, v6, v7, .ref q8, .ref q9, .ref q10, .ref q11, v12, v13, v14, v15, v16])), (q1, .inl (c1, 16, .inl a1)), (q8, .inl (c8, 16, .inl a8))]) [0, 1, 5] rfl
  have hDc := hD.sub (ws' := [(h0, .inr (8, [.int th, .ref q1, .ref q2, .ref q3, .ref q4, v5, v6, v7, .ref q8, .ref q9, .ref q10, .ref q11, v12, v13, v14, v15, v16])), (q1, .inl (c1, 16, .inl a1)), (q8, .inl (c8, 16, .inl a8))]) [0, 1, 5] (by decide) rfl
  have hKc := hK.sub (tys' := [(c1, .int), (c8, .int)]) [0, 4] rfl
  have hFc := va_free (wc := [(h0, .inr (8, [.int th, .ref q1, .ref q2, .ref q3, .ref q4, v5, v6, v7, .ref q8, .ref q9, .ref q10, .ref q11, v12, v13, v14, v15, v16])), (q1, .inl (c1, 16, .inl a1)), (q8, .inl (c8, 16, .inl a8))]) hD hS hA [0, 1, 5] rfl
  refine va_calli (va_runV (As := [.int (nI o)]) (rest := []) ⟨hx, hb, hml, hown, hts⟩ (c_X8_root l  dC dI s.heap.size h0 th q1 q8 c1 c8 a1 a8 (.ref q2) (.ref q3) (.ref q4) v5 v6 v7 (.ref q9) (.ref q10) (.ref q11) v12 v13 v14 v15 v16 o dep ho9 hF9 hd9) (cwV 1 hts gX8_nth_X8_root rfl rfl rfl (by decide +kernel) ⟨(Nat.le_of_ble_eq_true rfl), (Nat.le_of_ble_eq_true rfl)⟩) ⟨pk_blind, va_recv hKc hPc (ci := 8) (q0 := 0) rfl rfl, pk_call hPc hKc hDc⟩ rfl rfl hl.1 rfl (lv_room (Nat.le_of_ble_eq_true rfl)) dX8_nth_2 ⟨(Nat.le_of_ble_eq_true rfl), (Nat.le_of_ble_eq_true rfl)⟩) hS (fun q _ h => hFc q h) hFc (fun r_1 ur_1 t H1 locs ht hvm hw hB hz1 hk1 hS => ?_)
  try dsimp only at hw
  have jr_1 := hw
  obtain ⟨hP1, hK1, hD1⟩ := hB
  rw [ht] at hP1
  have hK1 := va_K.moved hvm.symm hK1
  obtain ⟨hP, hD⟩ := va_join (wr := [(q2, .inl (c2, 67200, .inl a2)), (q3, .inl (c3, 16, .inl a3)), (q4, .inl (c4, 16, .inl a4)), (q9, .inl (c9, 16, .inl a9)), (q10, .inl (c10, 16, .inl a10)), (q11, .inl (c11, 16, .inl a11))]) (w1 := [(h0, .inr (8, [.int th, .ref q1, .ref q2, .ref q3, .ref q4, v5, v6, v7, .ref q8, .ref q9, .ref q10, .ref q11, v12, v13, v14, v15, v16])), (q1, .inl (c1, 16, .inl a1)), (q8, .inl (c8, 16, .inl a8))]) hP hD [0, 1, 5] [2, 3, 4, 6, 7, 8] rfl rfl (by decide) (by decide) hk1 hFc hP1 hD1
  clear hk1 hz1 ht hPc hDc hKc hFc
  generalize H1 = H at hP hS ⊢
  replace hP : va_P (dC, dI) vwCl [(q2, .inl (c2, 67200, .inl a2)), (q3, .inl (c3, 16, .inl a3)), (q4, .inl (c4, 16, .inl a4)), (q9, .inl (c9, 16, .inl a9)), (q10, .inl (c10, 16, .inl a10)), (q11, .inl (c11, 16, .inl a11)), (h0, .inr (8, [.int th, .ref q1, .ref q2, .ref q3, .ref q4, v5, v6, v7, .ref q8, .ref q9, .ref q10, .ref q11, v12, v13, v14, v15, v16])), (q1, .inl (c1, 16, .inl a1)), (q8, .inl (c8, 16, .inl a8))] H := hP
  replace hD : va_D A [(q2, .inl (c2, 67200, .inl a2)), (q3, .inl (c3, 16, .inl a3)), (q4, .inl (c4, 16, .inl a4)), (q9, .inl (c9, 16, .inl a9)), (q10, .inl (c10, 16, .inl a10)), (q11, .inl (c11, 16, .inl a11)), (h0, .inr (8, [.int th, .ref q1, .ref q2, .ref q3, .ref q4, v5, v6, v7, .ref q8, .ref q9, .ref q10, .ref q11, v12, v13, v14, v15, v16])), (q1, .inl (c1, 16, .inl a1)), (q8, .inl (c8, 16, .inl a8))] := hD
  refine W.widen (k := 0) (n := 0) (Nat.le_of_ble_eq_true rfl) (Nat.le_of_ble_eq_true rfl) ?_
  obtain ⟨rfl, hr9, hr8⟩ := jr_1
  refine W.eq (g2 := F0 m 5 ls [.int (nI (rtN a1 a8 17 o))]) rfl ?_
  refine lv_istore_n (lv' := [(3, .int (nI (rtN a1 a8 17 o))), (0, .ref h0), (1, .int (nI o)), (2, .int (nI u9))]) hx hb dX8_nth_5 rfl hl (by decide) rfl (fun ls hl => ?_)
  refine lv_aload_n hx hb dX8_nth_6 rfl (lv_at hl 1 rfl) ?_
  refine lv_iload_n hx hb dX8_nth_7 rfl (lv_at hl 2 rfl) ?_
  have hPc := hP.sub (ws' := [(h0, .inr (8, [.int th, .ref q1, .ref q2, .ref q3, .ref q4, v5, v6, v7, .ref q8, .ref q9, .ref q10, .ref q11, v12, v13, v14, v15, v16])), (q1, .inl (c1, 16, .inl a1)), (q8, .inl (c8, 16, .inl a8)), (q11, .inl (c11, 16, .inl a11))]) [6, 7, 8, 5] rfl
  have hDc := hD.sub (ws' := [(h0, .inr (8, [.int th, .ref q1, .ref q2, .ref q3, .ref q4, v5, v6, v7, .ref q8, .ref q9, .ref q10, .ref q11, v12, v13, v14, v15, v16])), (q1, .inl (c1, 16, .inl a1)), (q8, .inl (c8, 16, .inl a8)), (q11, .inl (c11, 16, .inl a11))]) [6, 7, 8, 5] (by decide) rfl
  have hKc := hK.sub (tys' := [(c1, .int), (c8, .int), (c11, .int)]) [0, 4, 7] rfl
  have hFc := va_free (wc := [(h0, .inr (8, [.int th, .ref q1, .ref q2, .ref q3, .ref q4, v5, v6, v7, .ref q8, .ref q9, .ref q10, .ref q11, v12, v13, v14, v15, v16])), (q1, .inl (c1, 16, .inl a1)), (q8, .inl (c8, 16, .inl a8)), (q11, .inl (c11, 16, .inl a11))]) hD hS hA [6, 7, 8, 5] rfl
  refine va_calli (va_runV (As := [.int (nI o)]) (rest := []) ⟨hx, hb, hml, hown, hts⟩ (c_X8_isTurned l  dC dI H.size h0 th q1 q8 q11 c1 c8 c11 a1 a8 a11 (.ref q2) (.ref q3) (.ref q4) v5 v6 v7 (.ref q9) (.ref q10) v12 v13 v14 v15 v16 o dep ho9 hF9 hd9) (cwV 1 hts gX8_nth_X8_isTurned rfl rfl rfl (by decide +kernel) ⟨(Nat.le_of_ble_eq_true rfl), (Nat.le_of_ble_eq_true rfl)⟩) ⟨pk_blind, va_recv hKc hPc (ci := 8) (q0 := 0) rfl rfl, pk_call hPc hKc hDc⟩ rfl rfl hl.1 rfl (lv_room (Nat.le_of_ble_eq_true rfl)) dX8_nth_8 ⟨(Nat.le_of_ble_eq_true rfl), (Nat.le_of_ble_eq_true rfl)⟩) hS (fun q _ h => hFc q h) hFc (fun r_2 ur_2 t H1 locs ht hvm hw hB hz1 hk1 hS => ?_)
  try dsimp only at hw
  obtain ⟨hP1, hK1, hD1⟩ := hB
  rw [ht] at hP1
  have hK1 := va_K.moved hvm.symm hK1
  obtain ⟨hP, hD⟩ := va_join (wr := [(q2, .inl (c2, 67200, .inl a2)), (q3, .inl (c3, 16, .inl a3)), (q4, .inl (c4, 16, .inl a4)), (q9, .inl (c9, 16, .inl a9)), (q10, .inl (c10, 16, .inl a10))]) (w1 := [(h0, .inr (8, [.int th, .ref q1, .ref q2, .ref q3, .ref q4, v5, v6, v7, .ref q8, .ref q9, .ref q10, .ref q11, v12, v13, v14, v15, v16])), (q1, .inl (c1, 16, .inl a1)), (q8, .inl (c8, 16, .inl a8)), (q11, .inl (c11, 16, .inl a11))]) hP hD [6, 7, 8, 5] [0, 1, 2, 3, 4] rfl rfl (by decide) (by decide) hk1 hFc hP1 hD1
  clear hk1 hz1 ht hPc hDc hKc hFc
  generalize H1 = H at hP hS ⊢
  replace hP : va_P (dC, dI) vwCl [(q2, .inl (c2, 67200, .inl a2)), (q3, .inl (c3, 16, .inl a3)), (q4, .inl (c4, 16, .inl a4)), (q9, .inl (c9, 16, .inl a9)), (q10, .inl (c10, 16, .inl a10)), (h0, .inr (8, [.int th, .ref q1, .ref q2, .ref q3, .ref q4, v5, v6, v7, .ref q8, .ref q9, .ref q10, .ref q11, v12, v13, v14, v15, v16])), (q1, .inl (c1, 16, .inl a1)), (q8, .inl (c8, 16, .inl a8)), (q11, .inl (c11, 16, .inl a11))] H := hP
  replace hD : va_D A [(q2, .inl (c2, 67200, .inl a2)), (q3, .inl (c3, 16, .inl a3)), (q4, .inl (c4, 16, .inl a4)), (q9, .inl (c9, 16, .inl a9)), (q10, .inl (c10, 16, .inl a10)), (h0, .inr (8, [.int th, .ref q1, .ref q2, .ref q3, .ref q4, v5, v6, v7, .ref q8, .ref q9, .ref q10, .ref q11, v12, v13, v14, v15, v16])), (q1, .inl (c1, 16, .inl a1)), (q8, .inl (c8, 16, .inl a8)), (q11, .inl (c11, 16, .inl a11))] := hD
  refine W.widen (k := 0) (n := 0) (Nat.le_of_ble_eq_true rfl) (Nat.le_of_ble_eq_true rfl) ?_
  obtain rfl : r_2 = tz (tnN a1 a8 a11 17 o false) := hw
  refine W.eq (g2 := F0 m 11 ls [.int (tz (tnN a1 a8 a11 17 o false))]) rfl ?_
  refine lv_istore (lv' := [(4, .int (tz (tnN a1 a8 a11 17 o false))), (3, .int (nI (rtN a1 a8 17 o))), (0, .ref h0), (1, .int (nI o)), (2, .int (nI u9))]) hx hb dX8_nth_11 hl (by decide) rfl (fun ls hl => ?_)
  refine lv_iload_n hx hb dX8_nth_13 rfl (lv_at hl 4 rfl) ?_
  refine lv_istore (lv' := [(5, .int (nI u9)), (4, .int (tz (tnN a1 a8 a11 17 o false))), (3, .int (nI (rtN a1 a8 17 o))), (0, .ref h0), (1, .int (nI o)), (2, .int (nI u9))]) hx hb dX8_nth_14 hl (by decide) rfl (fun ls hl => ?_)
  refine lv_iconst (v := 0) hx hb dX8_nth_16 (by decide) ?_
  refine lv_istore (lv' := [(6, .int 0), (5, .int (nI u9)), (4, .int (tz (tnN a1 a8 a11 17 o false))), (3, .int (nI (rtN a1 a8 17 o))), (0, .ref h0), (1, .int (nI o)), (2, .int (nI u9))]) hx hb dX8_nth_17 hl (by decide) rfl (fun ls hl => ?_)
  obtain ⟨i, es_i⟩ : ∃ z : Nat, z = 0 := ⟨_, rfl⟩
  obtain ⟨x9, ex9⟩ : ∃ y : Int32, y = nI i := ⟨_, rfl⟩
  obtain ⟨e9, es_e9⟩ : ∃ z : Nat, z = u9 := ⟨_, rfl⟩
  obtain ⟨y9, ey9⟩ : ∃ y : Int32, y = nI e9 := ⟨_, rfl⟩
  obtain ⟨n9, en9⟩ : ∃ n : Nat, n = nz + 1 := ⟨_, rfl⟩
  replace hl : lv_has ls 8 [(6, .int x9), (5, .int y9), (4, .int (tz (tnN a1 a8 a11 17 o false))), (3, .int (nI (rtN a1 a8 17 o))), (0, .ref h0), (1, .int (nI o)), (2, .int (nI u9))] := by subst ex9; subst es_i; subst ey9; subst es_e9; exact hl
  have hi9 : i ≤ nz := by subst ex9; subst es_i; subst ey9; subst es_e9; subst en9; exact Nat.zero_le _
  have hn9 : nz + 1 ≤ i + n9 := by subst ex9; subst es_i; subst ey9; subst es_e9; subst en9; exact by omega
  have hv9 : e9 + cntN (fun k => inO a1 a2 a4 a8 a9 a10 a11 o (if tnN a1 a8 a11 17 o false then nz - 1 - k else k)) i = u9 := by subst ex9; subst es_i; subst ey9; subst es_e9; subst en9; exact rfl
  clear en9 es_i es_e9
  induction n9 generalizing i x9 e9 y9 ls H locs with
  | zero => exact absurd hn9 (by omega)
  | succ n9 ih =>
    subst ex9
    subst ey9
    refine lv_iload hx hb dX8_nth_19 (lv_at hl 0 rfl) ?_
    refine lv_aload_n hx hb dX8_nth_21 rfl (lv_at hl 4 rfl) ?_
    refine va_get (D := (dC, dI)) (ci := 8) (v := .ref q3) (C := RX8) (T := TX8) (N := 17) hx hb hts hi0_ hown hK hP 5 rfl rfl 3 (by decide) hw0_ (fun _ h9 => h9) rfl dX8_nth_22 ?_
    refine lv_iload_n hx hb dX8_nth_25 rfl (lv_at hl 3 rfl) ?_
    refine va_iald (i := nI (rtN a1 a8 17 o)) hx hb hK hP 1 2 rfl rfl (vp_in_nI (by omega) (by omega)) dX8_nth_26 ?_
    refine W.eq (g2 := F0 m 27 ls [.int (a3 (rtN a1 a8 17 o)), .int (nI i)]) (by rw [nI_clamp (by omega)]) ?_
    refine W.eq (g2 := F0 m 27 ls [.int (nI nz), .int (nI i)]) (by rw [hs9]) ?_
    refine lv_icmp_ge (tgt := 88) hx hb dX8_nth_27 (by decide) (fun c_3 => ?_) (fun c_3 => ?_)
    ·
      have ic_3 : ((nz : Nat) : Int) ≤ ((i : Nat) : Int) := tx_le (nI_toInt (by omega)) (nI_toInt (by omega)) c_3
      refine lv_iconst (v := (-1)) hx hb dX8_nth_88 (by decide) ?_
      exact absurd ht9 (by have h8 : cntN (fun k => inO a1 a2 a4 a8 a9 a10 a11 o (if tnN a1 a8 a11 17 o false then nz - 1 - k else k)) nz = cntN (inO a1 a2 a4 a8 a9 a10 a11 o) nz := cnt_pk; rw [show i = nz by omega, h8] at hv9; omega)
    ·
      have ic_3 : ((i : Nat) : Int) < ((nz : Nat) : Int) := tx_nle (nI_toInt (by omega)) (nI_toInt (by omega)) c_3
      refine lv_iload hx hb dX8_nth_30 (lv_at hl 2 rfl) ?_
      refine lv_if_eq (tgt := 49) hx hb dX8_nth_32 (by decide) (fun c_4 => ?_) (fun c_4 => ?_)
      ·
        have ic_4 : (tz (tnN a1 a8 a11 17 o false)).toInt = 0 := tx_eq rfl (by decide) c_4
        refine lv_iload hx hb dX8_nth_49 (lv_at hl 0 rfl) ?_
        refine lv_istore (lv' := [(7, .int (nI i)), (6, .int (nI i)), (5, .int (nI e9)), (4, .int (tz (tnN a1 a8 a11 17 o false))), (3, .int (nI (rtN a1 a8 17 o))), (0, .ref h0), (1, .int (nI o)), (2, .int (nI u9))]) hx hb dX8_nth_51 hl (by decide) rfl (fun ls hl => ?_)
        refine lv_aload_n hx hb dX8_nth_53 rfl (lv_at hl 5 rfl) ?_
        refine lv_iload_n hx hb dX8_nth_54 rfl (lv_at hl 6 rfl) ?_
        refine lv_aload_n hx hb dX8_nth_55 rfl (lv_at hl 5 rfl) ?_
        refine lv_iload_n hx hb dX8_nth_56 rfl (lv_at hl 4 rfl) ?_
        refine lv_iload hx hb dX8_nth_57 (lv_at hl 0 rfl) ?_
        have hPc := hP.sub (ws' := [(h0, .inr (8, [.int th, .ref q1, .ref q2, .ref q3, .ref q4, v5, v6, v7, .ref q8, .ref q9, .ref q10, .ref q11, v12, v13, v14, v15, v16])), (q2, .inl (c2, 67200, .inl a2))]) [5, 0] rfl
        have hDc := hD.sub (ws' := [(h0, .inr (8, [.int th, .ref q1, .ref q2, .ref q3, .ref q4, v5, v6, v7, .ref q8, .ref q9, .ref q10, .ref q11, v12, v13, v14, v15, v16])), (q2, .inl (c2, 67200, .inl a2))]) [5, 0] (by decide) rfl
        have hKc := hK.sub (tys' := [(c2, .int)]) [1] rfl
        have hFc := va_free (wc := [(h0, .inr (8, [.int th, .ref q1, .ref q2, .ref q3, .ref q4, v5, v6, v7, .ref q8, .ref q9, .ref q10, .ref q11, v12, v13, v14, v15, v16])), (q2, .inl (c2, 67200, .inl a2))]) hD hS hA [5, 0] rfl
        refine va_calli (va_runV (As := [.int (nI (rtN a1 a8 17 o)), .int (nI i)]) (rest := [.int (nI o), .ref h0]) ⟨hx, hb, hml, hown, hts⟩ (c_X8_key l  dC dI H.size h0 th q2 c2 a2 (.ref q1) (.ref q3) (.ref q4) v5 v6 v7 (.ref q8) (.ref q9) (.ref q10) (.ref q11) v12 v13 v14 v15 v16 (rtN a1 a8 17 o) i hr9 (by omega)) (cwV 2 hts gX8_nth_X8_key rfl rfl rfl (by decide +kernel) ⟨(Nat.le_of_ble_eq_true rfl), (Nat.le_of_ble_eq_true rfl)⟩) ⟨pk_blind, va_recv hKc hPc (ci := 8) (q0 := 0) rfl rfl, pk_call hPc hKc hDc⟩ rfl rfl hl.1 rfl (lv_room (Nat.le_of_ble_eq_true rfl)) dX8_nth_59 ⟨(Nat.le_of_ble_eq_true rfl), (Nat.le_of_ble_eq_true rfl)⟩) hS (fun q _ h => hFc q h) hFc (fun r_5 ur_5 t H1 locs ht hvm hw hB hz1 hk1 hS => ?_)
        try dsimp only at hw
        obtain ⟨hP1, hK1, hD1⟩ := hB
        rw [ht] at hP1
        have hK1 := va_K.moved hvm.symm hK1
        obtain ⟨hP, hD⟩ := va_join (wr := [(q3, .inl (c3, 16, .inl a3)), (q4, .inl (c4, 16, .inl a4)), (q9, .inl (c9, 16, .inl a9)), (q10, .inl (c10, 16, .inl a10)), (q1, .inl (c1, 16, .inl a1)), (q8, .inl (c8, 16, .inl a8)), (q11, .inl (c11, 16, .inl a11))]) (w1 := [(h0, .inr (8, [.int th, .ref q1, .ref q2, .ref q3, .ref q4, v5, v6, v7, .ref q8, .ref q9, .ref q10, .ref q11, v12, v13, v14, v15, v16])), (q2, .inl (c2, 67200, .inl a2))]) hP hD [5, 0] [1, 2, 3, 4, 6, 7, 8] rfl rfl (by decide) (by decide) hk1 hFc hP1 hD1
        clear hk1 hz1 ht hPc hDc hKc hFc
        generalize H1 = H at hP hS ⊢
        replace hP : va_P (dC, dI) vwCl [(q3, .inl (c3, 16, .inl a3)), (q4, .inl (c4, 16, .inl a4)), (q9, .inl (c9, 16, .inl a9)), (q10, .inl (c10, 16, .inl a10)), (q1, .inl (c1, 16, .inl a1)), (q8, .inl (c8, 16, .inl a8)), (q11, .inl (c11, 16, .inl a11)), (h0, .inr (8, [.int th, .ref q1, .ref q2, .ref q3, .ref q4, v5, v6, v7, .ref q8, .ref q9, .ref q10, .ref q11, v12, v13, v14, v15, v16])), (q2, .inl (c2, 67200, .inl a2))] H := hP
        replace hD : va_D A [(q3, .inl (c3, 16, .inl a3)), (q4, .inl (c4, 16, .inl a4)), (q9, .inl (c9, 16, .inl a9)), (q10, .inl (c10, 16, .inl a10)), (q1, .inl (c1, 16, .inl a1)), (q8, .inl (c8, 16, .inl a8)), (q11, .inl (c11, 16, .inl a11)), (h0, .inr (8, [.int th, .ref q1, .ref q2, .ref q3, .ref q4, v5, v6, v7, .ref q8, .ref q9, .ref q10, .ref q11, v12, v13, v14, v15, v16])), (q2, .inl (c2, 67200, .inl a2))] := hD
        refine W.widen (k := 0) (n := 0) (Nat.le_of_ble_eq_true rfl) (Nat.le_of_ble_eq_true rfl) ?_
        obtain rfl : r_5 = a2 (4200 * rtN a1 a8 17 o + i) := hw
        refine W.eq (g2 := F0 m 62 ls [.int (a2 (4200 * rtN a1 a8 17 o + i)), .int (nI o), .ref h0]) rfl ?_
        have hPc := hP.sub (ws' := [(h0, .inr (8, [.int th, .ref q1, .ref q2, .ref q3, .ref q4, v5, v6, v7, .ref q8, .ref q9, .ref q10, .ref q11, v12, v13, v14, v15, v16])), (q1, .inl (c1, 16, .inl a1)), (q4, .inl (c4, 16, .inl a4)), (q8, .inl (c8, 16, .inl a8)), (q9, .inl (c9, 16, .inl a9)), (q10, .inl (c10, 16, .inl a10)), (q11, .inl (c11, 16, .inl a11))]) [7, 4, 1, 5, 2, 3, 6] rfl
        have hDc := hD.sub (ws' := [(h0, .inr (8, [.int th, .ref q1, .ref q2, .ref q3, .ref q4, v5, v6, v7, .ref q8, .ref q9, .ref q10, .ref q11, v12, v13, v14, v15, v16])), (q1, .inl (c1, 16, .inl a1)), (q4, .inl (c4, 16, .inl a4)), (q8, .inl (c8, 16, .inl a8)), (q9, .inl (c9, 16, .inl a9)), (q10, .inl (c10, 16, .inl a10)), (q11, .inl (c11, 16, .inl a11))]) [7, 4, 1, 5, 2, 3, 6] (by decide) rfl
        have hKc := hK.sub (tys' := [(c1, .int), (c4, .int), (c8, .int), (c9, .int), (c10, .int), (c11, .int)]) [0, 3, 4, 5, 6, 7] rfl
        have hFc := va_free (wc := [(h0, .inr (8, [.int th, .ref q1, .ref q2, .ref q3, .ref q4, v5, v6, v7, .ref q8, .ref q9, .ref q10, .ref q11, v12, v13, v14, v15, v16])), (q1, .inl (c1, 16, .inl a1)), (q4, .inl (c4, 16, .inl a4)), (q8, .inl (c8, 16, .inl a8)), (q9, .inl (c9, 16, .inl a9)), (q10, .inl (c10, 16, .inl a10)), (q11, .inl (c11, 16, .inl a11))]) hD hS hA [7, 4, 1, 5, 2, 3, 6] rfl
        refine va_calli (va_runV (As := [.int (nI o), .int (a2 (4200 * rtN a1 a8 17 o + i))]) (rest := []) ⟨hx, hb, hml, hown, hts⟩ (c_X8_isWithin l  dC dI H.size h0 th q1 q4 q8 q9 q10 q11 c1 c4 c8 c9 c10 c11 a1 a4 a8 a9 a10 a11 (.ref q2) (.ref q3) v5 v6 v7 v12 v13 v14 v15 v16 o dep (a2 (4200 * rtN a1 a8 17 o + i)) ho9 hF9 hd9) (cwV 2 hts gX8_nth_X8_isWithin rfl rfl rfl (by decide +kernel) ⟨(Nat.le_of_ble_eq_true rfl), (Nat.le_of_ble_eq_true rfl)⟩) ⟨pk_blind, va_recv hKc hPc (ci := 8) (q0 := 0) rfl rfl, pk_call hPc hKc hDc⟩ rfl rfl hl.1 rfl (lv_room (Nat.le_of_ble_eq_true rfl)) dX8_nth_62 ⟨(Nat.le_of_ble_eq_true rfl), (Nat.le_of_ble_eq_true rfl)⟩) hS (fun q _ h => hFc q h) hFc (fun r_6 ur_6 t H1 locs ht hvm hw hB hz1 hk1 hS => ?_)
        try dsimp only at hw
        obtain ⟨hP1, hK1, hD1⟩ := hB
        rw [ht] at hP1
        have hK1 := va_K.moved hvm.symm hK1
        obtain ⟨hP, hD⟩ := va_join (wr := [(q3, .inl (c3, 16, .inl a3)), (q2, .inl (c2, 67200, .inl a2))]) (w1 := [(h0, .inr (8, [.int th, .ref q1, .ref q2, .ref q3, .ref q4, v5, v6, v7, .ref q8, .ref q9, .ref q10, .ref q11, v12, v13, v14, v15, v16])), (q1, .inl (c1, 16, .inl a1)), (q4, .inl (c4, 16, .inl a4)), (q8, .inl (c8, 16, .inl a8)), (q9, .inl (c9, 16, .inl a9)), (q10, .inl (c10, 16, .inl a10)), (q11, .inl (c11, 16, .inl a11))]) hP hD [7, 4, 1, 5, 2, 3, 6] [0, 8] rfl rfl (by decide) (by decide) hk1 hFc hP1 hD1
        clear hk1 hz1 ht hPc hDc hKc hFc
        generalize H1 = H at hP hS ⊢
        replace hP : va_P (dC, dI) vwCl [(q3, .inl (c3, 16, .inl a3)), (q2, .inl (c2, 67200, .inl a2)), (h0, .inr (8, [.int th, .ref q1, .ref q2, .ref q3, .ref q4, v5, v6, v7, .ref q8, .ref q9, .ref q10, .ref q11, v12, v13, v14, v15, v16])), (q1, .inl (c1, 16, .inl a1)), (q4, .inl (c4, 16, .inl a4)), (q8, .inl (c8, 16, .inl a8)), (q9, .inl (c9, 16, .inl a9)), (q10, .inl (c10, 16, .inl a10)), (q11, .inl (c11, 16, .inl a11))] H := hP
        replace hD : va_D A [(q3, .inl (c3, 16, .inl a3)), (q2, .inl (c2, 67200, .inl a2)), (h0, .inr (8, [.int th, .ref q1, .ref q2, .ref q3, .ref q4, v5, v6, v7, .ref q8, .ref q9, .ref q10, .ref q11, v12, v13, v14, v15, v16])), (q1, .inl (c1, 16, .inl a1)), (q4, .inl (c4, 16, .inl a4)), (q8, .inl (c8, 16, .inl a8)), (q9, .inl (c9, 16, .inl a9)), (q10, .inl (c10, 16, .inl a10)), (q11, .inl (c11, 16, .inl a11))] := hD
        refine W.widen (k := 0) (n := 0) (Nat.le_of_ble_eq_true rfl) (Nat.le_of_ble_eq_true rfl) ?_
        obtain rfl : r_6 = tz (winN a1 a8 a11 a9 a10 a4 17 o (a2 (4200 * rtN a1 a8 17 o + i))) := hw
        refine W.eq (g2 := F0 m 65 ls [.int (tz (winN a1 a8 a11 a9 a10 a4 17 o (a2 (4200 * rtN a1 a8 17 o + i))))]) rfl ?_
        refine lv_if_ne (tgt := 71) hx hb dX8_nth_65 (by decide) (fun c_7 => ?_) (fun c_7 => ?_)
        ·
          have ic_7 : ¬ (tz (winN a1 a8 a11 a9 a10 a4 17 o (a2 (4200 * rtN a1 a8 17 o + i)))).toInt = 0 := tx_ne rfl (by decide) c_7
          refine lv_iload hx hb dX8_nth_71 (lv_at hl 2 rfl) ?_
          refine lv_if_ne (tgt := 79) hx hb dX8_nth_73 (by decide) (fun c_8 => ?_) (fun c_8 => ?_)
          ·
            have ic_8 : ¬ ((e9 : Nat) : Int) = 0 := tx_ne (nI_toInt (by omega)) (by decide) c_8
            refine lv_iinc (v := nI (e9 - 1)) (lv' := [(5, .int (nI (e9 - 1))), (7, .int (nI i)), (6, .int (nI i)), (4, .int (tz (tnN a1 a8 a11 17 o false))), (3, .int (nI (rtN a1 a8 17 o))), (0, .ref h0), (1, .int (nI o)), (2, .int (nI u9))]) hx hb dX8_nth_79 hl (k := 2) rfl (by rw [show Int32.ofInt (-1) = -1 from rfl]; exact sb_m1 (by omega)) (by decide) rfl (fun ls hl => ?_)
            refine lv_iinc (v := nI (i + 1)) (lv' := [(6, .int (nI (i + 1))), (5, .int (nI (e9 - 1))), (7, .int (nI i)), (4, .int (tz (tnN a1 a8 a11 17 o false))), (3, .int (nI (rtN a1 a8 17 o))), (0, .ref h0), (1, .int (nI o)), (2, .int (nI u9))]) hx hb dX8_nth_82 hl (k := 2) rfl (by rw [show Int32.ofInt 1 = nI 1 from rfl, nI_add]) (by decide) rfl (fun ls hl => ?_)
            refine lv_goto (tgt := 19) hx hb dX8_nth_85 (by decide) ?_
            exact ih (i := i + 1) (x9 := nI (i + 1)) (ex9 := rfl) (e9 := e9 - 1) (y9 := nI (e9 - 1)) (ey9 := rfl) (ls := ls) (H := H) (locs := locs) (hP := hP.sub (ws' := [(q2, .inl (c2, 67200, .inl a2)), (q3, .inl (c3, 16, .inl a3)), (q4, .inl (c4, 16, .inl a4)), (q9, .inl (c9, 16, .inl a9)), (q10, .inl (c10, 16, .inl a10)), (h0, .inr (8, [.int th, .ref q1, .ref q2, .ref q3, .ref q4, v5, v6, v7, .ref q8, .ref q9, .ref q10, .ref q11, v12, v13, v14, v15, v16])), (q1, .inl (c1, 16, .inl a1)), (q8, .inl (c8, 16, .inl a8)), (q11, .inl (c11, 16, .inl a11))]) [1, 0, 4, 6, 7, 2, 3, 5, 8] rfl) (hS := hS) (hi9 := by omega) (hn9 := by omega) (hv9 := by rw [cnt_t (f := fun k => inO a1 a2 a4 a8 a9 a10 a11 o (if tnN a1 a8 a11 17 o false then nz - 1 - k else k)) ((show (fun k => inO a1 a2 a4 a8 a9 a10 a11 o (if tnN a1 a8 a11 17 o false then nz - 1 - k else k)) i = inO a1 a2 a4 a8 a9 a10 a11 o i by show inO a1 a2 a4 a8 a9 a10 a11 o _ = _; rw [if_neg (by rw [tz_0 ic_4]; decide)]).trans (tz_1 ic_7))]; omega) (hl := lv_sub hl [0, 1, 3, 4, 5, 6, 7] rfl)
          ·
            have ic_8 : ((e9 : Nat) : Int) = 0 := tx_eq (nI_toInt (by omega)) (by decide) c_8
            refine lv_iload hx hb dX8_nth_76 (lv_at hl 0 rfl) ?_
            have hP9 := hP.sub (ws' := [(h0, .inr (8, [.int th, .ref q1, .ref q2, .ref q3, .ref q4, v5, v6, v7, .ref q8, .ref q9, .ref q10, .ref q11, v12, v13, v14, v15, v16])), (q1, .inl (c1, 16, .inl a1)), (q2, .inl (c2, 67200, .inl a2)), (q3, .inl (c3, 16, .inl a3)), (q4, .inl (c4, 16, .inl a4)), (q8, .inl (c8, 16, .inl a8)), (q9, .inl (c9, 16, .inl a9)), (q10, .inl (c10, 16, .inl a10)), (q11, .inl (c11, 16, .inl a11))]) [2, 3, 1, 0, 4, 5, 6, 7, 8] rfl
            have hD9 := hD.sub (ws' := [(h0, .inr (8, [.int th, .ref q1, .ref q2, .ref q3, .ref q4, v5, v6, v7, .ref q8, .ref q9, .ref q10, .ref q11, v12, v13, v14, v15, v16])), (q1, .inl (c1, 16, .inl a1)), (q2, .inl (c2, 67200, .inl a2)), (q3, .inl (c3, 16, .inl a3)), (q4, .inl (c4, 16, .inl a4)), (q8, .inl (c8, 16, .inl a8)), (q9, .inl (c9, 16, .inl a9)), (q10, .inl (c10, 16, .inl a10)), (q11, .inl (c11, 16, .inl a11))]) [2, 3, 1, 0, 4, 5, 6, 7, 8] (by decide) rfl
            have hK9 := hK.sub (tys' := [(c1, .int), (c2, .int), (c3, .int), (c4, .int), (c8, .int), (c9, .int), (c10, .int), (c11, .int)]) [0, 1, 2, 3, 4, 5, 6, 7] rfl
            refine W.widen (k := 0) (n := 0) (Nat.le_of_ble_eq_true rfl) (Nat.le_of_ble_eq_true rfl) ?_
            exact W.iret (v := nI i) hx hb hr (fun t ht hW => ⟨⟨nI i, (), rfl, ⟨i, by omega, rfl, tz_1 ic_7⟩, by rw [ht]; exact hP9, va_K.moved hW.alike hK9, hD9⟩, hS.F ht⟩) hS.2.2 dX8_nth_78
        ·
          have ic_7 : (tz (winN a1 a8 a11 a9 a10 a4 17 o (a2 (4200 * rtN a1 a8 17 o + i)))).toInt = 0 := tx_eq rfl (by decide) c_7
          refine lv_goto (tgt := 82) hx hb dX8_nth_68 (by decide) ?_
          refine lv_iinc (v := nI (i + 1)) (lv' := [(6, .int (nI (i + 1))), (7, .int (nI i)), (5, .int (nI e9)), (4, .int (tz (tnN a1 a8 a11 17 o false))), (3, .int (nI (rtN a1 a8 17 o))), (0, .ref h0), (1, .int (nI o)), (2, .int (nI u9))]) hx hb dX8_nth_82 hl (k := 1) rfl (by rw [show Int32.ofInt 1 = nI 1 from rfl, nI_add]) (by decide) rfl (fun ls hl => ?_)
          refine lv_goto (tgt := 19) hx hb dX8_nth_85 (by decide) ?_
          exact ih (i := i + 1) (x9 := nI (i + 1)) (ex9 := rfl) (e9 := e9) (y9 := nI e9) (ey9 := rfl) (ls := ls) (H := H) (locs := locs) (hP := hP.sub (ws' := [(q2, .inl (c2, 67200, .inl a2)), (q3, .inl (c3, 16, .inl a3)), (q4, .inl (c4, 16, .inl a4)), (q9, .inl (c9, 16, .inl a9)), (q10, .inl (c10, 16, .inl a10)), (h0, .inr (8, [.int th, .ref q1, .ref q2, .ref q3, .ref q4, v5, v6, v7, .ref q8, .ref q9, .ref q10, .ref q11, v12, v13, v14, v15, v16])), (q1, .inl (c1, 16, .inl a1)), (q8, .inl (c8, 16, .inl a8)), (q11, .inl (c11, 16, .inl a11))]) [1, 0, 4, 6, 7, 2, 3, 5, 8] rfl) (hS := hS) (hi9 := by omega) (hn9 := by omega) (hv9 := by rw [cnt_f (f := fun k => inO a1 a2 a4 a8 a9 a10 a11 o (if tnN a1 a8 a11 17 o false then nz - 1 - k else k)) ((show (fun k => inO a1 a2 a4 a8 a9 a10 a11 o (if tnN a1 a8 a11 17 o false then nz - 1 - k else k)) i = inO a1 a2 a4 a8 a9 a10 a11 o i by show inO a1 a2 a4 a8 a9 a10 a11 o _ = _; rw [if_neg (by rw [tz_0 ic_4]; decide)]).trans (tz_0 ic_7))]; omega) (hl := lv_sub hl [0, 2, 3, 4, 5, 6, 7] rfl)
      ·
        have ic_4 : ¬ (tz (tnN a1 a8 a11 17 o false)).toInt = 0 := tx_ne rfl (by decide) c_4
        refine lv_aload_n hx hb dX8_nth_35 rfl (lv_at hl 4 rfl) ?_
        refine va_get (D := (dC, dI)) (ci := 8) (v := .ref q3) (C := RX8) (T := TX8) (N := 17) hx hb hts hi0_ hown hK hP 5 rfl rfl 3 (by decide) hw0_ (fun _ h9 => h9) rfl dX8_nth_36 ?_
        refine lv_iload_n hx hb dX8_nth_39 rfl (lv_at hl 3 rfl) ?_
        refine va_iald (i := nI (rtN a1 a8 17 o)) hx hb hK hP 1 2 rfl rfl (vp_in_nI (by omega) (by omega)) dX8_nth_40 ?_
        refine W.eq (g2 := F0 m 41 ls [.int (a3 (rtN a1 a8 17 o))]) (by rw [nI_clamp (by omega)]) ?_
        refine W.eq (g2 := F0 m 41 ls [.int (nI nz)]) (by rw [hs9]) ?_
        refine lv_iconst (v := 1) hx hb dX8_nth_41 (by decide) ?_
        refine lv_isub hx hb dX8_nth_42 ?_
        refine lv_topi (fun z_9 ez_9 => ?_)
        obtain rfl : z_9 = nI (nz - 1) := ez_9.trans (by rw [show (1 : Int32) = nI 1 from rfl, pk_sub (by omega)])
        refine lv_iload hx hb dX8_nth_43 (lv_at hl 0 rfl) ?_
        refine lv_isub hx hb dX8_nth_45 ?_
        refine lv_topi (fun z_10 ez_10 => ?_)
        obtain rfl : z_10 = nI ((nz - 1) - i) := ez_10.trans (by rw [pk_sub (by omega)])
        refine lv_goto (tgt := 51) hx hb dX8_nth_46 (by decide) ?_
        refine lv_istore (lv' := [(7, .int (nI ((nz - 1) - i))), (6, .int (nI i)), (5, .int (nI e9)), (4, .int (tz (tnN a1 a8 a11 17 o false))), (3, .int (nI (rtN a1 a8 17 o))), (0, .ref h0), (1, .int (nI o)), (2, .int (nI u9))]) hx hb dX8_nth_51 hl (by decide) rfl (fun ls hl => ?_)
        refine lv_aload_n hx hb dX8_nth_53 rfl (lv_at hl 5 rfl) ?_
        refine lv_iload_n hx hb dX8_nth_54 rfl (lv_at hl 6 rfl) ?_
        refine lv_aload_n hx hb dX8_nth_55 rfl (lv_at hl 5 rfl) ?_
        refine lv_iload_n hx hb dX8_nth_56 rfl (lv_at hl 4 rfl) ?_
        refine lv_iload hx hb dX8_nth_57 (lv_at hl 0 rfl) ?_
        have hPc := hP.sub (ws' := [(h0, .inr (8, [.int th, .ref q1, .ref q2, .ref q3, .ref q4, v5, v6, v7, .ref q8, .ref q9, .ref q10, .ref q11, v12, v13, v14, v15, v16])), (q2, .inl (c2, 67200, .inl a2))]) [5, 0] rfl
        have hDc := hD.sub (ws' := [(h0, .inr (8, [.int th, .ref q1, .ref q2, .ref q3, .ref q4, v5, v6, v7, .ref q8, .ref q9, .ref q10, .ref q11, v12, v13, v14, v15, v16])), (q2, .inl (c2, 67200, .inl a2))]) [5, 0] (by decide) rfl
        have hKc := hK.sub (tys' := [(c2, .int)]) [1] rfl
        have hFc := va_free (wc := [(h0, .inr (8, [.int th, .ref q1, .ref q2, .ref q3, .ref q4, v5, v6, v7, .ref q8, .ref q9, .ref q10, .ref q11, v12, v13, v14, v15, v16])), (q2, .inl (c2, 67200, .inl a2))]) hD hS hA [5, 0] rfl
        refine va_calli (va_runV (As := [.int (nI (rtN a1 a8 17 o)), .int (nI ((nz - 1) - i))]) (rest := [.int (nI o), .ref h0]) ⟨hx, hb, hml, hown, hts⟩ (c_X8_key l  dC dI H.size h0 th q2 c2 a2 (.ref q1) (.ref q3) (.ref q4) v5 v6 v7 (.ref q8) (.ref q9) (.ref q10) (.ref q11) v12 v13 v14 v15 v16 (rtN a1 a8 17 o) ((nz - 1) - i) hr9 (by omega)) (cwV 2 hts gX8_nth_X8_key rfl rfl rfl (by decide +kernel) ⟨(Nat.le_of_ble_eq_true rfl), (Nat.le_of_ble_eq_true rfl)⟩) ⟨pk_blind, va_recv hKc hPc (ci := 8) (q0 := 0) rfl rfl, pk_call hPc hKc hDc⟩ rfl rfl hl.1 rfl (lv_room (Nat.le_of_ble_eq_true rfl)) dX8_nth_59 ⟨(Nat.le_of_ble_eq_true rfl), (Nat.le_of_ble_eq_true rfl)⟩) hS (fun q _ h => hFc q h) hFc (fun r_11 ur_11 t H1 locs ht hvm hw hB hz1 hk1 hS => ?_)
        try dsimp only at hw
        obtain ⟨hP1, hK1, hD1⟩ := hB
        rw [ht] at hP1
        have hK1 := va_K.moved hvm.symm hK1
        obtain ⟨hP, hD⟩ := va_join (wr := [(q3, .inl (c3, 16, .inl a3)), (q4, .inl (c4, 16, .inl a4)), (q9, .inl (c9, 16, .inl a9)), (q10, .inl (c10, 16, .inl a10)), (q1, .inl (c1, 16, .inl a1)), (q8, .inl (c8, 16, .inl a8)), (q11, .inl (c11, 16, .inl a11))]) (w1 := [(h0, .inr (8, [.int th, .ref q1, .ref q2, .ref q3, .ref q4, v5, v6, v7, .ref q8, .ref q9, .ref q10, .ref q11, v12, v13, v14, v15, v16])), (q2, .inl (c2, 67200, .inl a2))]) hP hD [5, 0] [1, 2, 3, 4, 6, 7, 8] rfl rfl (by decide) (by decide) hk1 hFc hP1 hD1
        clear hk1 hz1 ht hPc hDc hKc hFc
        generalize H1 = H at hP hS ⊢
        replace hP : va_P (dC, dI) vwCl [(q3, .inl (c3, 16, .inl a3)), (q4, .inl (c4, 16, .inl a4)), (q9, .inl (c9, 16, .inl a9)), (q10, .inl (c10, 16, .inl a10)), (q1, .inl (c1, 16, .inl a1)), (q8, .inl (c8, 16, .inl a8)), (q11, .inl (c11, 16, .inl a11)), (h0, .inr (8, [.int th, .ref q1, .ref q2, .ref q3, .ref q4, v5, v6, v7, .ref q8, .ref q9, .ref q10, .ref q11, v12, v13, v14, v15, v16])), (q2, .inl (c2, 67200, .inl a2))] H := hP
        replace hD : va_D A [(q3, .inl (c3, 16, .inl a3)), (q4, .inl (c4, 16, .inl a4)), (q9, .inl (c9, 16, .inl a9)), (q10, .inl (c10, 16, .inl a10)), (q1, .inl (c1, 16, .inl a1)), (q8, .inl (c8, 16, .inl a8)), (q11, .inl (c11, 16, .inl a11)), (h0, .inr (8, [.int th, .ref q1, .ref q2, .ref q3, .ref q4, v5, v6, v7, .ref q8, .ref q9, .ref q10, .ref q11, v12, v13, v14, v15, v16])), (q2, .inl (c2, 67200, .inl a2))] := hD
        refine W.widen (k := 0) (n := 0) (Nat.le_of_ble_eq_true rfl) (Nat.le_of_ble_eq_true rfl) ?_
        obtain rfl : r_11 = a2 (4200 * rtN a1 a8 17 o + ((nz - 1) - i)) := hw
        refine W.eq (g2 := F0 m 62 ls [.int (a2 (4200 * rtN a1 a8 17 o + ((nz - 1) - i))), .int (nI o), .ref h0]) rfl ?_
        have hPc := hP.sub (ws' := [(h0, .inr (8, [.int th, .ref q1, .ref q2, .ref q3, .ref q4, v5, v6, v7, .ref q8, .ref q9, .ref q10, .ref q11, v12, v13, v14, v15, v16])), (q1, .inl (c1, 16, .inl a1)), (q4, .inl (c4, 16, .inl a4)), (q8, .inl (c8, 16, .inl a8)), (q9, .inl (c9, 16, .inl a9)), (q10, .inl (c10, 16, .inl a10)), (q11, .inl (c11, 16, .inl a11))]) [7, 4, 1, 5, 2, 3, 6] rfl
        have hDc := hD.sub (ws' := [(h0, .inr (8, [.int th, .ref q1, .ref q2, .ref q3, .ref q4, v5, v6, v7, .ref q8, .ref q9, .ref q10, .ref q11, v12, v13, v14, v15, v16])), (q1, .inl (c1, 16, .inl a1)), (q4, .inl (c4, 16, .inl a4)), (q8, .inl (c8, 16, .inl a8)), (q9, .inl (c9, 16, .inl a9)), (q10, .inl (c10, 16, .inl a10)), (q11, .inl (c11, 16, .inl a11))]) [7, 4, 1, 5, 2, 3, 6] (by decide) rfl
        have hKc := hK.sub (tys' := [(c1, .int), (c4, .int), (c8, .int), (c9, .int), (c10, .int), (c11, .int)]) [0, 3, 4, 5, 6, 7] rfl
        have hFc := va_free (wc := [(h0, .inr (8, [.int th, .ref q1, .ref q2, .ref q3, .ref q4, v5, v6, v7, .ref q8, .ref q9, .ref q10, .ref q11, v12, v13, v14, v15, v16])), (q1, .inl (c1, 16, .inl a1)), (q4, .inl (c4, 16, .inl a4)), (q8, .inl (c8, 16, .inl a8)), (q9, .inl (c9, 16, .inl a9)), (q10, .inl (c10, 16, .inl a10)), (q11, .inl (c11, 16, .inl a11))]) hD hS hA [7, 4, 1, 5, 2, 3, 6] rfl
        refine va_calli (va_runV (As := [.int (nI o), .int (a2 (4200 * rtN a1 a8 17 o + ((nz - 1) - i)))]) (rest := []) ⟨hx, hb, hml, hown, hts⟩ (c_X8_isWithin l  dC dI H.size h0 th q1 q4 q8 q9 q10 q11 c1 c4 c8 c9 c10 c11 a1 a4 a8 a9 a10 a11 (.ref q2) (.ref q3) v5 v6 v7 v12 v13 v14 v15 v16 o dep (a2 (4200 * rtN a1 a8 17 o + ((nz - 1) - i))) ho9 hF9 hd9) (cwV 2 hts gX8_nth_X8_isWithin rfl rfl rfl (by decide +kernel) ⟨(Nat.le_of_ble_eq_true rfl), (Nat.le_of_ble_eq_true rfl)⟩) ⟨pk_blind, va_recv hKc hPc (ci := 8) (q0 := 0) rfl rfl, pk_call hPc hKc hDc⟩ rfl rfl hl.1 rfl (lv_room (Nat.le_of_ble_eq_true rfl)) dX8_nth_62 ⟨(Nat.le_of_ble_eq_true rfl), (Nat.le_of_ble_eq_true rfl)⟩) hS (fun q _ h => hFc q h) hFc (fun r_12 ur_12 t H1 locs ht hvm hw hB hz1 hk1 hS => ?_)
        try dsimp only at hw
        obtain ⟨hP1, hK1, hD1⟩ := hB
        rw [ht] at hP1
        have hK1 := va_K.moved hvm.symm hK1
        obtain ⟨hP, hD⟩ := va_join (wr := [(q3, .inl (c3, 16, .inl a3)), (q2, .inl (c2, 67200, .inl a2))]) (w1 := [(h0, .inr (8, [.int th, .ref q1, .ref q2, .ref q3, .ref q4, v5, v6, v7, .ref q8, .ref q9, .ref q10, .ref q11, v12, v13, v14, v15, v16])), (q1, .inl (c1, 16, .inl a1)), (q4, .inl (c4, 16, .inl a4)), (q8, .inl (c8, 16, .inl a8)), (q9, .inl (c9, 16, .inl a9)), (q10, .inl (c10, 16, .inl a10)), (q11, .inl (c11, 16, .inl a11))]) hP hD [7, 4, 1, 5, 2, 3, 6] [0, 8] rfl rfl (by decide) (by decide) hk1 hFc hP1 hD1
        clear hk1 hz1 ht hPc hDc hKc hFc
        generalize H1 = H at hP hS ⊢
        replace hP : va_P (dC, dI) vwCl [(q3, .inl (c3, 16, .inl a3)), (q2, .inl (c2, 67200, .inl a2)), (h0, .inr (8, [.int th, .ref q1, .ref q2, .ref q3, .ref q4, v5, v6, v7, .ref q8, .ref q9, .ref q10, .ref q11, v12, v13, v14, v15, v16])), (q1, .inl (c1, 16, .inl a1)), (q4, .inl (c4, 16, .inl a4)), (q8, .inl (c8, 16, .inl a8)), (q9, .inl (c9, 16, .inl a9)), (q10, .inl (c10, 16, .inl a10)), (q11, .inl (c11, 16, .inl a11))] H := hP
        replace hD : va_D A [(q3, .inl (c3, 16, .inl a3)), (q2, .inl (c2, 67200, .inl a2)), (h0, .inr (8, [.int th, .ref q1, .ref q2, .ref q3, .ref q4, v5, v6, v7, .ref q8, .ref q9, .ref q10, .ref q11, v12, v13, v14, v15, v16])), (q1, .inl (c1, 16, .inl a1)), (q4, .inl (c4, 16, .inl a4)), (q8, .inl (c8, 16, .inl a8)), (q9, .inl (c9, 16, .inl a9)), (q10, .inl (c10, 16, .inl a10)), (q11, .inl (c11, 16, .inl a11))] := hD
        refine W.widen (k := 0) (n := 0) (Nat.le_of_ble_eq_true rfl) (Nat.le_of_ble_eq_true rfl) ?_
        obtain rfl : r_12 = tz (winN a1 a8 a11 a9 a10 a4 17 o (a2 (4200 * rtN a1 a8 17 o + ((nz - 1) - i)))) := hw
        refine W.eq (g2 := F0 m 65 ls [.int (tz (winN a1 a8 a11 a9 a10 a4 17 o (a2 (4200 * rtN a1 a8 17 o + ((nz - 1) - i)))))]) rfl ?_
        refine lv_if_ne (tgt := 71) hx hb dX8_nth_65 (by decide) (fun c_13 => ?_) (fun c_13 => ?_)
        ·
          have ic_13 : ¬ (tz (winN a1 a8 a11 a9 a10 a4 17 o (a2 (4200 * rtN a1 a8 17 o + ((nz - 1) - i))))).toInt = 0 := tx_ne rfl (by decide) c_13
          refine lv_iload hx hb dX8_nth_71 (lv_at hl 2 rfl) ?_
          refine lv_if_ne (tgt := 79) hx hb dX8_nth_73 (by decide) (fun c_14 => ?_) (fun c_14 => ?_)
          ·
            have ic_14 : ¬ ((e9 : Nat) : Int) = 0 := tx_ne (nI_toInt (by omega)) (by decide) c_14
            refine lv_iinc (v := nI (e9 - 1)) (lv' := [(5, .int (nI (e9 - 1))), (7, .int (nI ((nz - 1) - i))), (6, .int (nI i)), (4, .int (tz (tnN a1 a8 a11 17 o false))), (3, .int (nI (rtN a1 a8 17 o))), (0, .ref h0), (1, .int (nI o)), (2, .int (nI u9))]) hx hb dX8_nth_79 hl (k := 2) rfl (by rw [show Int32.ofInt (-1) = -1 from rfl]; exact sb_m1 (by omega)) (by decide) rfl (fun ls hl => ?_)
            refine lv_iinc (v := nI (i + 1)) (lv' := [(6, .int (nI (i + 1))), (5, .int (nI (e9 - 1))), (7, .int (nI ((nz - 1) - i))), (4, .int (tz (tnN a1 a8 a11 17 o false))), (3, .int (nI (rtN a1 a8 17 o))), (0, .ref h0), (1, .int (nI o)), (2, .int (nI u9))]) hx hb dX8_nth_82 hl (k := 2) rfl (by rw [show Int32.ofInt 1 = nI 1 from rfl, nI_add]) (by decide) rfl (fun ls hl => ?_)
            refine lv_goto (tgt := 19) hx hb dX8_nth_85 (by decide) ?_
            exact ih (i := i + 1) (x9 := nI (i + 1)) (ex9 := rfl) (e9 := e9 - 1) (y9 := nI (e9 - 1)) (ey9 := rfl) (ls := ls) (H := H) (locs := locs) (hP := hP.sub (ws' := [(q2, .inl (c2, 67200, .inl a2)), (q3, .inl (c3, 16, .inl a3)), (q4, .inl (c4, 16, .inl a4)), (q9, .inl (c9, 16, .inl a9)), (q10, .inl (c10, 16, .inl a10)), (h0, .inr (8, [.int th, .ref q1, .ref q2, .ref q3, .ref q4, v5, v6, v7, .ref q8, .ref q9, .ref q10, .ref q11, v12, v13, v14, v15, v16])), (q1, .inl (c1, 16, .inl a1)), (q8, .inl (c8, 16, .inl a8)), (q11, .inl (c11, 16, .inl a11))]) [1, 0, 4, 6, 7, 2, 3, 5, 8] rfl) (hS := hS) (hi9 := by omega) (hn9 := by omega) (hv9 := by rw [cnt_t (f := fun k => inO a1 a2 a4 a8 a9 a10 a11 o (if tnN a1 a8 a11 17 o false then nz - 1 - k else k)) ((show (fun k => inO a1 a2 a4 a8 a9 a10 a11 o (if tnN a1 a8 a11 17 o false then nz - 1 - k else k)) i = inO a1 a2 a4 a8 a9 a10 a11 o ((nz - 1) - i) by show inO a1 a2 a4 a8 a9 a10 a11 o _ = _; rw [if_pos (tz_1 ic_4)]).trans (tz_1 ic_13))]; omega) (hl := lv_sub hl [0, 1, 3, 4, 5, 6, 7] rfl)
          ·
            have ic_14 : ((e9 : Nat) : Int) = 0 := tx_eq (nI_toInt (by omega)) (by decide) c_14
            refine lv_iload hx hb dX8_nth_76 (lv_at hl 0 rfl) ?_
            have hP9 := hP.sub (ws' := [(h0, .inr (8, [.int th, .ref q1, .ref q2, .ref q3, .ref q4, v5, v6, v7, .ref q8, .ref q9, .ref q10, .ref q11, v12, v13, v14, v15, v16])), (q1, .inl (c1, 16, .inl a1)), (q2, .inl (c2, 67200, .inl a2)), (q3, .inl (c3, 16, .inl a3)), (q4, .inl (c4, 16, .inl a4)), (q8, .inl (c8, 16, .inl a8)), (q9, .inl (c9, 16, .inl a9)), (q10, .inl (c10, 16, .inl a10)), (q11, .inl (c11, 16, .inl a11))]) [2, 3, 1, 0, 4, 5, 6, 7, 8] rfl
            have hD9 := hD.sub (ws' := [(h0, .inr (8, [.int th, .ref q1, .ref q2, .ref q3, .ref q4, v5, v6, v7, .ref q8, .ref q9, .ref q10, .ref q11, v12, v13, v14, v15, v16])), (q1, .inl (c1, 16, .inl a1)), (q2, .inl (c2, 67200, .inl a2)), (q3, .inl (c3, 16, .inl a3)), (q4, .inl (c4, 16, .inl a4)), (q8, .inl (c8, 16, .inl a8)), (q9, .inl (c9, 16, .inl a9)), (q10, .inl (c10, 16, .inl a10)), (q11, .inl (c11, 16, .inl a11))]) [2, 3, 1, 0, 4, 5, 6, 7, 8] (by decide) rfl
            have hK9 := hK.sub (tys' := [(c1, .int), (c2, .int), (c3, .int), (c4, .int), (c8, .int), (c9, .int), (c10, .int), (c11, .int)]) [0, 1, 2, 3, 4, 5, 6, 7] rfl
            refine W.widen (k := 0) (n := 0) (Nat.le_of_ble_eq_true rfl) (Nat.le_of_ble_eq_true rfl) ?_
            exact W.iret (v := nI ((nz - 1) - i)) hx hb hr (fun t ht hW => ⟨⟨nI ((nz - 1) - i), (), rfl, ⟨(nz - 1) - i, by omega, rfl, tz_1 ic_13⟩, by rw [ht]; exact hP9, va_K.moved hW.alike hK9, hD9⟩, hS.F ht⟩) hS.2.2 dX8_nth_78
        ·
          have ic_13 : (tz (winN a1 a8 a11 a9 a10 a4 17 o (a2 (4200 * rtN a1 a8 17 o + ((nz - 1) - i))))).toInt = 0 := tx_eq rfl (by decide) c_13
          refine lv_goto (tgt := 82) hx hb dX8_nth_68 (by decide) ?_
          refine lv_iinc (v := nI (i + 1)) (lv' := [(6, .int (nI (i + 1))), (7, .int (nI ((nz - 1) - i))), (5, .int (nI e9)), (4, .int (tz (tnN a1 a8 a11 17 o false))), (3, .int (nI (rtN a1 a8 17 o))), (0, .ref h0), (1, .int (nI o)), (2, .int (nI u9))]) hx hb dX8_nth_82 hl (k := 1) rfl (by rw [show Int32.ofInt 1 = nI 1 from rfl, nI_add]) (by decide) rfl (fun ls hl => ?_)
          refine lv_goto (tgt := 19) hx hb dX8_nth_85 (by decide) ?_
          exact ih (i := i + 1) (x9 := nI (i + 1)) (ex9 := rfl) (e9 := e9) (y9 := nI e9) (ey9 := rfl) (ls := ls) (H := H) (locs := locs) (hP := hP.sub (ws' := [(q2, .inl (c2, 67200, .inl a2)), (q3, .inl (c3, 16, .inl a3)), (q4, .inl (c4, 16, .inl a4)), (q9, .inl (c9, 16, .inl a9)), (q10, .inl (c10, 16, .inl a10)), (h0, .inr (8, [.int th, .ref q1, .ref q2, .ref q3, .ref q4, v5, v6, v7, .ref q8, .ref q9, .ref q10, .ref q11, v12, v13, v14, v15, v16])), (q1, .inl (c1, 16, .inl a1)), (q8, .inl (c8, 16, .inl a8)), (q11, .inl (c11, 16, .inl a11))]) [1, 0, 4, 6, 7, 2, 3, 5, 8] rfl) (hS := hS) (hi9 := by omega) (hn9 := by omega) (hv9 := by rw [cnt_f (f := fun k => inO a1 a2 a4 a8 a9 a10 a11 o (if tnN a1 a8 a11 17 o false then nz - 1 - k else k)) ((show (fun k => inO a1 a2 a4 a8 a9 a10 a11 o (if tnN a1 a8 a11 17 o false then nz - 1 - k else k)) i = inO a1 a2 a4 a8 a9 a10 a11 o ((nz - 1) - i) by show inO a1 a2 a4 a8 a9 a10 a11 o _ = _; rw [if_pos (tz_1 ic_4)]).trans (tz_0 ic_13))]; omega) (hl := lv_sub hl [0, 2, 3, 4, 5, 6, 7] rfl)
