theorem dX8_touched_0 : decode cX8_touched 0 = .ok (.aload_n 0, 1) := by decide +kernel
theorem dX8_touched_1 : decode cX8_touched 1 = .ok (.iload_n 1, 1) := by decide +kernel
set_option maxRecDepth 20000 in
theorem ggX8_touched_X8_root : GoodIn wsX8_touched wsX8_root := goodIn_r _ [9, 1, 10, 24, 25, 26, 27, 28, 29, 30, 31, 32, 33, 34, 35, 36, 37, 38, 39, 40] rfl (by decide +kernel)
set_option maxRecDepth 20000 in
theorem gX8_touched_X8_root : GoodIn wsX8_touched (wsV RX8 95 RX8 yX8_root wsX8_root) := goodIn_app (goodIn_of _ (by decide +kernel)) ggX8_touched_X8_root
theorem dX8_touched_2 : decode cX8_touched 2 = .ok (.invokevirtual 95, 3) := by decide +kernel
theorem dX8_touched_5 : decode cX8_touched 5 = .ok (.istore_n 3, 1) := by decide +kernel
theorem dX8_touched_6 : decode cX8_touched 6 = .ok (.aload_n 0, 1) := by decide +kernel
theorem dX8_touched_7 : decode cX8_touched 7 = .ok (.getfield 7, 3) := by decide +kernel
theorem dX8_touched_10 : decode cX8_touched 10 = .ok (.iload_n 3, 1) := by decide +kernel
theorem dX8_touched_11 : decode cX8_touched 11 = .ok (.iaload, 1) := by decide +kernel
theorem dX8_touched_12 : decode cX8_touched 12 = .ok (.iconst 2, 1) := by decide +kernel
theorem dX8_touched_13 : decode cX8_touched 13 = .ok (.if_icmp .ne 24, 3) := by decide +kernel
theorem dX8_touched_37 : decode cX8_touched 37 = .ok (.iload_n 2, 1) := by decide +kernel
theorem dX8_touched_38 : decode cX8_touched 38 = .ok (.ireturn, 1) := by decide +kernel
theorem dX8_touched_16 : decode cX8_touched 16 = .ok (.aload_n 0, 1) := by decide +kernel
theorem dX8_touched_17 : decode cX8_touched 17 = .ok (.getfield 23, 3) := by decide +kernel
theorem dX8_touched_20 : decode cX8_touched 20 = .ok (.iload_n 3, 1) := by decide +kernel
theorem dX8_touched_21 : decode cX8_touched 21 = .ok (.iaload, 1) := by decide +kernel
theorem dX8_touched_22 : decode cX8_touched 22 = .ok (.ifCond .eq 15, 3) := by decide +kernel
theorem dX8_touched_25 : decode cX8_touched 25 = .ok (.iload_n 2, 1) := by decide +kernel
theorem dX8_touched_26 : decode cX8_touched 26 = .ok (.aload_n 0, 1) := by decide +kernel
theorem dX8_touched_27 : decode cX8_touched 27 = .ok (.getfield 17, 3) := by decide +kernel
theorem dX8_touched_30 : decode cX8_touched 30 = .ok (.iload_n 3, 1) := by decide +kernel
theorem dX8_touched_31 : decode cX8_touched 31 = .ok (.iaload, 1) := by decide +kernel
theorem dX8_touched_32 : decode cX8_touched 32 = .ok (.iconst 1, 1) := by decide +kernel
theorem dX8_touched_33 : decode cX8_touched 33 = .ok (.isub, 1) := by decide +kernel
theorem dX8_touched_34 : decode cX8_touched 34 = .ok (.if_icmp .ne 5, 3) := by decide +kernel
theorem dX8_touched_39 : decode cX8_touched 39 = .ok (.aload_n 0, 1) := by decide +kernel
theorem dX8_touched_40 : decode cX8_touched 40 = .ok (.iload_n 3, 1) := by decide +kernel
theorem dX8_touched_41 : decode cX8_touched 41 = .ok (.iload_n 2, 1) := by decide +kernel
set_option maxRecDepth 20000 in
theorem ggX8_touched_X8_key : GoodIn wsX8_touched wsX8_key := goodIn_r _ [14, 15, 24, 25, 26, 27, 28, 29, 30, 31, 32, 33, 34, 35, 36, 37, 38, 39, 40] rfl (by decide +kernel)
set_option maxRecDepth 20000 in
theorem gX8_touched_X8_key : GoodIn wsX8_touched (wsV RX8 111 RX8 yX8_key wsX8_key) := goodIn_app (goodIn_of _ (by decide +kernel)) ggX8_touched_X8_key
theorem dX8_touched_42 : decode cX8_touched 42 = .ok (.invokevirtual 111, 3) := by decide +kernel
theorem dX8_touched_45 : decode cX8_touched 45 = .ok (.istore 4, 2) := by decide +kernel
theorem dX8_touched_47 : decode cX8_touched 47 = .ok (.aload_n 0, 1) := by decide +kernel
theorem dX8_touched_48 : decode cX8_touched 48 = .ok (.iload_n 3, 1) := by decide +kernel
theorem dX8_touched_49 : decode cX8_touched 49 = .ok (.iload_n 2, 1) := by decide +kernel
set_option maxRecDepth 20000 in
theorem ggX8_touched_X8_value : GoodIn wsX8_touched wsX8_value := goodIn_r _ [19, 15, 24, 25, 26, 27, 28, 29, 30, 31, 32, 33, 34, 35, 36, 37, 38, 39, 40] rfl (by decide +kernel)
set_option maxRecDepth 20000 in
theorem gX8_touched_X8_value : GoodIn wsX8_touched (wsV RX8 118 RX8 yX8_value wsX8_value) := goodIn_app (goodIn_of _ (by decide +kernel)) ggX8_touched_X8_value
theorem dX8_touched_50 : decode cX8_touched 50 = .ok (.invokevirtual 118, 3) := by decide +kernel
theorem dX8_touched_53 : decode cX8_touched 53 = .ok (.istore 5, 2) := by decide +kernel
theorem dX8_touched_55 : decode cX8_touched 55 = .ok (.iload_n 2, 1) := by decide +kernel
theorem dX8_touched_56 : decode cX8_touched 56 = .ok (.istore 6, 2) := by decide +kernel
theorem dX8_touched_58 : decode cX8_touched 58 = .ok (.iload 6, 2) := by decide +kernel
theorem dX8_touched_60 : decode cX8_touched 60 = .ok (.iconst 1, 1) := by decide +kernel
theorem dX8_touched_61 : decode cX8_touched 61 = .ok (.iadd, 1) := by decide +kernel
theorem dX8_touched_62 : decode cX8_touched 62 = .ok (.aload_n 0, 1) := by decide +kernel
theorem dX8_touched_63 : decode cX8_touched 63 = .ok (.getfield 17, 3) := by decide +kernel
theorem dX8_touched_66 : decode cX8_touched 66 = .ok (.iload_n 3, 1) := by decide +kernel
theorem dX8_touched_67 : decode cX8_touched 67 = .ok (.iaload, 1) := by decide +kernel
theorem dX8_touched_68 : decode cX8_touched 68 = .ok (.if_icmp .ge 34, 3) := by decide +kernel
theorem dX8_touched_102 : decode cX8_touched 102 = .ok (.aload_n 0, 1) := by decide +kernel
theorem dX8_touched_103 : decode cX8_touched 103 = .ok (.iload_n 3, 1) := by decide +kernel
theorem dX8_touched_104 : decode cX8_touched 104 = .ok (.aload_n 0, 1) := by decide +kernel
theorem dX8_touched_105 : decode cX8_touched 105 = .ok (.getfield 17, 3) := by decide +kernel
theorem dX8_touched_108 : decode cX8_touched 108 = .ok (.iload_n 3, 1) := by decide +kernel
theorem dX8_touched_109 : decode cX8_touched 109 = .ok (.iaload, 1) := by decide +kernel
theorem dX8_touched_110 : decode cX8_touched 110 = .ok (.iconst 1, 1) := by decide +kernel
theorem dX8_touched_111 : decode cX8_touched 111 = .ok (.isub, 1) := by decide +kernel
theorem dX8_touched_112 : decode cX8_touched 112 = .ok (.iload 4, 2) := by decide +kernel
theorem dX8_touched_114 : decode cX8_touched 114 = .ok (.iload 5, 2) := by decide +kernel
set_option maxRecDepth 20000 in
theorem ggX8_touched_X8_set : GoodIn wsX8_touched wsX8_set := goodIn_r _ [23, 15, 24, 25, 26, 27, 28, 29, 30, 31, 32, 33, 34, 35, 36, 37, 38, 39, 40] rfl (by decide +kernel)
set_option maxRecDepth 20000 in
theorem gX8_touched_X8_set : GoodIn wsX8_touched (wsV RX8 121 RX8 yX8_set wsX8_set) := goodIn_app (goodIn_of _ (by decide +kernel)) ggX8_touched_X8_set
theorem dX8_touched_116 : decode cX8_touched 116 = .ok (.invokevirtual 121, 3) := by decide +kernel
theorem dX8_touched_119 : decode cX8_touched 119 = .ok (.aload_n 0, 1) := by decide +kernel
theorem dX8_touched_120 : decode cX8_touched 120 = .ok (.getfield 29, 3) := by decide +kernel
theorem dX8_touched_123 : decode cX8_touched 123 = .ok (.iload_n 3, 1) := by decide +kernel
theorem dX8_touched_124 : decode cX8_touched 124 = .ok (.dup2, 1) := by decide +kernel
theorem dX8_touched_125 : decode cX8_touched 125 = .ok (.iaload, 1) := by decide +kernel
theorem dX8_touched_126 : decode cX8_touched 126 = .ok (.iconst 1, 1) := by decide +kernel
theorem dX8_touched_127 : decode cX8_touched 127 = .ok (.iadd, 1) := by decide +kernel
theorem dX8_touched_128 : decode cX8_touched 128 = .ok (.iastore, 1) := by decide +kernel
theorem dX8_touched_129 : decode cX8_touched 129 = .ok (.aload_n 0, 1) := by decide +kernel
theorem dX8_touched_130 : decode cX8_touched 130 = .ok (.getfield 17, 3) := by decide +kernel
theorem dX8_touched_133 : decode cX8_touched 133 = .ok (.iload_n 3, 1) := by decide +kernel
theorem dX8_touched_134 : decode cX8_touched 134 = .ok (.iaload, 1) := by decide +kernel
theorem dX8_touched_135 : decode cX8_touched 135 = .ok (.iconst 1, 1) := by decide +kernel
theorem dX8_touched_136 : decode cX8_touched 136 = .ok (.isub, 1) := by decide +kernel
theorem dX8_touched_137 : decode cX8_touched 137 = .ok (.ireturn, 1) := by decide +kernel
theorem dX8_touched_71 : decode cX8_touched 71 = .ok (.aload_n 0, 1) := by decide +kernel
theorem dX8_touched_72 : decode cX8_touched 72 = .ok (.iload_n 3, 1) := by decide +kernel
theorem dX8_touched_73 : decode cX8_touched 73 = .ok (.iload 6, 2) := by decide +kernel
theorem dX8_touched_75 : decode cX8_touched 75 = .ok (.aload_n 0, 1) := by decide +kernel
theorem dX8_touched_76 : decode cX8_touched 76 = .ok (.iload_n 3, 1) := by decide +kernel
theorem dX8_touched_77 : decode cX8_touched 77 = .ok (.iload 6, 2) := by decide +kernel
theorem dX8_touched_79 : decode cX8_touched 79 = .ok (.iconst 1, 1) := by decide +kernel
theorem dX8_touched_80 : decode cX8_touched 80 = .ok (.iadd, 1) := by decide +kernel
theorem dX8_touched_81 : decode cX8_touched 81 = .ok (.invokevirtual 111, 3) := by decide +kernel
theorem dX8_touched_84 : decode cX8_touched 84 = .ok (.aload_n 0, 1) := by decide +kernel
theorem dX8_touched_85 : decode cX8_touched 85 = .ok (.iload_n 3, 1) := by decide +kernel
theorem dX8_touched_86 : decode cX8_touched 86 = .ok (.iload 6, 2) := by decide +kernel
theorem dX8_touched_88 : decode cX8_touched 88 = .ok (.iconst 1, 1) := by decide +kernel
theorem dX8_touched_89 : decode cX8_touched 89 = .ok (.iadd, 1) := by decide +kernel
theorem dX8_touched_90 : decode cX8_touched 90 = .ok (.invokevirtual 118, 3) := by decide +kernel
theorem dX8_touched_93 : decode cX8_touched 93 = .ok (.invokevirtual 121, 3) := by decide +kernel
theorem dX8_touched_96 : decode cX8_touched 96 = .ok (.iinc 6 1, 3) := by decide +kernel
theorem dX8_touched_99 : decode cX8_touched 99 = .ok (.goto (-41), 3) := by decide +kernel
theorem dX8_hangsOn_0 : decode cX8_hangsOn 0 = .ok (.iload_n 1, 1) := by decide +kernel
theorem dX8_hangsOn_1 : decode cX8_hangsOn 1 = .ok (.istore_n 3, 1) := by decide +kernel
theorem dX8_hangsOn_2 : decode cX8_hangsOn 2 = .ok (.aload_n 0, 1) := by decide +kernel
theorem dX8_hangsOn_3 : decode cX8_hangsOn 3 = .ok (.getfield 7, 3) := by decide +kernel
theorem dX8_hangsOn_6 : decode cX8_hangsOn 6 = .ok (.iload_n 3, 1) := by decide +kernel
theorem dX8_hangsOn_7 : decode cX8_hangsOn 7 = .ok (.iaload, 1) := by decide +kernel
theorem dX8_hangsOn_8 : decode cX8_hangsOn 8 = .ok (.iconst 4, 1) := by decide +kernel
theorem dX8_hangsOn_9 : decode cX8_hangsOn 9 = .ok (.if_icmp .eq 13, 3) := by decide +kernel
theorem dX8_hangsOn_22 : decode cX8_hangsOn 22 = .ok (.aload_n 0, 1) := by decide +kernel
theorem dX8_hangsOn_23 : decode cX8_hangsOn 23 = .ok (.getfield 32, 3) := by decide +kernel
theorem dX8_hangsOn_26 : decode cX8_hangsOn 26 = .ok (.iload_n 3, 1) := by decide +kernel
theorem dX8_hangsOn_27 : decode cX8_hangsOn 27 = .ok (.iaload, 1) := by decide +kernel
theorem dX8_hangsOn_28 : decode cX8_hangsOn 28 = .ok (.istore_n 3, 1) := by decide +kernel
theorem dX8_hangsOn_29 : decode cX8_hangsOn 29 = .ok (.iload_n 3, 1) := by decide +kernel
theorem dX8_hangsOn_30 : decode cX8_hangsOn 30 = .ok (.iload_n 2, 1) := by decide +kernel
theorem dX8_hangsOn_31 : decode cX8_hangsOn 31 = .ok (.if_icmp .ne (-29), 3) := by decide +kernel
theorem dX8_hangsOn_34 : decode cX8_hangsOn 34 = .ok (.iconst 1, 1) := by decide +kernel
theorem dX8_hangsOn_35 : decode cX8_hangsOn 35 = .ok (.ireturn, 1) := by decide +kernel
theorem dX8_hangsOn_12 : decode cX8_hangsOn 12 = .ok (.aload_n 0, 1) := by decide +kernel
theorem dX8_hangsOn_13 : decode cX8_hangsOn 13 = .ok (.getfield 7, 3) := by decide +kernel
theorem dX8_hangsOn_16 : decode cX8_hangsOn 16 = .ok (.iload_n 3, 1) := by decide +kernel
theorem dX8_hangsOn_17 : decode cX8_hangsOn 17 = .ok (.iaload, 1) := by decide +kernel
theorem dX8_hangsOn_18 : decode cX8_hangsOn 18 = .ok (.iconst 5, 1) := by decide +kernel
theorem dX8_hangsOn_19 : decode cX8_hangsOn 19 = .ok (.if_icmp .ne 17, 3) := by decide +kernel
theorem dX8_hangsOn_36 : decode cX8_hangsOn 36 = .ok (.iconst 0, 1) := by decide +kernel
theorem dX8_hangsOn_37 : decode cX8_hangsOn 37 = .ok (.ireturn, 1) := by decide +kernel
set_option maxHeartbeats 4000000 in
set_option maxRecDepth 100000 in
/-- a use -/
theorem c_X8_touched (l : Launch) (dC : Nat → ClassId) (dI : Nat → Nat → Nat) (sz : Nat) (h0 : Nat) (th : Int32) (q1 : Nat) (q2 : Nat) (q3 : Nat) (q5 : Nat) (q7 : Nat) (q8 : Nat) (c1 : ClassId) (c2 : ClassId) (c3 : ClassId) (c5 : ClassId) (c7 : ClassId) (c8 : ClassId) (a1 : Nat → Int32) (a2 : Nat → Int32) (a3 : Nat → Int32) (a5 : Nat → Int32) (a7 : Nat → Int32) (a8 : Nat → Int32) (v4 : Value) (v6 : Value) (v9 : Value) (v10 : Value) (v11 : Value) (v12 : Value) (v13 : Value) (v14 : Value) (v15 : Value) (v16 : Value) (o : Nat) (dep : Nat → Nat) (r : Nat) (k9 : Nat) (nz : Nat) (ho9 : o < 16) (hF9 : rF a1 a8 dep) (hd9 : dep o < 17) (hrt9 : rtN a1 a8 17 o = r) (hk9 : k9 < nz) (hs9 : a3 r = nI nz) (hz9 : nz ≤ 1000) : Met l yX8_touched wsX8_touched ({ frames := 2, cells := 0, slots := 0, locals := 80 }) (va_Pc [.ref h0, .int (nI o), .int (nI k9)] (pk_Pre (dC, dI) [(h0, .inr (8, [.int th, .ref q1, .ref q2, .ref q3, v4, .ref q5, v6, .ref q7, .ref q8, v9, v10, v11, v12, v13, v14, v15, v16])), (q1, .inl (c1, 16, .inl a1)), (q2, .inl (c2, 67200, .inl a2)), (q3, .inl (c3, 16, .inl a3)), (q5, .inl (c5, 16, .inl a5)), (q7, .inl (c7, 16, .inl a7)), (q8, .inl (c8, 16, .inl a8))] [(c1, .int), (c2, .int), (c3, .int), (c5, .int), (c7, .int), (c8, .int)] sz)) (va_Qi (fun (x : Int32) (u : (Nat → Int32) × (Nat → Int32)) => (∃ j : Nat, j < nz ∧ x = nI j) ∧ ((u.1 = a2 ∧ u.2 = a7) ∨ (outR a2 u.1 r ∧ u.2 = upd a7 r (a7 r + 1)))) (fun (u : (Nat → Int32) × (Nat → Int32)) (t : State) => va_P (dC, dI) vwCl [(h0, .inr (8, [.int th, .ref q1, .ref q2, .ref q3, v4, .ref q5, v6, .ref q7, .ref q8, v9, v10, v11, v12, v13, v14, v15, v16])), (q1, .inl (c1, 16, .inl a1)), (q2, .inl (c2, 67200, .inl u.1)), (q3, .inl (c3, 16, .inl a3)), (q5, .inl (c5, 16, .inl a5)), (q7, .inl (c7, 16, .inl u.2)), (q8, .inl (c8, 16, .inl a8))] t.heap ∧ va_K (dC, dI) vwCl [(c1, .int), (c2, .int), (c3, .int), (c5, .int), (c7, .int), (c8, .int)] t ∧ va_D (va_A [(h0, .inr (8, [.int th, .ref q1, .ref q2, .ref q3, v4, .ref q5, v6, .ref q7, .ref q8, v9, v10, v11, v12, v13, v14, v15, v16])), (q1, .inl (c1, 16, .inl a1)), (q2, .inl (c2, 67200, .inl a2)), (q3, .inl (c3, 16, .inl a3)), (q5, .inl (c5, 16, .inl a5)), (q7, .inl (c7, 16, .inl a7)), (q8, .inl (c8, 16, .inl a8))] sz) [(h0, .inr (8, [.int th, .ref q1, .ref q2, .ref q3, v4, .ref q5, v6, .ref q7, .ref q8, v9, v10, v11, v12, v13, v14, v15, v16])), (q1, .inl (c1, 16, .inl a1)), (q2, .inl (c2, 67200, .inl u.1)), (q3, .inl (c3, 16, .inl a3)), (q5, .inl (c5, 16, .inl a5)), (q7, .inl (c7, 16, .inl u.2)), (q8, .inl (c8, 16, .inl a8))]) (va_A [(h0, .inr (8, [.int th, .ref q1, .ref q2, .ref q3, v4, .ref q5, v6, .ref q7, .ref q8, v9, v10, v11, v12, v13, v14, v15, v16])), (q1, .inl (c1, 16, .inl a1)), (q2, .inl (c2, 67200, .inl a2)), (q3, .inl (c3, 16, .inl a3)), (q5, .inl (c5, 16, .inl a5)), (q7, .inl (c7, 16, .inl a7)), (q8, .inl (c8, 16, .inl a8))] sz)) 0 0 (va_A [(h0, .inr (8, [.int th, .ref q1, .ref q2, .ref q3, v4, .ref q5, v6, .ref q7, .ref q8, v9, v10, v11, v12, v13, v14, v15, v16])), (q1, .inl (c1, 16, .inl a1)), (q2, .inl (c2, 67200, .inl a2)), (q3, .inl (c3, 16, .inl a3)), (q5, .inl (c5, 16, .inl a5)), (q7, .inl (c7, 16, .inl a7)), (q8, .inl (c8, 16, .inl a8))] sz) := by
  refine Met.ofW (cc := cX8_touched) (maxL := 7) (ret := (some .int)) (by decide) rfl ?_
  intro p e s m args below meth c s₁ B hml hv
  obtain ⟨rfl, hsz, hP, hK, hD0⟩ := hv
  have hx := B.exec
  have hb := B.bytes
  have hr := B.returns
  have hts := atoms_spec (ws := wsX8_touched) B.pre
  have hown : s.vm.findClass RX8 = some m.cls := findClass_of_methodNamed B.named
  have hlocks := B.notSynchronized
  subst hsz
  have hD := hD0.self (sz := s.heap.size)
  generalize hAe : va_A [(h0, .inr (8, [.int th, .ref q1, .ref q2, .ref q3, v4, .ref q5, v6, .ref q7, .ref q8, v9, v10, v11, v12, v13, v14, v15, v16])), (q1, .inl (c1, 16, .inl a1)), (q2, .inl (c2, 67200, .inl a2)), (q3, .inl (c3, 16, .inl a3)), (q5, .inl (c5, 16, .inl a5)), (q7, .inl (c7, 16, .inl a7)), (q8, .inl (c8, 16, .inl a8))] s.heap.size = A at hD ⊢
  have hA : ∀ q : Nat, s.heap.size ≤ q → A q := fun q h => by rw [← hAe]; exact Or.inr h
  have hS : va_S A s.heap s.heap [] := va_S.rf
  have hP : va_P (dC, dI) vwCl [(h0, .inr (8, [.int th, .ref q1, .ref q2, .ref q3, v4, .ref q5, v6, .ref q7, .ref q8, v9, v10, v11, v12, v13, v14, v15, v16])), (q1, .inl (c1, 16, .inl a1)), (q2, .inl (c2, 67200, .inl a2)), (q3, .inl (c3, 16, .inl a3)), (q5, .inl (c5, 16, .inl a5)), (q7, .inl (c7, 16, .inl a7)), (q8, .inl (c8, 16, .inl a8))] s.heap := hP
  have hl := lv_entry ([.ref h0, .int (nI o), .int (nI k9)]) (n := 7) (Nat.le_of_ble_eq_true rfl)
  rw [lg_entry_eq]
  generalize (lg_sl ([.ref h0, .int (nI o), .int (nI k9)]) ++ List.replicate (7 - (lg_sl ([.ref h0, .int (nI o), .int (nI k9)])).length) Slot.unset).toArray = ls at hl ⊢
  have hl : lv_has ls 7 [(0, .ref h0), (1, .int (nI o)), (2, .int (nI k9))] := hl
  have hw0_ := hts (.fieldLink RX8 7 "KeyAtlasModel" "kind" "[I") (List.mem_of_getElem? (l := wsX8_touched) (i := 1) rfl)
  have hw1_ := hts (.fieldLink RX8 23 "KeyAtlasModel" "second" "[I") (List.mem_of_getElem? (l := wsX8_touched) (i := 2) rfl)
  have hw2_ := hts (.fieldLink RX8 17 "KeyAtlasModel" "size" "[I") (List.mem_of_getElem? (l := wsX8_touched) (i := 3) rfl)
  have hw3_ := hts (.fieldLink RX8 29 "KeyAtlasModel" "changes" "[I") (List.mem_of_getElem? (l := wsX8_touched) (i := 4) rfl)
  have hi0_ : ∀ w ∈ u_ws RX8 TX8 17, w ∈ wsX8_touched := fun w h => List.mem_cons_of_mem _ (List.mem_append_right _ h)
  refine lv_aload_n hx hb dX8_touched_0 rfl (lv_at hl 0 rfl) ?_
  refine lv_iload_n hx hb dX8_touched_1 rfl (lv_at hl 1 rfl) ?_
  have hPc := hP.sub (ws' := [(h0, .inr (8, [.int th, .ref q1, .ref q2, .ref q3, v4, .ref q5, v6, .ref q7, .ref q8, v9, v10, v11, v12, v13, v14, v15, v16])), (q1, .inl (c1, 16, .inl a1)), (q8, .inl (c8, 16, .inl a8))]) [0, 1, 6] rfl
  have hDc := hD.sub (ws' := [(h0, .inr (8, [.int th, .ref q1, .ref q2, .ref q3, v4, .ref q5, v6, .ref q7, .ref q8, v9, v10, v11, v12, v13, v14, v15, v16])), (q1, .inl (c1, 16, .inl a1)), (q8, .inl (c8, 16, .inl a8))]) [0, 1, 6] (by decide) rfl
  have hKc := hK.sub (tys' := [(c1, .int), (c8, .int)]) [0, 5] rfl
  have hFc := va_free (wc := [(h0, .inr (8, [.int th, .ref q1, .ref q2, .ref q3, v4, .ref q5, v6, .ref q7, .ref q8, v9, v10, v11, v12, v13, v14, v15, v16])), (q1, .inl (c1, 16, .inl a1)), (q8, .inl (c8, 16, .inl a8))]) hD hS hA [0, 1, 6] rfl
  refine va_calli (va_runV (As := [.int (nI o)]) (rest := []) ⟨hx, hb, hml, hown, hts⟩ (c_X8_root l  dC dI s.heap.size h0 th q1 q8 c1 c8 a1 a8 (.ref q2) (.ref q3) v4 (.ref q5) v6 (.ref q7) v9 v10 v11 v12 v13 v14 v15 v16 o dep ho9 hF9 hd9) (cwV 1 hts gX8_touched_X8_root rfl rfl rfl (by decide +kernel) ⟨(Nat.le_of_ble_eq_true rfl), (Nat.le_of_ble_eq_true rfl)⟩) ⟨pk_blind, va_recv hKc hPc (ci := 8) (q0 := 0) rfl rfl, pk_call hPc hKc hDc⟩ rfl rfl hl.1 rfl (lv_room (Nat.le_of_ble_eq_true rfl)) dX8_touched_2 ⟨(Nat.le_of_ble_eq_true rfl), (Nat.le_of_ble_eq_true rfl)⟩) hS (fun q _ h => hFc q h) hFc (fun r_1 ur_1 t H1 locs ht hvm hw hB hz1 hk1 hS => ?_)
  try dsimp only at hw
  obtain ⟨er_1, hr9, hr8⟩ := hw
  rw [hrt9] at er_1 hr9 hr8
  obtain ⟨hP1, hK1, hD1⟩ := hB
  rw [ht] at hP1
  have hK1 := va_K.moved hvm.symm hK1
  obtain ⟨hP, hD⟩ := va_join (wr := [(q2, .inl (c2, 67200, .inl a2)), (q3, .inl (c3, 16, .inl a3)), (q5, .inl (c5, 16, .inl a5)), (q7, .inl (c7, 16, .inl a7))]) (w1 := [(h0, .inr (8, [.int th, .ref q1, .ref q2, .ref q3, v4, .ref q5, v6, .ref q7, .ref q8, v9, v10, v11, v12, v13, v14, v15, v16])), (q1, .inl (c1, 16, .inl a1)), (q8, .inl (c8, 16, .inl a8))]) hP hD [0, 1, 6] [2, 3, 4, 5] rfl rfl (by decide) (by decide) hk1 hFc hP1 hD1
  clear hk1 hz1 ht hPc hDc hKc hFc
  generalize H1 = H at hP hS ⊢
  replace hP : va_P (dC, dI) vwCl [(q2, .inl (c2, 67200, .inl a2)), (q3, .inl (c3, 16, .inl a3)), (q5, .inl (c5, 16, .inl a5)), (q7, .inl (c7, 16, .inl a7)), (h0, .inr (8, [.int th, .ref q1, .ref q2, .ref q3, v4, .ref q5, v6, .ref q7, .ref q8, v9, v10, v11, v12, v13, v14, v15, v16])), (q1, .inl (c1, 16, .inl a1)), (q8, .inl (c8, 16, .inl a8))] H := hP
  replace hD : va_D A [(q2, .inl (c2, 67200, .inl a2)), (q3, .inl (c3, 16, .inl a3)), (q5, .inl (c5, 16, .inl a5)), (q7, .inl (c7, 16, .inl a7)), (h0, .inr (8, [.int th, .ref q1, .ref q2, .ref q3, v4, .ref q5, v6, .ref q7, .ref q8, v9, v10, v11, v12, v13, v14, v15, v16])), (q1, .inl (c1, 16, .inl a1)), (q8, .inl (c8, 16, .inl a8))] := hD
  refine W.widen (k := 0) (n := 0) (Nat.le_of_ble_eq_true rfl) (Nat.le_of_ble_eq_true rfl) ?_
  subst er_1
  refine W.eq (g2 := F0 m 5 ls [.int (nI r)]) rfl ?_
  refine lv_istore_n (lv' := [(3, .int (nI r)), (0, .ref h0), (1, .int (nI o)), (2, .int (nI k9))]) hx hb dX8_touched_5 rfl hl (by decide) rfl (fun ls hl => ?_)
  refine lv_aload_n hx hb dX8_touched_6 rfl (lv_at hl 1 rfl) ?_
  refine va_get (D := (dC, dI)) (ci := 8) (v := .ref q1) (C := RX8) (T := TX8) (N := 17) hx hb hts hi0_ hown hK hP 4 rfl rfl 1 (by decide) hw0_ (fun _ h9 => h9) rfl dX8_touched_7 ?_
  refine lv_iload_n hx hb dX8_touched_10 rfl (lv_at hl 0 rfl) ?_
  refine va_iald (i := nI r) hx hb hK hP 5 0 rfl rfl (vp_in_nI (by omega) (by omega)) dX8_touched_11 ?_
  refine W.eq (g2 := F0 m 12 ls [.int (a1 r)]) (by rw [nI_clamp (by omega)]) ?_
  refine lv_iconst (v := 2) hx hb dX8_touched_12 (by decide) ?_
  refine lv_icmp_ne (tgt := 37) hx hb dX8_touched_13 (by decide) (fun c_2 => ?_) (fun c_2 => ?_)
  ·
    have ic_2 : ¬ (a1 r).toInt = 2 := tx_ne rfl (by decide) c_2
    refine lv_iload_n hx hb dX8_touched_37 rfl (lv_at hl 3 rfl) ?_
    have hP9 := hP.sub (ws' := [(h0, .inr (8, [.int th, .ref q1, .ref q2, .ref q3, v4, .ref q5, v6, .ref q7, .ref q8, v9, v10, v11, v12, v13, v14, v15, v16])), (q1, .inl (c1, 16, .inl a1)), (q2, .inl (c2, 67200, .inl a2)), (q3, .inl (c3, 16, .inl a3)), (q5, .inl (c5, 16, .inl a5)), (q7, .inl (c7, 16, .inl a7)), (q8, .inl (c8, 16, .inl a8))]) [4, 5, 0, 1, 2, 3, 6] rfl
    have hD9 := hD.sub (ws' := [(h0, .inr (8, [.int th, .ref q1, .ref q2, .ref q3, v4, .ref q5, v6, .ref q7, .ref q8, v9, v10, v11, v12, v13, v14, v15, v16])), (q1, .inl (c1, 16, .inl a1)), (q2, .inl (c2, 67200, .inl a2)), (q3, .inl (c3, 16, .inl a3)), (q5, .inl (c5, 16, .inl a5)), (q7, .inl (c7, 16, .inl a7)), (q8, .inl (c8, 16, .inl a8))]) [4, 5, 0, 1, 2, 3, 6] (by decide) rfl
    have hK9 := hK.sub (tys' := [(c1, .int), (c2, .int), (c3, .int), (c5, .int), (c7, .int), (c8, .int)]) [0, 1, 2, 3, 4, 5] rfl
    refine W.widen (k := 0) (n := 0) (Nat.le_of_ble_eq_true rfl) (Nat.le_of_ble_eq_true rfl) ?_
    exact W.iret (v := nI k9) hx hb hr (fun t ht hW => ⟨⟨nI k9, (a2, a7), rfl, ⟨⟨k9, hk9, rfl⟩, Or.inl ⟨rfl, rfl⟩⟩, by rw [ht]; exact hP9, va_K.moved hW.alike hK9, hD9⟩, hS.F ht⟩) hS.2.2 dX8_touched_38
  ·
    have ic_2 : (a1 r).toInt = 2 := tx_eq rfl (by decide) c_2
    refine lv_aload_n hx hb dX8_touched_16 rfl (lv_at hl 1 rfl) ?_
    refine va_get (D := (dC, dI)) (ci := 8) (v := .ref q5) (C := RX8) (T := TX8) (N := 17) hx hb hts hi0_ hown hK hP 4 rfl rfl 5 (by decide) hw1_ (fun _ h9 => h9) rfl dX8_touched_17 ?_
    refine lv_iload_n hx hb dX8_touched_20 rfl (lv_at hl 0 rfl) ?_
    refine va_iald (i := nI r) hx hb hK hP 2 3 rfl rfl (vp_in_nI (by omega) (by omega)) dX8_touched_21 ?_
    refine W.eq (g2 := F0 m 22 ls [.int (a5 r)]) (by rw [nI_clamp (by omega)]) ?_
    refine lv_if_eq (tgt := 37) hx hb dX8_touched_22 (by decide) (fun c_3 => ?_) (fun c_3 => ?_)
    ·
      have ic_3 : (a5 r).toInt = 0 := tx_eq rfl (by decide) c_3
      refine lv_iload_n hx hb dX8_touched_37 rfl (lv_at hl 3 rfl) ?_
      have hP9 := hP.sub (ws' := [(h0, .inr (8, [.int th, .ref q1, .ref q2, .ref q3, v4, .ref q5, v6, .ref q7, .ref q8, v9, v10, v11, v12, v13, v14, v15, v16])), (q1, .inl (c1, 16, .inl a1)), (q2, .inl (c2, 67200, .inl a2)), (q3, .inl (c3, 16, .inl a3)), (q5, .inl (c5, 16, .inl a5)), (q7, .inl (c7, 16, .inl a7)), (q8, .inl (c8, 16, .inl a8))]) [4, 5, 0, 1, 2, 3, 6] rfl
      have hD9 := hD.sub (ws' := [(h0, .inr (8, [.int th, .ref q1, .ref q2, .ref q3, v4, .ref q5, v6, .ref q7, .ref q8, v9, v10, v11, v12, v13, v14, v15, v16])), (q1, .inl (c1, 16, .inl a1)), (q2, .inl (c2, 67200, .inl a2)), (q3, .inl (c3, 16, .inl a3)), (q5, .inl (c5, 16, .inl a5)), (q7, .inl (c7, 16, .inl a7)), (q8, .inl (c8, 16, .inl a8))]) [4, 5, 0, 1, 2, 3, 6] (by decide) rfl
      have hK9 := hK.sub (tys' := [(c1, .int), (c2, .int), (c3, .int), (c5, .int), (c7, .int), (c8, .int)]) [0, 1, 2, 3, 4, 5] rfl
      refine W.widen (k := 0) (n := 0) (Nat.le_of_ble_eq_true rfl) (Nat.le_of_ble_eq_true rfl) ?_
      exact W.iret (v := nI k9) hx hb hr (fun t ht hW => ⟨⟨nI k9, (a2, a7), rfl, ⟨⟨k9, hk9, rfl⟩, Or.inl ⟨rfl, rfl⟩⟩, by rw [ht]; exact hP9, va_K.moved hW.alike hK9, hD9⟩, hS.F ht⟩) hS.2.2 dX8_touched_38
    ·
      have ic_3 : ¬ (a5 r).toInt = 0 := tx_ne rfl (by decide) c_3
      refine lv_iload_n hx hb dX8_touched_25 rfl (lv_at hl 3 rfl) ?_
      refine lv_aload_n hx hb dX8_touched_26 rfl (lv_at hl 1 rfl) ?_
      refine va_get (D := (dC, dI)) (ci := 8) (v := .ref q3) (C := RX8) (T := TX8) (N := 17) hx hb hts hi0_ hown hK hP 4 rfl rfl 3 (by decide) hw2_ (fun _ h9 => h9) rfl dX8_touched_27 ?_
      refine lv_iload_n hx hb dX8_touched_30 rfl (lv_at hl 0 rfl) ?_
      refine va_iald (i := nI r) hx hb hK hP 1 2 rfl rfl (vp_in_nI (by omega) (by omega)) dX8_touched_31 ?_
      refine W.eq (g2 := F0 m 32 ls [.int (a3 r), .int (nI k9)]) (by rw [nI_clamp (by omega)]) ?_
      refine W.eq (g2 := F0 m 32 ls [.int (nI nz), .int (nI k9)]) (by rw [hs9]) ?_
      refine lv_iconst (v := 1) hx hb dX8_touched_32 (by decide) ?_
      refine lv_isub hx hb dX8_touched_33 ?_
      refine lv_topi (fun z_4 ez_4 => ?_)
      obtain rfl : z_4 = nI (nz - 1) := ez_4.trans (by rw [show (1 : Int32) = nI 1 from rfl, pk_sub (by omega)])
      refine lv_icmp_ne (tgt := 39) hx hb dX8_touched_34 (by decide) (fun c_5 => ?_) (fun c_5 => ?_)
      ·
        have ic_5 : ¬ ((k9 : Nat) : Int) = ((nz - 1 : Nat) : Int) := tx_ne (nI_toInt (by omega)) (nI_toInt (by omega)) c_5
        refine lv_aload_n hx hb dX8_touched_39 rfl (lv_at hl 1 rfl) ?_
        refine lv_iload_n hx hb dX8_touched_40 rfl (lv_at hl 0 rfl) ?_
        refine lv_iload_n hx hb dX8_touched_41 rfl (lv_at hl 3 rfl) ?_
        have hPc := hP.sub (ws' := [(h0, .inr (8, [.int th, .ref q1, .ref q2, .ref q3, v4, .ref q5, v6, .ref q7, .ref q8, v9, v10, v11, v12, v13, v14, v15, v16])), (q2, .inl (c2, 67200, .inl a2))]) [4, 0] rfl
        have hDc := hD.sub (ws' := [(h0, .inr (8, [.int th, .ref q1, .ref q2, .ref q3, v4, .ref q5, v6, .ref q7, .ref q8, v9, v10, v11, v12, v13, v14, v15, v16])), (q2, .inl (c2, 67200, .inl a2))]) [4, 0] (by decide) rfl
        have hKc := hK.sub (tys' := [(c2, .int)]) [1] rfl
        have hFc := va_free (wc := [(h0, .inr (8, [.int th, .ref q1, .ref q2, .ref q3, v4, .ref q5, v6, .ref q7, .ref q8, v9, v10, v11, v12, v13, v14, v15, v16])), (q2, .inl (c2, 67200, .inl a2))]) hD hS hA [4, 0] rfl
        refine va_calli (va_runV (As := [.int (nI r), .int (nI k9)]) (rest := []) ⟨hx, hb, hml, hown, hts⟩ (c_X8_key l  dC dI H.size h0 th q2 c2 a2 (.ref q1) (.ref q3) v4 (.ref q5) v6 (.ref q7) (.ref q8) v9 v10 v11 v12 v13 v14 v15 v16 r k9 hr9 (by omega)) (cwV 2 hts gX8_touched_X8_key rfl rfl rfl (by decide +kernel) ⟨(Nat.le_of_ble_eq_true rfl), (Nat.le_of_ble_eq_true rfl)⟩) ⟨pk_blind, va_recv hKc hPc (ci := 8) (q0 := 0) rfl rfl, pk_call hPc hKc hDc⟩ rfl rfl hl.1 rfl (lv_room (Nat.le_of_ble_eq_true rfl)) dX8_touched_42 ⟨(Nat.le_of_ble_eq_true rfl), (Nat.le_of_ble_eq_true rfl)⟩) hS (fun q _ h => hFc q h) hFc (fun r_6 ur_6 t H1 locs ht hvm hw hB hz1 hk1 hS => ?_)
        try dsimp only at hw
        obtain ⟨hP1, hK1, hD1⟩ := hB
        rw [ht] at hP1
        have hK1 := va_K.moved hvm.symm hK1
        obtain ⟨hP, hD⟩ := va_join (wr := [(q3, .inl (c3, 16, .inl a3)), (q5, .inl (c5, 16, .inl a5)), (q7, .inl (c7, 16, .inl a7)), (q1, .inl (c1, 16, .inl a1)), (q8, .inl (c8, 16, .inl a8))]) (w1 := [(h0, .inr (8, [.int th, .ref q1, .ref q2, .ref q3, v4, .ref q5, v6, .ref q7, .ref q8, v9, v10, v11, v12, v13, v14, v15, v16])), (q2, .inl (c2, 67200, .inl a2))]) hP hD [4, 0] [1, 2, 3, 5, 6] rfl rfl (by decide) (by decide) hk1 hFc hP1 hD1
        clear hk1 hz1 ht hPc hDc hKc hFc
        generalize H1 = H at hP hS ⊢
        replace hP : va_P (dC, dI) vwCl [(q3, .inl (c3, 16, .inl a3)), (q5, .inl (c5, 16, .inl a5)), (q7, .inl (c7, 16, .inl a7)), (q1, .inl (c1, 16, .inl a1)), (q8, .inl (c8, 16, .inl a8)), (h0, .inr (8, [.int th, .ref q1, .ref q2, .ref q3, v4, .ref q5, v6, .ref q7, .ref q8, v9, v10, v11, v12, v13, v14, v15, v16])), (q2, .inl (c2, 67200, .inl a2))] H := hP
        replace hD : va_D A [(q3, .inl (c3, 16, .inl a3)), (q5, .inl (c5, 16, .inl a5)), (q7, .inl (c7, 16, .inl a7)), (q1, .inl (c1, 16, .inl a1)), (q8, .inl (c8, 16, .inl a8)), (h0, .inr (8, [.int th, .ref q1, .ref q2, .ref q3, v4, .ref q5, v6, .ref q7, .ref q8, v9, v10, v11, v12, v13, v14, v15, v16])), (q2, .inl (c2, 67200, .inl a2))] := hD
        refine W.widen (k := 0) (n := 0) (Nat.le_of_ble_eq_true rfl) (Nat.le_of_ble_eq_true rfl) ?_
        obtain rfl : r_6 = a2 (4200 * r + k9) := hw
        refine W.eq (g2 := F0 m 45 ls [.int (a2 (4200 * r + k9))]) rfl ?_
        refine lv_istore (lv' := [(4, .int (a2 (4200 * r + k9))), (3, .int (nI r)), (0, .ref h0), (1, .int (nI o)), (2, .int (nI k9))]) hx hb dX8_touched_45 hl (by decide) rfl (fun ls hl => ?_)
        refine lv_aload_n hx hb dX8_touched_47 rfl (lv_at hl 2 rfl) ?_
        refine lv_iload_n hx hb dX8_touched_48 rfl (lv_at hl 1 rfl) ?_
        refine lv_iload_n hx hb dX8_touched_49 rfl (lv_at hl 4 rfl) ?_
        have hPc := hP.sub (ws' := [(h0, .inr (8, [.int th, .ref q1, .ref q2, .ref q3, v4, .ref q5, v6, .ref q7, .ref q8, v9, v10, v11, v12, v13, v14, v15, v16])), (q2, .inl (c2, 67200, .inl a2))]) [5, 6] rfl
        have hDc := hD.sub (ws' := [(h0, .inr (8, [.int th, .ref q1, .ref q2, .ref q3, v4, .ref q5, v6, .ref q7, .ref q8, v9, v10, v11, v12, v13, v14, v15, v16])), (q2, .inl (c2, 67200, .inl a2))]) [5, 6] (by decide) rfl
        have hKc := hK.sub (tys' := [(c2, .int)]) [1] rfl
        have hFc := va_free (wc := [(h0, .inr (8, [.int th, .ref q1, .ref q2, .ref q3, v4, .ref q5, v6, .ref q7, .ref q8, v9, v10, v11, v12, v13, v14, v15, v16])), (q2, .inl (c2, 67200, .inl a2))]) hD hS hA [5, 6] rfl
        refine va_calli (va_runV (As := [.int (nI r), .int (nI k9)]) (rest := []) ⟨hx, hb, hml, hown, hts⟩ (c_X8_value l  dC dI H.size h0 th q2 c2 a2 (.ref q1) (.ref q3) v4 (.ref q5) v6 (.ref q7) (.ref q8) v9 v10 v11 v12 v13 v14 v15 v16 r k9 hr9 (by omega)) (cwV 2 hts gX8_touched_X8_value rfl rfl rfl (by decide +kernel) ⟨(Nat.le_of_ble_eq_true rfl), (Nat.le_of_ble_eq_true rfl)⟩) ⟨pk_blind, va_recv hKc hPc (ci := 8) (q0 := 0) rfl rfl, pk_call hPc hKc hDc⟩ rfl rfl hl.1 rfl (lv_room (Nat.le_of_ble_eq_true rfl)) dX8_touched_50 ⟨(Nat.le_of_ble_eq_true rfl), (Nat.le_of_ble_eq_true rfl)⟩) hS (fun q _ h => hFc q h) hFc (fun r_7 ur_7 t H1 locs ht hvm hw hB hz1 hk1 hS => ?_)
        try dsimp only at hw
        obtain ⟨hP1, hK1, hD1⟩ := hB
        rw [ht] at hP1
        have hK1 := va_K.moved hvm.symm hK1
        obtain ⟨hP, hD⟩ := va_join (wr := [(q3, .inl (c3, 16, .inl a3)), (q5, .inl (c5, 16, .inl a5)), (q7, .inl (c7, 16, .inl a7)), (q1, .inl (c1, 16, .inl a1)), (q8, .inl (c8, 16, .inl a8))]) (w1 := [(h0, .inr (8, [.int th, .ref q1, .ref q2, .ref q3, v4, .ref q5, v6, .ref q7, .ref q8, v9, v10, v11, v12, v13, v14, v15, v16])), (q2, .inl (c2, 67200, .inl a2))]) hP hD [5, 6] [0, 1, 2, 3, 4] rfl rfl (by decide) (by decide) hk1 hFc hP1 hD1
        clear hk1 hz1 ht hPc hDc hKc hFc
        generalize H1 = H at hP hS ⊢
        replace hP : va_P (dC, dI) vwCl [(q3, .inl (c3, 16, .inl a3)), (q5, .inl (c5, 16, .inl a5)), (q7, .inl (c7, 16, .inl a7)), (q1, .inl (c1, 16, .inl a1)), (q8, .inl (c8, 16, .inl a8)), (h0, .inr (8, [.int th, .ref q1, .ref q2, .ref q3, v4, .ref q5, v6, .ref q7, .ref q8, v9, v10, v11, v12, v13, v14, v15, v16])), (q2, .inl (c2, 67200, .inl a2))] H := hP
        replace hD : va_D A [(q3, .inl (c3, 16, .inl a3)), (q5, .inl (c5, 16, .inl a5)), (q7, .inl (c7, 16, .inl a7)), (q1, .inl (c1, 16, .inl a1)), (q8, .inl (c8, 16, .inl a8)), (h0, .inr (8, [.int th, .ref q1, .ref q2, .ref q3, v4, .ref q5, v6, .ref q7, .ref q8, v9, v10, v11, v12, v13, v14, v15, v16])), (q2, .inl (c2, 67200, .inl a2))] := hD
        refine W.widen (k := 0) (n := 0) (Nat.le_of_ble_eq_true rfl) (Nat.le_of_ble_eq_true rfl) ?_
        obtain rfl : r_7 = a2 (4200 * r + 1000 + k9) := hw
        refine W.eq (g2 := F0 m 53 ls [.int (a2 (4200 * r + 1000 + k9))]) rfl ?_
        refine lv_istore (lv' := [(5, .int (a2 (4200 * r + 1000 + k9))), (4, .int (a2 (4200 * r + k9))), (3, .int (nI r)), (0, .ref h0), (1, .int (nI o)), (2, .int (nI k9))]) hx hb dX8_touched_53 hl (by decide) rfl (fun ls hl => ?_)
        refine lv_iload_n hx hb dX8_touched_55 rfl (lv_at hl 5 rfl) ?_
        refine lv_istore (lv' := [(6, .int (nI k9)), (5, .int (a2 (4200 * r + 1000 + k9))), (4, .int (a2 (4200 * r + k9))), (3, .int (nI r)), (0, .ref h0), (1, .int (nI o)), (2, .int (nI k9))]) hx hb dX8_touched_56 hl (by decide) rfl (fun ls hl => ?_)
        obtain ⟨i, es_i⟩ : ∃ z : Nat, z = k9 := ⟨_, rfl⟩
        obtain ⟨x9, ex9⟩ : ∃ y : Int32, y = nI i := ⟨_, rfl⟩
        obtain ⟨f9, ef_f9⟩ : ∃ z : Nat → Int32, z = a2 := ⟨_, rfl⟩
        obtain ⟨n9, en9⟩ : ∃ n : Nat, n = nz + 1 := ⟨_, rfl⟩
        replace hl : lv_has ls 7 [(6, .int x9), (5, .int (a2 (4200 * r + 1000 + k9))), (4, .int (a2 (4200 * r + k9))), (3, .int (nI r)), (0, .ref h0), (1, .int (nI o)), (2, .int (nI k9))] := by subst ex9; subst es_i; exact hl
        replace hP : va_P (dC, dI) vwCl [(q3, .inl (c3, 16, .inl a3)), (q5, .inl (c5, 16, .inl a5)), (q7, .inl (c7, 16, .inl a7)), (q1, .inl (c1, 16, .inl a1)), (q8, .inl (c8, 16, .inl a8)), (h0, .inr (8, [.int th, .ref q1, .ref q2, .ref q3, v4, .ref q5, v6, .ref q7, .ref q8, v9, v10, v11, v12, v13, v14, v15, v16])), (q2, .inl (c2, 67200, .inl f9))] H := by subst ef_f9; exact hP
        replace hD : va_D A [(q3, .inl (c3, 16, .inl a3)), (q5, .inl (c5, 16, .inl a5)), (q7, .inl (c7, 16, .inl a7)), (q1, .inl (c1, 16, .inl a1)), (q8, .inl (c8, 16, .inl a8)), (h0, .inr (8, [.int th, .ref q1, .ref q2, .ref q3, v4, .ref q5, v6, .ref q7, .ref q8, v9, v10, v11, v12, v13, v14, v15, v16])), (q2, .inl (c2, 67200, .inl f9))] := by subst ef_f9; exact hD
        have hi9 : i < nz := by subst ex9; subst es_i; subst ef_f9; subst en9; exact hk9
        have hn9 : nz + 1 ≤ i + n9 := by subst ex9; subst es_i; subst ef_f9; subst en9; exact by omega
        have hv9 : outR a2 f9 r := by subst ex9; subst es_i; subst ef_f9; subst en9; exact outR_rf
        clear en9 es_i ef_f9
        induction n9 generalizing i x9 ls H locs f9 with
        | zero => exact absurd hn9 (by omega)
        | succ n9 ih =>
          subst ex9
          refine lv_iload hx hb dX8_touched_58 (lv_at hl 0 rfl) ?_
          refine lv_iconst (v := 1) hx hb dX8_touched_60 (by decide) ?_
          refine lv_iadd hx hb dX8_touched_61 ?_
          refine lv_topi (fun z_8 ez_8 => ?_)
          obtain rfl : z_8 = nI (i + 1) := ez_8.trans (by rw [show (1 : Int32) = nI 1 from rfl, nI_add])
          refine lv_aload_n hx hb dX8_touched_62 rfl (lv_at hl 4 rfl) ?_
          refine va_get (D := (dC, dI)) (ci := 8) (v := .ref q3) (C := RX8) (T := TX8) (N := 17) hx hb hts hi0_ hown hK hP 5 rfl rfl 3 (by decide) hw2_ (fun _ h9 => h9) rfl dX8_touched_63 ?_
          refine lv_iload_n hx hb dX8_touched_66 rfl (lv_at hl 3 rfl) ?_
          refine va_iald (i := nI r) hx hb hK hP 0 2 rfl rfl (vp_in_nI (by omega) (by omega)) dX8_touched_67 ?_
          refine W.eq (g2 := F0 m 68 ls [.int (a3 r), .int (nI (i + 1))]) (by rw [nI_clamp (by omega)]) ?_
          refine W.eq (g2 := F0 m 68 ls [.int (nI nz), .int (nI (i + 1))]) (by rw [hs9]) ?_
          refine lv_icmp_ge (tgt := 102) hx hb dX8_touched_68 (by decide) (fun c_9 => ?_) (fun c_9 => ?_)
          ·
            have ic_9 : ((nz : Nat) : Int) ≤ ((i + 1 : Nat) : Int) := tx_le (nI_toInt (by omega)) (nI_toInt (by omega)) c_9
            refine lv_aload_n hx hb dX8_touched_102 rfl (lv_at hl 4 rfl) ?_
            refine lv_iload_n hx hb dX8_touched_103 rfl (lv_at hl 3 rfl) ?_
            refine lv_aload_n hx hb dX8_touched_104 rfl (lv_at hl 4 rfl) ?_
            refine va_get (D := (dC, dI)) (ci := 8) (v := .ref q3) (C := RX8) (T := TX8) (N := 17) hx hb hts hi0_ hown hK hP 5 rfl rfl 3 (by decide) hw2_ (fun _ h9 => h9) rfl dX8_touched_105 ?_
            refine lv_iload_n hx hb dX8_touched_108 rfl (lv_at hl 3 rfl) ?_
            refine va_iald (i := nI r) hx hb hK hP 0 2 rfl rfl (vp_in_nI (by omega) (by omega)) dX8_touched_109 ?_
            refine W.eq (g2 := F0 m 110 ls [.int (a3 r), .int (nI r), .ref h0]) (by rw [nI_clamp (by omega)]) ?_
            refine W.eq (g2 := F0 m 110 ls [.int (nI nz), .int (nI r), .ref h0]) (by rw [hs9]) ?_
            refine lv_iconst (v := 1) hx hb dX8_touched_110 (by decide) ?_
            refine lv_isub hx hb dX8_touched_111 ?_
            refine lv_topi (fun z_10 ez_10 => ?_)
            obtain rfl : z_10 = nI (nz - 1) := ez_10.trans (by rw [show (1 : Int32) = nI 1 from rfl, pk_sub (by omega)])
            refine lv_iload hx hb dX8_touched_112 (lv_at hl 2 rfl) ?_
            refine lv_iload hx hb dX8_touched_114 (lv_at hl 1 rfl) ?_
            have hPc := hP.sub (ws' := [(h0, .inr (8, [.int th, .ref q1, .ref q2, .ref q3, v4, .ref q5, v6, .ref q7, .ref q8, v9, v10, v11, v12, v13, v14, v15, v16])), (q2, .inl (c2, 67200, .inl f9))]) [5, 6] rfl
            have hDc := hD.sub (ws' := [(h0, .inr (8, [.int th, .ref q1, .ref q2, .ref q3, v4, .ref q5, v6, .ref q7, .ref q8, v9, v10, v11, v12, v13, v14, v15, v16])), (q2, .inl (c2, 67200, .inl f9))]) [5, 6] (by decide) rfl
            have hKc := hK.sub (tys' := [(c2, .int)]) [1] rfl
            have hFc := va_free (wc := [(h0, .inr (8, [.int th, .ref q1, .ref q2, .ref q3, v4, .ref q5, v6, .ref q7, .ref q8, v9, v10, v11, v12, v13, v14, v15, v16])), (q2, .inl (c2, 67200, .inl f9))]) hD hS hA [5, 6] rfl
            refine va_callv (va_runV (As := [.int (nI r), .int (nI (nz - 1)), .int (a2 (4200 * r + k9)), .int (a2 (4200 * r + 1000 + k9))]) (rest := []) ⟨hx, hb, hml, hown, hts⟩ (c_X8_set l  dC dI H.size h0 th q2 c2 f9 (.ref q1) (.ref q3) v4 (.ref q5) v6 (.ref q7) (.ref q8) v9 v10 v11 v12 v13 v14 v15 v16 r (nz - 1) (a2 (4200 * r + k9)) (a2 (4200 * r + 1000 + k9)) hr9 (by omega)) (cwV 4 hts gX8_touched_X8_set rfl rfl rfl (by decide +kernel) ⟨(Nat.le_of_ble_eq_true rfl), (Nat.le_of_ble_eq_true rfl)⟩) ⟨pk_blind, va_recv hKc hPc (ci := 8) (q0 := 0) rfl rfl, pk_call hPc hKc hDc⟩ rfl rfl hl.1 rfl (lv_room (Nat.le_of_ble_eq_true rfl)) dX8_touched_116 ⟨(Nat.le_of_ble_eq_true rfl), (Nat.le_of_ble_eq_true rfl)⟩) hS (fun q _ h => hFc q h) hFc (fun ur_11 t H1 locs ht hvm hw hB hz1 hk1 hS => ?_)
            try dsimp only at hw
            have jr_11 := hw
            obtain ⟨hP1, hK1, hD1⟩ := hB
            rw [ht] at hP1
            have hK1 := va_K.moved hvm.symm hK1
            obtain ⟨hP, hD⟩ := va_join (wr := [(q3, .inl (c3, 16, .inl a3)), (q5, .inl (c5, 16, .inl a5)), (q7, .inl (c7, 16, .inl a7)), (q1, .inl (c1, 16, .inl a1)), (q8, .inl (c8, 16, .inl a8))]) (w1 := [(h0, .inr (8, [.int th, .ref q1, .ref q2, .ref q3, v4, .ref q5, v6, .ref q7, .ref q8, v9, v10, v11, v12, v13, v14, v15, v16])), (q2, .inl (c2, 67200, .inl (upd (upd f9 (4200 * r + (nz - 1)) (a2 (4200 * r + k9))) (4200 * r + 1000 + (nz - 1)) (a2 (4200 * r + 1000 + k9)))))]) hP hD [5, 6] [0, 1, 2, 3, 4] rfl rfl (by decide) (by decide) hk1 hFc hP1 hD1
            clear hk1 hz1 ht hPc hDc hKc hFc
            generalize H1 = H at hP hS ⊢
            replace hP : va_P (dC, dI) vwCl [(q3, .inl (c3, 16, .inl a3)), (q5, .inl (c5, 16, .inl a5)), (q7, .inl (c7, 16, .inl a7)), (q1, .inl (c1, 16, .inl a1)), (q8, .inl (c8, 16, .inl a8)), (h0, .inr (8, [.int th, .ref q1, .ref q2, .ref q3, v4, .ref q5, v6, .ref q7, .ref q8, v9, v10, v11, v12, v13, v14, v15, v16])), (q2, .inl (c2, 67200, .inl (upd (upd f9 (4200 * r + (nz - 1)) (a2 (4200 * r + k9))) (4200 * r + 1000 + (nz - 1)) (a2 (4200 * r + 1000 + k9)))))] H := hP
            replace hD : va_D A [(q3, .inl (c3, 16, .inl a3)), (q5, .inl (c5, 16, .inl a5)), (q7, .inl (c7, 16, .inl a7)), (q1, .inl (c1, 16, .inl a1)), (q8, .inl (c8, 16, .inl a8)), (h0, .inr (8, [.int th, .ref q1, .ref q2, .ref q3, v4, .ref q5, v6, .ref q7, .ref q8, v9, v10, v11, v12, v13, v14, v15, v16])), (q2, .inl (c2, 67200, .inl (upd (upd f9 (4200 * r + (nz - 1)) (a2 (4200 * r + k9))) (4200 * r + 1000 + (nz - 1)) (a2 (4200 * r + 1000 + k9)))))] := hD
            refine W.widen (k := 0) (n := 0) (Nat.le_of_ble_eq_true rfl) (Nat.le_of_ble_eq_true rfl) ?_
            refine W.eq (g2 := F0 m 119 ls []) rfl ?_
            refine lv_aload_n hx hb dX8_touched_119 rfl (lv_at hl 4 rfl) ?_
            refine va_get (D := (dC, dI)) (ci := 8) (v := .ref q7) (C := RX8) (T := TX8) (N := 17) hx hb hts hi0_ hown hK hP 5 rfl rfl 7 (by decide) hw3_ (fun _ h9 => h9) rfl dX8_touched_120 ?_
            refine lv_iload_n hx hb dX8_touched_123 rfl (lv_at hl 3 rfl) ?_
            refine lv_dup2_11 hx hb dX8_touched_124 rfl rfl ?_
            refine va_iald (i := nI r) hx hb hK hP 2 4 rfl rfl (vp_in_nI (by omega) (by omega)) dX8_touched_125 ?_
            refine W.eq (g2 := F0 m 126 ls [.int (a7 r), .int (nI r), .ref q7]) (by rw [nI_clamp (by omega)]) ?_
            refine lv_iconst (v := 1) hx hb dX8_touched_126 (by decide) ?_
            refine lv_iadd hx hb dX8_touched_127 ?_
            refine va_iast (i := nI r) hx hb hK hP hD hS 2 4 rfl rfl (vp_in_nI (by omega) (by omega)) dX8_touched_128 (fun H locs hP hD hS => ?_)
            rw [nI_clamp (by omega)] at hP hD
            replace hP : va_P (dC, dI) vwCl [(q3, .inl (c3, 16, .inl a3)), (q5, .inl (c5, 16, .inl a5)), (q7, .inl (c7, 16, .inl (upd a7 r ((a7 r) + 1)))), (q1, .inl (c1, 16, .inl a1)), (q8, .inl (c8, 16, .inl a8)), (h0, .inr (8, [.int th, .ref q1, .ref q2, .ref q3, v4, .ref q5, v6, .ref q7, .ref q8, v9, v10, v11, v12, v13, v14, v15, v16])), (q2, .inl (c2, 67200, .inl (upd (upd f9 (4200 * r + (nz - 1)) (a2 (4200 * r + k9))) (4200 * r + 1000 + (nz - 1)) (a2 (4200 * r + 1000 + k9)))))] H := hP
            replace hD : va_D A [(q3, .inl (c3, 16, .inl a3)), (q5, .inl (c5, 16, .inl a5)), (q7, .inl (c7, 16, .inl (upd a7 r ((a7 r) + 1)))), (q1, .inl (c1, 16, .inl a1)), (q8, .inl (c8, 16, .inl a8)), (h0, .inr (8, [.int th, .ref q1, .ref q2, .ref q3, v4, .ref q5, v6, .ref q7, .ref q8, v9, v10, v11, v12, v13, v14, v15, v16])), (q2, .inl (c2, 67200, .inl (upd (upd f9 (4200 * r + (nz - 1)) (a2 (4200 * r + k9))) (4200 * r + 1000 + (nz - 1)) (a2 (4200 * r + 1000 + k9)))))] := hD
            refine lv_aload_n hx hb dX8_touched_129 rfl (lv_at hl 4 rfl) ?_
            refine va_get (D := (dC, dI)) (ci := 8) (v := .ref q3) (C := RX8) (T := TX8) (N := 17) hx hb hts hi0_ hown hK hP 5 rfl rfl 3 (by decide) hw2_ (fun _ h9 => h9) rfl dX8_touched_130 ?_
            refine lv_iload_n hx hb dX8_touched_133 rfl (lv_at hl 3 rfl) ?_
            refine va_iald (i := nI r) hx hb hK hP 0 2 rfl rfl (vp_in_nI (by omega) (by omega)) dX8_touched_134 ?_
            refine W.eq (g2 := F0 m 135 ls [.int (a3 r)]) (by rw [nI_clamp (by omega)]) ?_
            refine W.eq (g2 := F0 m 135 ls [.int (nI nz)]) (by rw [hs9]) ?_
            refine lv_iconst (v := 1) hx hb dX8_touched_135 (by decide) ?_
            refine lv_isub hx hb dX8_touched_136 ?_
            refine lv_topi (fun z_12 ez_12 => ?_)
            obtain rfl : z_12 = nI (nz - 1) := ez_12.trans (by rw [show (1 : Int32) = nI 1 from rfl, pk_sub (by omega)])
            have hP9 := hP.sub (ws' := [(h0, .inr (8, [.int th, .ref q1, .ref q2, .ref q3, v4, .ref q5, v6, .ref q7, .ref q8, v9, v10, v11, v12, v13, v14, v15, v16])), (q1, .inl (c1, 16, .inl a1)), (q2, .inl (c2, 67200, .inl (upd (upd f9 (4200 * r + (nz - 1)) (a2 (4200 * r + k9))) (4200 * r + 1000 + (nz - 1)) (a2 (4200 * r + 1000 + k9))))), (q3, .inl (c3, 16, .inl a3)), (q5, .inl (c5, 16, .inl a5)), (q7, .inl (c7, 16, .inl (upd a7 r ((a7 r) + 1)))), (q8, .inl (c8, 16, .inl a8))]) [5, 3, 6, 0, 1, 2, 4] rfl
            have hD9 := hD.sub (ws' := [(h0, .inr (8, [.int th, .ref q1, .ref q2, .ref q3, v4, .ref q5, v6, .ref q7, .ref q8, v9, v10, v11, v12, v13, v14, v15, v16])), (q1, .inl (c1, 16, .inl a1)), (q2, .inl (c2, 67200, .inl (upd (upd f9 (4200 * r + (nz - 1)) (a2 (4200 * r + k9))) (4200 * r + 1000 + (nz - 1)) (a2 (4200 * r + 1000 + k9))))), (q3, .inl (c3, 16, .inl a3)), (q5, .inl (c5, 16, .inl a5)), (q7, .inl (c7, 16, .inl (upd a7 r ((a7 r) + 1)))), (q8, .inl (c8, 16, .inl a8))]) [5, 3, 6, 0, 1, 2, 4] (by decide) rfl
            have hK9 := hK.sub (tys' := [(c1, .int), (c2, .int), (c3, .int), (c5, .int), (c7, .int), (c8, .int)]) [0, 1, 2, 3, 4, 5] rfl
            refine W.widen (k := 0) (n := 0) (Nat.le_of_ble_eq_true rfl) (Nat.le_of_ble_eq_true rfl) ?_
            exact W.iret (v := nI (nz - 1)) hx hb hr (fun t ht hW => ⟨⟨nI (nz - 1), ((upd (upd f9 (4200 * r + (nz - 1)) (a2 (4200 * r + k9))) (4200 * r + 1000 + (nz - 1)) (a2 (4200 * r + 1000 + k9))), (upd a7 r ((a7 r) + 1))), rfl, ⟨⟨nz - 1, by omega, rfl⟩, Or.inr ⟨outR_up' (outR_up hv9 (by omega)) (k := 1000 + (nz - 1)) (by omega) (by omega), rfl⟩⟩, by rw [ht]; exact hP9, va_K.moved hW.alike hK9, hD9⟩, hS.F ht⟩) hS.2.2 dX8_touched_137
          ·
            have ic_9 : ((i + 1 : Nat) : Int) < ((nz : Nat) : Int) := tx_nle (nI_toInt (by omega)) (nI_toInt (by omega)) c_9
            refine lv_aload_n hx hb dX8_touched_71 rfl (lv_at hl 4 rfl) ?_
            refine lv_iload_n hx hb dX8_touched_72 rfl (lv_at hl 3 rfl) ?_
            refine lv_iload hx hb dX8_touched_73 (lv_at hl 0 rfl) ?_
            refine lv_aload_n hx hb dX8_touched_75 rfl (lv_at hl 4 rfl) ?_
            refine lv_iload_n hx hb dX8_touched_76 rfl (lv_at hl 3 rfl) ?_
            refine lv_iload hx hb dX8_touched_77 (lv_at hl 0 rfl) ?_
            refine lv_iconst (v := 1) hx hb dX8_touched_79 (by decide) ?_
            refine lv_iadd hx hb dX8_touched_80 ?_
            refine lv_topi (fun z_13 ez_13 => ?_)
            obtain rfl : z_13 = nI (i + 1) := ez_13.trans (by rw [show (1 : Int32) = nI 1 from rfl, nI_add])
            have hPc := hP.sub (ws' := [(h0, .inr (8, [.int th, .ref q1, .ref q2, .ref q3, v4, .ref q5, v6, .ref q7, .ref q8, v9, v10, v11, v12, v13, v14, v15, v16])), (q2, .inl (c2, 67200, .inl f9))]) [5, 6] rfl
            have hDc := hD.sub (ws' := [(h0, .inr (8, [.int th, .ref q1, .ref q2, .ref q3, v4, .ref q5, v6, .ref q7, .ref q8, v9, v10, v11, v12, v13, v14, v15, v16])), (q2, .inl (c2, 67200, .inl f9))]) [5, 6] (by decide) rfl
            have hKc := hK.sub (tys' := [(c2, .int)]) [1] rfl
            have hFc := va_free (wc := [(h0, .inr (8, [.int th, .ref q1, .ref q2, .ref q3, v4, .ref q5, v6, .ref q7, .ref q8, v9, v10, v11, v12, v13, v14, v15, v16])), (q2, .inl (c2, 67200, .inl f9))]) hD hS hA [5, 6] rfl
            refine va_calli (va_runV (As := [.int (nI r), .int (nI (i + 1))]) (rest := [.int (nI i), .int (nI r), .ref h0]) ⟨hx, hb, hml, hown, hts⟩ (c_X8_key l  dC dI H.size h0 th q2 c2 f9 (.ref q1) (.ref q3) v4 (.ref q5) v6 (.ref q7) (.ref q8) v9 v10 v11 v12 v13 v14 v15 v16 r (i + 1) hr9 (by omega)) (cwV 2 hts gX8_touched_X8_key rfl rfl rfl (by decide +kernel) ⟨(Nat.le_of_ble_eq_true rfl), (Nat.le_of_ble_eq_true rfl)⟩) ⟨pk_blind, va_recv hKc hPc (ci := 8) (q0 := 0) rfl rfl, pk_call hPc hKc hDc⟩ rfl rfl hl.1 rfl (lv_room (Nat.le_of_ble_eq_true rfl)) dX8_touched_81 ⟨(Nat.le_of_ble_eq_true rfl), (Nat.le_of_ble_eq_true rfl)⟩) hS (fun q _ h => hFc q h) hFc (fun r_14 ur_14 t H1 locs ht hvm hw hB hz1 hk1 hS => ?_)
            try dsimp only at hw
            obtain ⟨hP1, hK1, hD1⟩ := hB
            rw [ht] at hP1
            have hK1 := va_K.moved hvm.symm hK1
            obtain ⟨hP, hD⟩ := va_join (wr := [(q3, .inl (c3, 16, .inl a3)), (q5, .inl (c5, 16, .inl a5)), (q7, .inl (c7, 16, .inl a7)), (q1, .inl (c1, 16, .inl a1)), (q8, .inl (c8, 16, .inl a8))]) (w1 := [(h0, .inr (8, [.int th, .ref q1, .ref q2, .ref q3, v4, .ref q5, v6, .ref q7, .ref q8, v9, v10, v11, v12, v13, v14, v15, v16])), (q2, .inl (c2, 67200, .inl f9))]) hP hD [5, 6] [0, 1, 2, 3, 4] rfl rfl (by decide) (by decide) hk1 hFc hP1 hD1
            clear hk1 hz1 ht hPc hDc hKc hFc
            generalize H1 = H at hP hS ⊢
            replace hP : va_P (dC, dI) vwCl [(q3, .inl (c3, 16, .inl a3)), (q5, .inl (c5, 16, .inl a5)), (q7, .inl (c7, 16, .inl a7)), (q1, .inl (c1, 16, .inl a1)), (q8, .inl (c8, 16, .inl a8)), (h0, .inr (8, [.int th, .ref q1, .ref q2, .ref q3, v4, .ref q5, v6, .ref q7, .ref q8, v9, v10, v11, v12, v13, v14, v15, v16])), (q2, .inl (c2, 67200, .inl f9))] H := hP
            replace hD : va_D A [(q3, .inl (c3, 16, .inl a3)), (q5, .inl (c5, 16, .inl a5)), (q7, .inl (c7, 16, .inl a7)), (q1, .inl (c1, 16, .inl a1)), (q8, .inl (c8, 16, .inl a8)), (h0, .inr (8, [.int th, .ref q1, .ref q2, .ref q3, v4, .ref q5, v6, .ref q7, .ref q8, v9, v10, v11, v12, v13, v14, v15, v16])), (q2, .inl (c2, 67200, .inl f9))] := hD
            refine W.widen (k := 0) (n := 0) (Nat.le_of_ble_eq_true rfl) (Nat.le_of_ble_eq_true rfl) ?_
            obtain rfl : r_14 = f9 (4200 * r + (i + 1)) := hw
            refine W.eq (g2 := F0 m 84 ls [.int (f9 (4200 * r + (i + 1))), .int (nI i), .int (nI r), .ref h0]) rfl ?_
            refine lv_aload_n hx hb dX8_touched_84 rfl (lv_at hl 4 rfl) ?_
            refine lv_iload_n hx hb dX8_touched_85 rfl (lv_at hl 3 rfl) ?_
            refine lv_iload hx hb dX8_touched_86 (lv_at hl 0 rfl) ?_
            refine lv_iconst (v := 1) hx hb dX8_touched_88 (by decide) ?_
            refine lv_iadd hx hb dX8_touched_89 ?_
            refine lv_topi (fun z_15 ez_15 => ?_)
            obtain rfl : z_15 = nI (i + 1) := ez_15.trans (by rw [show (1 : Int32) = nI 1 from rfl, nI_add])
            have hPc := hP.sub (ws' := [(h0, .inr (8, [.int th, .ref q1, .ref q2, .ref q3, v4, .ref q5, v6, .ref q7, .ref q8, v9, v10, v11, v12, v13, v14, v15, v16])), (q2, .inl (c2, 67200, .inl f9))]) [5, 6] rfl
            have hDc := hD.sub (ws' := [(h0, .inr (8, [.int th, .ref q1, .ref q2, .ref q3, v4, .ref q5, v6, .ref q7, .ref q8, v9, v10, v11, v12, v13, v14, v15, v16])), (q2, .inl (c2, 67200, .inl f9))]) [5, 6] (by decide) rfl
            have hKc := hK.sub (tys' := [(c2, .int)]) [1] rfl
            have hFc := va_free (wc := [(h0, .inr (8, [.int th, .ref q1, .ref q2, .ref q3, v4, .ref q5, v6, .ref q7, .ref q8, v9, v10, v11, v12, v13, v14, v15, v16])), (q2, .inl (c2, 67200, .inl f9))]) hD hS hA [5, 6] rfl
            refine va_calli (va_runV (As := [.int (nI r), .int (nI (i + 1))]) (rest := [.int (f9 (4200 * r + (i + 1))), .int (nI i), .int (nI r), .ref h0]) ⟨hx, hb, hml, hown, hts⟩ (c_X8_value l  dC dI H.size h0 th q2 c2 f9 (.ref q1) (.ref q3) v4 (.ref q5) v6 (.ref q7) (.ref q8) v9 v10 v11 v12 v13 v14 v15 v16 r (i + 1) hr9 (by omega)) (cwV 2 hts gX8_touched_X8_value rfl rfl rfl (by decide +kernel) ⟨(Nat.le_of_ble_eq_true rfl), (Nat.le_of_ble_eq_true rfl)⟩) ⟨pk_blind, va_recv hKc hPc (ci := 8) (q0 := 0) rfl rfl, pk_call hPc hKc hDc⟩ rfl rfl hl.1 rfl (lv_room (Nat.le_of_ble_eq_true rfl)) dX8_touched_90 ⟨(Nat.le_of_ble_eq_true rfl), (Nat.le_of_ble_eq_true rfl)⟩) hS (fun q _ h => hFc q h) hFc (fun r_16 ur_16 t H1 locs ht hvm hw hB hz1 hk1 hS => ?_)
            try dsimp only at hw
            obtain ⟨hP1, hK1, hD1⟩ := hB
            rw [ht] at hP1
            have hK1 := va_K.moved hvm.symm hK1
            obtain ⟨hP, hD⟩ := va_join (wr := [(q3, .inl (c3, 16, .inl a3)), (q5, .inl (c5, 16, .inl a5)), (q7, .inl (c7, 16, .inl a7)), (q1, .inl (c1, 16, .inl a1)), (q8, .inl (c8, 16, .inl a8))]) (w1 := [(h0, .inr (8, [.int th, .ref q1, .ref q2, .ref q3, v4, .ref q5, v6, .ref q7, .ref q8, v9, v10, v11, v12, v13, v14, v15, v16])), (q2, .inl (c2, 67200, .inl f9))]) hP hD [5, 6] [0, 1, 2, 3, 4] rfl rfl (by decide) (by decide) hk1 hFc hP1 hD1
            clear hk1 hz1 ht hPc hDc hKc hFc
            generalize H1 = H at hP hS ⊢
            replace hP : va_P (dC, dI) vwCl [(q3, .inl (c3, 16, .inl a3)), (q5, .inl (c5, 16, .inl a5)), (q7, .inl (c7, 16, .inl a7)), (q1, .inl (c1, 16, .inl a1)), (q8, .inl (c8, 16, .inl a8)), (h0, .inr (8, [.int th, .ref q1, .ref q2, .ref q3, v4, .ref q5, v6, .ref q7, .ref q8, v9, v10, v11, v12, v13, v14, v15, v16])), (q2, .inl (c2, 67200, .inl f9))] H := hP
            replace hD : va_D A [(q3, .inl (c3, 16, .inl a3)), (q5, .inl (c5, 16, .inl a5)), (q7, .inl (c7, 16, .inl a7)), (q1, .inl (c1, 16, .inl a1)), (q8, .inl (c8, 16, .inl a8)), (h0, .inr (8, [.int th, .ref q1, .ref q2, .ref q3, v4, .ref q5, v6, .ref q7, .ref q8, v9, v10, v11, v12, v13, v14, v15, v16])), (q2, .inl (c2, 67200, .inl f9))] := hD
            refine W.widen (k := 0) (n := 0) (Nat.le_of_ble_eq_true rfl) (Nat.le_of_ble_eq_true rfl) ?_
            obtain rfl : r_16 = f9 (4200 * r + 1000 + (i + 1)) := hw
            refine W.eq (g2 := F0 m 93 ls [.int (f9 (4200 * r + 1000 + (i + 1))), .int (f9 (4200 * r + (i + 1))), .int (nI i), .int (nI r), .ref h0]) rfl ?_
            have hPc := hP.sub (ws' := [(h0, .inr (8, [.int th, .ref q1, .ref q2, .ref q3, v4, .ref q5, v6, .ref q7, .ref q8, v9, v10, v11, v12, v13, v14, v15, v16])), (q2, .inl (c2, 67200, .inl f9))]) [5, 6] rfl
            have hDc := hD.sub (ws' := [(h0, .inr (8, [.int th, .ref q1, .ref q2, .ref q3, v4, .ref q5, v6, .ref q7, .ref q8, v9, v10, v11, v12, v13, v14, v15, v16])), (q2, .inl (c2, 67200, .inl f9))]) [5, 6] (by decide) rfl
            have hKc := hK.sub (tys' := [(c2, .int)]) [1] rfl
            have hFc := va_free (wc := [(h0, .inr (8, [.int th, .ref q1, .ref q2, .ref q3, v4, .ref q5, v6, .ref q7, .ref q8, v9, v10, v11, v12, v13, v14, v15, v16])), (q2, .inl (c2, 67200, .inl f9))]) hD hS hA [5, 6] rfl
            refine va_callv (va_runV (As := [.int (nI r), .int (nI i), .int (f9 (4200 * r + (i + 1))), .int (f9 (4200 * r + 1000 + (i + 1)))]) (rest := []) ⟨hx, hb, hml, hown, hts⟩ (c_X8_set l  dC dI H.size h0 th q2 c2 f9 (.ref q1) (.ref q3) v4 (.ref q5) v6 (.ref q7) (.ref q8) v9 v10 v11 v12 v13 v14 v15 v16 r i (f9 (4200 * r + (i + 1))) (f9 (4200 * r + 1000 + (i + 1))) hr9 (by omega)) (cwV 4 hts gX8_touched_X8_set rfl rfl rfl (by decide +kernel) ⟨(Nat.le_of_ble_eq_true rfl), (Nat.le_of_ble_eq_true rfl)⟩) ⟨pk_blind, va_recv hKc hPc (ci := 8) (q0 := 0) rfl rfl, pk_call hPc hKc hDc⟩ rfl rfl hl.1 rfl (lv_room (Nat.le_of_ble_eq_true rfl)) dX8_touched_93 ⟨(Nat.le_of_ble_eq_true rfl), (Nat.le_of_ble_eq_true rfl)⟩) hS (fun q _ h => hFc q h) hFc (fun ur_17 t H1 locs ht hvm hw hB hz1 hk1 hS => ?_)
            try dsimp only at hw
            have jr_17 := hw
            obtain ⟨hP1, hK1, hD1⟩ := hB
            rw [ht] at hP1
            have hK1 := va_K.moved hvm.symm hK1
            obtain ⟨hP, hD⟩ := va_join (wr := [(q3, .inl (c3, 16, .inl a3)), (q5, .inl (c5, 16, .inl a5)), (q7, .inl (c7, 16, .inl a7)), (q1, .inl (c1, 16, .inl a1)), (q8, .inl (c8, 16, .inl a8))]) (w1 := [(h0, .inr (8, [.int th, .ref q1, .ref q2, .ref q3, v4, .ref q5, v6, .ref q7, .ref q8, v9, v10, v11, v12, v13, v14, v15, v16])), (q2, .inl (c2, 67200, .inl (upd (upd f9 (4200 * r + i) (f9 (4200 * r + (i + 1)))) (4200 * r + 1000 + i) (f9 (4200 * r + 1000 + (i + 1))))))]) hP hD [5, 6] [0, 1, 2, 3, 4] rfl rfl (by decide) (by decide) hk1 hFc hP1 hD1
            clear hk1 hz1 ht hPc hDc hKc hFc
            generalize H1 = H at hP hS ⊢
            replace hP : va_P (dC, dI) vwCl [(q3, .inl (c3, 16, .inl a3)), (q5, .inl (c5, 16, .inl a5)), (q7, .inl (c7, 16, .inl a7)), (q1, .inl (c1, 16, .inl a1)), (q8, .inl (c8, 16, .inl a8)), (h0, .inr (8, [.int th, .ref q1, .ref q2, .ref q3, v4, .ref q5, v6, .ref q7, .ref q8, v9, v10, v11, v12, v13, v14, v15, v16])), (q2, .inl (c2, 67200, .inl (upd (upd f9 (4200 * r + i) (f9 (4200 * r + (i + 1)))) (4200 * r + 1000 + i) (f9 (4200 * r + 1000 + (i + 1))))))] H := hP
            replace hD : va_D A [(q3, .inl (c3, 16, .inl a3)), (q5, .inl (c5, 16, .inl a5)), (q7, .inl (c7, 16, .inl a7)), (q1, .inl (c1, 16, .inl a1)), (q8, .inl (c8, 16, .inl a8)), (h0, .inr (8, [.int th, .ref q1, .ref q2, .ref q3, v4, .ref q5, v6, .ref q7, .ref q8, v9, v10, v11, v12, v13, v14, v15, v16])), (q2, .inl (c2, 67200, .inl (upd (upd f9 (4200 * r + i) (f9 (4200 * r + (i + 1)))) (4200 * r + 1000 + i) (f9 (4200 * r + 1000 + (i + 1))))))] := hD
            refine W.widen (k := 0) (n := 0) (Nat.le_of_ble_eq_true rfl) (Nat.le_of_ble_eq_true rfl) ?_
            refine W.eq (g2 := F0 m 96 ls []) rfl ?_
            refine lv_iinc (v := nI (i + 1)) (lv' := [(6, .int (nI (i + 1))), (5, .int (a2 (4200 * r + 1000 + k9))), (4, .int (a2 (4200 * r + k9))), (3, .int (nI r)), (0, .ref h0), (1, .int (nI o)), (2, .int (nI k9))]) hx hb dX8_touched_96 hl (k := 0) rfl (by rw [show Int32.ofInt 1 = nI 1 from rfl, nI_add]) (by decide) rfl (fun ls hl => ?_)
            refine lv_goto (tgt := 58) hx hb dX8_touched_99 (by decide) ?_
            exact ih (i := i + 1) (x9 := nI (i + 1)) (ex9 := rfl) (ls := ls) (f9 := (upd (upd f9 (4200 * r + i) (f9 (4200 * r + (i + 1)))) (4200 * r + 1000 + i) (f9 (4200 * r + 1000 + (i + 1))))) (H := H) (locs := locs) (hP := hP.sub (ws' := [(q3, .inl (c3, 16, .inl a3)), (q5, .inl (c5, 16, .inl a5)), (q7, .inl (c7, 16, .inl a7)), (q1, .inl (c1, 16, .inl a1)), (q8, .inl (c8, 16, .inl a8)), (h0, .inr (8, [.int th, .ref q1, .ref q2, .ref q3, v4, .ref q5, v6, .ref q7, .ref q8, v9, v10, v11, v12, v13, v14, v15, v16])), (q2, .inl (c2, 67200, .inl (upd (upd f9 (4200 * r + i) (f9 (4200 * r + (i + 1)))) (4200 * r + 1000 + i) (f9 (4200 * r + 1000 + (i + 1))))))]) [0, 1, 2, 3, 4, 5, 6] rfl) (hS := hS) (hD := hD.sub (ws' := [(q3, .inl (c3, 16, .inl a3)), (q5, .inl (c5, 16, .inl a5)), (q7, .inl (c7, 16, .inl a7)), (q1, .inl (c1, 16, .inl a1)), (q8, .inl (c8, 16, .inl a8)), (h0, .inr (8, [.int th, .ref q1, .ref q2, .ref q3, v4, .ref q5, v6, .ref q7, .ref q8, v9, v10, v11, v12, v13, v14, v15, v16])), (q2, .inl (c2, 67200, .inl (upd (upd f9 (4200 * r + i) (f9 (4200 * r + (i + 1)))) (4200 * r + 1000 + i) (f9 (4200 * r + 1000 + (i + 1))))))]) [0, 1, 2, 3, 4, 5, 6] (by decide) rfl) (hi9 := by omega) (hn9 := by omega) (hv9 := outR_up' (outR_up hv9 (by omega)) (k := 1000 + i) (by omega) (by omega)) (hl := lv_sub hl [0, 1, 2, 3, 4, 5, 6] rfl)
      ·
        have ic_5 : ((k9 : Nat) : Int) = ((nz - 1 : Nat) : Int) := tx_eq (nI_toInt (by omega)) (nI_toInt (by omega)) c_5
        refine lv_iload_n hx hb dX8_touched_37 rfl (lv_at hl 3 rfl) ?_
        have hP9 := hP.sub (ws' := [(h0, .inr (8, [.int th, .ref q1, .ref q2, .ref q3, v4, .ref q5, v6, .ref q7, .ref q8, v9, v10, v11, v12, v13, v14, v15, v16])), (q1, .inl (c1, 16, .inl a1)), (q2, .inl (c2, 67200, .inl a2)), (q3, .inl (c3, 16, .inl a3)), (q5, .inl (c5, 16, .inl a5)), (q7, .inl (c7, 16, .inl a7)), (q8, .inl (c8, 16, .inl a8))]) [4, 5, 0, 1, 2, 3, 6] rfl
        have hD9 := hD.sub (ws' := [(h0, .inr (8, [.int th, .ref q1, .ref q2, .ref q3, v4, .ref q5, v6, .ref q7, .ref q8, v9, v10, v11, v12, v13, v14, v15, v16])), (q1, .inl (c1, 16, .inl a1)), (q2, .inl (c2, 67200, .inl a2)), (q3, .inl (c3, 16, .inl a3)), (q5, .inl (c5, 16, .inl a5)), (q7, .inl (c7, 16, .inl a7)), (q8, .inl (c8, 16, .inl a8))]) [4, 5, 0, 1, 2, 3, 6] (by decide) rfl
        have hK9 := hK.sub (tys' := [(c1, .int), (c2, .int), (c3, .int), (c5, .int), (c7, .int), (c8, .int)]) [0, 1, 2, 3, 4, 5] rfl
        refine W.widen (k := 0) (n := 0) (Nat.le_of_ble_eq_true rfl) (Nat.le_of_ble_eq_true rfl) ?_
        exact W.iret (v := nI k9) hx hb hr (fun t ht hW => ⟨⟨nI k9, (a2, a7), rfl, ⟨⟨k9, hk9, rfl⟩, Or.inl ⟨rfl, rfl⟩⟩, by rw [ht]; exact hP9, va_K.moved hW.alike hK9, hD9⟩, hS.F ht⟩) hS.2.2 dX8_touched_38
set_option maxHeartbeats 4000000 in
set_option maxRecDepth 100000 in
/-- hangsOn -/
theorem c_X8_hangsOn (l : Launch) (dC : Nat → ClassId) (dI : Nat → Nat → Nat) (sz : Nat) (h0 : Nat) (th : Int32) (q1 : Nat) (q8 : Nat) (c1 : ClassId) (c8 : ClassId) (a1 : Nat → Int32) (a8 : Nat → Int32) (v2 : Value) (v3 : Value) (v4 : Value) (v5 : Value) (v6 : Value) (v7 : Value) (v9 : Value) (v10 : Value) (v11 : Value) (v12 : Value) (v13 : Value) (v14 : Value) (v15 : Value) (v16 : Value) (o : Nat) (dep : Nat → Nat) (p1 : Int32) (ho9 : o < 16) (hF9 : rF a1 a8 dep) (hd9 : dep o < 17) : Met l yX8_hangsOn wsX8_hangsOn ({ frames := 0, cells := 0, slots := 0, locals := 0 }) (va_Pc [.ref h0, .int (nI o), .int p1] (pk_Pre (dC, dI) [(h0, .inr (8, [.int th, .ref q1, v2, v3, v4, v5, v6, v7, .ref q8, v9, v10, v11, v12, v13, v14, v15, v16])), (q1, .inl (c1, 16, .inl a1)), (q8, .inl (c8, 16, .inl a8))] [(c1, .int), (c8, .int)] sz)) (va_Qi (fun (x : Int32) (_ : Unit) => x = tz (hgN a1 a8 17 o p1)) (fun (_ : Unit) (t : State) => va_P (dC, dI) vwCl [(h0, .inr (8, [.int th, .ref q1, v2, v3, v4, v5, v6, v7, .ref q8, v9, v10, v11, v12, v13, v14, v15, v16])), (q1, .inl (c1, 16, .inl a1)), (q8, .inl (c8, 16, .inl a8))] t.heap ∧ va_K (dC, dI) vwCl [(c1, .int), (c8, .int)] t ∧ va_D (va_A [(h0, .inr (8, [.int th, .ref q1, v2, v3, v4, v5, v6, v7, .ref q8, v9, v10, v11, v12, v13, v14, v15, v16])), (q1, .inl (c1, 16, .inl a1)), (q8, .inl (c8, 16, .inl a8))] sz) [(h0, .inr (8, [.int th, .ref q1, v2, v3, v4, v5, v6, v7, .ref q8, v9, v10, v11, v12, v13, v14, v15, v16])), (q1, .inl (c1, 16, .inl a1)), (q8, .inl (c8, 16, .inl a8))]) (va_A [(h0, .inr (8, [.int th, .ref q1, v2, v3, v4, v5, v6, v7, .ref q8, v9, v10, v11, v12, v13, v14, v15, v16])), (q1, .inl (c1, 16, .inl a1)), (q8, .inl (c8, 16, .inl a8))] sz)) 0 0 (va_A [(h0, .inr (8, [.int th, .ref q1, v2, v3, v4, v5, v6, v7, .ref q8, v9, v10, v11, v12, v13, v14, v15, v16])), (q1, .inl (c1, 16, .inl a1)), (q8, .inl (c8, 16, .inl a8))] sz) := by
  refine Met.ofW (cc := cX8_hangsOn) (maxL := 4) (ret := (some .boolean)) (by decide) rfl ?_
  intro p e s m args below meth c s₁ B hml hv
  obtain ⟨rfl, hsz, hP, hK, hD0⟩ := hv
  have hx := B.exec
  have hb := B.bytes
  have hr := B.returns
  have hts := atoms_spec (ws := wsX8_hangsOn) B.pre
  have hown : s.vm.findClass RX8 = some m.cls := findClass_of_methodNamed B.named
  have hlocks := B.notSynchronized
  subst hsz
  have hD := hD0.self (sz := s.heap.size)
  generalize hAe : va_A [(h0, .inr (8, [.int th, .ref q1, v2, v3, v4, v5, v6, v7, .ref q8, v9, v10, v11, v12, v13, v14, v15, v16])), (q1, .inl (c1, 16, .inl a1)), (q8, .inl (c8, 16, .inl a8))] s.heap.size = A at hD ⊢
  have hA : ∀ q : Nat, s.heap.size ≤ q → A q := fun q h => by rw [← hAe]; exact Or.inr h
  have hS : va_S A s.heap s.heap [] := va_S.rf
  have hP : va_P (dC, dI) vwCl [(h0, .inr (8, [.int th, .ref q1, v2, v3, v4, v5, v6, v7, .ref q8, v9, v10, v11, v12, v13, v14, v15, v16])), (q1, .inl (c1, 16, .inl a1)), (q8, .inl (c8, 16, .inl a8))] s.heap := hP
  have hl := lv_entry ([.ref h0, .int (nI o), .int p1]) (n := 4) (Nat.le_of_ble_eq_true rfl)
  rw [lg_entry_eq]
  generalize (lg_sl ([.ref h0, .int (nI o), .int p1]) ++ List.replicate (4 - (lg_sl ([.ref h0, .int (nI o), .int p1])).length) Slot.unset).toArray = ls at hl ⊢
  have hl : lv_has ls 4 [(0, .ref h0), (1, .int (nI o)), (2, .int p1)] := hl
  have hw0_ := hts (.fieldLink RX8 7 "KeyAtlasModel" "kind" "[I") (List.mem_of_getElem? (l := wsX8_hangsOn) (i := 1) rfl)
  have hw1_ := hts (.fieldLink RX8 32 "KeyAtlasModel" "parent" "[I") (List.mem_of_getElem? (l := wsX8_hangsOn) (i := 2) rfl)
  have hi0_ : ∀ w ∈ u_ws RX8 TX8 17, w ∈ wsX8_hangsOn := fun w h => List.mem_cons_of_mem _ (List.mem_append_right _ h)
  refine lv_iload_n hx hb dX8_hangsOn_0 rfl (lv_at hl 1 rfl) ?_
  refine lv_istore_n (lv' := [(3, .int (nI o)), (0, .ref h0), (1, .int (nI o)), (2, .int p1)]) hx hb dX8_hangsOn_1 rfl hl (by decide) rfl (fun ls hl => ?_)
  obtain ⟨k, es_k⟩ : ∃ z : Nat, z = o := ⟨_, rfl⟩
  obtain ⟨x9, ex9⟩ : ∃ y : Int32, y = nI k := ⟨_, rfl⟩
  obtain ⟨n9, en9⟩ : ∃ n : Nat, n = 17 := ⟨_, rfl⟩
  replace hl : lv_has ls 4 [(3, .int x9), (0, .ref h0), (1, .int (nI o)), (2, .int p1)] := by subst ex9; subst es_k; exact hl
  have hk9 : k < 16 := by subst ex9; subst es_k; subst en9; exact ho9
  have hn9 : dep k < n9 := by subst ex9; subst es_k; subst en9; exact hd9
  have hv9 : hgN a1 a8 n9 k p1 = hgN a1 a8 17 o p1 := by subst ex9; subst es_k; subst en9; exact rfl
  clear en9 es_k
  induction n9 generalizing k x9 ls with
  | zero => exact absurd hn9 (Nat.not_lt_zero _)
  | succ n9 ih =>
    subst ex9
    refine lv_aload_n hx hb dX8_hangsOn_2 rfl (lv_at hl 1 rfl) ?_
    refine va_get (D := (dC, dI)) (ci := 8) (v := .ref q1) (C := RX8) (T := TX8) (N := 17) hx hb hts hi0_ hown hK hP 0 rfl rfl 1 (by decide) hw0_ (fun _ h9 => h9) rfl dX8_hangsOn_3 ?_
    refine lv_iload_n hx hb dX8_hangsOn_6 rfl (lv_at hl 0 rfl) ?_
    refine va_iald (i := nI k) hx hb hK hP 1 0 rfl rfl (vp_in_nI (by omega) (by omega)) dX8_hangsOn_7 ?_
    refine W.eq (g2 := F0 m 8 ls [.int (a1 k)]) (by rw [nI_clamp (by omega)]) ?_
    refine lv_iconst (v := 4) hx hb dX8_hangsOn_8 (by decide) ?_
    refine lv_icmp_eq (tgt := 22) hx hb dX8_hangsOn_9 (by decide) (fun c_1 => ?_) (fun c_1 => ?_)
    ·
      have ic_1 : (a1 k).toInt = 4 := tx_eq rfl (by decide) c_1
      refine lv_aload_n hx hb dX8_hangsOn_22 rfl (lv_at hl 1 rfl) ?_
      refine va_get (D := (dC, dI)) (ci := 8) (v := .ref q8) (C := RX8) (T := TX8) (N := 17) hx hb hts hi0_ hown hK hP 0 rfl rfl 8 (by decide) hw1_ (fun _ h9 => h9) rfl dX8_hangsOn_23 ?_
      refine lv_iload_n hx hb dX8_hangsOn_26 rfl (lv_at hl 0 rfl) ?_
      refine va_iald (i := nI k) hx hb hK hP 2 1 rfl rfl (vp_in_nI (by omega) (by omega)) dX8_hangsOn_27 ?_
      refine W.eq (g2 := F0 m 28 ls [.int (a8 k)]) (by rw [nI_clamp (by omega)]) ?_
      obtain ⟨p9, hp9, ep9, hq9, -, -, -⟩ := hF9 k hk9 (Or.inl ic_1)
      refine W.eq (g2 := F0 m 28 ls [.int (nI p9)]) (by rw [ep9]) ?_
      refine lv_istore_n (lv' := [(3, .int (nI p9)), (0, .ref h0), (1, .int (nI o)), (2, .int p1)]) hx hb dX8_hangsOn_28 rfl hl (by decide) rfl (fun ls hl => ?_)
      refine lv_iload_n hx hb dX8_hangsOn_29 rfl (lv_at hl 0 rfl) ?_
      refine lv_iload_n hx hb dX8_hangsOn_30 rfl (lv_at hl 3 rfl) ?_
      refine lv_icmp_ne (tgt := 2) hx hb dX8_hangsOn_31 (by decide) (fun c_2 => ?_) (fun c_2 => ?_)
      ·
        have ic_2 : ¬ ((p9 : Nat) : Int) = p1.toInt := tx_ne (nI_toInt (by omega)) rfl c_2
        exact ih (k := p9) (x9 := nI p9) (ex9 := rfl) (ls := ls) (hk9 := hp9) (hn9 := by omega) (hv9 := (hg_up (Or.inl ic_1) ep9 hp9 c_2).symm.trans hv9) (hl := lv_sub hl [0, 1, 2, 3] rfl)
      ·
        have ic_2 : ((p9 : Nat) : Int) = p1.toInt := tx_eq (nI_toInt (by omega)) rfl c_2
        refine lv_iconst (v := 1) hx hb dX8_hangsOn_34 (by decide) ?_
        have hP9 := hP.sub (ws' := [(h0, .inr (8, [.int th, .ref q1, v2, v3, v4, v5, v6, v7, .ref q8, v9, v10, v11, v12, v13, v14, v15, v16])), (q1, .inl (c1, 16, .inl a1)), (q8, .inl (c8, 16, .inl a8))]) [0, 1, 2] rfl
        have hD9 := hD.sub (ws' := [(h0, .inr (8, [.int th, .ref q1, v2, v3, v4, v5, v6, v7, .ref q8, v9, v10, v11, v12, v13, v14, v15, v16])), (q1, .inl (c1, 16, .inl a1)), (q8, .inl (c8, 16, .inl a8))]) [0, 1, 2] (by decide) rfl
        have hK9 := hK.sub (tys' := [(c1, .int), (c8, .int)]) [0, 1] rfl
        refine W.widen (k := 0) (n := 0) (Nat.le_of_ble_eq_true rfl) (Nat.le_of_ble_eq_true rfl) ?_
        exact W.zret (v := 1) hx hb hr rfl (fun t ht hW => ⟨⟨1, (), rfl, by show (1 : Int32) = tz _; rw [← hv9, hg_yes (Or.inl ic_1) ep9 hp9 c_2]; rfl, by rw [ht]; exact hP9, va_K.moved hW.alike hK9, hD9⟩, hS.F ht⟩) hS.2.2 dX8_hangsOn_35
    ·
      have ic_1 : ¬ (a1 k).toInt = 4 := tx_ne rfl (by decide) c_1
      refine lv_aload_n hx hb dX8_hangsOn_12 rfl (lv_at hl 1 rfl) ?_
      refine va_get (D := (dC, dI)) (ci := 8) (v := .ref q1) (C := RX8) (T := TX8) (N := 17) hx hb hts hi0_ hown hK hP 0 rfl rfl 1 (by decide) hw0_ (fun _ h9 => h9) rfl dX8_hangsOn_13 ?_
      refine lv_iload_n hx hb dX8_hangsOn_16 rfl (lv_at hl 0 rfl) ?_
      refine va_iald (i := nI k) hx hb hK hP 1 0 rfl rfl (vp_in_nI (by omega) (by omega)) dX8_hangsOn_17 ?_
      refine W.eq (g2 := F0 m 18 ls [.int (a1 k)]) (by rw [nI_clamp (by omega)]) ?_
      refine lv_iconst (v := 5) hx hb dX8_hangsOn_18 (by decide) ?_
      refine lv_icmp_ne (tgt := 36) hx hb dX8_hangsOn_19 (by decide) (fun c_3 => ?_) (fun c_3 => ?_)
      ·
        have ic_3 : ¬ (a1 k).toInt = 5 := tx_ne rfl (by decide) c_3
        refine lv_iconst (v := 0) hx hb dX8_hangsOn_36 (by decide) ?_
        have hP9 := hP.sub (ws' := [(h0, .inr (8, [.int th, .ref q1, v2, v3, v4, v5, v6, v7, .ref q8, v9, v10, v11, v12, v13, v14, v15, v16])), (q1, .inl (c1, 16, .inl a1)), (q8, .inl (c8, 16, .inl a8))]) [0, 1, 2] rfl
        have hD9 := hD.sub (ws' := [(h0, .inr (8, [.int th, .ref q1, v2, v3, v4, v5, v6, v7, .ref q8, v9, v10, v11, v12, v13, v14, v15, v16])), (q1, .inl (c1, 16, .inl a1)), (q8, .inl (c8, 16, .inl a8))]) [0, 1, 2] (by decide) rfl
        have hK9 := hK.sub (tys' := [(c1, .int), (c8, .int)]) [0, 1] rfl
        refine W.widen (k := 0) (n := 0) (Nat.le_of_ble_eq_true rfl) (Nat.le_of_ble_eq_true rfl) ?_
        exact W.zret (v := 0) hx hb hr rfl (fun t ht hW => ⟨⟨0, (), rfl, by show (0 : Int32) = tz _; rw [← hv9, hg_no ic_1 ic_3]; rfl, by rw [ht]; exact hP9, va_K.moved hW.alike hK9, hD9⟩, hS.F ht⟩) hS.2.2 dX8_hangsOn_37
      ·
        have ic_3 : (a1 k).toInt = 5 := tx_eq rfl (by decide) c_3
        refine lv_aload_n hx hb dX8_hangsOn_22 rfl (lv_at hl 1 rfl) ?_
        refine va_get (D := (dC, dI)) (ci := 8) (v := .ref q8) (C := RX8) (T := TX8) (N := 17) hx hb hts hi0_ hown hK hP 0 rfl rfl 8 (by decide) hw1_ (fun _ h9 => h9) rfl dX8_hangsOn_23 ?_
        refine lv_iload_n hx hb dX8_hangsOn_26 rfl (lv_at hl 0 rfl) ?_
        refine va_iald (i := nI k) hx hb hK hP 2 1 rfl rfl (vp_in_nI (by omega) (by omega)) dX8_hangsOn_27 ?_
        refine W.eq (g2 := F0 m 28 ls [.int (a8 k)]) (by rw [nI_clamp (by omega)]) ?_
        obtain ⟨p9, hp9, ep9, hq9, -, -, -⟩ := hF9 k hk9 (Or.inr ic_3)
        refine W.eq (g2 := F0 m 28 ls [.int (nI p9)]) (by rw [ep9]) ?_
        refine lv_istore_n (lv' := [(3, .int (nI p9)), (0, .ref h0), (1, .int (nI o)), (2, .int p1)]) hx hb dX8_hangsOn_28 rfl hl (by decide) rfl (fun ls hl => ?_)
        refine lv_iload_n hx hb dX8_hangsOn_29 rfl (lv_at hl 0 rfl) ?_
        refine lv_iload_n hx hb dX8_hangsOn_30 rfl (lv_at hl 3 rfl) ?_
        refine lv_icmp_ne (tgt := 2) hx hb dX8_hangsOn_31 (by decide) (fun c_4 => ?_) (fun c_4 => ?_)
        ·
          have ic_4 : ¬ ((p9 : Nat) : Int) = p1.toInt := tx_ne (nI_toInt (by omega)) rfl c_4
          exact ih (k := p9) (x9 := nI p9) (ex9 := rfl) (ls := ls) (hk9 := hp9) (hn9 := by omega) (hv9 := (hg_up (Or.inr ic_3) ep9 hp9 c_4).symm.trans hv9) (hl := lv_sub hl [0, 1, 2, 3] rfl)
        ·
          have ic_4 : ((p9 : Nat) : Int) = p1.toInt := tx_eq (nI_toInt (by omega)) rfl c_4
          refine lv_iconst (v := 1) hx hb dX8_hangsOn_34 (by decide) ?_
          have hP9 := hP.sub (ws' := [(h0, .inr (8, [.int th, .ref q1, v2, v3, v4, v5, v6, v7, .ref q8, v9, v10, v11, v12, v13, v14, v15, v16])), (q1, .inl (c1, 16, .inl a1)), (q8, .inl (c8, 16, .inl a8))]) [0, 1, 2] rfl
          have hD9 := hD.sub (ws' := [(h0, .inr (8, [.int th, .ref q1, v2, v3, v4, v5, v6, v7, .ref q8, v9, v10, v11, v12, v13, v14, v15, v16])), (q1, .inl (c1, 16, .inl a1)), (q8, .inl (c8, 16, .inl a8))]) [0, 1, 2] (by decide) rfl
          have hK9 := hK.sub (tys' := [(c1, .int), (c8, .int)]) [0, 1] rfl
          refine W.widen (k := 0) (n := 0) (Nat.le_of_ble_eq_true rfl) (Nat.le_of_ble_eq_true rfl) ?_
          exact W.zret (v := 1) hx hb hr rfl (fun t ht hW => ⟨⟨1, (), rfl, by show (1 : Int32) = tz _; rw [← hv9, hg_yes (Or.inr ic_3) ep9 hp9 c_4]; rfl, by rw [ht]; exact hP9, va_K.moved hW.alike hK9, hD9⟩, hS.F ht⟩) hS.2.2 dX8_hangsOn_35
