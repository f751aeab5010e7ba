theorem dX8_newKey_0 : decode cX8_newKey 0 = .ok (.aload_n 0, 1) := by decide +kernel
theorem dX8_newKey_1 : decode cX8_newKey 1 = .ok (.iload_n 1, 1) := by decide +kernel
set_option maxRecDepth 20000 in
theorem ggX8_newKey_X8_root : GoodIn wsX8_newKey wsX8_root := goodIn_r _ [8, 1, 9, 61, 62, 63, 64, 65, 66, 67, 68, 69, 70, 71, 72, 73, 74, 75, 76, 77] rfl (by decide +kernel)
set_option maxRecDepth 20000 in
theorem gX8_newKey_X8_root : GoodIn wsX8_newKey (wsV RX8 95 RX8 yX8_root wsX8_root) := goodIn_app (goodIn_of _ (by decide +kernel)) ggX8_newKey_X8_root
theorem dX8_newKey_2 : decode cX8_newKey 2 = .ok (.invokevirtual 95, 3) := by decide +kernel
theorem dX8_newKey_5 : decode cX8_newKey 5 = .ok (.istore 4, 2) := by decide +kernel
theorem dX8_newKey_7 : decode cX8_newKey 7 = .ok (.aload_n 0, 1) := by decide +kernel
theorem dX8_newKey_8 : decode cX8_newKey 8 = .ok (.getfield 7, 3) := by decide +kernel
theorem dX8_newKey_11 : decode cX8_newKey 11 = .ok (.iload 4, 2) := by decide +kernel
theorem dX8_newKey_13 : decode cX8_newKey 13 = .ok (.iaload, 1) := by decide +kernel
theorem dX8_newKey_14 : decode cX8_newKey 14 = .ok (.iconst 2, 1) := by decide +kernel
theorem dX8_newKey_15 : decode cX8_newKey 15 = .ok (.if_icmp .ne 55, 3) := by decide +kernel
theorem dX8_newKey_70 : decode cX8_newKey 70 = .ok (.aload_n 0, 1) := by decide +kernel
theorem dX8_newKey_71 : decode cX8_newKey 71 = .ok (.getfield 7, 3) := by decide +kernel
theorem dX8_newKey_74 : decode cX8_newKey 74 = .ok (.iload 4, 2) := by decide +kernel
theorem dX8_newKey_76 : decode cX8_newKey 76 = .ok (.iaload, 1) := by decide +kernel
theorem dX8_newKey_77 : decode cX8_newKey 77 = .ok (.iconst 3, 1) := by decide +kernel
theorem dX8_newKey_78 : decode cX8_newKey 78 = .ok (.if_icmp .ne 59, 3) := by decide +kernel
theorem dX8_newKey_137 : decode cX8_newKey 137 = .ok (.aload_n 0, 1) := by decide +kernel
theorem dX8_newKey_138 : decode cX8_newKey 138 = .ok (.iload 4, 2) := by decide +kernel
theorem dX8_newKey_140 : decode cX8_newKey 140 = .ok (.iload_n 2, 1) := by decide +kernel
theorem dX8_newKey_141 : decode cX8_newKey 141 = .ok (.iload_n 3, 1) := by decide +kernel
set_option maxRecDepth 20000 in
theorem ggX8_newKey_X8_hashed : GoodIn wsX8_newKey wsX8_hashed := goodIn_r _ [55, 26, 2, 15, 3, 20, 21, 22, 7, 23, 24, 25, 27, 28, 29, 38, 39, 40, 41, 16, 17, 18, 19, 42, 43, 44, 45, 14, 30, 31, 32, 33, 34, 35, 36, 37, 56, 57, 58, 59, 60, 61, 62, 63, 64, 65, 66, 67, 68, 69, 70, 71, 72, 73, 74, 75, 76, 77] rfl (by decide +kernel)
set_option maxRecDepth 20000 in
theorem gX8_newKey_X8_hashed : GoodIn wsX8_newKey (wsV RX8 135 RX8 yX8_hashed wsX8_hashed) := goodIn_app (goodIn_of _ (by decide +kernel)) ggX8_newKey_X8_hashed
theorem dX8_newKey_142 : decode cX8_newKey 142 = .ok (.invokevirtual 135, 3) := by decide +kernel
theorem dX8_newKey_145 : decode cX8_newKey 145 = .ok (.return_, 1) := by decide +kernel
theorem dX8_newKey_81 : decode cX8_newKey 81 = .ok (.iconst 0, 1) := by decide +kernel
theorem dX8_newKey_82 : decode cX8_newKey 82 = .ok (.istore 5, 2) := by decide +kernel
theorem dX8_newKey_84 : decode cX8_newKey 84 = .ok (.iload 5, 2) := by decide +kernel
theorem dX8_newKey_86 : decode cX8_newKey 86 = .ok (.aload_n 0, 1) := by decide +kernel
theorem dX8_newKey_87 : decode cX8_newKey 87 = .ok (.getfield 17, 3) := by decide +kernel
theorem dX8_newKey_90 : decode cX8_newKey 90 = .ok (.iload 4, 2) := by decide +kernel
theorem dX8_newKey_92 : decode cX8_newKey 92 = .ok (.iaload, 1) := by decide +kernel
theorem dX8_newKey_93 : decode cX8_newKey 93 = .ok (.if_icmp .ge 31, 3) := by decide +kernel
theorem dX8_newKey_124 : decode cX8_newKey 124 = .ok (.aload_n 0, 1) := by decide +kernel
theorem dX8_newKey_125 : decode cX8_newKey 125 = .ok (.iload 4, 2) := by decide +kernel
theorem dX8_newKey_127 : decode cX8_newKey 127 = .ok (.iload 5, 2) := by decide +kernel
theorem dX8_newKey_129 : decode cX8_newKey 129 = .ok (.iload_n 2, 1) := by decide +kernel
theorem dX8_newKey_130 : decode cX8_newKey 130 = .ok (.iload_n 3, 1) := by decide +kernel
set_option maxRecDepth 20000 in
theorem ggX8_newKey_X8_comes : GoodIn wsX8_newKey wsX8_comes := goodIn_r _ [45, 3, 14, 16, 17, 18, 7, 19, 15, 30, 31, 32, 33, 34, 35, 36, 37, 61, 62, 63, 64, 65, 66, 67, 68, 69, 70, 71, 72, 73, 74, 75, 76, 77] rfl (by decide +kernel)
set_option maxRecDepth 20000 in
theorem gX8_newKey_X8_comes : GoodIn wsX8_newKey (wsV RX8 132 RX8 yX8_comes wsX8_comes) := goodIn_app (goodIn_of _ (by decide +kernel)) ggX8_newKey_X8_comes
theorem dX8_newKey_131 : decode cX8_newKey 131 = .ok (.invokevirtual 132, 3) := by decide +kernel
theorem dX8_newKey_134 : decode cX8_newKey 134 = .ok (.goto 11, 3) := by decide +kernel
theorem dX8_newKey_96 : decode cX8_newKey 96 = .ok (.aload_n 0, 1) := by decide +kernel
theorem dX8_newKey_97 : decode cX8_newKey 97 = .ok (.getfield 20, 3) := by decide +kernel
theorem dX8_newKey_100 : decode cX8_newKey 100 = .ok (.iload 4, 2) := by decide +kernel
theorem dX8_newKey_102 : decode cX8_newKey 102 = .ok (.iaload, 1) := by decide +kernel
theorem dX8_newKey_103 : decode cX8_newKey 103 = .ok (.aload_n 0, 1) := by decide +kernel
theorem dX8_newKey_104 : decode cX8_newKey 104 = .ok (.iload 4, 2) := by decide +kernel
theorem dX8_newKey_106 : decode cX8_newKey 106 = .ok (.iload 5, 2) := by decide +kernel
set_option maxRecDepth 20000 in
theorem ggX8_newKey_X8_key : GoodIn wsX8_newKey wsX8_key := goodIn_r _ [19, 15, 61, 62, 63, 64, 65, 66, 67, 68, 69, 70, 71, 72, 73, 74, 75, 76, 77] rfl (by decide +kernel)
set_option maxRecDepth 20000 in
theorem gX8_newKey_X8_key : GoodIn wsX8_newKey (wsV RX8 111 RX8 yX8_key wsX8_key) := goodIn_app (goodIn_of _ (by decide +kernel)) ggX8_newKey_X8_key
theorem dX8_newKey_108 : decode cX8_newKey 108 = .ok (.invokevirtual 111, 3) := by decide +kernel
theorem dX8_newKey_111 : decode cX8_newKey 111 = .ok (.iload_n 2, 1) := by decide +kernel
set_option maxRecDepth 20000 in
theorem ggX8_newKey_X8_compare : GoodIn wsX8_newKey wsX8_compare := goodIn_r _ [48, 49, 50, 7, 51, 27, 28, 29] rfl (by decide +kernel)
set_option maxRecDepth 20000 in
theorem gX8_newKey_X8_compare : GoodIn wsX8_newKey (va_wsS RX8 98 yX8_compare wsX8_compare) := goodIn_app (goodIn_of _ (by decide +kernel)) ggX8_newKey_X8_compare
theorem dX8_newKey_112 : decode cX8_newKey 112 = .ok (.invokestatic 98, 3) := by decide +kernel
theorem dX8_newKey_115 : decode cX8_newKey 115 = .ok (.ifCond .ge 9, 3) := by decide +kernel
theorem dX8_newKey_118 : decode cX8_newKey 118 = .ok (.iinc 5 1, 3) := by decide +kernel
theorem dX8_newKey_121 : decode cX8_newKey 121 = .ok (.goto (-37), 3) := by decide +kernel
theorem dX8_newKey_18 : decode cX8_newKey 18 = .ok (.aload_n 0, 1) := by decide +kernel
theorem dX8_newKey_19 : decode cX8_newKey 19 = .ok (.getfield 20, 3) := by decide +kernel
theorem dX8_newKey_22 : decode cX8_newKey 22 = .ok (.iload 4, 2) := by decide +kernel
theorem dX8_newKey_24 : decode cX8_newKey 24 = .ok (.iaload, 1) := by decide +kernel
theorem dX8_newKey_25 : decode cX8_newKey 25 = .ok (.ifCond .le 27, 3) := by decide +kernel
theorem dX8_newKey_52 : decode cX8_newKey 52 = .ok (.aload_n 0, 1) := by decide +kernel
theorem dX8_newKey_53 : decode cX8_newKey 53 = .ok (.iload 4, 2) := by decide +kernel
theorem dX8_newKey_55 : decode cX8_newKey 55 = .ok (.aload_n 0, 1) := by decide +kernel
theorem dX8_newKey_56 : decode cX8_newKey 56 = .ok (.getfield 17, 3) := by decide +kernel
theorem dX8_newKey_59 : decode cX8_newKey 59 = .ok (.iload 4, 2) := by decide +kernel
theorem dX8_newKey_61 : decode cX8_newKey 61 = .ok (.iaload, 1) := by decide +kernel
theorem dX8_newKey_62 : decode cX8_newKey 62 = .ok (.iload_n 2, 1) := by decide +kernel
theorem dX8_newKey_63 : decode cX8_newKey 63 = .ok (.iload_n 3, 1) := by decide +kernel
theorem dX8_newKey_64 : decode cX8_newKey 64 = .ok (.invokevirtual 132, 3) := by decide +kernel
theorem dX8_newKey_67 : decode cX8_newKey 67 = .ok (.goto 78, 3) := by decide +kernel
theorem dX8_newKey_28 : decode cX8_newKey 28 = .ok (.aload_n 0, 1) := by decide +kernel
theorem dX8_newKey_29 : decode cX8_newKey 29 = .ok (.getfield 17, 3) := by decide +kernel
theorem dX8_newKey_32 : decode cX8_newKey 32 = .ok (.iload 4, 2) := by decide +kernel
theorem dX8_newKey_34 : decode cX8_newKey 34 = .ok (.iaload, 1) := by decide +kernel
theorem dX8_newKey_35 : decode cX8_newKey 35 = .ok (.aload_n 0, 1) := by decide +kernel
theorem dX8_newKey_36 : decode cX8_newKey 36 = .ok (.getfield 20, 3) := by decide +kernel
theorem dX8_newKey_39 : decode cX8_newKey 39 = .ok (.iload 4, 2) := by decide +kernel
theorem dX8_newKey_41 : decode cX8_newKey 41 = .ok (.iaload, 1) := by decide +kernel
theorem dX8_newKey_42 : decode cX8_newKey 42 = .ok (.if_icmp .ne 10, 3) := by decide +kernel
theorem dX8_newKey_45 : decode cX8_newKey 45 = .ok (.aload_n 0, 1) := by decide +kernel
theorem dX8_newKey_46 : decode cX8_newKey 46 = .ok (.iload 4, 2) := by decide +kernel
theorem dX8_newKey_48 : decode cX8_newKey 48 = .ok (.iconst 0, 1) := by decide +kernel
set_option maxRecDepth 20000 in
theorem ggX8_newKey_X8_goes : GoodIn wsX8_newKey wsX8_goes := goodIn_r _ [13, 1, 3, 14, 15, 16, 17, 18, 7, 19, 20, 21, 22, 23, 24, 25, 26, 27, 28, 29, 30, 31, 32, 33, 34, 35, 36, 37, 38, 39, 40, 41, 61, 62, 63, 64, 65, 66, 67, 68, 69, 70, 71, 72, 73, 74, 75, 76, 77] rfl (by decide +kernel)
set_option maxRecDepth 20000 in
theorem gX8_newKey_X8_goes : GoodIn wsX8_newKey (wsV RX8 128 RX8 yX8_goes wsX8_goes) := goodIn_app (goodIn_of _ (by decide +kernel)) ggX8_newKey_X8_goes
theorem dX8_newKey_49 : decode cX8_newKey 49 = .ok (.invokevirtual 128, 3) := by decide +kernel
set_option maxHeartbeats 4000000 in
set_option maxRecDepth 100000 in
/-- newKey -/
theorem c_X8_newKey (l : Launch) (dC : Nat → ClassId) (dI : Nat → Nat → Nat) (sz : Nat) (h0 : Nat) (th : Int32) (q1 : Nat) (q2 : Nat) (q3 : Nat) (q4 : Nat) (q5 : Nat) (q6 : Nat) (q7 : Nat) (q8 : Nat) (q15 : Nat) (c1 : ClassId) (c2 : ClassId) (c3 : ClassId) (c4 : ClassId) (c5 : ClassId) (c6 : ClassId) (c7 : ClassId) (c8 : ClassId) (c15 : ClassId) (a1 : Nat → Int32) (a2 : Nat → Int32) (a3 : Nat → Int32) (a4 : Nat → Int32) (a5 : Nat → Int32) (a6 : Nat → Int32) (a7 : Nat → Int32) (a8 : Nat → Int32) (a15 : Nat → Int32) (v9 : Value) (v10 : Value) (v11 : Value) (v12 : Value) (v13 : Value) (v14 : Value) (v16 : Value) (o : Nat) (dep : Nat → Nat) (r : Nat) (p1 : Int32) (p2 : Int32) (ho9 : o < 16) (hF9 : rF a1 a8 dep) (hd9 : dep o < 17) (hrt9 : rtN a1 a8 17 o = r) (hM9 : mOK (a1 r) (a4 r) (a3 r) (a6 r)) (hkd9 : 1 ≤ (a1 r).toInt ∧ (a1 r).toInt ≤ 3) (hL9 : (a3 r).toInt < 1000 ∨ ((a1 r).toInt = 2 ∧ 0 < (a4 r).toInt)) : Met l yX8_newKey wsX8_newKey ({ frames := 5, cells := 0, slots := 0, locals := 210 }) (va_Pc [.ref h0, .int (nI o), .int p1, .int p2] (pk_Pre (dC, dI) [(h0, .inr (8, [.int th, .ref q1, .ref q2, .ref q3, .ref q4, .ref q5, .ref q6, .ref q7, .ref q8, v9, v10, v11, v12, v13, v14, .ref q15, v16])), (q1, .inl (c1, 16, .inl a1)), (q2, .inl (c2, 67200, .inl a2)), (q3, .inl (c3, 16, .inl a3)), (q4, .inl (c4, 16, .inl a4)), (q5, .inl (c5, 16, .inl a5)), (q6, .inl (c6, 16, .inl a6)), (q7, .inl (c7, 16, .inl a7)), (q8, .inl (c8, 16, .inl a8)), (q15, .inl (c15, 4096, .inl a15))] [(c1, .int), (c2, .int), (c3, .int), (c4, .int), (c5, .int), (c6, .int), (c7, .int), (c8, .int), (c15, .boolean)] sz)) (va_Qv (fun (u : (Nat → Int32) × (Nat → Int32) × (Nat → Int32) × (Nat → Int32) × (Nat → Int32)) => (∃ d : Nat, (d = 1 ∨ d = 2) ∧ rsR r d a2 a3 a6 a7 u.1 u.2.1 u.2.2.1 u.2.2.2.1) ∧ mOK (a1 r) (a4 r) (u.2.1 r) (u.2.2.1 r)) (fun (u : (Nat → Int32) × (Nat → Int32) × (Nat → Int32) × (Nat → Int32) × (Nat → Int32)) (t : State) => va_P (dC, dI) vwCl [(h0, .inr (8, [.int th, .ref q1, .ref q2, .ref q3, .ref q4, .ref q5, .ref q6, .ref q7, .ref q8, v9, v10, v11, v12, v13, v14, .ref q15, v16])), (q1, .inl (c1, 16, .inl a1)), (q2, .inl (c2, 67200, .inl u.1)), (q3, .inl (c3, 16, .inl u.2.1)), (q4, .inl (c4, 16, .inl a4)), (q5, .inl (c5, 16, .inl a5)), (q6, .inl (c6, 16, .inl u.2.2.1)), (q7, .inl (c7, 16, .inl u.2.2.2.1)), (q8, .inl (c8, 16, .inl a8)), (q15, .inl (c15, 4096, .inl u.2.2.2.2))] t.heap ∧ va_K (dC, dI) vwCl [(c1, .int), (c2, .int), (c3, .int), (c4, .int), (c5, .int), (c6, .int), (c7, .int), (c8, .int), (c15, .boolean)] t ∧ va_D (va_A [(h0, .inr (8, [.int th, .ref q1, .ref q2, .ref q3, .ref q4, .ref q5, .ref q6, .ref q7, .ref q8, v9, v10, v11, v12, v13, v14, .ref q15, v16])), (q1, .inl (c1, 16, .inl a1)), (q2, .inl (c2, 67200, .inl a2)), (q3, .inl (c3, 16, .inl a3)), (q4, .inl (c4, 16, .inl a4)), (q5, .inl (c5, 16, .inl a5)), (q6, .inl (c6, 16, .inl a6)), (q7, .inl (c7, 16, .inl a7)), (q8, .inl (c8, 16, .inl a8)), (q15, .inl (c15, 4096, .inl a15))] sz) [(h0, .inr (8, [.int th, .ref q1, .ref q2, .ref q3, .ref q4, .ref q5, .ref q6, .ref q7, .ref q8, v9, v10, v11, v12, v13, v14, .ref q15, v16])), (q1, .inl (c1, 16, .inl a1)), (q2, .inl (c2, 67200, .inl u.1)), (q3, .inl (c3, 16, .inl u.2.1)), (q4, .inl (c4, 16, .inl a4)), (q5, .inl (c5, 16, .inl a5)), (q6, .inl (c6, 16, .inl u.2.2.1)), (q7, .inl (c7, 16, .inl u.2.2.2.1)), (q8, .inl (c8, 16, .inl a8)), (q15, .inl (c15, 4096, .inl u.2.2.2.2))]) (va_A [(h0, .inr (8, [.int th, .ref q1, .ref q2, .ref q3, .ref q4, .ref q5, .ref q6, .ref q7, .ref q8, v9, v10, v11, v12, v13, v14, .ref q15, v16])), (q1, .inl (c1, 16, .inl a1)), (q2, .inl (c2, 67200, .inl a2)), (q3, .inl (c3, 16, .inl a3)), (q4, .inl (c4, 16, .inl a4)), (q5, .inl (c5, 16, .inl a5)), (q6, .inl (c6, 16, .inl a6)), (q7, .inl (c7, 16, .inl a7)), (q8, .inl (c8, 16, .inl a8)), (q15, .inl (c15, 4096, .inl a15))] sz)) 0 0 (va_A [(h0, .inr (8, [.int th, .ref q1, .ref q2, .ref q3, .ref q4, .ref q5, .ref q6, .ref q7, .ref q8, v9, v10, v11, v12, v13, v14, .ref q15, v16])), (q1, .inl (c1, 16, .inl a1)), (q2, .inl (c2, 67200, .inl a2)), (q3, .inl (c3, 16, .inl a3)), (q4, .inl (c4, 16, .inl a4)), (q5, .inl (c5, 16, .inl a5)), (q6, .inl (c6, 16, .inl a6)), (q7, .inl (c7, 16, .inl a7)), (q8, .inl (c8, 16, .inl a8)), (q15, .inl (c15, 4096, .inl a15))] sz) := by
  refine Met.ofW (cc := cX8_newKey) (maxL := 6) (ret := none) (by decide) rfl ?_
  intro p e s m args below meth c s₁ B hml hv
  obtain ⟨rfl, hsz, hP, hK, hD0⟩ := hv
  have hx := B.exec
  have hb := B.bytes
  have hr := B.returns
  have hts := atoms_spec (ws := wsX8_newKey) B.pre
  have hown : s.vm.findClass RX8 = some m.cls := findClass_of_methodNamed B.named
  have hlocks := B.notSynchronized
  subst hsz
  have hD := hD0.self (sz := s.heap.size)
  generalize hAe : va_A [(h0, .inr (8, [.int th, .ref q1, .ref q2, .ref q3, .ref q4, .ref q5, .ref q6, .ref q7, .ref q8, v9, v10, v11, v12, v13, v14, .ref q15, v16])), (q1, .inl (c1, 16, .inl a1)), (q2, .inl (c2, 67200, .inl a2)), (q3, .inl (c3, 16, .inl a3)), (q4, .inl (c4, 16, .inl a4)), (q5, .inl (c5, 16, .inl a5)), (q6, .inl (c6, 16, .inl a6)), (q7, .inl (c7, 16, .inl a7)), (q8, .inl (c8, 16, .inl a8)), (q15, .inl (c15, 4096, .inl a15))] s.heap.size = A at hD ⊢
  have hA : ∀ q : Nat, s.heap.size ≤ q → A q := fun q h => by rw [← hAe]; exact Or.inr h
  have hS : va_S A s.heap s.heap [] := va_S.rf
  have hP : va_P (dC, dI) vwCl [(h0, .inr (8, [.int th, .ref q1, .ref q2, .ref q3, .ref q4, .ref q5, .ref q6, .ref q7, .ref q8, v9, v10, v11, v12, v13, v14, .ref q15, v16])), (q1, .inl (c1, 16, .inl a1)), (q2, .inl (c2, 67200, .inl a2)), (q3, .inl (c3, 16, .inl a3)), (q4, .inl (c4, 16, .inl a4)), (q5, .inl (c5, 16, .inl a5)), (q6, .inl (c6, 16, .inl a6)), (q7, .inl (c7, 16, .inl a7)), (q8, .inl (c8, 16, .inl a8)), (q15, .inl (c15, 4096, .inl a15))] s.heap := hP
  have hl := lv_entry ([.ref h0, .int (nI o), .int p1, .int p2]) (n := 6) (Nat.le_of_ble_eq_true rfl)
  rw [lg_entry_eq]
  generalize (lg_sl ([.ref h0, .int (nI o), .int p1, .int p2]) ++ List.replicate (6 - (lg_sl ([.ref h0, .int (nI o), .int p1, .int p2])).length) Slot.unset).toArray = ls at hl ⊢
  have hl : lv_has ls 6 [(0, .ref h0), (1, .int (nI o)), (2, .int p1), (3, .int p2)] := hl
  have hw0_ := hts (.fieldLink RX8 7 "KeyAtlasModel" "kind" "[I") (List.mem_of_getElem? (l := wsX8_newKey) (i := 1) rfl)
  have hw1_ := hts (.fieldLink RX8 17 "KeyAtlasModel" "size" "[I") (List.mem_of_getElem? (l := wsX8_newKey) (i := 3) rfl)
  have hw2_ := hts (.fieldLink RX8 20 "KeyAtlasModel" "first" "[I") (List.mem_of_getElem? (l := wsX8_newKey) (i := 2) rfl)
  have hi0_ : ∀ w ∈ u_ws RX8 TX8 17, w ∈ wsX8_newKey := fun w h => List.mem_cons_of_mem _ (List.mem_append_right _ h)
  obtain ⟨nz, tb, fi, hs9, htb, hz9, hk1, hk2⟩ := hM9
  have hn8 : (a3 r).toInt = (nz : Int) := by rw [hs9]; exact nI_toInt (by omega)
  refine lv_aload_n hx hb dX8_newKey_0 rfl (lv_at hl 0 rfl) ?_
  refine lv_iload_n hx hb dX8_newKey_1 rfl (lv_at hl 1 rfl) ?_
  have hPc := hP.sub (ws' := [(h0, .inr (8, [.int th, .ref q1, .ref q2, .ref q3, .ref q4, .ref q5, .ref q6, .ref q7, .ref q8, v9, v10, v11, v12, v13, v14, .ref q15, v16])), (q1, .inl (c1, 16, .inl a1)), (q8, .inl (c8, 16, .inl a8))]) [0, 1, 8] rfl
  have hDc := hD.sub (ws' := [(h0, .inr (8, [.int th, .ref q1, .ref q2, .ref q3, .ref q4, .ref q5, .ref q6, .ref q7, .ref q8, v9, v10, v11, v12, v13, v14, .ref q15, v16])), (q1, .inl (c1, 16, .inl a1)), (q8, .inl (c8, 16, .inl a8))]) [0, 1, 8] (by decide) rfl
  have hKc := hK.sub (tys' := [(c1, .int), (c8, .int)]) [0, 7] rfl
  have hFc := va_free (wc := [(h0, .inr (8, [.int th, .ref q1, .ref q2, .ref q3, .ref q4, .ref q5, .ref q6, .ref q7, .ref q8, v9, v10, v11, v12, v13, v14, .ref q15, v16])), (q1, .inl (c1, 16, .inl a1)), (q8, .inl (c8, 16, .inl a8))]) hD hS hA [0, 1, 8] rfl
  refine va_calli (va_runV (As := [.int (nI o)]) (rest := []) ⟨hx, hb, hml, hown, hts⟩ (c_X8_root l  dC dI s.heap.size h0 th q1 q8 c1 c8 a1 a8 (.ref q2) (.ref q3) (.ref q4) (.ref q5) (.ref q6) (.ref q7) v9 v10 v11 v12 v13 v14 (.ref q15) v16 o dep ho9 hF9 hd9) (cwV 1 hts gX8_newKey_X8_root rfl rfl rfl (by decide +kernel) ⟨(Nat.le_of_ble_eq_true rfl), (Nat.le_of_ble_eq_true rfl)⟩) ⟨pk_blind, va_recv hKc hPc (ci := 8) (q0 := 0) rfl rfl, pk_call hPc hKc hDc⟩ rfl rfl hl.1 rfl (lv_room (Nat.le_of_ble_eq_true rfl)) dX8_newKey_2 ⟨(Nat.le_of_ble_eq_true rfl), (Nat.le_of_ble_eq_true rfl)⟩) hS (fun q _ h => hFc q h) hFc (fun r_1 ur_1 t H1 locs ht hvm hw hB hz1 hk1 hS => ?_)
  try dsimp only at hw
  obtain ⟨er_1, hr9, hr8⟩ := hw
  rw [hrt9] at er_1 hr9 hr8
  obtain ⟨hP1, hK1, hD1⟩ := hB
  rw [ht] at hP1
  have hK1 := va_K.moved hvm.symm hK1
  obtain ⟨hP, hD⟩ := va_join (wr := [(q2, .inl (c2, 67200, .inl a2)), (q3, .inl (c3, 16, .inl a3)), (q4, .inl (c4, 16, .inl a4)), (q5, .inl (c5, 16, .inl a5)), (q6, .inl (c6, 16, .inl a6)), (q7, .inl (c7, 16, .inl a7)), (q15, .inl (c15, 4096, .inl a15))]) (w1 := [(h0, .inr (8, [.int th, .ref q1, .ref q2, .ref q3, .ref q4, .ref q5, .ref q6, .ref q7, .ref q8, v9, v10, v11, v12, v13, v14, .ref q15, v16])), (q1, .inl (c1, 16, .inl a1)), (q8, .inl (c8, 16, .inl a8))]) hP hD [0, 1, 8] [2, 3, 4, 5, 6, 7, 9] rfl rfl (by decide) (by decide) hk1 hFc hP1 hD1
  clear hk1 hz1 ht hPc hDc hKc hFc
  generalize H1 = H at hP hS ⊢
  replace hP : va_P (dC, dI) vwCl [(q2, .inl (c2, 67200, .inl a2)), (q3, .inl (c3, 16, .inl a3)), (q4, .inl (c4, 16, .inl a4)), (q5, .inl (c5, 16, .inl a5)), (q6, .inl (c6, 16, .inl a6)), (q7, .inl (c7, 16, .inl a7)), (q15, .inl (c15, 4096, .inl a15)), (h0, .inr (8, [.int th, .ref q1, .ref q2, .ref q3, .ref q4, .ref q5, .ref q6, .ref q7, .ref q8, v9, v10, v11, v12, v13, v14, .ref q15, v16])), (q1, .inl (c1, 16, .inl a1)), (q8, .inl (c8, 16, .inl a8))] H := hP
  replace hD : va_D A [(q2, .inl (c2, 67200, .inl a2)), (q3, .inl (c3, 16, .inl a3)), (q4, .inl (c4, 16, .inl a4)), (q5, .inl (c5, 16, .inl a5)), (q6, .inl (c6, 16, .inl a6)), (q7, .inl (c7, 16, .inl a7)), (q15, .inl (c15, 4096, .inl a15)), (h0, .inr (8, [.int th, .ref q1, .ref q2, .ref q3, .ref q4, .ref q5, .ref q6, .ref q7, .ref q8, v9, v10, v11, v12, v13, v14, .ref q15, v16])), (q1, .inl (c1, 16, .inl a1)), (q8, .inl (c8, 16, .inl a8))] := hD
  refine W.widen (k := 0) (n := 0) (Nat.le_of_ble_eq_true rfl) (Nat.le_of_ble_eq_true rfl) ?_
  subst er_1
  refine W.eq (g2 := F0 m 5 ls [.int (nI r)]) rfl ?_
  refine lv_istore (lv' := [(4, .int (nI r)), (0, .ref h0), (1, .int (nI o)), (2, .int p1), (3, .int p2)]) hx hb dX8_newKey_5 hl (by decide) rfl (fun ls hl => ?_)
  refine lv_aload_n hx hb dX8_newKey_7 rfl (lv_at hl 1 rfl) ?_
  refine va_get (D := (dC, dI)) (ci := 8) (v := .ref q1) (C := RX8) (T := TX8) (N := 17) hx hb hts hi0_ hown hK hP 7 rfl rfl 1 (by decide) hw0_ (fun _ h9 => h9) rfl dX8_newKey_8 ?_
  refine lv_iload hx hb dX8_newKey_11 (lv_at hl 0 rfl) ?_
  refine va_iald (i := nI r) hx hb hK hP 8 0 rfl rfl (vp_in_nI (by omega) (by omega)) dX8_newKey_13 ?_
  refine W.eq (g2 := F0 m 14 ls [.int (a1 r)]) (by rw [nI_clamp (by omega)]) ?_
  refine lv_iconst (v := 2) hx hb dX8_newKey_14 (by decide) ?_
  refine lv_icmp_ne (tgt := 70) hx hb dX8_newKey_15 (by decide) (fun c_2 => ?_) (fun c_2 => ?_)
  ·
    have ic_2 : ¬ (a1 r).toInt = 2 := tx_ne rfl (by decide) c_2
    refine lv_aload_n hx hb dX8_newKey_70 rfl (lv_at hl 1 rfl) ?_
    refine va_get (D := (dC, dI)) (ci := 8) (v := .ref q1) (C := RX8) (T := TX8) (N := 17) hx hb hts hi0_ hown hK hP 7 rfl rfl 1 (by decide) hw0_ (fun _ h9 => h9) rfl dX8_newKey_71 ?_
    refine lv_iload hx hb dX8_newKey_74 (lv_at hl 0 rfl) ?_
    refine va_iald (i := nI r) hx hb hK hP 8 0 rfl rfl (vp_in_nI (by omega) (by omega)) dX8_newKey_76 ?_
    refine W.eq (g2 := F0 m 77 ls [.int (a1 r)]) (by rw [nI_clamp (by omega)]) ?_
    refine lv_iconst (v := 3) hx hb dX8_newKey_77 (by decide) ?_
    refine lv_icmp_ne (tgt := 137) hx hb dX8_newKey_78 (by decide) (fun c_3 => ?_) (fun c_3 => ?_)
    ·
      have ic_3 : ¬ (a1 r).toInt = 3 := tx_ne rfl (by decide) c_3
      refine lv_aload_n hx hb dX8_newKey_137 rfl (lv_at hl 1 rfl) ?_
      refine lv_iload hx hb dX8_newKey_138 (lv_at hl 0 rfl) ?_
      refine lv_iload_n hx hb dX8_newKey_140 rfl (lv_at hl 3 rfl) ?_
      refine lv_iload_n hx hb dX8_newKey_141 rfl (lv_at hl 4 rfl) ?_
      have hone : (a1 r).toInt = 1 := by omega
      have hPc := hP.sub (ws' := [(h0, .inr (8, [.int th, .ref q1, .ref q2, .ref q3, .ref q4, .ref q5, .ref q6, .ref q7, .ref q8, v9, v10, v11, v12, v13, v14, .ref q15, v16])), (q2, .inl (c2, 67200, .inl a2)), (q3, .inl (c3, 16, .inl a3)), (q4, .inl (c4, 16, .inl a4)), (q5, .inl (c5, 16, .inl a5)), (q6, .inl (c6, 16, .inl a6)), (q7, .inl (c7, 16, .inl a7)), (q15, .inl (c15, 4096, .inl a15))]) [7, 0, 1, 2, 3, 4, 5, 6] rfl
      have hDc := hD.sub (ws' := [(h0, .inr (8, [.int th, .ref q1, .ref q2, .ref q3, .ref q4, .ref q5, .ref q6, .ref q7, .ref q8, v9, v10, v11, v12, v13, v14, .ref q15, v16])), (q2, .inl (c2, 67200, .inl a2)), (q3, .inl (c3, 16, .inl a3)), (q4, .inl (c4, 16, .inl a4)), (q5, .inl (c5, 16, .inl a5)), (q6, .inl (c6, 16, .inl a6)), (q7, .inl (c7, 16, .inl a7)), (q15, .inl (c15, 4096, .inl a15))]) [7, 0, 1, 2, 3, 4, 5, 6] (by decide) rfl
      have hKc := hK.sub (tys' := [(c2, .int), (c3, .int), (c4, .int), (c5, .int), (c6, .int), (c7, .int), (c15, .boolean)]) [1, 2, 3, 4, 5, 6, 8] rfl
      have hFc := va_free (wc := [(h0, .inr (8, [.int th, .ref q1, .ref q2, .ref q3, .ref q4, .ref q5, .ref q6, .ref q7, .ref q8, v9, v10, v11, v12, v13, v14, .ref q15, v16])), (q2, .inl (c2, 67200, .inl a2)), (q3, .inl (c3, 16, .inl a3)), (q4, .inl (c4, 16, .inl a4)), (q5, .inl (c5, 16, .inl a5)), (q6, .inl (c6, 16, .inl a6)), (q7, .inl (c7, 16, .inl a7)), (q15, .inl (c15, 4096, .inl a15))]) hD hS hA [7, 0, 1, 2, 3, 4, 5, 6] rfl
      refine va_callv (va_runV (As := [.int (nI r), .int p1, .int p2]) (rest := []) ⟨hx, hb, hml, hown, hts⟩ (c_X8_hashed l  dC dI H.size h0 th q2 q3 q4 q5 q6 q7 q15 c2 c3 c4 c5 c6 c7 c15 a2 a3 a4 a5 a6 a7 a15 (.ref q1) (.ref q8) v9 v10 v11 v12 v13 v14 v16 r p1 p2 tb nz fi hr9 ((hk1 hone).1) ((hk1 hone).2.1) htb ((hk1 hone).2.2) hs9 (by omega)) (cwV 3 hts gX8_newKey_X8_hashed rfl rfl rfl (by decide +kernel) ⟨(Nat.le_of_ble_eq_true rfl), (Nat.le_of_ble_eq_true rfl)⟩) ⟨pk_blind, va_recv hKc hPc (ci := 8) (q0 := 0) rfl rfl, pk_call hPc hKc hDc⟩ rfl rfl hl.1 rfl (lv_room (Nat.le_of_ble_eq_true rfl)) dX8_newKey_142 ⟨(Nat.le_of_ble_eq_true rfl), (Nat.le_of_ble_eq_true rfl)⟩) hS (fun q _ h => hFc q h) hFc (fun ur_4 t H1 locs ht hvm hw hB hz1 hk1 hS => ?_)
      try dsimp only at hw
      have jr_4 := hw
      obtain ⟨hP1, hK1, hD1⟩ := hB
      rw [ht] at hP1
      have hK1 := va_K.moved hvm.symm hK1
      obtain ⟨hP, hD⟩ := va_join (wr := [(q1, .inl (c1, 16, .inl a1)), (q8, .inl (c8, 16, .inl a8))]) (w1 := [(h0, .inr (8, [.int th, .ref q1, .ref q2, .ref q3, .ref q4, .ref q5, .ref q6, .ref q7, .ref q8, v9, v10, v11, v12, v13, v14, .ref q15, v16])), (q2, .inl (c2, 67200, .inl ur_4.1)), (q3, .inl (c3, 16, .inl (upd a3 r (nI (nz + 1))))), (q4, .inl (c4, 16, .inl a4)), (q5, .inl (c5, 16, .inl a5)), (q6, .inl (c6, 16, .inl ur_4.2.1)), (q7, .inl (c7, 16, .inl (upd a7 r (a7 r + 1)))), (q15, .inl (c15, 4096, .inl ur_4.2.2))]) hP hD [7, 0, 1, 2, 3, 4, 5, 6] [8, 9] rfl rfl (by decide) (by decide) hk1 hFc hP1 hD1
      clear hk1 hz1 ht hPc hDc hKc hFc
      generalize H1 = H at hP hS ⊢
      replace hP : va_P (dC, dI) vwCl [(q1, .inl (c1, 16, .inl a1)), (q8, .inl (c8, 16, .inl a8)), (h0, .inr (8, [.int th, .ref q1, .ref q2, .ref q3, .ref q4, .ref q5, .ref q6, .ref q7, .ref q8, v9, v10, v11, v12, v13, v14, .ref q15, v16])), (q2, .inl (c2, 67200, .inl ur_4.1)), (q3, .inl (c3, 16, .inl (upd a3 r (nI (nz + 1))))), (q4, .inl (c4, 16, .inl a4)), (q5, .inl (c5, 16, .inl a5)), (q6, .inl (c6, 16, .inl ur_4.2.1)), (q7, .inl (c7, 16, .inl (upd a7 r (a7 r + 1)))), (q15, .inl (c15, 4096, .inl ur_4.2.2))] H := hP
      replace hD : va_D A [(q1, .inl (c1, 16, .inl a1)), (q8, .inl (c8, 16, .inl a8)), (h0, .inr (8, [.int th, .ref q1, .ref q2, .ref q3, .ref q4, .ref q5, .ref q6, .ref q7, .ref q8, v9, v10, v11, v12, v13, v14, .ref q15, v16])), (q2, .inl (c2, 67200, .inl ur_4.1)), (q3, .inl (c3, 16, .inl (upd a3 r (nI (nz + 1))))), (q4, .inl (c4, 16, .inl a4)), (q5, .inl (c5, 16, .inl a5)), (q6, .inl (c6, 16, .inl ur_4.2.1)), (q7, .inl (c7, 16, .inl (upd a7 r (a7 r + 1)))), (q15, .inl (c15, 4096, .inl ur_4.2.2))] := hD
      refine W.widen (k := 0) (n := 0) (Nat.le_of_ble_eq_true rfl) (Nat.le_of_ble_eq_true rfl) ?_
      refine W.eq (g2 := F0 m 145 ls []) rfl ?_
      obtain ⟨y1_, y2_, t9, y3_, y4_, y5_, y6_, y7_⟩ := jr_4
      have hP9 := hP.sub (ws' := [(h0, .inr (8, [.int th, .ref q1, .ref q2, .ref q3, .ref q4, .ref q5, .ref q6, .ref q7, .ref q8, v9, v10, v11, v12, v13, v14, .ref q15, v16])), (q1, .inl (c1, 16, .inl a1)), (q2, .inl (c2, 67200, .inl ur_4.1)), (q3, .inl (c3, 16, .inl (upd a3 r (nI (nz + 1))))), (q4, .inl (c4, 16, .inl a4)), (q5, .inl (c5, 16, .inl a5)), (q6, .inl (c6, 16, .inl ur_4.2.1)), (q7, .inl (c7, 16, .inl (upd a7 r (a7 r + 1)))), (q8, .inl (c8, 16, .inl a8)), (q15, .inl (c15, 4096, .inl ur_4.2.2))]) [2, 0, 3, 4, 5, 6, 7, 8, 1, 9] rfl
      have hD9 := hD.sub (ws' := [(h0, .inr (8, [.int th, .ref q1, .ref q2, .ref q3, .ref q4, .ref q5, .ref q6, .ref q7, .ref q8, v9, v10, v11, v12, v13, v14, .ref q15, v16])), (q1, .inl (c1, 16, .inl a1)), (q2, .inl (c2, 67200, .inl ur_4.1)), (q3, .inl (c3, 16, .inl (upd a3 r (nI (nz + 1))))), (q4, .inl (c4, 16, .inl a4)), (q5, .inl (c5, 16, .inl a5)), (q6, .inl (c6, 16, .inl ur_4.2.1)), (q7, .inl (c7, 16, .inl (upd a7 r (a7 r + 1)))), (q8, .inl (c8, 16, .inl a8)), (q15, .inl (c15, 4096, .inl ur_4.2.2))]) [2, 0, 3, 4, 5, 6, 7, 8, 1, 9] (by decide) rfl
      have hK9 := hK.sub (tys' := [(c1, .int), (c2, .int), (c3, .int), (c4, .int), (c5, .int), (c6, .int), (c7, .int), (c8, .int), (c15, .boolean)]) [0, 1, 2, 3, 4, 5, 6, 7, 8] rfl
      refine W.widen (k := 0) (n := 0) (Nat.le_of_ble_eq_true rfl) (Nat.le_of_ble_eq_true rfl) ?_
      exact W.vret hx hb hr (fun t ht hW => ⟨⟨(ur_4.1, (upd a3 r (nI (nz + 1))), ur_4.2.1, (upd a7 r (a7 r + 1)), ur_4.2.2), rfl, ⟨⟨1, Or.inl rfl, rs_1 y1_ y2_⟩, ⟨nz + 1, t9, fi, pk_us, y3_, by omega, fun h => ⟨(hk1 hone).1, (hk1 hone).2.1, Or.inr ⟨y4_, y5_, y6_, y7_⟩⟩, fun h => absurd h (by omega)⟩⟩, by rw [ht]; exact hP9, va_K.moved hW.alike hK9, hD9⟩, hS.F ht⟩) hS.2.2 dX8_newKey_145
    ·
      have ic_3 : (a1 r).toInt = 3 := tx_eq rfl (by decide) c_3
      refine lv_iconst (v := 0) hx hb dX8_newKey_81 (by decide) ?_
      refine lv_istore (lv' := [(5, .int 0), (4, .int (nI r)), (0, .ref h0), (1, .int (nI o)), (2, .int p1), (3, .int p2)]) hx hb dX8_newKey_82 hl (by decide) rfl (fun ls hl => ?_)
      obtain ⟨i, es_i⟩ : ∃ z : Nat, z = 0 := ⟨_, rfl⟩
      obtain ⟨x9, ex9⟩ : ∃ y : Int32, y = nI i := ⟨_, rfl⟩
      obtain ⟨n9, en9⟩ : ∃ n : Nat, n = nz + 1 := ⟨_, rfl⟩
      replace hl : lv_has ls 6 [(5, .int x9), (4, .int (nI r)), (0, .ref h0), (1, .int (nI o)), (2, .int p1), (3, .int p2)] := by subst ex9; subst es_i; exact hl
      have hi9 : i ≤ nz := by subst ex9; subst es_i; subst en9; exact Nat.zero_le _
      have hn9 : nz + 1 ≤ i + n9 := by subst ex9; subst es_i; subst en9; exact by omega
      clear en9 es_i
      induction n9 generalizing i x9 ls H locs with
      | zero => exact absurd hn9 (by omega)
      | succ n9 ih =>
        subst ex9
        refine lv_iload hx hb dX8_newKey_84 (lv_at hl 0 rfl) ?_
        refine lv_aload_n hx hb dX8_newKey_86 rfl (lv_at hl 2 rfl) ?_
        refine va_get (D := (dC, dI)) (ci := 8) (v := .ref q3) (C := RX8) (T := TX8) (N := 17) hx hb hts hi0_ hown hK hP 7 rfl rfl 3 (by decide) hw1_ (fun _ h9 => h9) rfl dX8_newKey_87 ?_
        refine lv_iload hx hb dX8_newKey_90 (lv_at hl 1 rfl) ?_
        refine va_iald (i := nI r) hx hb hK hP 1 2 rfl rfl (vp_in_nI (by omega) (by omega)) dX8_newKey_92 ?_
        refine W.eq (g2 := F0 m 93 ls [.int (a3 r), .int (nI i)]) (by rw [nI_clamp (by omega)]) ?_
        refine W.eq (g2 := F0 m 93 ls [.int (nI nz), .int (nI i)]) (by rw [hs9]) ?_
        refine lv_icmp_ge (tgt := 124) hx hb dX8_newKey_93 (by decide) (fun c_5 => ?_) (fun c_5 => ?_)
        ·
          have ic_5 : ((nz : Nat) : Int) ≤ ((i : Nat) : Int) := tx_le (nI_toInt (by omega)) (nI_toInt (by omega)) c_5
          refine lv_aload_n hx hb dX8_newKey_124 rfl (lv_at hl 2 rfl) ?_
          refine lv_iload hx hb dX8_newKey_125 (lv_at hl 1 rfl) ?_
          refine lv_iload hx hb dX8_newKey_127 (lv_at hl 0 rfl) ?_
          refine lv_iload_n hx hb dX8_newKey_129 rfl (lv_at hl 4 rfl) ?_
          refine lv_iload_n hx hb dX8_newKey_130 rfl (lv_at hl 5 rfl) ?_
          have hPc := hP.sub (ws' := [(h0, .inr (8, [.int th, .ref q1, .ref q2, .ref q3, .ref q4, .ref q5, .ref q6, .ref q7, .ref q8, v9, v10, v11, v12, v13, v14, .ref q15, v16])), (q2, .inl (c2, 67200, .inl a2)), (q3, .inl (c3, 16, .inl a3)), (q7, .inl (c7, 16, .inl a7))]) [7, 0, 1, 5] rfl
          have hDc := hD.sub (ws' := [(h0, .inr (8, [.int th, .ref q1, .ref q2, .ref q3, .ref q4, .ref q5, .ref q6, .ref q7, .ref q8, v9, v10, v11, v12, v13, v14, .ref q15, v16])), (q2, .inl (c2, 67200, .inl a2)), (q3, .inl (c3, 16, .inl a3)), (q7, .inl (c7, 16, .inl a7))]) [7, 0, 1, 5] (by decide) rfl
          have hKc := hK.sub (tys' := [(c2, .int), (c3, .int), (c7, .int)]) [1, 2, 6] rfl
          have hFc := va_free (wc := [(h0, .inr (8, [.int th, .ref q1, .ref q2, .ref q3, .ref q4, .ref q5, .ref q6, .ref q7, .ref q8, v9, v10, v11, v12, v13, v14, .ref q15, v16])), (q2, .inl (c2, 67200, .inl a2)), (q3, .inl (c3, 16, .inl a3)), (q7, .inl (c7, 16, .inl a7))]) hD hS hA [7, 0, 1, 5] rfl
          refine va_callv (va_runV (As := [.int (nI r), .int (nI i), .int p1, .int p2]) (rest := []) ⟨hx, hb, hml, hown, hts⟩ (c_X8_comes l  dC dI H.size h0 th q2 q3 q7 c2 c3 c7 a2 a3 a7 (.ref q1) (.ref q4) (.ref q5) (.ref q6) (.ref q8) v9 v10 v11 v12 v13 v14 (.ref q15) v16 r i p1 p2 nz hr9 (by omega) hs9 (by omega)) (cwV 4 hts gX8_newKey_X8_comes rfl rfl rfl (by decide +kernel) ⟨(Nat.le_of_ble_eq_true rfl), (Nat.le_of_ble_eq_true rfl)⟩) ⟨pk_blind, va_recv hKc hPc (ci := 8) (q0 := 0) rfl rfl, pk_call hPc hKc hDc⟩ rfl rfl hl.1 rfl (lv_room (Nat.le_of_ble_eq_true rfl)) dX8_newKey_131 ⟨(Nat.le_of_ble_eq_true rfl), (Nat.le_of_ble_eq_true rfl)⟩) hS (fun q _ h => hFc q h) hFc (fun ur_6 t H1 locs ht hvm hw hB hz1 hk1 hS => ?_)
          try dsimp only at hw
          have jr_6 := hw
          obtain ⟨hP1, hK1, hD1⟩ := hB
          rw [ht] at hP1
          have hK1 := va_K.moved hvm.symm hK1
          obtain ⟨hP, hD⟩ := va_join (wr := [(q4, .inl (c4, 16, .inl a4)), (q5, .inl (c5, 16, .inl a5)), (q6, .inl (c6, 16, .inl a6)), (q15, .inl (c15, 4096, .inl a15)), (q1, .inl (c1, 16, .inl a1)), (q8, .inl (c8, 16, .inl a8))]) (w1 := [(h0, .inr (8, [.int th, .ref q1, .ref q2, .ref q3, .ref q4, .ref q5, .ref q6, .ref q7, .ref q8, v9, v10, v11, v12, v13, v14, .ref q15, v16])), (q2, .inl (c2, 67200, .inl ur_6)), (q3, .inl (c3, 16, .inl (upd a3 r (nI (nz + 1))))), (q7, .inl (c7, 16, .inl (upd a7 r (a7 r + 1))))]) hP hD [7, 0, 1, 5] [2, 3, 4, 6, 8, 9] rfl rfl (by decide) (by decide) hk1 hFc hP1 hD1
          clear hk1 hz1 ht hPc hDc hKc hFc
          generalize H1 = H at hP hS ⊢
          replace hP : va_P (dC, dI) vwCl [(q4, .inl (c4, 16, .inl a4)), (q5, .inl (c5, 16, .inl a5)), (q6, .inl (c6, 16, .inl a6)), (q15, .inl (c15, 4096, .inl a15)), (q1, .inl (c1, 16, .inl a1)), (q8, .inl (c8, 16, .inl a8)), (h0, .inr (8, [.int th, .ref q1, .ref q2, .ref q3, .ref q4, .ref q5, .ref q6, .ref q7, .ref q8, v9, v10, v11, v12, v13, v14, .ref q15, v16])), (q2, .inl (c2, 67200, .inl ur_6)), (q3, .inl (c3, 16, .inl (upd a3 r (nI (nz + 1))))), (q7, .inl (c7, 16, .inl (upd a7 r (a7 r + 1))))] H := hP
          replace hD : va_D A [(q4, .inl (c4, 16, .inl a4)), (q5, .inl (c5, 16, .inl a5)), (q6, .inl (c6, 16, .inl a6)), (q15, .inl (c15, 4096, .inl a15)), (q1, .inl (c1, 16, .inl a1)), (q8, .inl (c8, 16, .inl a8)), (h0, .inr (8, [.int th, .ref q1, .ref q2, .ref q3, .ref q4, .ref q5, .ref q6, .ref q7, .ref q8, v9, v10, v11, v12, v13, v14, .ref q15, v16])), (q2, .inl (c2, 67200, .inl ur_6)), (q3, .inl (c3, 16, .inl (upd a3 r (nI (nz + 1))))), (q7, .inl (c7, 16, .inl (upd a7 r (a7 r + 1))))] := hD
          refine W.widen (k := 0) (n := 0) (Nat.le_of_ble_eq_true rfl) (Nat.le_of_ble_eq_true rfl) ?_
          refine W.eq (g2 := F0 m 134 ls []) rfl ?_
          have jc := jr_6
          refine lv_goto (tgt := 145) hx hb dX8_newKey_134 (by decide) ?_
          have hP9 := hP.sub (ws' := [(h0, .inr (8, [.int th, .ref q1, .ref q2, .ref q3, .ref q4, .ref q5, .ref q6, .ref q7, .ref q8, v9, v10, v11, v12, v13, v14, .ref q15, v16])), (q1, .inl (c1, 16, .inl a1)), (q2, .inl (c2, 67200, .inl ur_6)), (q3, .inl (c3, 16, .inl (upd a3 r (nI (nz + 1))))), (q4, .inl (c4, 16, .inl a4)), (q5, .inl (c5, 16, .inl a5)), (q6, .inl (c6, 16, .inl a6)), (q7, .inl (c7, 16, .inl (upd a7 r (a7 r + 1)))), (q8, .inl (c8, 16, .inl a8)), (q15, .inl (c15, 4096, .inl a15))]) [6, 4, 7, 8, 0, 1, 2, 9, 5, 3] rfl
          have hD9 := hD.sub (ws' := [(h0, .inr (8, [.int th, .ref q1, .ref q2, .ref q3, .ref q4, .ref q5, .ref q6, .ref q7, .ref q8, v9, v10, v11, v12, v13, v14, .ref q15, v16])), (q1, .inl (c1, 16, .inl a1)), (q2, .inl (c2, 67200, .inl ur_6)), (q3, .inl (c3, 16, .inl (upd a3 r (nI (nz + 1))))), (q4, .inl (c4, 16, .inl a4)), (q5, .inl (c5, 16, .inl a5)), (q6, .inl (c6, 16, .inl a6)), (q7, .inl (c7, 16, .inl (upd a7 r (a7 r + 1)))), (q8, .inl (c8, 16, .inl a8)), (q15, .inl (c15, 4096, .inl a15))]) [6, 4, 7, 8, 0, 1, 2, 9, 5, 3] (by decide) rfl
          have hK9 := hK.sub (tys' := [(c1, .int), (c2, .int), (c3, .int), (c4, .int), (c5, .int), (c6, .int), (c7, .int), (c8, .int), (c15, .boolean)]) [0, 1, 2, 3, 4, 5, 6, 7, 8] rfl
          refine W.widen (k := 0) (n := 0) (Nat.le_of_ble_eq_true rfl) (Nat.le_of_ble_eq_true rfl) ?_
          exact W.vret hx hb hr (fun t ht hW => ⟨⟨(ur_6, (upd a3 r (nI (nz + 1))), a6, (upd a7 r (a7 r + 1)), a15), rfl, ⟨⟨1, Or.inl rfl, rs_1 jc (fun _ _ => rfl)⟩, ⟨nz + 1, tb, fi, pk_us, htb, by omega, fun h => absurd h (by omega), fun h => absurd h (by omega)⟩⟩, by rw [ht]; exact hP9, va_K.moved hW.alike hK9, hD9⟩, hS.F ht⟩) hS.2.2 dX8_newKey_145
        ·
          have ic_5 : ((i : Nat) : Int) < ((nz : Nat) : Int) := tx_nle (nI_toInt (by omega)) (nI_toInt (by omega)) c_5
          refine lv_aload_n hx hb dX8_newKey_96 rfl (lv_at hl 2 rfl) ?_
          refine va_get (D := (dC, dI)) (ci := 8) (v := .ref q4) (C := RX8) (T := TX8) (N := 17) hx hb hts hi0_ hown hK hP 7 rfl rfl 4 (by decide) hw2_ (fun _ h9 => h9) rfl dX8_newKey_97 ?_
          refine lv_iload hx hb dX8_newKey_100 (lv_at hl 1 rfl) ?_
          refine va_iald (i := nI r) hx hb hK hP 2 3 rfl rfl (vp_in_nI (by omega) (by omega)) dX8_newKey_102 ?_
          refine W.eq (g2 := F0 m 103 ls [.int (a4 r)]) (by rw [nI_clamp (by omega)]) ?_
          refine lv_aload_n hx hb dX8_newKey_103 rfl (lv_at hl 2 rfl) ?_
          refine lv_iload hx hb dX8_newKey_104 (lv_at hl 1 rfl) ?_
          refine lv_iload hx hb dX8_newKey_106 (lv_at hl 0 rfl) ?_
          have hPc := hP.sub (ws' := [(h0, .inr (8, [.int th, .ref q1, .ref q2, .ref q3, .ref q4, .ref q5, .ref q6, .ref q7, .ref q8, v9, v10, v11, v12, v13, v14, .ref q15, v16])), (q2, .inl (c2, 67200, .inl a2))]) [7, 0] rfl
          have hDc := hD.sub (ws' := [(h0, .inr (8, [.int th, .ref q1, .ref q2, .ref q3, .ref q4, .ref q5, .ref q6, .ref q7, .ref q8, v9, v10, v11, v12, v13, v14, .ref q15, v16])), (q2, .inl (c2, 67200, .inl a2))]) [7, 0] (by decide) rfl
          have hKc := hK.sub (tys' := [(c2, .int)]) [1] rfl
          have hFc := va_free (wc := [(h0, .inr (8, [.int th, .ref q1, .ref q2, .ref q3, .ref q4, .ref q5, .ref q6, .ref q7, .ref q8, v9, v10, v11, v12, v13, v14, .ref q15, v16])), (q2, .inl (c2, 67200, .inl a2))]) hD hS hA [7, 0] rfl
          refine va_calli (va_runV (As := [.int (nI r), .int (nI i)]) (rest := [.int (a4 r)]) ⟨hx, hb, hml, hown, hts⟩ (c_X8_key l  dC dI H.size h0 th q2 c2 a2 (.ref q1) (.ref q3) (.ref q4) (.ref q5) (.ref q6) (.ref q7) (.ref q8) v9 v10 v11 v12 v13 v14 (.ref q15) v16 r i hr9 (by omega)) (cwV 2 hts gX8_newKey_X8_key rfl rfl rfl (by decide +kernel) ⟨(Nat.le_of_ble_eq_true rfl), (Nat.le_of_ble_eq_true rfl)⟩) ⟨pk_blind, va_recv hKc hPc (ci := 8) (q0 := 0) rfl rfl, pk_call hPc hKc hDc⟩ rfl rfl hl.1 rfl (lv_room (Nat.le_of_ble_eq_true rfl)) dX8_newKey_108 ⟨(Nat.le_of_ble_eq_true rfl), (Nat.le_of_ble_eq_true rfl)⟩) hS (fun q _ h => hFc q h) hFc (fun r_7 ur_7 t H1 locs ht hvm hw hB hz1 hk1 hS => ?_)
          try dsimp only at hw
          obtain ⟨hP1, hK1, hD1⟩ := hB
          rw [ht] at hP1
          have hK1 := va_K.moved hvm.symm hK1
          obtain ⟨hP, hD⟩ := va_join (wr := [(q3, .inl (c3, 16, .inl a3)), (q4, .inl (c4, 16, .inl a4)), (q5, .inl (c5, 16, .inl a5)), (q6, .inl (c6, 16, .inl a6)), (q7, .inl (c7, 16, .inl a7)), (q15, .inl (c15, 4096, .inl a15)), (q1, .inl (c1, 16, .inl a1)), (q8, .inl (c8, 16, .inl a8))]) (w1 := [(h0, .inr (8, [.int th, .ref q1, .ref q2, .ref q3, .ref q4, .ref q5, .ref q6, .ref q7, .ref q8, v9, v10, v11, v12, v13, v14, .ref q15, v16])), (q2, .inl (c2, 67200, .inl a2))]) hP hD [7, 0] [1, 2, 3, 4, 5, 6, 8, 9] rfl rfl (by decide) (by decide) hk1 hFc hP1 hD1
          clear hk1 hz1 ht hPc hDc hKc hFc
          generalize H1 = H at hP hS ⊢
          replace hP : va_P (dC, dI) vwCl [(q3, .inl (c3, 16, .inl a3)), (q4, .inl (c4, 16, .inl a4)), (q5, .inl (c5, 16, .inl a5)), (q6, .inl (c6, 16, .inl a6)), (q7, .inl (c7, 16, .inl a7)), (q15, .inl (c15, 4096, .inl a15)), (q1, .inl (c1, 16, .inl a1)), (q8, .inl (c8, 16, .inl a8)), (h0, .inr (8, [.int th, .ref q1, .ref q2, .ref q3, .ref q4, .ref q5, .ref q6, .ref q7, .ref q8, v9, v10, v11, v12, v13, v14, .ref q15, v16])), (q2, .inl (c2, 67200, .inl a2))] H := hP
          replace hD : va_D A [(q3, .inl (c3, 16, .inl a3)), (q4, .inl (c4, 16, .inl a4)), (q5, .inl (c5, 16, .inl a5)), (q6, .inl (c6, 16, .inl a6)), (q7, .inl (c7, 16, .inl a7)), (q15, .inl (c15, 4096, .inl a15)), (q1, .inl (c1, 16, .inl a1)), (q8, .inl (c8, 16, .inl a8)), (h0, .inr (8, [.int th, .ref q1, .ref q2, .ref q3, .ref q4, .ref q5, .ref q6, .ref q7, .ref q8, v9, v10, v11, v12, v13, v14, .ref q15, v16])), (q2, .inl (c2, 67200, .inl a2))] := hD
          refine W.widen (k := 0) (n := 0) (Nat.le_of_ble_eq_true rfl) (Nat.le_of_ble_eq_true rfl) ?_
          obtain rfl : r_7 = a2 (4200 * r + i) := hw
          refine W.eq (g2 := F0 m 111 ls [.int (a2 (4200 * r + i)), .int (a4 r)]) rfl ?_
          refine lv_iload_n hx hb dX8_newKey_111 rfl (lv_at hl 4 rfl) ?_
          have hPc := hP.sub (ws' := []) [] rfl
          have hDc := hD.sub (ws' := []) [] (by decide) rfl
          have hKc := hK.sub (tys' := []) [] rfl
          have hFc := va_free (wc := []) hD hS hA [] rfl
          refine va_calli (va_runS (As := [.int (a4 r), .int (a2 (4200 * r + i)), .int p1]) (rest := []) ⟨hx, hb, hml, hown, hts⟩ (c_X8_compare l  dC dI H.size (a4 r) (a2 (4200 * r + i)) p1) (va_cwS 3 hts gX8_newKey_X8_compare rfl rfl rfl (by decide +kernel) ⟨(Nat.le_of_ble_eq_true rfl), (Nat.le_of_ble_eq_true rfl)⟩) ⟨pk_blind, pk_call hPc hKc hDc⟩ rfl rfl hl.1 rfl (lv_room (Nat.le_of_ble_eq_true rfl)) dX8_newKey_112 ⟨(Nat.le_of_ble_eq_true rfl), (Nat.le_of_ble_eq_true rfl)⟩) hS (fun q _ h => hFc q h) hFc (fun r_8 ur_8 t H1 locs ht hvm hw hB hz1 hk1 hS => ?_)
          try dsimp only at hw
          have jr_8 := hw
          obtain ⟨hP, hD⟩ := va_join (wr := [(q3, .inl (c3, 16, .inl a3)), (q4, .inl (c4, 16, .inl a4)), (q5, .inl (c5, 16, .inl a5)), (q6, .inl (c6, 16, .inl a6)), (q7, .inl (c7, 16, .inl a7)), (q15, .inl (c15, 4096, .inl a15)), (q1, .inl (c1, 16, .inl a1)), (q8, .inl (c8, 16, .inl a8)), (h0, .inr (8, [.int th, .ref q1, .ref q2, .ref q3, .ref q4, .ref q5, .ref q6, .ref q7, .ref q8, v9, v10, v11, v12, v13, v14, .ref q15, v16])), (q2, .inl (c2, 67200, .inl a2))]) (w1 := []) hP hD [] [0, 1, 2, 3, 4, 5, 6, 7, 8, 9] rfl rfl (by decide) (by decide) hk1 hFc tx_P0 tx_D0
          clear hk1 hz1 ht hPc hDc hKc hFc
          generalize H1 = H at hP hS ⊢
          replace hP : va_P (dC, dI) vwCl [(q3, .inl (c3, 16, .inl a3)), (q4, .inl (c4, 16, .inl a4)), (q5, .inl (c5, 16, .inl a5)), (q6, .inl (c6, 16, .inl a6)), (q7, .inl (c7, 16, .inl a7)), (q15, .inl (c15, 4096, .inl a15)), (q1, .inl (c1, 16, .inl a1)), (q8, .inl (c8, 16, .inl a8)), (h0, .inr (8, [.int th, .ref q1, .ref q2, .ref q3, .ref q4, .ref q5, .ref q6, .ref q7, .ref q8, v9, v10, v11, v12, v13, v14, .ref q15, v16])), (q2, .inl (c2, 67200, .inl a2))] H := hP
          replace hD : va_D A [(q3, .inl (c3, 16, .inl a3)), (q4, .inl (c4, 16, .inl a4)), (q5, .inl (c5, 16, .inl a5)), (q6, .inl (c6, 16, .inl a6)), (q7, .inl (c7, 16, .inl a7)), (q15, .inl (c15, 4096, .inl a15)), (q1, .inl (c1, 16, .inl a1)), (q8, .inl (c8, 16, .inl a8)), (h0, .inr (8, [.int th, .ref q1, .ref q2, .ref q3, .ref q4, .ref q5, .ref q6, .ref q7, .ref q8, v9, v10, v11, v12, v13, v14, .ref q15, v16])), (q2, .inl (c2, 67200, .inl a2))] := hD
          refine W.widen (k := 0) (n := 0) (Nat.le_of_ble_eq_true rfl) (Nat.le_of_ble_eq_true rfl) ?_
          refine W.eq (g2 := F0 m 115 ls [.int r_8]) rfl ?_
          refine lv_if_ge (tgt := 124) hx hb dX8_newKey_115 (by decide) (fun c_9 => ?_) (fun c_9 => ?_)
          ·
            have ic_9 : 0 ≤ r_8.toInt := tx_le (by decide) rfl c_9
            refine lv_aload_n hx hb dX8_newKey_124 rfl (lv_at hl 2 rfl) ?_
            refine lv_iload hx hb dX8_newKey_125 (lv_at hl 1 rfl) ?_
            refine lv_iload hx hb dX8_newKey_127 (lv_at hl 0 rfl) ?_
            refine lv_iload_n hx hb dX8_newKey_129 rfl (lv_at hl 4 rfl) ?_
            refine lv_iload_n hx hb dX8_newKey_130 rfl (lv_at hl 5 rfl) ?_
            have hPc := hP.sub (ws' := [(h0, .inr (8, [.int th, .ref q1, .ref q2, .ref q3, .ref q4, .ref q5, .ref q6, .ref q7, .ref q8, v9, v10, v11, v12, v13, v14, .ref q15, v16])), (q2, .inl (c2, 67200, .inl a2)), (q3, .inl (c3, 16, .inl a3)), (q7, .inl (c7, 16, .inl a7))]) [8, 9, 0, 4] rfl
            have hDc := hD.sub (ws' := [(h0, .inr (8, [.int th, .ref q1, .ref q2, .ref q3, .ref q4, .ref q5, .ref q6, .ref q7, .ref q8, v9, v10, v11, v12, v13, v14, .ref q15, v16])), (q2, .inl (c2, 67200, .inl a2)), (q3, .inl (c3, 16, .inl a3)), (q7, .inl (c7, 16, .inl a7))]) [8, 9, 0, 4] (by decide) rfl
            have hKc := hK.sub (tys' := [(c2, .int), (c3, .int), (c7, .int)]) [1, 2, 6] rfl
            have hFc := va_free (wc := [(h0, .inr (8, [.int th, .ref q1, .ref q2, .ref q3, .ref q4, .ref q5, .ref q6, .ref q7, .ref q8, v9, v10, v11, v12, v13, v14, .ref q15, v16])), (q2, .inl (c2, 67200, .inl a2)), (q3, .inl (c3, 16, .inl a3)), (q7, .inl (c7, 16, .inl a7))]) hD hS hA [8, 9, 0, 4] rfl
            refine va_callv (va_runV (As := [.int (nI r), .int (nI i), .int p1, .int p2]) (rest := []) ⟨hx, hb, hml, hown, hts⟩ (c_X8_comes l  dC dI H.size h0 th q2 q3 q7 c2 c3 c7 a2 a3 a7 (.ref q1) (.ref q4) (.ref q5) (.ref q6) (.ref q8) v9 v10 v11 v12 v13 v14 (.ref q15) v16 r i p1 p2 nz hr9 (by omega) hs9 (by omega)) (cwV 4 hts gX8_newKey_X8_comes rfl rfl rfl (by decide +kernel) ⟨(Nat.le_of_ble_eq_true rfl), (Nat.le_of_ble_eq_true rfl)⟩) ⟨pk_blind, va_recv hKc hPc (ci := 8) (q0 := 0) rfl rfl, pk_call hPc hKc hDc⟩ rfl rfl hl.1 rfl (lv_room (Nat.le_of_ble_eq_true rfl)) dX8_newKey_131 ⟨(Nat.le_of_ble_eq_true rfl), (Nat.le_of_ble_eq_true rfl)⟩) hS (fun q _ h => hFc q h) hFc (fun ur_10 t H1 locs ht hvm hw hB hz1 hk1 hS => ?_)
            try dsimp only at hw
            have jr_10 := hw
            obtain ⟨hP1, hK1, hD1⟩ := hB
            rw [ht] at hP1
            have hK1 := va_K.moved hvm.symm hK1
            obtain ⟨hP, hD⟩ := va_join (wr := [(q4, .inl (c4, 16, .inl a4)), (q5, .inl (c5, 16, .inl a5)), (q6, .inl (c6, 16, .inl a6)), (q15, .inl (c15, 4096, .inl a15)), (q1, .inl (c1, 16, .inl a1)), (q8, .inl (c8, 16, .inl a8))]) (w1 := [(h0, .inr (8, [.int th, .ref q1, .ref q2, .ref q3, .ref q4, .ref q5, .ref q6, .ref q7, .ref q8, v9, v10, v11, v12, v13, v14, .ref q15, v16])), (q2, .inl (c2, 67200, .inl ur_10)), (q3, .inl (c3, 16, .inl (upd a3 r (nI (nz + 1))))), (q7, .inl (c7, 16, .inl (upd a7 r (a7 r + 1))))]) hP hD [8, 9, 0, 4] [1, 2, 3, 5, 6, 7] rfl rfl (by decide) (by decide) hk1 hFc hP1 hD1
            clear hk1 hz1 ht hPc hDc hKc hFc
            generalize H1 = H at hP hS ⊢
            replace hP : va_P (dC, dI) vwCl [(q4, .inl (c4, 16, .inl a4)), (q5, .inl (c5, 16, .inl a5)), (q6, .inl (c6, 16, .inl a6)), (q15, .inl (c15, 4096, .inl a15)), (q1, .inl (c1, 16, .inl a1)), (q8, .inl (c8, 16, .inl a8)), (h0, .inr (8, [.int th, .ref q1, .ref q2, .ref q3, .ref q4, .ref q5, .ref q6, .ref q7, .ref q8, v9, v10, v11, v12, v13, v14, .ref q15, v16])), (q2, .inl (c2, 67200, .inl ur_10)), (q3, .inl (c3, 16, .inl (upd a3 r (nI (nz + 1))))), (q7, .inl (c7, 16, .inl (upd a7 r (a7 r + 1))))] H := hP
            replace hD : va_D A [(q4, .inl (c4, 16, .inl a4)), (q5, .inl (c5, 16, .inl a5)), (q6, .inl (c6, 16, .inl a6)), (q15, .inl (c15, 4096, .inl a15)), (q1, .inl (c1, 16, .inl a1)), (q8, .inl (c8, 16, .inl a8)), (h0, .inr (8, [.int th, .ref q1, .ref q2, .ref q3, .ref q4, .ref q5, .ref q6, .ref q7, .ref q8, v9, v10, v11, v12, v13, v14, .ref q15, v16])), (q2, .inl (c2, 67200, .inl ur_10)), (q3, .inl (c3, 16, .inl (upd a3 r (nI (nz + 1))))), (q7, .inl (c7, 16, .inl (upd a7 r (a7 r + 1))))] := hD
            refine W.widen (k := 0) (n := 0) (Nat.le_of_ble_eq_true rfl) (Nat.le_of_ble_eq_true rfl) ?_
            refine W.eq (g2 := F0 m 134 ls []) rfl ?_
            have jc := jr_10
            refine lv_goto (tgt := 145) hx hb dX8_newKey_134 (by decide) ?_
            have hP9 := hP.sub (ws' := [(h0, .inr (8, [.int th, .ref q1, .ref q2, .ref q3, .ref q4, .ref q5, .ref q6, .ref q7, .ref q8, v9, v10, v11, v12, v13, v14, .ref q15, v16])), (q1, .inl (c1, 16, .inl a1)), (q2, .inl (c2, 67200, .inl ur_10)), (q3, .inl (c3, 16, .inl (upd a3 r (nI (nz + 1))))), (q4, .inl (c4, 16, .inl a4)), (q5, .inl (c5, 16, .inl a5)), (q6, .inl (c6, 16, .inl a6)), (q7, .inl (c7, 16, .inl (upd a7 r (a7 r + 1)))), (q8, .inl (c8, 16, .inl a8)), (q15, .inl (c15, 4096, .inl a15))]) [6, 4, 7, 8, 0, 1, 2, 9, 5, 3] rfl
            have hD9 := hD.sub (ws' := [(h0, .inr (8, [.int th, .ref q1, .ref q2, .ref q3, .ref q4, .ref q5, .ref q6, .ref q7, .ref q8, v9, v10, v11, v12, v13, v14, .ref q15, v16])), (q1, .inl (c1, 16, .inl a1)), (q2, .inl (c2, 67200, .inl ur_10)), (q3, .inl (c3, 16, .inl (upd a3 r (nI (nz + 1))))), (q4, .inl (c4, 16, .inl a4)), (q5, .inl (c5, 16, .inl a5)), (q6, .inl (c6, 16, .inl a6)), (q7, .inl (c7, 16, .inl (upd a7 r (a7 r + 1)))), (q8, .inl (c8, 16, .inl a8)), (q15, .inl (c15, 4096, .inl a15))]) [6, 4, 7, 8, 0, 1, 2, 9, 5, 3] (by decide) rfl
            have hK9 := hK.sub (tys' := [(c1, .int), (c2, .int), (c3, .int), (c4, .int), (c5, .int), (c6, .int), (c7, .int), (c8, .int), (c15, .boolean)]) [0, 1, 2, 3, 4, 5, 6, 7, 8] rfl
            refine W.widen (k := 0) (n := 0) (Nat.le_of_ble_eq_true rfl) (Nat.le_of_ble_eq_true rfl) ?_
            exact W.vret hx hb hr (fun t ht hW => ⟨⟨(ur_10, (upd a3 r (nI (nz + 1))), a6, (upd a7 r (a7 r + 1)), a15), rfl, ⟨⟨1, Or.inl rfl, rs_1 jc (fun _ _ => rfl)⟩, ⟨nz + 1, tb, fi, pk_us, htb, by omega, fun h => absurd h (by omega), fun h => absurd h (by omega)⟩⟩, by rw [ht]; exact hP9, va_K.moved hW.alike hK9, hD9⟩, hS.F ht⟩) hS.2.2 dX8_newKey_145
          ·
            have ic_9 : r_8.toInt < 0 := tx_nle (by decide) rfl c_9
            refine lv_iinc (v := nI (i + 1)) (lv' := [(5, .int (nI (i + 1))), (4, .int (nI r)), (0, .ref h0), (1, .int (nI o)), (2, .int p1), (3, .int p2)]) hx hb dX8_newKey_118 hl (k := 0) rfl (by rw [show Int32.ofInt 1 = nI 1 from rfl, nI_add]) (by decide) rfl (fun ls hl => ?_)
            refine lv_goto (tgt := 84) hx hb dX8_newKey_121 (by decide) ?_
            exact ih (i := i + 1) (x9 := nI (i + 1)) (ex9 := rfl) (ls := ls) (H := H) (locs := locs) (hP := hP.sub (ws' := [(q2, .inl (c2, 67200, .inl a2)), (q3, .inl (c3, 16, .inl a3)), (q4, .inl (c4, 16, .inl a4)), (q5, .inl (c5, 16, .inl a5)), (q6, .inl (c6, 16, .inl a6)), (q7, .inl (c7, 16, .inl a7)), (q15, .inl (c15, 4096, .inl a15)), (h0, .inr (8, [.int th, .ref q1, .ref q2, .ref q3, .ref q4, .ref q5, .ref q6, .ref q7, .ref q8, v9, v10, v11, v12, v13, v14, .ref q15, v16])), (q1, .inl (c1, 16, .inl a1)), (q8, .inl (c8, 16, .inl a8))]) [9, 0, 1, 2, 3, 4, 5, 8, 6, 7] rfl) (hS := hS) (hi9 := by omega) (hn9 := by omega) (hl := lv_sub hl [0, 1, 2, 3, 4, 5] rfl)
  ·
    have ic_2 : (a1 r).toInt = 2 := tx_eq rfl (by decide) c_2
    refine lv_aload_n hx hb dX8_newKey_18 rfl (lv_at hl 1 rfl) ?_
    refine va_get (D := (dC, dI)) (ci := 8) (v := .ref q4) (C := RX8) (T := TX8) (N := 17) hx hb hts hi0_ hown hK hP 7 rfl rfl 4 (by decide) hw2_ (fun _ h9 => h9) rfl dX8_newKey_19 ?_
    refine lv_iload hx hb dX8_newKey_22 (lv_at hl 0 rfl) ?_
    refine va_iald (i := nI r) hx hb hK hP 2 3 rfl rfl (vp_in_nI (by omega) (by omega)) dX8_newKey_24 ?_
    refine W.eq (g2 := F0 m 25 ls [.int (a4 r)]) (by rw [nI_clamp (by omega)]) ?_
    have hf7 := (hk2 ic_2).2
    have hf8 : (a4 r).toInt = (fi : Int) := by rw [(hk2 ic_2).1]; exact nI_toInt (by omega)
    refine W.eq (g2 := F0 m 25 ls [.int (nI fi)]) (by rw [(hk2 ic_2).1]) ?_
    refine lv_if_le (tgt := 52) hx hb dX8_newKey_25 (by decide) (fun c_11 => ?_) (fun c_11 => ?_)
    ·
      have ic_11 : ((fi : Nat) : Int) ≤ 0 := tx_le (nI_toInt (by omega)) (by decide) c_11
      refine lv_aload_n hx hb dX8_newKey_52 rfl (lv_at hl 1 rfl) ?_
      refine lv_iload hx hb dX8_newKey_53 (lv_at hl 0 rfl) ?_
      refine lv_aload_n hx hb dX8_newKey_55 rfl (lv_at hl 1 rfl) ?_
      refine va_get (D := (dC, dI)) (ci := 8) (v := .ref q3) (C := RX8) (T := TX8) (N := 17) hx hb hts hi0_ hown hK hP 7 rfl rfl 3 (by decide) hw1_ (fun _ h9 => h9) rfl dX8_newKey_56 ?_
      refine lv_iload hx hb dX8_newKey_59 (lv_at hl 0 rfl) ?_
      refine va_iald (i := nI r) hx hb hK hP 1 2 rfl rfl (vp_in_nI (by omega) (by omega)) dX8_newKey_61 ?_
      refine W.eq (g2 := F0 m 62 ls [.int (a3 r), .int (nI r), .ref h0]) (by rw [nI_clamp (by omega)]) ?_
      refine W.eq (g2 := F0 m 62 ls [.int (nI nz), .int (nI r), .ref h0]) (by rw [hs9]) ?_
      refine lv_iload_n hx hb dX8_newKey_62 rfl (lv_at hl 3 rfl) ?_
      refine lv_iload_n hx hb dX8_newKey_63 rfl (lv_at hl 4 rfl) ?_
      have hPc := hP.sub (ws' := [(h0, .inr (8, [.int th, .ref q1, .ref q2, .ref q3, .ref q4, .ref q5, .ref q6, .ref q7, .ref q8, v9, v10, v11, v12, v13, v14, .ref q15, v16])), (q2, .inl (c2, 67200, .inl a2)), (q3, .inl (c3, 16, .inl a3)), (q7, .inl (c7, 16, .inl a7))]) [7, 0, 1, 5] rfl
      have hDc := hD.sub (ws' := [(h0, .inr (8, [.int th, .ref q1, .ref q2, .ref q3, .ref q4, .ref q5, .ref q6, .ref q7, .ref q8, v9, v10, v11, v12, v13, v14, .ref q15, v16])), (q2, .inl (c2, 67200, .inl a2)), (q3, .inl (c3, 16, .inl a3)), (q7, .inl (c7, 16, .inl a7))]) [7, 0, 1, 5] (by decide) rfl
      have hKc := hK.sub (tys' := [(c2, .int), (c3, .int), (c7, .int)]) [1, 2, 6] rfl
      have hFc := va_free (wc := [(h0, .inr (8, [.int th, .ref q1, .ref q2, .ref q3, .ref q4, .ref q5, .ref q6, .ref q7, .ref q8, v9, v10, v11, v12, v13, v14, .ref q15, v16])), (q2, .inl (c2, 67200, .inl a2)), (q3, .inl (c3, 16, .inl a3)), (q7, .inl (c7, 16, .inl a7))]) hD hS hA [7, 0, 1, 5] rfl
      refine va_callv (va_runV (As := [.int (nI r), .int (nI nz), .int p1, .int p2]) (rest := []) ⟨hx, hb, hml, hown, hts⟩ (c_X8_comes l  dC dI H.size h0 th q2 q3 q7 c2 c3 c7 a2 a3 a7 (.ref q1) (.ref q4) (.ref q5) (.ref q6) (.ref q8) v9 v10 v11 v12 v13 v14 (.ref q15) v16 r nz p1 p2 nz hr9 (by omega) hs9 (by omega)) (cwV 4 hts gX8_newKey_X8_comes rfl rfl rfl (by decide +kernel) ⟨(Nat.le_of_ble_eq_true rfl), (Nat.le_of_ble_eq_true rfl)⟩) ⟨pk_blind, va_recv hKc hPc (ci := 8) (q0 := 0) rfl rfl, pk_call hPc hKc hDc⟩ rfl rfl hl.1 rfl (lv_room (Nat.le_of_ble_eq_true rfl)) dX8_newKey_64 ⟨(Nat.le_of_ble_eq_true rfl), (Nat.le_of_ble_eq_true rfl)⟩) hS (fun q _ h => hFc q h) hFc (fun ur_12 t H1 locs ht hvm hw hB hz1 hk1 hS => ?_)
      try dsimp only at hw
      have jr_12 := hw
      obtain ⟨hP1, hK1, hD1⟩ := hB
      rw [ht] at hP1
      have hK1 := va_K.moved hvm.symm hK1
      obtain ⟨hP, hD⟩ := va_join (wr := [(q4, .inl (c4, 16, .inl a4)), (q5, .inl (c5, 16, .inl a5)), (q6, .inl (c6, 16, .inl a6)), (q15, .inl (c15, 4096, .inl a15)), (q1, .inl (c1, 16, .inl a1)), (q8, .inl (c8, 16, .inl a8))]) (w1 := [(h0, .inr (8, [.int th, .ref q1, .ref q2, .ref q3, .ref q4, .ref q5, .ref q6, .ref q7, .ref q8, v9, v10, v11, v12, v13, v14, .ref q15, v16])), (q2, .inl (c2, 67200, .inl ur_12)), (q3, .inl (c3, 16, .inl (upd a3 r (nI (nz + 1))))), (q7, .inl (c7, 16, .inl (upd a7 r (a7 r + 1))))]) hP hD [7, 0, 1, 5] [2, 3, 4, 6, 8, 9] rfl rfl (by decide) (by decide) hk1 hFc hP1 hD1
      clear hk1 hz1 ht hPc hDc hKc hFc
      generalize H1 = H at hP hS ⊢
      replace hP : va_P (dC, dI) vwCl [(q4, .inl (c4, 16, .inl a4)), (q5, .inl (c5, 16, .inl a5)), (q6, .inl (c6, 16, .inl a6)), (q15, .inl (c15, 4096, .inl a15)), (q1, .inl (c1, 16, .inl a1)), (q8, .inl (c8, 16, .inl a8)), (h0, .inr (8, [.int th, .ref q1, .ref q2, .ref q3, .ref q4, .ref q5, .ref q6, .ref q7, .ref q8, v9, v10, v11, v12, v13, v14, .ref q15, v16])), (q2, .inl (c2, 67200, .inl ur_12)), (q3, .inl (c3, 16, .inl (upd a3 r (nI (nz + 1))))), (q7, .inl (c7, 16, .inl (upd a7 r (a7 r + 1))))] H := hP
      replace hD : va_D A [(q4, .inl (c4, 16, .inl a4)), (q5, .inl (c5, 16, .inl a5)), (q6, .inl (c6, 16, .inl a6)), (q15, .inl (c15, 4096, .inl a15)), (q1, .inl (c1, 16, .inl a1)), (q8, .inl (c8, 16, .inl a8)), (h0, .inr (8, [.int th, .ref q1, .ref q2, .ref q3, .ref q4, .ref q5, .ref q6, .ref q7, .ref q8, v9, v10, v11, v12, v13, v14, .ref q15, v16])), (q2, .inl (c2, 67200, .inl ur_12)), (q3, .inl (c3, 16, .inl (upd a3 r (nI (nz + 1))))), (q7, .inl (c7, 16, .inl (upd a7 r (a7 r + 1))))] := hD
      refine W.widen (k := 0) (n := 0) (Nat.le_of_ble_eq_true rfl) (Nat.le_of_ble_eq_true rfl) ?_
      refine W.eq (g2 := F0 m 67 ls []) rfl ?_
      have jc := jr_12
      refine lv_goto (tgt := 145) hx hb dX8_newKey_67 (by decide) ?_
      have hP9 := hP.sub (ws' := [(h0, .inr (8, [.int th, .ref q1, .ref q2, .ref q3, .ref q4, .ref q5, .ref q6, .ref q7, .ref q8, v9, v10, v11, v12, v13, v14, .ref q15, v16])), (q1, .inl (c1, 16, .inl a1)), (q2, .inl (c2, 67200, .inl ur_12)), (q3, .inl (c3, 16, .inl (upd a3 r (nI (nz + 1))))), (q4, .inl (c4, 16, .inl a4)), (q5, .inl (c5, 16, .inl a5)), (q6, .inl (c6, 16, .inl a6)), (q7, .inl (c7, 16, .inl (upd a7 r (a7 r + 1)))), (q8, .inl (c8, 16, .inl a8)), (q15, .inl (c15, 4096, .inl a15))]) [6, 4, 7, 8, 0, 1, 2, 9, 5, 3] rfl
      have hD9 := hD.sub (ws' := [(h0, .inr (8, [.int th, .ref q1, .ref q2, .ref q3, .ref q4, .ref q5, .ref q6, .ref q7, .ref q8, v9, v10, v11, v12, v13, v14, .ref q15, v16])), (q1, .inl (c1, 16, .inl a1)), (q2, .inl (c2, 67200, .inl ur_12)), (q3, .inl (c3, 16, .inl (upd a3 r (nI (nz + 1))))), (q4, .inl (c4, 16, .inl a4)), (q5, .inl (c5, 16, .inl a5)), (q6, .inl (c6, 16, .inl a6)), (q7, .inl (c7, 16, .inl (upd a7 r (a7 r + 1)))), (q8, .inl (c8, 16, .inl a8)), (q15, .inl (c15, 4096, .inl a15))]) [6, 4, 7, 8, 0, 1, 2, 9, 5, 3] (by decide) rfl
      have hK9 := hK.sub (tys' := [(c1, .int), (c2, .int), (c3, .int), (c4, .int), (c5, .int), (c6, .int), (c7, .int), (c8, .int), (c15, .boolean)]) [0, 1, 2, 3, 4, 5, 6, 7, 8] rfl
      refine W.widen (k := 0) (n := 0) (Nat.le_of_ble_eq_true rfl) (Nat.le_of_ble_eq_true rfl) ?_
      exact W.vret hx hb hr (fun t ht hW => ⟨⟨(ur_12, (upd a3 r (nI (nz + 1))), a6, (upd a7 r (a7 r + 1)), a15), rfl, ⟨⟨1, Or.inl rfl, rs_1 jc (fun _ _ => rfl)⟩, ⟨nz + 1, tb, fi, pk_us, htb, by omega, fun h => absurd h (by omega), fun h => ⟨(hk2 h).1, (hk2 h).2.1, fun h3 => by omega⟩⟩⟩, by rw [ht]; exact hP9, va_K.moved hW.alike hK9, hD9⟩, hS.F ht⟩) hS.2.2 dX8_newKey_145
    ·
      have ic_11 : 0 < ((fi : Nat) : Int) := tx_nle (nI_toInt (by omega)) (by decide) c_11
      refine lv_aload_n hx hb dX8_newKey_28 rfl (lv_at hl 1 rfl) ?_
      refine va_get (D := (dC, dI)) (ci := 8) (v := .ref q3) (C := RX8) (T := TX8) (N := 17) hx hb hts hi0_ hown hK hP 7 rfl rfl 3 (by decide) hw1_ (fun _ h9 => h9) rfl dX8_newKey_29 ?_
      refine lv_iload hx hb dX8_newKey_32 (lv_at hl 0 rfl) ?_
      refine va_iald (i := nI r) hx hb hK hP 1 2 rfl rfl (vp_in_nI (by omega) (by omega)) dX8_newKey_34 ?_
      refine W.eq (g2 := F0 m 35 ls [.int (a3 r)]) (by rw [nI_clamp (by omega)]) ?_
      refine W.eq (g2 := F0 m 35 ls [.int (nI nz)]) (by rw [hs9]) ?_
      refine lv_aload_n hx hb dX8_newKey_35 rfl (lv_at hl 1 rfl) ?_
      refine va_get (D := (dC, dI)) (ci := 8) (v := .ref q4) (C := RX8) (T := TX8) (N := 17) hx hb hts hi0_ hown hK hP 7 rfl rfl 4 (by decide) hw2_ (fun _ h9 => h9) rfl dX8_newKey_36 ?_
      refine lv_iload hx hb dX8_newKey_39 (lv_at hl 0 rfl) ?_
      refine va_iald (i := nI r) hx hb hK hP 2 3 rfl rfl (vp_in_nI (by omega) (by omega)) dX8_newKey_41 ?_
      refine W.eq (g2 := F0 m 42 ls [.int (a4 r), .int (nI nz)]) (by rw [nI_clamp (by omega)]) ?_
      refine W.eq (g2 := F0 m 42 ls [.int (nI fi), .int (nI nz)]) (by rw [(hk2 ic_2).1]) ?_
      refine lv_icmp_ne (tgt := 52) hx hb dX8_newKey_42 (by decide) (fun c_13 => ?_) (fun c_13 => ?_)
      ·
        have ic_13 : ¬ ((nz : Nat) : Int) = ((fi : Nat) : Int) := tx_ne (nI_toInt (by omega)) (nI_toInt (by omega)) c_13
        refine lv_aload_n hx hb dX8_newKey_52 rfl (lv_at hl 1 rfl) ?_
        refine lv_iload hx hb dX8_newKey_53 (lv_at hl 0 rfl) ?_
        refine lv_aload_n hx hb dX8_newKey_55 rfl (lv_at hl 1 rfl) ?_
        refine va_get (D := (dC, dI)) (ci := 8) (v := .ref q3) (C := RX8) (T := TX8) (N := 17) hx hb hts hi0_ hown hK hP 7 rfl rfl 3 (by decide) hw1_ (fun _ h9 => h9) rfl dX8_newKey_56 ?_
        refine lv_iload hx hb dX8_newKey_59 (lv_at hl 0 rfl) ?_
        refine va_iald (i := nI r) hx hb hK hP 1 2 rfl rfl (vp_in_nI (by omega) (by omega)) dX8_newKey_61 ?_
        refine W.eq (g2 := F0 m 62 ls [.int (a3 r), .int (nI r), .ref h0]) (by rw [nI_clamp (by omega)]) ?_
        refine W.eq (g2 := F0 m 62 ls [.int (nI nz), .int (nI r), .ref h0]) (by rw [hs9]) ?_
        refine lv_iload_n hx hb dX8_newKey_62 rfl (lv_at hl 3 rfl) ?_
        refine lv_iload_n hx hb dX8_newKey_63 rfl (lv_at hl 4 rfl) ?_
        have hPc := hP.sub (ws' := [(h0, .inr (8, [.int th, .ref q1, .ref q2, .ref q3, .ref q4, .ref q5, .ref q6, .ref q7, .ref q8, v9, v10, v11, v12, v13, v14, .ref q15, v16])), (q2, .inl (c2, 67200, .inl a2)), (q3, .inl (c3, 16, .inl a3)), (q7, .inl (c7, 16, .inl a7))]) [7, 0, 1, 5] rfl
        have hDc := hD.sub (ws' := [(h0, .inr (8, [.int th, .ref q1, .ref q2, .ref q3, .ref q4, .ref q5, .ref q6, .ref q7, .ref q8, v9, v10, v11, v12, v13, v14, .ref q15, v16])), (q2, .inl (c2, 67200, .inl a2)), (q3, .inl (c3, 16, .inl a3)), (q7, .inl (c7, 16, .inl a7))]) [7, 0, 1, 5] (by decide) rfl
        have hKc := hK.sub (tys' := [(c2, .int), (c3, .int), (c7, .int)]) [1, 2, 6] rfl
        have hFc := va_free (wc := [(h0, .inr (8, [.int th, .ref q1, .ref q2, .ref q3, .ref q4, .ref q5, .ref q6, .ref q7, .ref q8, v9, v10, v11, v12, v13, v14, .ref q15, v16])), (q2, .inl (c2, 67200, .inl a2)), (q3, .inl (c3, 16, .inl a3)), (q7, .inl (c7, 16, .inl a7))]) hD hS hA [7, 0, 1, 5] rfl
        refine va_callv (va_runV (As := [.int (nI r), .int (nI nz), .int p1, .int p2]) (rest := []) ⟨hx, hb, hml, hown, hts⟩ (c_X8_comes l  dC dI H.size h0 th q2 q3 q7 c2 c3 c7 a2 a3 a7 (.ref q1) (.ref q4) (.ref q5) (.ref q6) (.ref q8) v9 v10 v11 v12 v13 v14 (.ref q15) v16 r nz p1 p2 nz hr9 (by omega) hs9 (by omega)) (cwV 4 hts gX8_newKey_X8_comes rfl rfl rfl (by decide +kernel) ⟨(Nat.le_of_ble_eq_true rfl), (Nat.le_of_ble_eq_true rfl)⟩) ⟨pk_blind, va_recv hKc hPc (ci := 8) (q0 := 0) rfl rfl, pk_call hPc hKc hDc⟩ rfl rfl hl.1 rfl (lv_room (Nat.le_of_ble_eq_true rfl)) dX8_newKey_64 ⟨(Nat.le_of_ble_eq_true rfl), (Nat.le_of_ble_eq_true rfl)⟩) hS (fun q _ h => hFc q h) hFc (fun ur_14 t H1 locs ht hvm hw hB hz1 hk1 hS => ?_)
        try dsimp only at hw
        have jr_14 := hw
        obtain ⟨hP1, hK1, hD1⟩ := hB
        rw [ht] at hP1
        have hK1 := va_K.moved hvm.symm hK1
        obtain ⟨hP, hD⟩ := va_join (wr := [(q4, .inl (c4, 16, .inl a4)), (q5, .inl (c5, 16, .inl a5)), (q6, .inl (c6, 16, .inl a6)), (q15, .inl (c15, 4096, .inl a15)), (q1, .inl (c1, 16, .inl a1)), (q8, .inl (c8, 16, .inl a8))]) (w1 := [(h0, .inr (8, [.int th, .ref q1, .ref q2, .ref q3, .ref q4, .ref q5, .ref q6, .ref q7, .ref q8, v9, v10, v11, v12, v13, v14, .ref q15, v16])), (q2, .inl (c2, 67200, .inl ur_14)), (q3, .inl (c3, 16, .inl (upd a3 r (nI (nz + 1))))), (q7, .inl (c7, 16, .inl (upd a7 r (a7 r + 1))))]) hP hD [7, 0, 1, 5] [2, 3, 4, 6, 8, 9] rfl rfl (by decide) (by decide) hk1 hFc hP1 hD1
        clear hk1 hz1 ht hPc hDc hKc hFc
        generalize H1 = H at hP hS ⊢
        replace hP : va_P (dC, dI) vwCl [(q4, .inl (c4, 16, .inl a4)), (q5, .inl (c5, 16, .inl a5)), (q6, .inl (c6, 16, .inl a6)), (q15, .inl (c15, 4096, .inl a15)), (q1, .inl (c1, 16, .inl a1)), (q8, .inl (c8, 16, .inl a8)), (h0, .inr (8, [.int th, .ref q1, .ref q2, .ref q3, .ref q4, .ref q5, .ref q6, .ref q7, .ref q8, v9, v10, v11, v12, v13, v14, .ref q15, v16])), (q2, .inl (c2, 67200, .inl ur_14)), (q3, .inl (c3, 16, .inl (upd a3 r (nI (nz + 1))))), (q7, .inl (c7, 16, .inl (upd a7 r (a7 r + 1))))] H := hP
        replace hD : va_D A [(q4, .inl (c4, 16, .inl a4)), (q5, .inl (c5, 16, .inl a5)), (q6, .inl (c6, 16, .inl a6)), (q15, .inl (c15, 4096, .inl a15)), (q1, .inl (c1, 16, .inl a1)), (q8, .inl (c8, 16, .inl a8)), (h0, .inr (8, [.int th, .ref q1, .ref q2, .ref q3, .ref q4, .ref q5, .ref q6, .ref q7, .ref q8, v9, v10, v11, v12, v13, v14, .ref q15, v16])), (q2, .inl (c2, 67200, .inl ur_14)), (q3, .inl (c3, 16, .inl (upd a3 r (nI (nz + 1))))), (q7, .inl (c7, 16, .inl (upd a7 r (a7 r + 1))))] := hD
        refine W.widen (k := 0) (n := 0) (Nat.le_of_ble_eq_true rfl) (Nat.le_of_ble_eq_true rfl) ?_
        refine W.eq (g2 := F0 m 67 ls []) rfl ?_
        have jc := jr_14
        refine lv_goto (tgt := 145) hx hb dX8_newKey_67 (by decide) ?_
        have hP9 := hP.sub (ws' := [(h0, .inr (8, [.int th, .ref q1, .ref q2, .ref q3, .ref q4, .ref q5, .ref q6, .ref q7, .ref q8, v9, v10, v11, v12, v13, v14, .ref q15, v16])), (q1, .inl (c1, 16, .inl a1)), (q2, .inl (c2, 67200, .inl ur_14)), (q3, .inl (c3, 16, .inl (upd a3 r (nI (nz + 1))))), (q4, .inl (c4, 16, .inl a4)), (q5, .inl (c5, 16, .inl a5)), (q6, .inl (c6, 16, .inl a6)), (q7, .inl (c7, 16, .inl (upd a7 r (a7 r + 1)))), (q8, .inl (c8, 16, .inl a8)), (q15, .inl (c15, 4096, .inl a15))]) [6, 4, 7, 8, 0, 1, 2, 9, 5, 3] rfl
        have hD9 := hD.sub (ws' := [(h0, .inr (8, [.int th, .ref q1, .ref q2, .ref q3, .ref q4, .ref q5, .ref q6, .ref q7, .ref q8, v9, v10, v11, v12, v13, v14, .ref q15, v16])), (q1, .inl (c1, 16, .inl a1)), (q2, .inl (c2, 67200, .inl ur_14)), (q3, .inl (c3, 16, .inl (upd a3 r (nI (nz + 1))))), (q4, .inl (c4, 16, .inl a4)), (q5, .inl (c5, 16, .inl a5)), (q6, .inl (c6, 16, .inl a6)), (q7, .inl (c7, 16, .inl (upd a7 r (a7 r + 1)))), (q8, .inl (c8, 16, .inl a8)), (q15, .inl (c15, 4096, .inl a15))]) [6, 4, 7, 8, 0, 1, 2, 9, 5, 3] (by decide) rfl
        have hK9 := hK.sub (tys' := [(c1, .int), (c2, .int), (c3, .int), (c4, .int), (c5, .int), (c6, .int), (c7, .int), (c8, .int), (c15, .boolean)]) [0, 1, 2, 3, 4, 5, 6, 7, 8] rfl
        refine W.widen (k := 0) (n := 0) (Nat.le_of_ble_eq_true rfl) (Nat.le_of_ble_eq_true rfl) ?_
        exact W.vret hx hb hr (fun t ht hW => ⟨⟨(ur_14, (upd a3 r (nI (nz + 1))), a6, (upd a7 r (a7 r + 1)), a15), rfl, ⟨⟨1, Or.inl rfl, rs_1 jc (fun _ _ => rfl)⟩, ⟨nz + 1, tb, fi, pk_us, htb, by omega, fun h => absurd h (by omega), fun h => ⟨(hk2 h).1, (hk2 h).2.1, fun h3 => by omega⟩⟩⟩, by rw [ht]; exact hP9, va_K.moved hW.alike hK9, hD9⟩, hS.F ht⟩) hS.2.2 dX8_newKey_145
      ·
        have ic_13 : ((nz : Nat) : Int) = ((fi : Nat) : Int) := tx_eq (nI_toInt (by omega)) (nI_toInt (by omega)) c_13
        refine lv_aload_n hx hb dX8_newKey_45 rfl (lv_at hl 1 rfl) ?_
        refine lv_iload hx hb dX8_newKey_46 (lv_at hl 0 rfl) ?_
        refine lv_iconst (v := 0) hx hb dX8_newKey_48 (by decide) ?_
        refine W.eq (g2 := F0 m 49 ls [.int (nI 0), .int (nI r), .ref h0]) rfl ?_
        have hPc := hP.sub (ws' := [(h0, .inr (8, [.int th, .ref q1, .ref q2, .ref q3, .ref q4, .ref q5, .ref q6, .ref q7, .ref q8, v9, v10, v11, v12, v13, v14, .ref q15, v16])), (q1, .inl (c1, 16, .inl a1)), (q2, .inl (c2, 67200, .inl a2)), (q3, .inl (c3, 16, .inl a3)), (q5, .inl (c5, 16, .inl a5)), (q6, .inl (c6, 16, .inl a6)), (q7, .inl (c7, 16, .inl a7))]) [7, 8, 0, 1, 3, 4, 5] rfl
        have hDc := hD.sub (ws' := [(h0, .inr (8, [.int th, .ref q1, .ref q2, .ref q3, .ref q4, .ref q5, .ref q6, .ref q7, .ref q8, v9, v10, v11, v12, v13, v14, .ref q15, v16])), (q1, .inl (c1, 16, .inl a1)), (q2, .inl (c2, 67200, .inl a2)), (q3, .inl (c3, 16, .inl a3)), (q5, .inl (c5, 16, .inl a5)), (q6, .inl (c6, 16, .inl a6)), (q7, .inl (c7, 16, .inl a7))]) [7, 8, 0, 1, 3, 4, 5] (by decide) rfl
        have hKc := hK.sub (tys' := [(c1, .int), (c2, .int), (c3, .int), (c5, .int), (c6, .int), (c7, .int)]) [0, 1, 2, 4, 5, 6] rfl
        have hFc := va_free (wc := [(h0, .inr (8, [.int th, .ref q1, .ref q2, .ref q3, .ref q4, .ref q5, .ref q6, .ref q7, .ref q8, v9, v10, v11, v12, v13, v14, .ref q15, v16])), (q1, .inl (c1, 16, .inl a1)), (q2, .inl (c2, 67200, .inl a2)), (q3, .inl (c3, 16, .inl a3)), (q5, .inl (c5, 16, .inl a5)), (q6, .inl (c6, 16, .inl a6)), (q7, .inl (c7, 16, .inl a7))]) hD hS hA [7, 8, 0, 1, 3, 4, 5] rfl
        refine va_callv (va_runV (As := [.int (nI r), .int (nI 0)]) (rest := []) ⟨hx, hb, hml, hown, hts⟩ (c_X8_goes l  dC dI H.size h0 th q1 q2 q3 q5 q6 q7 c1 c2 c3 c5 c6 c7 a1 a2 a3 a5 a6 a7 (.ref q4) (.ref q8) v9 v10 v11 v12 v13 v14 (.ref q15) v16 r 0 tb nz hr9 (by omega) hs9 hz9 (fun h => absurd h (by omega))) (cwV 2 hts gX8_newKey_X8_goes rfl rfl rfl (by decide +kernel) ⟨(Nat.le_of_ble_eq_true rfl), (Nat.le_of_ble_eq_true rfl)⟩) ⟨pk_blind, va_recv hKc hPc (ci := 8) (q0 := 0) rfl rfl, pk_call hPc hKc hDc⟩ rfl rfl hl.1 rfl (lv_room (Nat.le_of_ble_eq_true rfl)) dX8_newKey_49 ⟨(Nat.le_of_ble_eq_true rfl), (Nat.le_of_ble_eq_true rfl)⟩) hS (fun q _ h => hFc q h) hFc (fun ur_15 t H1 locs ht hvm hw hB hz1 hk1 hS => ?_)
        try dsimp only at hw
        have jr_15 := hw
        obtain ⟨hP1, hK1, hD1⟩ := hB
        rw [ht] at hP1
        have hK1 := va_K.moved hvm.symm hK1
        obtain ⟨hP, hD⟩ := va_join (wr := [(q4, .inl (c4, 16, .inl a4)), (q15, .inl (c15, 4096, .inl a15)), (q8, .inl (c8, 16, .inl a8))]) (w1 := [(h0, .inr (8, [.int th, .ref q1, .ref q2, .ref q3, .ref q4, .ref q5, .ref q6, .ref q7, .ref q8, v9, v10, v11, v12, v13, v14, .ref q15, v16])), (q1, .inl (c1, 16, .inl a1)), (q2, .inl (c2, 67200, .inl ur_15)), (q3, .inl (c3, 16, .inl (upd a3 r (nI (nz - 1))))), (q5, .inl (c5, 16, .inl a5)), (q6, .inl (c6, 16, .inl a6)), (q7, .inl (c7, 16, .inl (upd a7 r (a7 r + 1))))]) hP hD [7, 8, 0, 1, 3, 4, 5] [2, 6, 9] rfl rfl (by decide) (by decide) hk1 hFc hP1 hD1
        clear hk1 hz1 ht hPc hDc hKc hFc
        generalize H1 = H at hP hS ⊢
        replace hP : va_P (dC, dI) vwCl [(q4, .inl (c4, 16, .inl a4)), (q15, .inl (c15, 4096, .inl a15)), (q8, .inl (c8, 16, .inl a8)), (h0, .inr (8, [.int th, .ref q1, .ref q2, .ref q3, .ref q4, .ref q5, .ref q6, .ref q7, .ref q8, v9, v10, v11, v12, v13, v14, .ref q15, v16])), (q1, .inl (c1, 16, .inl a1)), (q2, .inl (c2, 67200, .inl ur_15)), (q3, .inl (c3, 16, .inl (upd a3 r (nI (nz - 1))))), (q5, .inl (c5, 16, .inl a5)), (q6, .inl (c6, 16, .inl a6)), (q7, .inl (c7, 16, .inl (upd a7 r (a7 r + 1))))] H := hP
        replace hD : va_D A [(q4, .inl (c4, 16, .inl a4)), (q15, .inl (c15, 4096, .inl a15)), (q8, .inl (c8, 16, .inl a8)), (h0, .inr (8, [.int th, .ref q1, .ref q2, .ref q3, .ref q4, .ref q5, .ref q6, .ref q7, .ref q8, v9, v10, v11, v12, v13, v14, .ref q15, v16])), (q1, .inl (c1, 16, .inl a1)), (q2, .inl (c2, 67200, .inl ur_15)), (q3, .inl (c3, 16, .inl (upd a3 r (nI (nz - 1))))), (q5, .inl (c5, 16, .inl a5)), (q6, .inl (c6, 16, .inl a6)), (q7, .inl (c7, 16, .inl (upd a7 r (a7 r + 1))))] := hD
        refine W.widen (k := 0) (n := 0) (Nat.le_of_ble_eq_true rfl) (Nat.le_of_ble_eq_true rfl) ?_
        refine W.eq (g2 := F0 m 52 ls []) rfl ?_
        have jg := jr_15
        refine lv_aload_n hx hb dX8_newKey_52 rfl (lv_at hl 1 rfl) ?_
        refine lv_iload hx hb dX8_newKey_53 (lv_at hl 0 rfl) ?_
        refine lv_aload_n hx hb dX8_newKey_55 rfl (lv_at hl 1 rfl) ?_
        refine va_get (D := (dC, dI)) (ci := 8) (v := .ref q3) (C := RX8) (T := TX8) (N := 17) hx hb hts hi0_ hown hK hP 3 rfl rfl 3 (by decide) hw1_ (fun _ h9 => h9) rfl dX8_newKey_56 ?_
        refine lv_iload hx hb dX8_newKey_59 (lv_at hl 0 rfl) ?_
        refine va_iald (i := nI r) hx hb hK hP 6 2 rfl rfl (vp_in_nI (by omega) (by omega)) dX8_newKey_61 ?_
        refine W.eq (g2 := F0 m 62 ls [.int ((upd a3 r (nI (nz - 1))) r), .int (nI r), .ref h0]) (by rw [nI_clamp (by omega)]) ?_
        refine W.eq (g2 := F0 m 62 ls [.int (nI (nz - 1)), .int (nI r), .ref h0]) (by rw [pk_us]) ?_
        refine lv_iload_n hx hb dX8_newKey_62 rfl (lv_at hl 3 rfl) ?_
        refine lv_iload_n hx hb dX8_newKey_63 rfl (lv_at hl 4 rfl) ?_
        have hPc := hP.sub (ws' := [(h0, .inr (8, [.int th, .ref q1, .ref q2, .ref q3, .ref q4, .ref q5, .ref q6, .ref q7, .ref q8, v9, v10, v11, v12, v13, v14, .ref q15, v16])), (q2, .inl (c2, 67200, .inl ur_15)), (q3, .inl (c3, 16, .inl (upd a3 r (nI (nz - 1))))), (q7, .inl (c7, 16, .inl (upd a7 r (a7 r + 1))))]) [3, 5, 6, 9] rfl
        have hDc := hD.sub (ws' := [(h0, .inr (8, [.int th, .ref q1, .ref q2, .ref q3, .ref q4, .ref q5, .ref q6, .ref q7, .ref q8, v9, v10, v11, v12, v13, v14, .ref q15, v16])), (q2, .inl (c2, 67200, .inl ur_15)), (q3, .inl (c3, 16, .inl (upd a3 r (nI (nz - 1))))), (q7, .inl (c7, 16, .inl (upd a7 r (a7 r + 1))))]) [3, 5, 6, 9] (by decide) rfl
        have hKc := hK.sub (tys' := [(c2, .int), (c3, .int), (c7, .int)]) [1, 2, 6] rfl
        have hFc := va_free (wc := [(h0, .inr (8, [.int th, .ref q1, .ref q2, .ref q3, .ref q4, .ref q5, .ref q6, .ref q7, .ref q8, v9, v10, v11, v12, v13, v14, .ref q15, v16])), (q2, .inl (c2, 67200, .inl ur_15)), (q3, .inl (c3, 16, .inl (upd a3 r (nI (nz - 1))))), (q7, .inl (c7, 16, .inl (upd a7 r (a7 r + 1))))]) hD hS hA [3, 5, 6, 9] rfl
        refine va_callv (va_runV (As := [.int (nI r), .int (nI (nz - 1)), .int p1, .int p2]) (rest := []) ⟨hx, hb, hml, hown, hts⟩ (c_X8_comes l  dC dI H.size h0 th q2 q3 q7 c2 c3 c7 ur_15 (upd a3 r (nI (nz - 1))) (upd a7 r (a7 r + 1)) (.ref q1) (.ref q4) (.ref q5) (.ref q6) (.ref q8) v9 v10 v11 v12 v13 v14 (.ref q15) v16 r (nz - 1) p1 p2 (nz - 1) hr9 (by omega) pk_us (by omega)) (cwV 4 hts gX8_newKey_X8_comes rfl rfl rfl (by decide +kernel) ⟨(Nat.le_of_ble_eq_true rfl), (Nat.le_of_ble_eq_true rfl)⟩) ⟨pk_blind, va_recv hKc hPc (ci := 8) (q0 := 0) rfl rfl, pk_call hPc hKc hDc⟩ rfl rfl hl.1 rfl (lv_room (Nat.le_of_ble_eq_true rfl)) dX8_newKey_64 ⟨(Nat.le_of_ble_eq_true rfl), (Nat.le_of_ble_eq_true rfl)⟩) hS (fun q _ h => hFc q h) hFc (fun ur_16 t H1 locs ht hvm hw hB hz1 hk1 hS => ?_)
        try dsimp only at hw
        have jr_16 := hw
        obtain ⟨hP1, hK1, hD1⟩ := hB
        rw [ht] at hP1
        have hK1 := va_K.moved hvm.symm hK1
        obtain ⟨hP, hD⟩ := va_join (wr := [(q4, .inl (c4, 16, .inl a4)), (q15, .inl (c15, 4096, .inl a15)), (q8, .inl (c8, 16, .inl a8)), (q1, .inl (c1, 16, .inl a1)), (q5, .inl (c5, 16, .inl a5)), (q6, .inl (c6, 16, .inl a6))]) (w1 := [(h0, .inr (8, [.int th, .ref q1, .ref q2, .ref q3, .ref q4, .ref q5, .ref q6, .ref q7, .ref q8, v9, v10, v11, v12, v13, v14, .ref q15, v16])), (q2, .inl (c2, 67200, .inl ur_16)), (q3, .inl (c3, 16, .inl (upd (upd a3 r (nI (nz - 1))) r (nI (nz - 1 + 1))))), (q7, .inl (c7, 16, .inl (upd (upd a7 r (a7 r + 1)) r ((upd a7 r (a7 r + 1)) r + 1))))]) hP hD [3, 5, 6, 9] [0, 1, 2, 4, 7, 8] rfl rfl (by decide) (by decide) hk1 hFc hP1 hD1
        clear hk1 hz1 ht hPc hDc hKc hFc
        generalize H1 = H at hP hS ⊢
        replace hP : va_P (dC, dI) vwCl [(q4, .inl (c4, 16, .inl a4)), (q15, .inl (c15, 4096, .inl a15)), (q8, .inl (c8, 16, .inl a8)), (q1, .inl (c1, 16, .inl a1)), (q5, .inl (c5, 16, .inl a5)), (q6, .inl (c6, 16, .inl a6)), (h0, .inr (8, [.int th, .ref q1, .ref q2, .ref q3, .ref q4, .ref q5, .ref q6, .ref q7, .ref q8, v9, v10, v11, v12, v13, v14, .ref q15, v16])), (q2, .inl (c2, 67200, .inl ur_16)), (q3, .inl (c3, 16, .inl (upd (upd a3 r (nI (nz - 1))) r (nI (nz - 1 + 1))))), (q7, .inl (c7, 16, .inl (upd (upd a7 r (a7 r + 1)) r ((upd a7 r (a7 r + 1)) r + 1))))] H := hP
        replace hD : va_D A [(q4, .inl (c4, 16, .inl a4)), (q15, .inl (c15, 4096, .inl a15)), (q8, .inl (c8, 16, .inl a8)), (q1, .inl (c1, 16, .inl a1)), (q5, .inl (c5, 16, .inl a5)), (q6, .inl (c6, 16, .inl a6)), (h0, .inr (8, [.int th, .ref q1, .ref q2, .ref q3, .ref q4, .ref q5, .ref q6, .ref q7, .ref q8, v9, v10, v11, v12, v13, v14, .ref q15, v16])), (q2, .inl (c2, 67200, .inl ur_16)), (q3, .inl (c3, 16, .inl (upd (upd a3 r (nI (nz - 1))) r (nI (nz - 1 + 1))))), (q7, .inl (c7, 16, .inl (upd (upd a7 r (a7 r + 1)) r ((upd a7 r (a7 r + 1)) r + 1))))] := hD
        refine W.widen (k := 0) (n := 0) (Nat.le_of_ble_eq_true rfl) (Nat.le_of_ble_eq_true rfl) ?_
        refine W.eq (g2 := F0 m 67 ls []) rfl ?_
        have jc := jr_16
        refine lv_goto (tgt := 145) hx hb dX8_newKey_67 (by decide) ?_
        have hP9 := hP.sub (ws' := [(h0, .inr (8, [.int th, .ref q1, .ref q2, .ref q3, .ref q4, .ref q5, .ref q6, .ref q7, .ref q8, v9, v10, v11, v12, v13, v14, .ref q15, v16])), (q1, .inl (c1, 16, .inl a1)), (q2, .inl (c2, 67200, .inl ur_16)), (q3, .inl (c3, 16, .inl (upd (upd a3 r (nI (nz - 1))) r (nI (nz - 1 + 1))))), (q4, .inl (c4, 16, .inl a4)), (q5, .inl (c5, 16, .inl a5)), (q6, .inl (c6, 16, .inl a6)), (q7, .inl (c7, 16, .inl (upd (upd a7 r (a7 r + 1)) r ((upd a7 r (a7 r + 1)) r + 1)))), (q8, .inl (c8, 16, .inl a8)), (q15, .inl (c15, 4096, .inl a15))]) [6, 3, 7, 8, 0, 4, 5, 9, 2, 1] rfl
        have hD9 := hD.sub (ws' := [(h0, .inr (8, [.int th, .ref q1, .ref q2, .ref q3, .ref q4, .ref q5, .ref q6, .ref q7, .ref q8, v9, v10, v11, v12, v13, v14, .ref q15, v16])), (q1, .inl (c1, 16, .inl a1)), (q2, .inl (c2, 67200, .inl ur_16)), (q3, .inl (c3, 16, .inl (upd (upd a3 r (nI (nz - 1))) r (nI (nz - 1 + 1))))), (q4, .inl (c4, 16, .inl a4)), (q5, .inl (c5, 16, .inl a5)), (q6, .inl (c6, 16, .inl a6)), (q7, .inl (c7, 16, .inl (upd (upd a7 r (a7 r + 1)) r ((upd a7 r (a7 r + 1)) r + 1)))), (q8, .inl (c8, 16, .inl a8)), (q15, .inl (c15, 4096, .inl a15))]) [6, 3, 7, 8, 0, 4, 5, 9, 2, 1] (by decide) rfl
        have hK9 := hK.sub (tys' := [(c1, .int), (c2, .int), (c3, .int), (c4, .int), (c5, .int), (c6, .int), (c7, .int), (c8, .int), (c15, .boolean)]) [0, 1, 2, 3, 4, 5, 6, 7, 8] rfl
        refine W.widen (k := 0) (n := 0) (Nat.le_of_ble_eq_true rfl) (Nat.le_of_ble_eq_true rfl) ?_
        exact W.vret hx hb hr (fun t ht hW => ⟨⟨(ur_16, (upd (upd a3 r (nI (nz - 1))) r (nI (nz - 1 + 1))), a6, (upd (upd a7 r (a7 r + 1)) r ((upd a7 r (a7 r + 1)) r + 1)), a15), rfl, ⟨⟨2, Or.inr rfl, rs_tr (rs_1 jg.1 (fun _ _ => rfl)) (rs_1 jc (fun _ _ => rfl))⟩, ⟨nz - 1 + 1, tb, fi, pk_us, htb, by omega, fun h => absurd h (by omega), fun h => ⟨(hk2 h).1, (hk2 h).2.1, fun h3 => by omega⟩⟩⟩, by rw [ht]; exact hP9, va_K.moved hW.alike hK9, hD9⟩, hS.F ht⟩) hS.2.2 dX8_newKey_145
