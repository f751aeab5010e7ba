theorem dX8_put_0 : decode cX8_put 0 = .ok (.aload_n 0, 1) := by decide +kernel
theorem dX8_put_1 : decode cX8_put 1 = .ok (.iload_n 1, 1) := by decide +kernel
set_option maxRecDepth 20000 in
theorem ggX8_put_X8_root : GoodIn wsX8_put wsX8_root := goodIn_r _ [8, 9, 10, 94, 95, 96, 97, 98, 99, 100, 101, 102, 103, 104, 105, 106, 107, 108, 109, 110] rfl (by decide +kernel)
set_option maxRecDepth 20000 in
theorem gX8_put_X8_root : GoodIn wsX8_put (wsV RX8 95 RX8 yX8_root wsX8_root) := goodIn_app (goodIn_of _ (by decide +kernel)) ggX8_put_X8_root
theorem dX8_put_2 : decode cX8_put 2 = .ok (.invokevirtual 95, 3) := by decide +kernel
theorem dX8_put_5 : decode cX8_put 5 = .ok (.istore 8, 2) := by decide +kernel
theorem dX8_put_7 : decode cX8_put 7 = .ok (.iload 5, 2) := by decide +kernel
theorem dX8_put_9 : decode cX8_put 9 = .ok (.ifCond .ge 82, 3) := by decide +kernel
theorem dX8_put_91 : decode cX8_put 91 = .ok (.iload_n 2, 1) := by decide +kernel
theorem dX8_put_92 : decode cX8_put 92 = .ok (.bipush 8, 2) := by decide +kernel
theorem dX8_put_94 : decode cX8_put 94 = .ok (.if_icmp .ne 24, 3) := by decide +kernel
theorem dX8_put_118 : decode cX8_put 118 = .ok (.aload_n 0, 1) := by decide +kernel
theorem dX8_put_119 : decode cX8_put 119 = .ok (.iload_n 1, 1) := by decide +kernel
theorem dX8_put_120 : decode cX8_put 120 = .ok (.iload 5, 2) := by decide +kernel
set_option maxRecDepth 20000 in
theorem ggX8_put_X8_touched : GoodIn wsX8_put wsX8_touched := goodIn_r _ [93, 9, 62, 2, 53, 4, 5, 6, 7, 8, 10, 54, 55, 56, 57, 3, 65, 66, 67, 68, 69, 70, 71, 72, 94, 95, 96, 97, 98, 99, 100, 101, 102, 103, 104, 105, 106, 107, 108, 109, 110] rfl (by decide +kernel)
set_option maxRecDepth 20000 in
theorem gX8_put_X8_touched : GoodIn wsX8_put (wsV RX8 155 RX8 yX8_touched wsX8_touched) := goodIn_app (goodIn_of _ (by decide +kernel)) ggX8_put_X8_touched
theorem dX8_put_122 : decode cX8_put 122 = .ok (.invokevirtual 155, 3) := by decide +kernel
theorem dX8_put_125 : decode cX8_put 125 = .ok (.istore 9, 2) := by decide +kernel
theorem dX8_put_127 : decode cX8_put 127 = .ok (.iload_n 2, 1) := by decide +kernel
theorem dX8_put_128 : decode cX8_put 128 = .ok (.bipush 6, 2) := by decide +kernel
theorem dX8_put_130 : decode cX8_put 130 = .ok (.if_icmp .ne 6, 3) := by decide +kernel
theorem dX8_put_136 : decode cX8_put 136 = .ok (.iload_n 2, 1) := by decide +kernel
theorem dX8_put_137 : decode cX8_put 137 = .ok (.bipush 8, 2) := by decide +kernel
theorem dX8_put_139 : decode cX8_put 139 = .ok (.if_icmp .ne 12, 3) := by decide +kernel
theorem dX8_put_151 : decode cX8_put 151 = .ok (.iload 4, 2) := by decide +kernel
theorem dX8_put_153 : decode cX8_put 153 = .ok (.istore 10, 2) := by decide +kernel
theorem dX8_put_155 : decode cX8_put 155 = .ok (.aload_n 0, 1) := by decide +kernel
theorem dX8_put_156 : decode cX8_put 156 = .ok (.getfield 14, 3) := by decide +kernel
theorem dX8_put_159 : decode cX8_put 159 = .ok (.sipush 4200, 3) := by decide +kernel
theorem dX8_put_162 : decode cX8_put 162 = .ok (.iload 8, 2) := by decide +kernel
theorem dX8_put_164 : decode cX8_put 164 = .ok (.imul, 1) := by decide +kernel
theorem dX8_put_165 : decode cX8_put 165 = .ok (.sipush 1000, 3) := by decide +kernel
theorem dX8_put_168 : decode cX8_put 168 = .ok (.iadd, 1) := by decide +kernel
theorem dX8_put_169 : decode cX8_put 169 = .ok (.iload 9, 2) := by decide +kernel
theorem dX8_put_171 : decode cX8_put 171 = .ok (.iadd, 1) := by decide +kernel
theorem dX8_put_172 : decode cX8_put 172 = .ok (.iload 10, 2) := by decide +kernel
theorem dX8_put_174 : decode cX8_put 174 = .ok (.iastore, 1) := by decide +kernel
theorem dX8_put_175 : decode cX8_put 175 = .ok (.iload_n 2, 1) := by decide +kernel
theorem dX8_put_176 : decode cX8_put 176 = .ok (.bipush 8, 2) := by decide +kernel
theorem dX8_put_178 : decode cX8_put 178 = .ok (.if_icmp .ne 9, 3) := by decide +kernel
theorem dX8_put_187 : decode cX8_put 187 = .ok (.lload 6, 2) := by decide +kernel
theorem dX8_put_189 : decode cX8_put 189 = .ok (.lreturn, 1) := by decide +kernel
theorem dX8_put_133 : decode cX8_put 133 = .ok (.lload 6, 2) := by decide +kernel
theorem dX8_put_135 : decode cX8_put 135 = .ok (.lreturn, 1) := by decide +kernel
theorem dX8_put_97 : decode cX8_put 97 = .ok (.lload 6, 2) := by decide +kernel
theorem dX8_put_99 : decode cX8_put 99 = .ok (.l2i, 1) := by decide +kernel
theorem dX8_put_100 : decode cX8_put 100 = .ok (.iload 4, 2) := by decide +kernel
theorem dX8_put_102 : decode cX8_put 102 = .ok (.iadd, 1) := by decide +kernel
theorem dX8_put_103 : decode cX8_put 103 = .ok (.ifCond .ne 15, 3) := by decide +kernel
theorem dX8_put_142 : decode cX8_put 142 = .ok (.lload 6, 2) := by decide +kernel
theorem dX8_put_144 : decode cX8_put 144 = .ok (.l2i, 1) := by decide +kernel
theorem dX8_put_145 : decode cX8_put 145 = .ok (.iload 4, 2) := by decide +kernel
theorem dX8_put_147 : decode cX8_put 147 = .ok (.iadd, 1) := by decide +kernel
theorem dX8_put_148 : decode cX8_put 148 = .ok (.goto 5, 3) := by decide +kernel
theorem dX8_put_181 : decode cX8_put 181 = .ok (.iload 10, 2) := by decide +kernel
theorem dX8_put_183 : decode cX8_put 183 = .ok (.i2l, 1) := by decide +kernel
theorem dX8_put_184 : decode cX8_put 184 = .ok (.goto 5, 3) := by decide +kernel
theorem dX8_put_106 : decode cX8_put 106 = .ok (.aload_n 0, 1) := by decide +kernel
theorem dX8_put_107 : decode cX8_put 107 = .ok (.iload 8, 2) := by decide +kernel
theorem dX8_put_109 : decode cX8_put 109 = .ok (.iload 5, 2) := by decide +kernel
set_option maxRecDepth 20000 in
theorem ggX8_put_X8_goes : GoodIn wsX8_put wsX8_goes := goodIn_r _ [52, 9, 2, 53, 3, 54, 55, 56, 7, 57, 58, 59, 60, 61, 62, 63, 64, 29, 30, 31, 65, 66, 67, 68, 69, 70, 71, 72, 73, 74, 75, 76, 94, 95, 96, 97, 98, 99, 100, 101, 102, 103, 104, 105, 106, 107, 108, 109, 110] rfl (by decide +kernel)
set_option maxRecDepth 20000 in
theorem gX8_put_X8_goes : GoodIn wsX8_put (wsV RX8 128 RX8 yX8_goes wsX8_goes) := goodIn_app (goodIn_of _ (by decide +kernel)) ggX8_put_X8_goes
theorem dX8_put_111 : decode cX8_put 111 = .ok (.invokevirtual 128, 3) := by decide +kernel
theorem dX8_put_114 : decode cX8_put 114 = .ok (.ldc2_w 149, 3) := by decide +kernel
theorem dX8_put_117 : decode cX8_put 117 = .ok (.lreturn, 1) := by decide +kernel
theorem dX8_put_12 : decode cX8_put 12 = .ok (.iload_n 2, 1) := by decide +kernel
theorem dX8_put_13 : decode cX8_put 13 = .ok (.bipush 7, 2) := by decide +kernel
theorem dX8_put_15 : decode cX8_put 15 = .ok (.if_icmp .ne 7, 3) := by decide +kernel
theorem dX8_put_22 : decode cX8_put 22 = .ok (.aload_n 0, 1) := by decide +kernel
theorem dX8_put_23 : decode cX8_put 23 = .ok (.iload_n 1, 1) := by decide +kernel
theorem dX8_put_24 : decode cX8_put 24 = .ok (.iload_n 3, 1) := by decide +kernel
set_option maxRecDepth 20000 in
theorem ggX8_put_X8_isWithin : GoodIn wsX8_put wsX8_isWithin := goodIn_r _ [14, 9, 10, 15, 16, 17, 18, 19, 20, 7, 21, 22, 4, 5, 6, 8, 23, 24, 25, 26, 27, 28, 29, 30, 31, 32, 33, 34, 35, 94, 95, 96, 97, 98, 99, 100, 101, 102, 103, 104, 105, 106, 107, 108, 109, 110] rfl (by decide +kernel)
set_option maxRecDepth 20000 in
theorem gX8_put_X8_isWithin : GoodIn wsX8_put (wsV RX8 108 RX8 yX8_isWithin wsX8_isWithin) := goodIn_app (goodIn_of _ (by decide +kernel)) ggX8_put_X8_isWithin
theorem dX8_put_25 : decode cX8_put 25 = .ok (.invokevirtual 108, 3) := by decide +kernel
theorem dX8_put_28 : decode cX8_put 28 = .ok (.ifCond .ne 10, 3) := by decide +kernel
theorem dX8_put_38 : decode cX8_put 38 = .ok (.aload_n 0, 1) := by decide +kernel
theorem dX8_put_39 : decode cX8_put 39 = .ok (.getfield 17, 3) := by decide +kernel
theorem dX8_put_42 : decode cX8_put 42 = .ok (.iload 8, 2) := by decide +kernel
theorem dX8_put_44 : decode cX8_put 44 = .ok (.iaload, 1) := by decide +kernel
theorem dX8_put_45 : decode cX8_put 45 = .ok (.sipush 1000, 3) := by decide +kernel
theorem dX8_put_48 : decode cX8_put 48 = .ok (.if_icmp .lt 19, 3) := by decide +kernel
theorem dX8_put_67 : decode cX8_put 67 = .ok (.aload_n 0, 1) := by decide +kernel
theorem dX8_put_68 : decode cX8_put 68 = .ok (.iload_n 1, 1) := by decide +kernel
theorem dX8_put_69 : decode cX8_put 69 = .ok (.iload_n 3, 1) := by decide +kernel
theorem dX8_put_70 : decode cX8_put 70 = .ok (.iload 4, 2) := by decide +kernel
set_option maxRecDepth 20000 in
theorem ggX8_put_X8_newKey : GoodIn wsX8_put wsX8_newKey := goodIn_r _ [48, 9, 22, 2, 4, 5, 6, 7, 8, 10, 49, 50, 51, 52, 53, 3, 54, 55, 56, 57, 58, 59, 60, 61, 62, 63, 64, 29, 30, 31, 65, 66, 67, 68, 69, 70, 71, 72, 73, 74, 75, 76, 77, 78, 79, 80, 23, 24, 25, 26, 27, 28, 81, 82, 83, 84, 85, 86, 87, 88, 89, 94, 95, 96, 97, 98, 99, 100, 101, 102, 103, 104, 105, 106, 107, 108, 109, 110] rfl (by decide +kernel)
set_option maxRecDepth 20000 in
theorem gX8_put_X8_newKey : GoodIn wsX8_put (wsV RX8 185 RX8 yX8_newKey wsX8_newKey) := goodIn_app (goodIn_of _ (by decide +kernel)) ggX8_put_X8_newKey
theorem dX8_put_72 : decode cX8_put 72 = .ok (.invokevirtual 185, 3) := by decide +kernel
theorem dX8_put_75 : decode cX8_put 75 = .ok (.iload_n 2, 1) := by decide +kernel
theorem dX8_put_76 : decode cX8_put 76 = .ok (.bipush 8, 2) := by decide +kernel
theorem dX8_put_78 : decode cX8_put 78 = .ok (.if_icmp .ne 9, 3) := by decide +kernel
theorem dX8_put_87 : decode cX8_put 87 = .ok (.ldc2_w 149, 3) := by decide +kernel
theorem dX8_put_90 : decode cX8_put 90 = .ok (.lreturn, 1) := by decide +kernel
theorem dX8_put_81 : decode cX8_put 81 = .ok (.iload 4, 2) := by decide +kernel
theorem dX8_put_83 : decode cX8_put 83 = .ok (.i2l, 1) := by decide +kernel
theorem dX8_put_84 : decode cX8_put 84 = .ok (.goto 6, 3) := by decide +kernel
theorem dX8_put_51 : decode cX8_put 51 = .ok (.aload_n 0, 1) := by decide +kernel
theorem dX8_put_52 : decode cX8_put 52 = .ok (.iload 8, 2) := by decide +kernel
set_option maxRecDepth 20000 in
theorem ggX8_put_X8_isLimited : GoodIn wsX8_put wsX8_isLimited := goodIn_r _ [44, 9, 22, 94, 95, 96, 97, 98, 99, 100, 101, 102, 103, 104, 105, 106, 107, 108, 109, 110] rfl (by decide +kernel)
set_option maxRecDepth 20000 in
theorem gX8_put_X8_isLimited : GoodIn wsX8_put (wsV RX8 182 RX8 yX8_isLimited wsX8_isLimited) := goodIn_app (goodIn_of _ (by decide +kernel)) ggX8_put_X8_isLimited
theorem dX8_put_54 : decode cX8_put 54 = .ok (.invokevirtual 182, 3) := by decide +kernel
theorem dX8_put_57 : decode cX8_put 57 = .ok (.ifCond .ne 10, 3) := by decide +kernel
theorem dX8_put_60 : decode cX8_put 60 = .ok (.aload_n 0, 1) := by decide +kernel
theorem dX8_put_61 : decode cX8_put 61 = .ok (.iconst 4, 1) := by decide +kernel
set_option maxRecDepth 20000 in
theorem ggX8_put_X8_refuse : GoodIn wsX8_put wsX8_refuse := goodIn_r _ [39, 40, 94, 95, 96, 97, 98, 99, 100, 101, 102, 103, 104, 105, 106, 107, 108, 109, 110] rfl (by decide +kernel)
set_option maxRecDepth 20000 in
theorem gX8_put_X8_refuse : GoodIn wsX8_put (wsV RX8 68 RX8 yX8_refuse wsX8_refuse) := goodIn_app (goodIn_of _ (by decide +kernel)) ggX8_put_X8_refuse
theorem dX8_put_62 : decode cX8_put 62 = .ok (.invokevirtual 68, 3) := by decide +kernel
theorem dX8_put_65 : decode cX8_put 65 = .ok (.i2l, 1) := by decide +kernel
theorem dX8_put_66 : decode cX8_put 66 = .ok (.lreturn, 1) := by decide +kernel
theorem dX8_put_31 : decode cX8_put 31 = .ok (.aload_n 0, 1) := by decide +kernel
theorem dX8_put_32 : decode cX8_put 32 = .ok (.iconst 3, 1) := by decide +kernel
theorem dX8_put_33 : decode cX8_put 33 = .ok (.invokevirtual 68, 3) := by decide +kernel
theorem dX8_put_36 : decode cX8_put 36 = .ok (.i2l, 1) := by decide +kernel
theorem dX8_put_37 : decode cX8_put 37 = .ok (.lreturn, 1) := by decide +kernel
theorem dX8_put_18 : decode cX8_put 18 = .ok (.ldc2_w 149, 3) := by decide +kernel
theorem dX8_put_21 : decode cX8_put 21 = .ok (.lreturn, 1) := by decide +kernel
set_option maxHeartbeats 4000000 in
set_option maxRecDepth 100000 in
/-- put -/
theorem c_X8_put (l : Launch) (dC : Nat → ClassId) (dI : Nat → Nat → Nat) (sz : Nat) (h0 : Nat) (th : Int32) (q1 : Nat) (q2 : Nat) (q3 : Nat) (q4 : Nat) (q5 : Nat) (q6 : Nat) (q7 : Nat) (q8 : Nat) (q9 : Nat) (q10 : Nat) (q11 : Nat) (q15 : Nat) (c1 : ClassId) (c2 : ClassId) (c3 : ClassId) (c4 : ClassId) (c5 : ClassId) (c6 : ClassId) (c7 : ClassId) (c8 : ClassId) (c9 : ClassId) (c10 : ClassId) (c11 : ClassId) (c15 : ClassId) (a1 : Nat → Int32) (a2 : Nat → Int32) (a3 : Nat → Int32) (a4 : Nat → Int32) (a5 : Nat → Int32) (a6 : Nat → Int32) (a7 : Nat → Int32) (a8 : Nat → Int32) (a9 : Nat → Int32) (a10 : Nat → Int32) (a11 : Nat → Int32) (a15 : Nat → Int32) (v12 : Value) (v13 : Value) (v14 : Value) (v16 : Value) (o : Nat) (dep : Nat → Nat) (r : Nat) (p1 : Int32) (p2 : Int32) (p3 : Int32) (p4 : Int32) (p5 : Int64) (ho9 : o < 16) (hF9 : rF a1 a8 dep) (hd9 : dep o < 17) (hrt9 : rtN a1 a8 17 o = r) (hM9 : mOK (a1 r) (a4 r) (a3 r) (a6 r)) (hkd9 : 1 ≤ (a1 r).toInt ∧ (a1 r).toInt ≤ 3) (hi9 : p4 = -1 ∨ ∃ j : Nat, nI j = p4 ∧ (j : Int) < (a3 r).toInt) : Met l yX8_put wsX8_put ({ frames := 6, cells := 0, slots := 0, locals := 250 }) (va_Pc [.ref h0, .int (nI o), .int p1, .int p2, .int p3, .int p4, .long p5] (pk_Pre (dC, dI) [(h0, .inr (8, [.int th, .ref q1, .ref q2, .ref q3, .ref q4, .ref q5, .ref q6, .ref q7, .ref q8, .ref q9, .ref q10, .ref q11, v12, v13, v14, .ref q15, v16])), (q1, .inl (c1, 16, .inl a1)), (q2, .inl (c2, 67200, .inl a2)), (q3, .inl (c3, 16, .inl a3)), (q4, .inl (c4, 16, .inl a4)), (q5, .inl (c5, 16, .inl a5)), (q6, .inl (c6, 16, .inl a6)), (q7, .inl (c7, 16, .inl a7)), (q8, .inl (c8, 16, .inl a8)), (q9, .inl (c9, 16, .inl a9)), (q10, .inl (c10, 16, .inl a10)), (q11, .inl (c11, 16, .inl a11)), (q15, .inl (c15, 4096, .inl a15))] [(c1, .int), (c2, .int), (c3, .int), (c4, .int), (c5, .int), (c6, .int), (c7, .int), (c8, .int), (c9, .int), (c10, .int), (c11, .int), (c15, .boolean)] sz)) (va_Ql (fun (x : Int64) (u : Int32 × (Nat → Int32) × (Nat → Int32) × (Nat → Int32) × (Nat → Int32) × (Nat → Int32)) => (∃ d : Nat, d ≤ 2 ∧ rsR r d a2 a3 a6 a7 u.2.1 u.2.2.1 u.2.2.2.1 u.2.2.2.2.1) ∧ mOK (a1 r) (a4 r) (u.2.2.1 r) (u.2.2.2.1 r)) (fun (u : Int32 × (Nat → Int32) × (Nat → Int32) × (Nat → Int32) × (Nat → Int32) × (Nat → Int32)) (t : State) => va_P (dC, dI) vwCl [(h0, .inr (8, [.int u.1, .ref q1, .ref q2, .ref q3, .ref q4, .ref q5, .ref q6, .ref q7, .ref q8, .ref q9, .ref q10, .ref q11, v12, v13, v14, .ref q15, v16])), (q1, .inl (c1, 16, .inl a1)), (q2, .inl (c2, 67200, .inl u.2.1)), (q3, .inl (c3, 16, .inl u.2.2.1)), (q4, .inl (c4, 16, .inl a4)), (q5, .inl (c5, 16, .inl a5)), (q6, .inl (c6, 16, .inl u.2.2.2.1)), (q7, .inl (c7, 16, .inl u.2.2.2.2.1)), (q8, .inl (c8, 16, .inl a8)), (q9, .inl (c9, 16, .inl a9)), (q10, .inl (c10, 16, .inl a10)), (q11, .inl (c11, 16, .inl a11)), (q15, .inl (c15, 4096, .inl u.2.2.2.2.2))] t.heap ∧ va_K (dC, dI) vwCl [(c1, .int), (c2, .int), (c3, .int), (c4, .int), (c5, .int), (c6, .int), (c7, .int), (c8, .int), (c9, .int), (c10, .int), (c11, .int), (c15, .boolean)] t ∧ va_D (va_A [(h0, .inr (8, [.int th, .ref q1, .ref q2, .ref q3, .ref q4, .ref q5, .ref q6, .ref q7, .ref q8, .ref q9, .ref q10, .ref q11, v12, v13, v14, .ref q15, v16])), (q1, .inl (c1, 16, .inl a1)), (q2, .inl (c2, 67200, .inl a2)), (q3, .inl (c3, 16, .inl a3)), (q4, .inl (c4, 16, .inl a4)), (q5, .inl (c5, 16, .inl a5)), (q6, .inl (c6, 16, .inl a6)), (q7, .inl (c7, 16, .inl a7)), (q8, .inl (c8, 16, .inl a8)), (q9, .inl (c9, 16, .inl a9)), (q10, .inl (c10, 16, .inl a10)), (q11, .inl (c11, 16, .inl a11)), (q15, .inl (c15, 4096, .inl a15))] sz) [(h0, .inr (8, [.int u.1, .ref q1, .ref q2, .ref q3, .ref q4, .ref q5, .ref q6, .ref q7, .ref q8, .ref q9, .ref q10, .ref q11, v12, v13, v14, .ref q15, v16])), (q1, .inl (c1, 16, .inl a1)), (q2, .inl (c2, 67200, .inl u.2.1)), (q3, .inl (c3, 16, .inl u.2.2.1)), (q4, .inl (c4, 16, .inl a4)), (q5, .inl (c5, 16, .inl a5)), (q6, .inl (c6, 16, .inl u.2.2.2.1)), (q7, .inl (c7, 16, .inl u.2.2.2.2.1)), (q8, .inl (c8, 16, .inl a8)), (q9, .inl (c9, 16, .inl a9)), (q10, .inl (c10, 16, .inl a10)), (q11, .inl (c11, 16, .inl a11)), (q15, .inl (c15, 4096, .inl u.2.2.2.2.2))]) (va_A [(h0, .inr (8, [.int th, .ref q1, .ref q2, .ref q3, .ref q4, .ref q5, .ref q6, .ref q7, .ref q8, .ref q9, .ref q10, .ref q11, v12, v13, v14, .ref q15, v16])), (q1, .inl (c1, 16, .inl a1)), (q2, .inl (c2, 67200, .inl a2)), (q3, .inl (c3, 16, .inl a3)), (q4, .inl (c4, 16, .inl a4)), (q5, .inl (c5, 16, .inl a5)), (q6, .inl (c6, 16, .inl a6)), (q7, .inl (c7, 16, .inl a7)), (q8, .inl (c8, 16, .inl a8)), (q9, .inl (c9, 16, .inl a9)), (q10, .inl (c10, 16, .inl a10)), (q11, .inl (c11, 16, .inl a11)), (q15, .inl (c15, 4096, .inl a15))] sz)) 0 0 (va_A [(h0, .inr (8, [.int th, .ref q1, .ref q2, .ref q3, .ref q4, .ref q5, .ref q6, .ref q7, .ref q8, .ref q9, .ref q10, .ref q11, v12, v13, v14, .ref q15, v16])), (q1, .inl (c1, 16, .inl a1)), (q2, .inl (c2, 67200, .inl a2)), (q3, .inl (c3, 16, .inl a3)), (q4, .inl (c4, 16, .inl a4)), (q5, .inl (c5, 16, .inl a5)), (q6, .inl (c6, 16, .inl a6)), (q7, .inl (c7, 16, .inl a7)), (q8, .inl (c8, 16, .inl a8)), (q9, .inl (c9, 16, .inl a9)), (q10, .inl (c10, 16, .inl a10)), (q11, .inl (c11, 16, .inl a11)), (q15, .inl (c15, 4096, .inl a15))] sz) := by
  refine Met.ofW (cc := cX8_put) (maxL := 11) (ret := (some .long)) (by decide) rfl ?_
  intro p e s m args below meth c s₁ B hml hv
  obtain ⟨rfl, hsz, hP, hK, hD0⟩ := hv
  have hx := B.exec
  have hb := B.bytes
  have hr := B.returns
  have hts := atoms_spec (ws := wsX8_put) B.pre
  have hown : s.vm.findClass RX8 = some m.cls := findClass_of_methodNamed B.named
  have hlocks := B.notSynchronized
  subst hsz
  have hD := hD0.self (sz := s.heap.size)
  generalize hAe : va_A [(h0, .inr (8, [.int th, .ref q1, .ref q2, .ref q3, .ref q4, .ref q5, .ref q6, .ref q7, .ref q8, .ref q9, .ref q10, .ref q11, v12, v13, v14, .ref q15, v16])), (q1, .inl (c1, 16, .inl a1)), (q2, .inl (c2, 67200, .inl a2)), (q3, .inl (c3, 16, .inl a3)), (q4, .inl (c4, 16, .inl a4)), (q5, .inl (c5, 16, .inl a5)), (q6, .inl (c6, 16, .inl a6)), (q7, .inl (c7, 16, .inl a7)), (q8, .inl (c8, 16, .inl a8)), (q9, .inl (c9, 16, .inl a9)), (q10, .inl (c10, 16, .inl a10)), (q11, .inl (c11, 16, .inl a11)), (q15, .inl (c15, 4096, .inl a15))] s.heap.size = A at hD ⊢
  have hA : ∀ q : Nat, s.heap.size ≤ q → A q := fun q h => by rw [← hAe]; exact Or.inr h
  have hS : va_S A s.heap s.heap [] := va_S.rf
  have hP : va_P (dC, dI) vwCl [(h0, .inr (8, [.int th, .ref q1, .ref q2, .ref q3, .ref q4, .ref q5, .ref q6, .ref q7, .ref q8, .ref q9, .ref q10, .ref q11, v12, v13, v14, .ref q15, v16])), (q1, .inl (c1, 16, .inl a1)), (q2, .inl (c2, 67200, .inl a2)), (q3, .inl (c3, 16, .inl a3)), (q4, .inl (c4, 16, .inl a4)), (q5, .inl (c5, 16, .inl a5)), (q6, .inl (c6, 16, .inl a6)), (q7, .inl (c7, 16, .inl a7)), (q8, .inl (c8, 16, .inl a8)), (q9, .inl (c9, 16, .inl a9)), (q10, .inl (c10, 16, .inl a10)), (q11, .inl (c11, 16, .inl a11)), (q15, .inl (c15, 4096, .inl a15))] s.heap := hP
  have hl := lv_entry ([.ref h0, .int (nI o), .int p1, .int p2, .int p3, .int p4, .long p5]) (n := 11) (Nat.le_of_ble_eq_true rfl)
  rw [lg_entry_eq]
  generalize (lg_sl ([.ref h0, .int (nI o), .int p1, .int p2, .int p3, .int p4, .long p5]) ++ List.replicate (11 - (lg_sl ([.ref h0, .int (nI o), .int p1, .int p2, .int p3, .int p4, .long p5])).length) Slot.unset).toArray = ls at hl ⊢
  have hl : lv_has ls 11 [(0, .ref h0), (1, .int (nI o)), (2, .int p1), (3, .int p2), (4, .int p3), (5, .int p4), (6, .long p5)] := hl
  have hw0_ := hts (.fieldLink RX8 14 "KeyAtlasModel" "cell" "[I") (List.mem_of_getElem? (l := wsX8_put) (i := 3) rfl)
  have hw1_ := hts (.constantLong RX8 149 (1099511627776)) (List.mem_of_getElem? (l := wsX8_put) (i := 1) rfl)
  have hw2_ := hts (.fieldLink RX8 17 "KeyAtlasModel" "size" "[I") (List.mem_of_getElem? (l := wsX8_put) (i := 2) rfl)
  have hi0_ : ∀ w ∈ u_ws RX8 TX8 17, w ∈ wsX8_put := fun w h => List.mem_cons_of_mem _ (List.mem_append_right _ h)
  obtain ⟨nz, tb, hs9, hz9, hT9, hM8⟩ := mo_go hM9
  have hn8 : (a3 r).toInt = (nz : Int) := by rw [hs9]; exact nI_toInt (by omega)
  refine lv_aload_n hx hb dX8_put_0 rfl (lv_at hl 0 rfl) ?_
  refine lv_iload_n hx hb dX8_put_1 rfl (lv_at hl 1 rfl) ?_
  have hPc := hP.sub (ws' := [(h0, .inr (8, [.int th, .ref q1, .ref q2, .ref q3, .ref q4, .ref q5, .ref q6, .ref q7, .ref q8, .ref q9, .ref q10, .ref q11, v12, v13, v14, .ref q15, v16])), (q1, .inl (c1, 16, .inl a1)), (q8, .inl (c8, 16, .inl a8))]) [0, 1, 8] rfl
  have hDc := hD.sub (ws' := [(h0, .inr (8, [.int th, .ref q1, .ref q2, .ref q3, .ref q4, .ref q5, .ref q6, .ref q7, .ref q8, .ref q9, .ref q10, .ref q11, v12, v13, v14, .ref q15, v16])), (q1, .inl (c1, 16, .inl a1)), (q8, .inl (c8, 16, .inl a8))]) [0, 1, 8] (by decide) rfl
  have hKc := hK.sub (tys' := [(c1, .int), (c8, .int)]) [0, 7] rfl
  have hFc := va_free (wc := [(h0, .inr (8, [.int th, .ref q1, .ref q2, .ref q3, .ref q4, .ref q5, .ref q6, .ref q7, .ref q8, .ref q9, .ref q10, .ref q11, v12, v13, v14, .ref q15, v16])), (q1, .inl (c1, 16, .inl a1)), (q8, .inl (c8, 16, .inl a8))]) hD hS hA [0, 1, 8] rfl
  refine va_calli (va_runV (As := [.int (nI o)]) (rest := []) ⟨hx, hb, hml, hown, hts⟩ (c_X8_root l  dC dI s.heap.size h0 th q1 q8 c1 c8 a1 a8 (.ref q2) (.ref q3) (.ref q4) (.ref q5) (.ref q6) (.ref q7) (.ref q9) (.ref q10) (.ref q11) v12 v13 v14 (.ref q15) v16 o dep ho9 hF9 hd9) (cwV 1 hts gX8_put_X8_root rfl rfl rfl (by decide +kernel) ⟨(Nat.le_of_ble_eq_true rfl), (Nat.le_of_ble_eq_true rfl)⟩) ⟨pk_blind, va_recv hKc hPc (ci := 8) (q0 := 0) rfl rfl, pk_call hPc hKc hDc⟩ rfl rfl hl.1 rfl (lv_room (Nat.le_of_ble_eq_true rfl)) dX8_put_2 ⟨(Nat.le_of_ble_eq_true rfl), (Nat.le_of_ble_eq_true rfl)⟩) hS (fun q _ h => hFc q h) hFc (fun r_1 ur_1 t H1 locs ht hvm hw hB hz1 hk1 hS => ?_)
  try dsimp only at hw
  obtain ⟨er_1, hr9, hr8⟩ := hw
  rw [hrt9] at er_1 hr9 hr8
  obtain ⟨hP1, hK1, hD1⟩ := hB
  rw [ht] at hP1
  have hK1 := va_K.moved hvm.symm hK1
  obtain ⟨hP, hD⟩ := va_join (wr := [(q2, .inl (c2, 67200, .inl a2)), (q3, .inl (c3, 16, .inl a3)), (q4, .inl (c4, 16, .inl a4)), (q5, .inl (c5, 16, .inl a5)), (q6, .inl (c6, 16, .inl a6)), (q7, .inl (c7, 16, .inl a7)), (q9, .inl (c9, 16, .inl a9)), (q10, .inl (c10, 16, .inl a10)), (q11, .inl (c11, 16, .inl a11)), (q15, .inl (c15, 4096, .inl a15))]) (w1 := [(h0, .inr (8, [.int th, .ref q1, .ref q2, .ref q3, .ref q4, .ref q5, .ref q6, .ref q7, .ref q8, .ref q9, .ref q10, .ref q11, v12, v13, v14, .ref q15, v16])), (q1, .inl (c1, 16, .inl a1)), (q8, .inl (c8, 16, .inl a8))]) hP hD [0, 1, 8] [2, 3, 4, 5, 6, 7, 9, 10, 11, 12] rfl rfl (by decide) (by decide) hk1 hFc hP1 hD1
  clear hk1 hz1 ht hPc hDc hKc hFc
  generalize H1 = H at hP hS ⊢
  replace hP : va_P (dC, dI) vwCl [(q2, .inl (c2, 67200, .inl a2)), (q3, .inl (c3, 16, .inl a3)), (q4, .inl (c4, 16, .inl a4)), (q5, .inl (c5, 16, .inl a5)), (q6, .inl (c6, 16, .inl a6)), (q7, .inl (c7, 16, .inl a7)), (q9, .inl (c9, 16, .inl a9)), (q10, .inl (c10, 16, .inl a10)), (q11, .inl (c11, 16, .inl a11)), (q15, .inl (c15, 4096, .inl a15)), (h0, .inr (8, [.int th, .ref q1, .ref q2, .ref q3, .ref q4, .ref q5, .ref q6, .ref q7, .ref q8, .ref q9, .ref q10, .ref q11, v12, v13, v14, .ref q15, v16])), (q1, .inl (c1, 16, .inl a1)), (q8, .inl (c8, 16, .inl a8))] H := hP
  replace hD : va_D A [(q2, .inl (c2, 67200, .inl a2)), (q3, .inl (c3, 16, .inl a3)), (q4, .inl (c4, 16, .inl a4)), (q5, .inl (c5, 16, .inl a5)), (q6, .inl (c6, 16, .inl a6)), (q7, .inl (c7, 16, .inl a7)), (q9, .inl (c9, 16, .inl a9)), (q10, .inl (c10, 16, .inl a10)), (q11, .inl (c11, 16, .inl a11)), (q15, .inl (c15, 4096, .inl a15)), (h0, .inr (8, [.int th, .ref q1, .ref q2, .ref q3, .ref q4, .ref q5, .ref q6, .ref q7, .ref q8, .ref q9, .ref q10, .ref q11, v12, v13, v14, .ref q15, v16])), (q1, .inl (c1, 16, .inl a1)), (q8, .inl (c8, 16, .inl a8))] := hD
  refine W.widen (k := 0) (n := 0) (Nat.le_of_ble_eq_true rfl) (Nat.le_of_ble_eq_true rfl) ?_
  subst er_1
  refine W.eq (g2 := F0 m 5 ls [.int (nI r)]) rfl ?_
  refine lv_istore (lv' := [(8, .int (nI r)), (0, .ref h0), (1, .int (nI o)), (2, .int p1), (3, .int p2), (4, .int p3), (5, .int p4), (6, .long p5)]) hx hb dX8_put_5 hl (by decide) rfl (fun ls hl => ?_)
  refine lv_iload hx hb dX8_put_7 (lv_at hl 6 rfl) ?_
  refine lv_if_ge (tgt := 91) hx hb dX8_put_9 (by decide) (fun c_2 => ?_) (fun c_2 => ?_)
  ·
    have ic_2 : 0 ≤ p4.toInt := tx_le (by decide) rfl c_2
    obtain ⟨j9, rfl, hj9⟩ := hi9.resolve_left (fun h => by rw [h] at ic_2; exact absurd ic_2 (by decide))
    have hj8 : j9 < nz := by omega
    refine lv_iload_n hx hb dX8_put_91 rfl (lv_at hl 3 rfl) ?_
    refine lv_bipush (v := 8) hx hb dX8_put_92 (by decide) ?_
    refine lv_icmp_ne (tgt := 118) hx hb dX8_put_94 (by decide) (fun c_3 => ?_) (fun c_3 => ?_)
    ·
      have ic_3 : ¬ p1.toInt = 8 := tx_ne rfl (by decide) c_3
      refine lv_aload_n hx hb dX8_put_118 rfl (lv_at hl 1 rfl) ?_
      refine lv_iload_n hx hb dX8_put_119 rfl (lv_at hl 2 rfl) ?_
      refine lv_iload hx hb dX8_put_120 (lv_at hl 6 rfl) ?_
      have hPc := hP.sub (ws' := [(h0, .inr (8, [.int th, .ref q1, .ref q2, .ref q3, .ref q4, .ref q5, .ref q6, .ref q7, .ref q8, .ref q9, .ref q10, .ref q11, v12, v13, v14, .ref q15, v16])), (q1, .inl (c1, 16, .inl a1)), (q2, .inl (c2, 67200, .inl a2)), (q3, .inl (c3, 16, .inl a3)), (q5, .inl (c5, 16, .inl a5)), (q7, .inl (c7, 16, .inl a7)), (q8, .inl (c8, 16, .inl a8))]) [10, 11, 0, 1, 3, 5, 12] rfl
      have hDc := hD.sub (ws' := [(h0, .inr (8, [.int th, .ref q1, .ref q2, .ref q3, .ref q4, .ref q5, .ref q6, .ref q7, .ref q8, .ref q9, .ref q10, .ref q11, v12, v13, v14, .ref q15, v16])), (q1, .inl (c1, 16, .inl a1)), (q2, .inl (c2, 67200, .inl a2)), (q3, .inl (c3, 16, .inl a3)), (q5, .inl (c5, 16, .inl a5)), (q7, .inl (c7, 16, .inl a7)), (q8, .inl (c8, 16, .inl a8))]) [10, 11, 0, 1, 3, 5, 12] (by decide) rfl
      have hKc := hK.sub (tys' := [(c1, .int), (c2, .int), (c3, .int), (c5, .int), (c7, .int), (c8, .int)]) [0, 1, 2, 4, 6, 7] rfl
      have hFc := va_free (wc := [(h0, .inr (8, [.int th, .ref q1, .ref q2, .ref q3, .ref q4, .ref q5, .ref q6, .ref q7, .ref q8, .ref q9, .ref q10, .ref q11, v12, v13, v14, .ref q15, v16])), (q1, .inl (c1, 16, .inl a1)), (q2, .inl (c2, 67200, .inl a2)), (q3, .inl (c3, 16, .inl a3)), (q5, .inl (c5, 16, .inl a5)), (q7, .inl (c7, 16, .inl a7)), (q8, .inl (c8, 16, .inl a8))]) hD hS hA [10, 11, 0, 1, 3, 5, 12] rfl
      refine va_calli (va_runV (As := [.int (nI o), .int (nI j9)]) (rest := []) ⟨hx, hb, hml, hown, hts⟩ (c_X8_touched l  dC dI H.size h0 th q1 q2 q3 q5 q7 q8 c1 c2 c3 c5 c7 c8 a1 a2 a3 a5 a7 a8 (.ref q4) (.ref q6) (.ref q9) (.ref q10) (.ref q11) v12 v13 v14 (.ref q15) v16 o dep r j9 nz ho9 hF9 hd9 hrt9 hj8 hs9 hz9) (cwV 2 hts gX8_put_X8_touched rfl rfl rfl (by decide +kernel) ⟨(Nat.le_of_ble_eq_true rfl), (Nat.le_of_ble_eq_true rfl)⟩) ⟨pk_blind, va_recv hKc hPc (ci := 8) (q0 := 0) rfl rfl, pk_call hPc hKc hDc⟩ rfl rfl hl.1 rfl (lv_room (Nat.le_of_ble_eq_true rfl)) dX8_put_122 ⟨(Nat.le_of_ble_eq_true rfl), (Nat.le_of_ble_eq_true rfl)⟩) hS (fun q _ h => hFc q h) hFc (fun r_4 ur_4 t H1 locs ht hvm hw hB hz1 hk1 hS => ?_)
      try dsimp only at hw
      have jr_4 := hw
      obtain ⟨hP1, hK1, hD1⟩ := hB
      rw [ht] at hP1
      have hK1 := va_K.moved hvm.symm hK1
      obtain ⟨hP, hD⟩ := va_join (wr := [(q4, .inl (c4, 16, .inl a4)), (q6, .inl (c6, 16, .inl a6)), (q9, .inl (c9, 16, .inl a9)), (q10, .inl (c10, 16, .inl a10)), (q11, .inl (c11, 16, .inl a11)), (q15, .inl (c15, 4096, .inl a15))]) (w1 := [(h0, .inr (8, [.int th, .ref q1, .ref q2, .ref q3, .ref q4, .ref q5, .ref q6, .ref q7, .ref q8, .ref q9, .ref q10, .ref q11, v12, v13, v14, .ref q15, v16])), (q1, .inl (c1, 16, .inl a1)), (q2, .inl (c2, 67200, .inl ur_4.1)), (q3, .inl (c3, 16, .inl a3)), (q5, .inl (c5, 16, .inl a5)), (q7, .inl (c7, 16, .inl ur_4.2)), (q8, .inl (c8, 16, .inl a8))]) hP hD [10, 11, 0, 1, 3, 5, 12] [2, 4, 6, 7, 8, 9] rfl rfl (by decide) (by decide) hk1 hFc hP1 hD1
      clear hk1 hz1 ht hPc hDc hKc hFc
      generalize H1 = H at hP hS ⊢
      replace hP : va_P (dC, dI) vwCl [(q4, .inl (c4, 16, .inl a4)), (q6, .inl (c6, 16, .inl a6)), (q9, .inl (c9, 16, .inl a9)), (q10, .inl (c10, 16, .inl a10)), (q11, .inl (c11, 16, .inl a11)), (q15, .inl (c15, 4096, .inl a15)), (h0, .inr (8, [.int th, .ref q1, .ref q2, .ref q3, .ref q4, .ref q5, .ref q6, .ref q7, .ref q8, .ref q9, .ref q10, .ref q11, v12, v13, v14, .ref q15, v16])), (q1, .inl (c1, 16, .inl a1)), (q2, .inl (c2, 67200, .inl ur_4.1)), (q3, .inl (c3, 16, .inl a3)), (q5, .inl (c5, 16, .inl a5)), (q7, .inl (c7, 16, .inl ur_4.2)), (q8, .inl (c8, 16, .inl a8))] H := hP
      replace hD : va_D A [(q4, .inl (c4, 16, .inl a4)), (q6, .inl (c6, 16, .inl a6)), (q9, .inl (c9, 16, .inl a9)), (q10, .inl (c10, 16, .inl a10)), (q11, .inl (c11, 16, .inl a11)), (q15, .inl (c15, 4096, .inl a15)), (h0, .inr (8, [.int th, .ref q1, .ref q2, .ref q3, .ref q4, .ref q5, .ref q6, .ref q7, .ref q8, .ref q9, .ref q10, .ref q11, v12, v13, v14, .ref q15, v16])), (q1, .inl (c1, 16, .inl a1)), (q2, .inl (c2, 67200, .inl ur_4.1)), (q3, .inl (c3, 16, .inl a3)), (q5, .inl (c5, 16, .inl a5)), (q7, .inl (c7, 16, .inl ur_4.2)), (q8, .inl (c8, 16, .inl a8))] := hD
      refine W.widen (k := 0) (n := 0) (Nat.le_of_ble_eq_true rfl) (Nat.le_of_ble_eq_true rfl) ?_
      obtain ⟨⟨k8, hk8, rfl⟩, jt⟩ := jr_4
      refine W.eq (g2 := F0 m 125 ls [.int (nI k8)]) rfl ?_
      refine lv_istore (lv' := [(9, .int (nI k8)), (8, .int (nI r)), (0, .ref h0), (1, .int (nI o)), (2, .int p1), (3, .int p2), (4, .int p3), (5, .int (nI j9)), (6, .long p5)]) hx hb dX8_put_125 hl (by decide) rfl (fun ls hl => ?_)
      refine lv_iload_n hx hb dX8_put_127 rfl (lv_at hl 4 rfl) ?_
      refine lv_bipush (v := 6) hx hb dX8_put_128 (by decide) ?_
      refine lv_icmp_ne (tgt := 136) hx hb dX8_put_130 (by decide) (fun c_5 => ?_) (fun c_5 => ?_)
      ·
        have ic_5 : ¬ p1.toInt = 6 := tx_ne rfl (by decide) c_5
        refine lv_iload_n hx hb dX8_put_136 rfl (lv_at hl 4 rfl) ?_
        refine lv_bipush (v := 8) hx hb dX8_put_137 (by decide) ?_
        refine lv_icmp_ne (tgt := 151) hx hb dX8_put_139 (by decide) (fun c_6 => ?_) (fun c_6 => absurd c_6 (c_3))
        refine lv_iload hx hb dX8_put_151 (lv_at hl 6 rfl) ?_
        refine lv_istore (lv' := [(10, .int p3), (9, .int (nI k8)), (8, .int (nI r)), (0, .ref h0), (1, .int (nI o)), (2, .int p1), (3, .int p2), (4, .int p3), (5, .int (nI j9)), (6, .long p5)]) hx hb dX8_put_153 hl (by decide) rfl (fun ls hl => ?_)
        refine lv_aload_n hx hb dX8_put_155 rfl (lv_at hl 3 rfl) ?_
        refine va_get (D := (dC, dI)) (ci := 8) (v := .ref q2) (C := RX8) (T := TX8) (N := 17) hx hb hts hi0_ hown hK hP 6 rfl rfl 2 (by decide) hw0_ (fun _ h9 => h9) rfl dX8_put_156 ?_
        refine lv_sipush (v := 4200) hx hb dX8_put_159 (by decide) ?_
        refine lv_iload hx hb dX8_put_162 (lv_at hl 2 rfl) ?_
        refine lv_imul hx hb dX8_put_164 ?_
        refine lv_topi (fun z_7 ez_7 => ?_)
        obtain rfl : z_7 = nI (4200 * r) := ez_7.trans (by rw [show (4200 : Int32) = nI 4200 from rfl, pk_mul])
        refine lv_sipush (v := 1000) hx hb dX8_put_165 (by decide) ?_
        refine lv_iadd hx hb dX8_put_168 ?_
        refine lv_topi (fun z_8 ez_8 => ?_)
        obtain rfl : z_8 = nI ((4200 * r) + 1000) := ez_8.trans (by rw [show (1000 : Int32) = nI 1000 from rfl, nI_add])
        refine lv_iload hx hb dX8_put_169 (lv_at hl 1 rfl) ?_
        refine lv_iadd hx hb dX8_put_171 ?_
        refine lv_topi (fun z_9 ez_9 => ?_)
        obtain rfl : z_9 = nI (((4200 * r) + 1000) + k8) := ez_9.trans (by rw [nI_add])
        refine lv_iload hx hb dX8_put_172 (lv_at hl 0 rfl) ?_
        refine va_iast (i := nI (((4200 * r) + 1000) + k8)) hx hb hK hP hD hS 8 1 rfl rfl (vp_in_nI (by omega) (by omega)) dX8_put_174 (fun H locs hP hD hS => ?_)
        rw [nI_clamp (by omega)] at hP hD
        replace hP : va_P (dC, dI) vwCl [(q4, .inl (c4, 16, .inl a4)), (q6, .inl (c6, 16, .inl a6)), (q9, .inl (c9, 16, .inl a9)), (q10, .inl (c10, 16, .inl a10)), (q11, .inl (c11, 16, .inl a11)), (q15, .inl (c15, 4096, .inl a15)), (h0, .inr (8, [.int th, .ref q1, .ref q2, .ref q3, .ref q4, .ref q5, .ref q6, .ref q7, .ref q8, .ref q9, .ref q10, .ref q11, v12, v13, v14, .ref q15, v16])), (q1, .inl (c1, 16, .inl a1)), (q2, .inl (c2, 67200, .inl (upd ur_4.1 (((4200 * r) + 1000) + k8) p3))), (q3, .inl (c3, 16, .inl a3)), (q5, .inl (c5, 16, .inl a5)), (q7, .inl (c7, 16, .inl ur_4.2)), (q8, .inl (c8, 16, .inl a8))] H := hP
        replace hD : va_D A [(q4, .inl (c4, 16, .inl a4)), (q6, .inl (c6, 16, .inl a6)), (q9, .inl (c9, 16, .inl a9)), (q10, .inl (c10, 16, .inl a10)), (q11, .inl (c11, 16, .inl a11)), (q15, .inl (c15, 4096, .inl a15)), (h0, .inr (8, [.int th, .ref q1, .ref q2, .ref q3, .ref q4, .ref q5, .ref q6, .ref q7, .ref q8, .ref q9, .ref q10, .ref q11, v12, v13, v14, .ref q15, v16])), (q1, .inl (c1, 16, .inl a1)), (q2, .inl (c2, 67200, .inl (upd ur_4.1 (((4200 * r) + 1000) + k8) p3))), (q3, .inl (c3, 16, .inl a3)), (q5, .inl (c5, 16, .inl a5)), (q7, .inl (c7, 16, .inl ur_4.2)), (q8, .inl (c8, 16, .inl a8))] := hD
        refine lv_iload_n hx hb dX8_put_175 rfl (lv_at hl 5 rfl) ?_
        refine lv_bipush (v := 8) hx hb dX8_put_176 (by decide) ?_
        refine lv_icmp_ne (tgt := 187) hx hb dX8_put_178 (by decide) (fun c_10 => ?_) (fun c_10 => absurd c_10 (c_3))
        refine lv_lload hx hb dX8_put_187 (lv_at hl 9 rfl) ?_
        obtain ⟨d9, y1_, y2_⟩ := rs_t (a3 := a3) (a6 := a6) jt
        have hP9 := hP.sub (ws' := [(h0, .inr (8, [.int th, .ref q1, .ref q2, .ref q3, .ref q4, .ref q5, .ref q6, .ref q7, .ref q8, .ref q9, .ref q10, .ref q11, v12, v13, v14, .ref q15, v16])), (q1, .inl (c1, 16, .inl a1)), (q2, .inl (c2, 67200, .inl (upd ur_4.1 (((4200 * r) + 1000) + k8) p3))), (q3, .inl (c3, 16, .inl a3)), (q4, .inl (c4, 16, .inl a4)), (q5, .inl (c5, 16, .inl a5)), (q6, .inl (c6, 16, .inl a6)), (q7, .inl (c7, 16, .inl ur_4.2)), (q8, .inl (c8, 16, .inl a8)), (q9, .inl (c9, 16, .inl a9)), (q10, .inl (c10, 16, .inl a10)), (q11, .inl (c11, 16, .inl a11)), (q15, .inl (c15, 4096, .inl a15))]) [6, 7, 8, 9, 0, 10, 1, 11, 12, 2, 3, 4, 5] rfl
        have hD9 := hD.sub (ws' := [(h0, .inr (8, [.int th, .ref q1, .ref q2, .ref q3, .ref q4, .ref q5, .ref q6, .ref q7, .ref q8, .ref q9, .ref q10, .ref q11, v12, v13, v14, .ref q15, v16])), (q1, .inl (c1, 16, .inl a1)), (q2, .inl (c2, 67200, .inl (upd ur_4.1 (((4200 * r) + 1000) + k8) p3))), (q3, .inl (c3, 16, .inl a3)), (q4, .inl (c4, 16, .inl a4)), (q5, .inl (c5, 16, .inl a5)), (q6, .inl (c6, 16, .inl a6)), (q7, .inl (c7, 16, .inl ur_4.2)), (q8, .inl (c8, 16, .inl a8)), (q9, .inl (c9, 16, .inl a9)), (q10, .inl (c10, 16, .inl a10)), (q11, .inl (c11, 16, .inl a11)), (q15, .inl (c15, 4096, .inl a15))]) [6, 7, 8, 9, 0, 10, 1, 11, 12, 2, 3, 4, 5] (by decide) rfl
        have hK9 := hK.sub (tys' := [(c1, .int), (c2, .int), (c3, .int), (c4, .int), (c5, .int), (c6, .int), (c7, .int), (c8, .int), (c9, .int), (c10, .int), (c11, .int), (c15, .boolean)]) [0, 1, 2, 3, 4, 5, 6, 7, 8, 9, 10, 11] rfl
        refine W.widen (k := 0) (n := 0) (Nat.le_of_ble_eq_true rfl) (Nat.le_of_ble_eq_true rfl) ?_
        exact W.lret (v := p5) hx hb hr (fun t ht hW => ⟨⟨p5, (th, (upd ur_4.1 (((4200 * r) + 1000) + k8) p3), a3, a6, ur_4.2, a15), rfl, ⟨⟨d9, by omega, rs_v y2_ (m := 1000 + k8) (by omega) (by omega) (by omega)⟩, hM9⟩, by rw [ht]; exact hP9, va_K.moved hW.alike hK9, hD9⟩, hS.F ht⟩) hS.2.2 dX8_put_189
      ·
        have ic_5 : p1.toInt = 6 := tx_eq rfl (by decide) c_5
        refine lv_lload hx hb dX8_put_133 (lv_at hl 8 rfl) ?_
        obtain ⟨d9, y1_, y2_⟩ := rs_t (a3 := a3) (a6 := a6) jt
        have hP9 := hP.sub (ws' := [(h0, .inr (8, [.int th, .ref q1, .ref q2, .ref q3, .ref q4, .ref q5, .ref q6, .ref q7, .ref q8, .ref q9, .ref q10, .ref q11, v12, v13, v14, .ref q15, v16])), (q1, .inl (c1, 16, .inl a1)), (q2, .inl (c2, 67200, .inl ur_4.1)), (q3, .inl (c3, 16, .inl a3)), (q4, .inl (c4, 16, .inl a4)), (q5, .inl (c5, 16, .inl a5)), (q6, .inl (c6, 16, .inl a6)), (q7, .inl (c7, 16, .inl ur_4.2)), (q8, .inl (c8, 16, .inl a8)), (q9, .inl (c9, 16, .inl a9)), (q10, .inl (c10, 16, .inl a10)), (q11, .inl (c11, 16, .inl a11)), (q15, .inl (c15, 4096, .inl a15))]) [6, 7, 8, 9, 0, 10, 1, 11, 12, 2, 3, 4, 5] rfl
        have hD9 := hD.sub (ws' := [(h0, .inr (8, [.int th, .ref q1, .ref q2, .ref q3, .ref q4, .ref q5, .ref q6, .ref q7, .ref q8, .ref q9, .ref q10, .ref q11, v12, v13, v14, .ref q15, v16])), (q1, .inl (c1, 16, .inl a1)), (q2, .inl (c2, 67200, .inl ur_4.1)), (q3, .inl (c3, 16, .inl a3)), (q4, .inl (c4, 16, .inl a4)), (q5, .inl (c5, 16, .inl a5)), (q6, .inl (c6, 16, .inl a6)), (q7, .inl (c7, 16, .inl ur_4.2)), (q8, .inl (c8, 16, .inl a8)), (q9, .inl (c9, 16, .inl a9)), (q10, .inl (c10, 16, .inl a10)), (q11, .inl (c11, 16, .inl a11)), (q15, .inl (c15, 4096, .inl a15))]) [6, 7, 8, 9, 0, 10, 1, 11, 12, 2, 3, 4, 5] (by decide) rfl
        have hK9 := hK.sub (tys' := [(c1, .int), (c2, .int), (c3, .int), (c4, .int), (c5, .int), (c6, .int), (c7, .int), (c8, .int), (c9, .int), (c10, .int), (c11, .int), (c15, .boolean)]) [0, 1, 2, 3, 4, 5, 6, 7, 8, 9, 10, 11] rfl
        refine W.widen (k := 0) (n := 0) (Nat.le_of_ble_eq_true rfl) (Nat.le_of_ble_eq_true rfl) ?_
        exact W.lret (v := p5) hx hb hr (fun t ht hW => ⟨⟨p5, (th, ur_4.1, a3, a6, ur_4.2, a15), rfl, ⟨⟨d9, by omega, y2_⟩, hM9⟩, by rw [ht]; exact hP9, va_K.moved hW.alike hK9, hD9⟩, hS.F ht⟩) hS.2.2 dX8_put_135
    ·
      have ic_3 : p1.toInt = 8 := tx_eq rfl (by decide) c_3
      refine lv_lload hx hb dX8_put_97 (lv_at hl 7 rfl) ?_
      refine lv_l2i (v := p5.toInt32) hx hb dX8_put_99 rfl ?_
      refine lv_iload hx hb dX8_put_100 (lv_at hl 5 rfl) ?_
      refine lv_iadd hx hb dX8_put_102 ?_
      refine lv_if_ne (tgt := 118) hx hb dX8_put_103 (by decide) (fun c_11 => ?_) (fun c_11 => ?_)
      ·
        have ic_11 : ¬ (p5.toInt32 + p3).toInt = 0 := tx_ne rfl (by decide) c_11
        refine lv_aload_n hx hb dX8_put_118 rfl (lv_at hl 1 rfl) ?_
        refine lv_iload_n hx hb dX8_put_119 rfl (lv_at hl 2 rfl) ?_
        refine lv_iload hx hb dX8_put_120 (lv_at hl 6 rfl) ?_
        have hPc := hP.sub (ws' := [(h0, .inr (8, [.int th, .ref q1, .ref q2, .ref q3, .ref q4, .ref q5, .ref q6, .ref q7, .ref q8, .ref q9, .ref q10, .ref q11, v12, v13, v14, .ref q15, v16])), (q1, .inl (c1, 16, .inl a1)), (q2, .inl (c2, 67200, .inl a2)), (q3, .inl (c3, 16, .inl a3)), (q5, .inl (c5, 16, .inl a5)), (q7, .inl (c7, 16, .inl a7)), (q8, .inl (c8, 16, .inl a8))]) [10, 11, 0, 1, 3, 5, 12] rfl
        have hDc := hD.sub (ws' := [(h0, .inr (8, [.int th, .ref q1, .ref q2, .ref q3, .ref q4, .ref q5, .ref q6, .ref q7, .ref q8, .ref q9, .ref q10, .ref q11, v12, v13, v14, .ref q15, v16])), (q1, .inl (c1, 16, .inl a1)), (q2, .inl (c2, 67200, .inl a2)), (q3, .inl (c3, 16, .inl a3)), (q5, .inl (c5, 16, .inl a5)), (q7, .inl (c7, 16, .inl a7)), (q8, .inl (c8, 16, .inl a8))]) [10, 11, 0, 1, 3, 5, 12] (by decide) rfl
        have hKc := hK.sub (tys' := [(c1, .int), (c2, .int), (c3, .int), (c5, .int), (c7, .int), (c8, .int)]) [0, 1, 2, 4, 6, 7] rfl
        have hFc := va_free (wc := [(h0, .inr (8, [.int th, .ref q1, .ref q2, .ref q3, .ref q4, .ref q5, .ref q6, .ref q7, .ref q8, .ref q9, .ref q10, .ref q11, v12, v13, v14, .ref q15, v16])), (q1, .inl (c1, 16, .inl a1)), (q2, .inl (c2, 67200, .inl a2)), (q3, .inl (c3, 16, .inl a3)), (q5, .inl (c5, 16, .inl a5)), (q7, .inl (c7, 16, .inl a7)), (q8, .inl (c8, 16, .inl a8))]) hD hS hA [10, 11, 0, 1, 3, 5, 12] rfl
        refine va_calli (va_runV (As := [.int (nI o), .int (nI j9)]) (rest := []) ⟨hx, hb, hml, hown, hts⟩ (c_X8_touched l  dC dI H.size h0 th q1 q2 q3 q5 q7 q8 c1 c2 c3 c5 c7 c8 a1 a2 a3 a5 a7 a8 (.ref q4) (.ref q6) (.ref q9) (.ref q10) (.ref q11) v12 v13 v14 (.ref q15) v16 o dep r j9 nz ho9 hF9 hd9 hrt9 hj8 hs9 hz9) (cwV 2 hts gX8_put_X8_touched rfl rfl rfl (by decide +kernel) ⟨(Nat.le_of_ble_eq_true rfl), (Nat.le_of_ble_eq_true rfl)⟩) ⟨pk_blind, va_recv hKc hPc (ci := 8) (q0 := 0) rfl rfl, pk_call hPc hKc hDc⟩ rfl rfl hl.1 rfl (lv_room (Nat.le_of_ble_eq_true rfl)) dX8_put_122 ⟨(Nat.le_of_ble_eq_true rfl), (Nat.le_of_ble_eq_true rfl)⟩) hS (fun q _ h => hFc q h) hFc (fun r_12 ur_12 t H1 locs ht hvm hw hB hz1 hk1 hS => ?_)
        try dsimp only at hw
        have jr_12 := hw
        obtain ⟨hP1, hK1, hD1⟩ := hB
        rw [ht] at hP1
        have hK1 := va_K.moved hvm.symm hK1
        obtain ⟨hP, hD⟩ := va_join (wr := [(q4, .inl (c4, 16, .inl a4)), (q6, .inl (c6, 16, .inl a6)), (q9, .inl (c9, 16, .inl a9)), (q10, .inl (c10, 16, .inl a10)), (q11, .inl (c11, 16, .inl a11)), (q15, .inl (c15, 4096, .inl a15))]) (w1 := [(h0, .inr (8, [.int th, .ref q1, .ref q2, .ref q3, .ref q4, .ref q5, .ref q6, .ref q7, .ref q8, .ref q9, .ref q10, .ref q11, v12, v13, v14, .ref q15, v16])), (q1, .inl (c1, 16, .inl a1)), (q2, .inl (c2, 67200, .inl ur_12.1)), (q3, .inl (c3, 16, .inl a3)), (q5, .inl (c5, 16, .inl a5)), (q7, .inl (c7, 16, .inl ur_12.2)), (q8, .inl (c8, 16, .inl a8))]) hP hD [10, 11, 0, 1, 3, 5, 12] [2, 4, 6, 7, 8, 9] rfl rfl (by decide) (by decide) hk1 hFc hP1 hD1
        clear hk1 hz1 ht hPc hDc hKc hFc
        generalize H1 = H at hP hS ⊢
        replace hP : va_P (dC, dI) vwCl [(q4, .inl (c4, 16, .inl a4)), (q6, .inl (c6, 16, .inl a6)), (q9, .inl (c9, 16, .inl a9)), (q10, .inl (c10, 16, .inl a10)), (q11, .inl (c11, 16, .inl a11)), (q15, .inl (c15, 4096, .inl a15)), (h0, .inr (8, [.int th, .ref q1, .ref q2, .ref q3, .ref q4, .ref q5, .ref q6, .ref q7, .ref q8, .ref q9, .ref q10, .ref q11, v12, v13, v14, .ref q15, v16])), (q1, .inl (c1, 16, .inl a1)), (q2, .inl (c2, 67200, .inl ur_12.1)), (q3, .inl (c3, 16, .inl a3)), (q5, .inl (c5, 16, .inl a5)), (q7, .inl (c7, 16, .inl ur_12.2)), (q8, .inl (c8, 16, .inl a8))] H := hP
        replace hD : va_D A [(q4, .inl (c4, 16, .inl a4)), (q6, .inl (c6, 16, .inl a6)), (q9, .inl (c9, 16, .inl a9)), (q10, .inl (c10, 16, .inl a10)), (q11, .inl (c11, 16, .inl a11)), (q15, .inl (c15, 4096, .inl a15)), (h0, .inr (8, [.int th, .ref q1, .ref q2, .ref q3, .ref q4, .ref q5, .ref q6, .ref q7, .ref q8, .ref q9, .ref q10, .ref q11, v12, v13, v14, .ref q15, v16])), (q1, .inl (c1, 16, .inl a1)), (q2, .inl (c2, 67200, .inl ur_12.1)), (q3, .inl (c3, 16, .inl a3)), (q5, .inl (c5, 16, .inl a5)), (q7, .inl (c7, 16, .inl ur_12.2)), (q8, .inl (c8, 16, .inl a8))] := hD
        refine W.widen (k := 0) (n := 0) (Nat.le_of_ble_eq_true rfl) (Nat.le_of_ble_eq_true rfl) ?_
        obtain ⟨⟨k8, hk8, rfl⟩, jt⟩ := jr_12
        refine W.eq (g2 := F0 m 125 ls [.int (nI k8)]) rfl ?_
        refine lv_istore (lv' := [(9, .int (nI k8)), (8, .int (nI r)), (0, .ref h0), (1, .int (nI o)), (2, .int p1), (3, .int p2), (4, .int p3), (5, .int (nI j9)), (6, .long p5)]) hx hb dX8_put_125 hl (by decide) rfl (fun ls hl => ?_)
        refine lv_iload_n hx hb dX8_put_127 rfl (lv_at hl 4 rfl) ?_
        refine lv_bipush (v := 6) hx hb dX8_put_128 (by decide) ?_
        refine lv_icmp_ne (tgt := 136) hx hb dX8_put_130 (by decide) (fun c_13 => ?_) (fun c_13 => absurd c_13 (fun h9 => absurd (c_3.symm.trans h9) (by decide)))
        refine lv_iload_n hx hb dX8_put_136 rfl (lv_at hl 4 rfl) ?_
        refine lv_bipush (v := 8) hx hb dX8_put_137 (by decide) ?_
        refine lv_icmp_ne (tgt := 151) hx hb dX8_put_139 (by decide) (fun c_14 => absurd (c_3) c_14) (fun c_14 => ?_)
        refine lv_lload hx hb dX8_put_142 (lv_at hl 8 rfl) ?_
        refine lv_l2i (v := p5.toInt32) hx hb dX8_put_144 rfl ?_
        refine lv_iload hx hb dX8_put_145 (lv_at hl 6 rfl) ?_
        refine lv_iadd hx hb dX8_put_147 ?_
        refine lv_goto (tgt := 153) hx hb dX8_put_148 (by decide) ?_
        refine lv_istore (lv' := [(10, .int (p5.toInt32 + p3)), (9, .int (nI k8)), (8, .int (nI r)), (0, .ref h0), (1, .int (nI o)), (2, .int p1), (3, .int p2), (4, .int p3), (5, .int (nI j9)), (6, .long p5)]) hx hb dX8_put_153 hl (by decide) rfl (fun ls hl => ?_)
        refine lv_aload_n hx hb dX8_put_155 rfl (lv_at hl 3 rfl) ?_
        refine va_get (D := (dC, dI)) (ci := 8) (v := .ref q2) (C := RX8) (T := TX8) (N := 17) hx hb hts hi0_ hown hK hP 6 rfl rfl 2 (by decide) hw0_ (fun _ h9 => h9) rfl dX8_put_156 ?_
        refine lv_sipush (v := 4200) hx hb dX8_put_159 (by decide) ?_
        refine lv_iload hx hb dX8_put_162 (lv_at hl 2 rfl) ?_
        refine lv_imul hx hb dX8_put_164 ?_
        refine lv_topi (fun z_15 ez_15 => ?_)
        obtain rfl : z_15 = nI (4200 * r) := ez_15.trans (by rw [show (4200 : Int32) = nI 4200 from rfl, pk_mul])
        refine lv_sipush (v := 1000) hx hb dX8_put_165 (by decide) ?_
        refine lv_iadd hx hb dX8_put_168 ?_
        refine lv_topi (fun z_16 ez_16 => ?_)
        obtain rfl : z_16 = nI ((4200 * r) + 1000) := ez_16.trans (by rw [show (1000 : Int32) = nI 1000 from rfl, nI_add])
        refine lv_iload hx hb dX8_put_169 (lv_at hl 1 rfl) ?_
        refine lv_iadd hx hb dX8_put_171 ?_
        refine lv_topi (fun z_17 ez_17 => ?_)
        obtain rfl : z_17 = nI (((4200 * r) + 1000) + k8) := ez_17.trans (by rw [nI_add])
        refine lv_iload hx hb dX8_put_172 (lv_at hl 0 rfl) ?_
        refine va_iast (i := nI (((4200 * r) + 1000) + k8)) hx hb hK hP hD hS 8 1 rfl rfl (vp_in_nI (by omega) (by omega)) dX8_put_174 (fun H locs hP hD hS => ?_)
        rw [nI_clamp (by omega)] at hP hD
        replace hP : va_P (dC, dI) vwCl [(q4, .inl (c4, 16, .inl a4)), (q6, .inl (c6, 16, .inl a6)), (q9, .inl (c9, 16, .inl a9)), (q10, .inl (c10, 16, .inl a10)), (q11, .inl (c11, 16, .inl a11)), (q15, .inl (c15, 4096, .inl a15)), (h0, .inr (8, [.int th, .ref q1, .ref q2, .ref q3, .ref q4, .ref q5, .ref q6, .ref q7, .ref q8, .ref q9, .ref q10, .ref q11, v12, v13, v14, .ref q15, v16])), (q1, .inl (c1, 16, .inl a1)), (q2, .inl (c2, 67200, .inl (upd ur_12.1 (((4200 * r) + 1000) + k8) (p5.toInt32 + p3)))), (q3, .inl (c3, 16, .inl a3)), (q5, .inl (c5, 16, .inl a5)), (q7, .inl (c7, 16, .inl ur_12.2)), (q8, .inl (c8, 16, .inl a8))] H := hP
        replace hD : va_D A [(q4, .inl (c4, 16, .inl a4)), (q6, .inl (c6, 16, .inl a6)), (q9, .inl (c9, 16, .inl a9)), (q10, .inl (c10, 16, .inl a10)), (q11, .inl (c11, 16, .inl a11)), (q15, .inl (c15, 4096, .inl a15)), (h0, .inr (8, [.int th, .ref q1, .ref q2, .ref q3, .ref q4, .ref q5, .ref q6, .ref q7, .ref q8, .ref q9, .ref q10, .ref q11, v12, v13, v14, .ref q15, v16])), (q1, .inl (c1, 16, .inl a1)), (q2, .inl (c2, 67200, .inl (upd ur_12.1 (((4200 * r) + 1000) + k8) (p5.toInt32 + p3)))), (q3, .inl (c3, 16, .inl a3)), (q5, .inl (c5, 16, .inl a5)), (q7, .inl (c7, 16, .inl ur_12.2)), (q8, .inl (c8, 16, .inl a8))] := hD
        refine lv_iload_n hx hb dX8_put_175 rfl (lv_at hl 5 rfl) ?_
        refine lv_bipush (v := 8) hx hb dX8_put_176 (by decide) ?_
        refine lv_icmp_ne (tgt := 187) hx hb dX8_put_178 (by decide) (fun c_18 => absurd (c_3) c_18) (fun c_18 => ?_)
        refine lv_iload hx hb dX8_put_181 (lv_at hl 0 rfl) ?_
        refine lv_i2l (v := (p5.toInt32 + p3).toInt64) hx hb dX8_put_183 rfl ?_
        refine lv_goto (tgt := 189) hx hb dX8_put_184 (by decide) ?_
        obtain ⟨d9, y1_, y2_⟩ := rs_t (a3 := a3) (a6 := a6) jt
        have hP9 := hP.sub (ws' := [(h0, .inr (8, [.int th, .ref q1, .ref q2, .ref q3, .ref q4, .ref q5, .ref q6, .ref q7, .ref q8, .ref q9, .ref q10, .ref q11, v12, v13, v14, .ref q15, v16])), (q1, .inl (c1, 16, .inl a1)), (q2, .inl (c2, 67200, .inl (upd ur_12.1 (((4200 * r) + 1000) + k8) (p5.toInt32 + p3)))), (q3, .inl (c3, 16, .inl a3)), (q4, .inl (c4, 16, .inl a4)), (q5, .inl (c5, 16, .inl a5)), (q6, .inl (c6, 16, .inl a6)), (q7, .inl (c7, 16, .inl ur_12.2)), (q8, .inl (c8, 16, .inl a8)), (q9, .inl (c9, 16, .inl a9)), (q10, .inl (c10, 16, .inl a10)), (q11, .inl (c11, 16, .inl a11)), (q15, .inl (c15, 4096, .inl a15))]) [6, 7, 8, 9, 0, 10, 1, 11, 12, 2, 3, 4, 5] rfl
        have hD9 := hD.sub (ws' := [(h0, .inr (8, [.int th, .ref q1, .ref q2, .ref q3, .ref q4, .ref q5, .ref q6, .ref q7, .ref q8, .ref q9, .ref q10, .ref q11, v12, v13, v14, .ref q15, v16])), (q1, .inl (c1, 16, .inl a1)), (q2, .inl (c2, 67200, .inl (upd ur_12.1 (((4200 * r) + 1000) + k8) (p5.toInt32 + p3)))), (q3, .inl (c3, 16, .inl a3)), (q4, .inl (c4, 16, .inl a4)), (q5, .inl (c5, 16, .inl a5)), (q6, .inl (c6, 16, .inl a6)), (q7, .inl (c7, 16, .inl ur_12.2)), (q8, .inl (c8, 16, .inl a8)), (q9, .inl (c9, 16, .inl a9)), (q10, .inl (c10, 16, .inl a10)), (q11, .inl (c11, 16, .inl a11)), (q15, .inl (c15, 4096, .inl a15))]) [6, 7, 8, 9, 0, 10, 1, 11, 12, 2, 3, 4, 5] (by decide) rfl
        have hK9 := hK.sub (tys' := [(c1, .int), (c2, .int), (c3, .int), (c4, .int), (c5, .int), (c6, .int), (c7, .int), (c8, .int), (c9, .int), (c10, .int), (c11, .int), (c15, .boolean)]) [0, 1, 2, 3, 4, 5, 6, 7, 8, 9, 10, 11] rfl
        refine W.widen (k := 0) (n := 0) (Nat.le_of_ble_eq_true rfl) (Nat.le_of_ble_eq_true rfl) ?_
        exact W.lret (v := (p5.toInt32 + p3).toInt64) hx hb hr (fun t ht hW => ⟨⟨(p5.toInt32 + p3).toInt64, (th, (upd ur_12.1 (((4200 * r) + 1000) + k8) (p5.toInt32 + p3)), a3, a6, ur_12.2, a15), rfl, ⟨⟨d9, by omega, rs_v y2_ (m := 1000 + k8) (by omega) (by omega) (by omega)⟩, hM9⟩, by rw [ht]; exact hP9, va_K.moved hW.alike hK9, hD9⟩, hS.F ht⟩) hS.2.2 dX8_put_189
      ·
        have ic_11 : (p5.toInt32 + p3).toInt = 0 := tx_eq rfl (by decide) c_11
        refine lv_aload_n hx hb dX8_put_106 rfl (lv_at hl 1 rfl) ?_
        refine lv_iload hx hb dX8_put_107 (lv_at hl 0 rfl) ?_
        refine lv_iload hx hb dX8_put_109 (lv_at hl 6 rfl) ?_
        have hPc := hP.sub (ws' := [(h0, .inr (8, [.int th, .ref q1, .ref q2, .ref q3, .ref q4, .ref q5, .ref q6, .ref q7, .ref q8, .ref q9, .ref q10, .ref q11, v12, v13, v14, .ref q15, v16])), (q1, .inl (c1, 16, .inl a1)), (q2, .inl (c2, 67200, .inl a2)), (q3, .inl (c3, 16, .inl a3)), (q5, .inl (c5, 16, .inl a5)), (q6, .inl (c6, 16, .inl a6)), (q7, .inl (c7, 16, .inl a7))]) [10, 11, 0, 1, 3, 4, 5] rfl
        have hDc := hD.sub (ws' := [(h0, .inr (8, [.int th, .ref q1, .ref q2, .ref q3, .ref q4, .ref q5, .ref q6, .ref q7, .ref q8, .ref q9, .ref q10, .ref q11, v12, v13, v14, .ref q15, v16])), (q1, .inl (c1, 16, .inl a1)), (q2, .inl (c2, 67200, .inl a2)), (q3, .inl (c3, 16, .inl a3)), (q5, .inl (c5, 16, .inl a5)), (q6, .inl (c6, 16, .inl a6)), (q7, .inl (c7, 16, .inl a7))]) [10, 11, 0, 1, 3, 4, 5] (by decide) rfl
        have hKc := hK.sub (tys' := [(c1, .int), (c2, .int), (c3, .int), (c5, .int), (c6, .int), (c7, .int)]) [0, 1, 2, 4, 5, 6] rfl
        have hFc := va_free (wc := [(h0, .inr (8, [.int th, .ref q1, .ref q2, .ref q3, .ref q4, .ref q5, .ref q6, .ref q7, .ref q8, .ref q9, .ref q10, .ref q11, v12, v13, v14, .ref q15, v16])), (q1, .inl (c1, 16, .inl a1)), (q2, .inl (c2, 67200, .inl a2)), (q3, .inl (c3, 16, .inl a3)), (q5, .inl (c5, 16, .inl a5)), (q6, .inl (c6, 16, .inl a6)), (q7, .inl (c7, 16, .inl a7))]) hD hS hA [10, 11, 0, 1, 3, 4, 5] rfl
        refine va_callv (va_runV (As := [.int (nI r), .int (nI j9)]) (rest := []) ⟨hx, hb, hml, hown, hts⟩ (c_X8_goes l  dC dI H.size h0 th q1 q2 q3 q5 q6 q7 c1 c2 c3 c5 c6 c7 a1 a2 a3 a5 a6 a7 (.ref q4) (.ref q8) (.ref q9) (.ref q10) (.ref q11) v12 v13 v14 (.ref q15) v16 r j9 tb nz hr9 hj8 hs9 hz9 (hT9 (by omega))) (cwV 2 hts gX8_put_X8_goes rfl rfl rfl (by decide +kernel) ⟨(Nat.le_of_ble_eq_true rfl), (Nat.le_of_ble_eq_true rfl)⟩) ⟨pk_blind, va_recv hKc hPc (ci := 8) (q0 := 0) rfl rfl, pk_call hPc hKc hDc⟩ rfl rfl hl.1 rfl (lv_room (Nat.le_of_ble_eq_true rfl)) dX8_put_111 ⟨(Nat.le_of_ble_eq_true rfl), (Nat.le_of_ble_eq_true rfl)⟩) hS (fun q _ h => hFc q h) hFc (fun ur_19 t H1 locs ht hvm hw hB hz1 hk1 hS => ?_)
        try dsimp only at hw
        have jr_19 := hw
        obtain ⟨hP1, hK1, hD1⟩ := hB
        rw [ht] at hP1
        have hK1 := va_K.moved hvm.symm hK1
        obtain ⟨hP, hD⟩ := va_join (wr := [(q4, .inl (c4, 16, .inl a4)), (q9, .inl (c9, 16, .inl a9)), (q10, .inl (c10, 16, .inl a10)), (q11, .inl (c11, 16, .inl a11)), (q15, .inl (c15, 4096, .inl a15)), (q8, .inl (c8, 16, .inl a8))]) (w1 := [(h0, .inr (8, [.int th, .ref q1, .ref q2, .ref q3, .ref q4, .ref q5, .ref q6, .ref q7, .ref q8, .ref q9, .ref q10, .ref q11, v12, v13, v14, .ref q15, v16])), (q1, .inl (c1, 16, .inl a1)), (q2, .inl (c2, 67200, .inl ur_19)), (q3, .inl (c3, 16, .inl (upd a3 r (nI (nz - 1))))), (q5, .inl (c5, 16, .inl a5)), (q6, .inl (c6, 16, .inl a6)), (q7, .inl (c7, 16, .inl (upd a7 r (a7 r + 1))))]) hP hD [10, 11, 0, 1, 3, 4, 5] [2, 6, 7, 8, 9, 12] rfl rfl (by decide) (by decide) hk1 hFc hP1 hD1
        clear hk1 hz1 ht hPc hDc hKc hFc
        generalize H1 = H at hP hS ⊢
        replace hP : va_P (dC, dI) vwCl [(q4, .inl (c4, 16, .inl a4)), (q9, .inl (c9, 16, .inl a9)), (q10, .inl (c10, 16, .inl a10)), (q11, .inl (c11, 16, .inl a11)), (q15, .inl (c15, 4096, .inl a15)), (q8, .inl (c8, 16, .inl a8)), (h0, .inr (8, [.int th, .ref q1, .ref q2, .ref q3, .ref q4, .ref q5, .ref q6, .ref q7, .ref q8, .ref q9, .ref q10, .ref q11, v12, v13, v14, .ref q15, v16])), (q1, .inl (c1, 16, .inl a1)), (q2, .inl (c2, 67200, .inl ur_19)), (q3, .inl (c3, 16, .inl (upd a3 r (nI (nz - 1))))), (q5, .inl (c5, 16, .inl a5)), (q6, .inl (c6, 16, .inl a6)), (q7, .inl (c7, 16, .inl (upd a7 r (a7 r + 1))))] H := hP
        replace hD : va_D A [(q4, .inl (c4, 16, .inl a4)), (q9, .inl (c9, 16, .inl a9)), (q10, .inl (c10, 16, .inl a10)), (q11, .inl (c11, 16, .inl a11)), (q15, .inl (c15, 4096, .inl a15)), (q8, .inl (c8, 16, .inl a8)), (h0, .inr (8, [.int th, .ref q1, .ref q2, .ref q3, .ref q4, .ref q5, .ref q6, .ref q7, .ref q8, .ref q9, .ref q10, .ref q11, v12, v13, v14, .ref q15, v16])), (q1, .inl (c1, 16, .inl a1)), (q2, .inl (c2, 67200, .inl ur_19)), (q3, .inl (c3, 16, .inl (upd a3 r (nI (nz - 1))))), (q5, .inl (c5, 16, .inl a5)), (q6, .inl (c6, 16, .inl a6)), (q7, .inl (c7, 16, .inl (upd a7 r (a7 r + 1))))] := hD
        refine W.widen (k := 0) (n := 0) (Nat.le_of_ble_eq_true rfl) (Nat.le_of_ble_eq_true rfl) ?_
        refine W.eq (g2 := F0 m 114 ls []) rfl ?_
        have jg := jr_19
        refine lv_ldc2 (v := 1099511627776) hx hb hown hw1_ dX8_put_114 ?_
        have hP9 := hP.sub (ws' := [(h0, .inr (8, [.int th, .ref q1, .ref q2, .ref q3, .ref q4, .ref q5, .ref q6, .ref q7, .ref q8, .ref q9, .ref q10, .ref q11, v12, v13, v14, .ref q15, v16])), (q1, .inl (c1, 16, .inl a1)), (q2, .inl (c2, 67200, .inl ur_19)), (q3, .inl (c3, 16, .inl (upd a3 r (nI (nz - 1))))), (q4, .inl (c4, 16, .inl a4)), (q5, .inl (c5, 16, .inl a5)), (q6, .inl (c6, 16, .inl a6)), (q7, .inl (c7, 16, .inl (upd a7 r (a7 r + 1)))), (q8, .inl (c8, 16, .inl a8)), (q9, .inl (c9, 16, .inl a9)), (q10, .inl (c10, 16, .inl a10)), (q11, .inl (c11, 16, .inl a11)), (q15, .inl (c15, 4096, .inl a15))]) [6, 7, 8, 9, 0, 10, 11, 12, 5, 1, 2, 3, 4] rfl
        have hD9 := hD.sub (ws' := [(h0, .inr (8, [.int th, .ref q1, .ref q2, .ref q3, .ref q4, .ref q5, .ref q6, .ref q7, .ref q8, .ref q9, .ref q10, .ref q11, v12, v13, v14, .ref q15, v16])), (q1, .inl (c1, 16, .inl a1)), (q2, .inl (c2, 67200, .inl ur_19)), (q3, .inl (c3, 16, .inl (upd a3 r (nI (nz - 1))))), (q4, .inl (c4, 16, .inl a4)), (q5, .inl (c5, 16, .inl a5)), (q6, .inl (c6, 16, .inl a6)), (q7, .inl (c7, 16, .inl (upd a7 r (a7 r + 1)))), (q8, .inl (c8, 16, .inl a8)), (q9, .inl (c9, 16, .inl a9)), (q10, .inl (c10, 16, .inl a10)), (q11, .inl (c11, 16, .inl a11)), (q15, .inl (c15, 4096, .inl a15))]) [6, 7, 8, 9, 0, 10, 11, 12, 5, 1, 2, 3, 4] (by decide) rfl
        have hK9 := hK.sub (tys' := [(c1, .int), (c2, .int), (c3, .int), (c4, .int), (c5, .int), (c6, .int), (c7, .int), (c8, .int), (c9, .int), (c10, .int), (c11, .int), (c15, .boolean)]) [0, 1, 2, 3, 4, 5, 6, 7, 8, 9, 10, 11] rfl
        refine W.widen (k := 0) (n := 0) (Nat.le_of_ble_eq_true rfl) (Nat.le_of_ble_eq_true rfl) ?_
        exact W.lret (v := 1099511627776) hx hb hr (fun t ht hW => ⟨⟨1099511627776, (th, ur_19, (upd a3 r (nI (nz - 1))), a6, (upd a7 r (a7 r + 1)), a15), rfl, ⟨⟨1, by omega, rs_1 jg.1 (fun _ _ => rfl)⟩, mo_us (hM8 _ (by omega))⟩, by rw [ht]; exact hP9, va_K.moved hW.alike hK9, hD9⟩, hS.F ht⟩) hS.2.2 dX8_put_117
  ·
    have ic_2 : p4.toInt < 0 := tx_nle (by decide) rfl c_2
    refine lv_iload_n hx hb dX8_put_12 rfl (lv_at hl 3 rfl) ?_
    refine lv_bipush (v := 7) hx hb dX8_put_13 (by decide) ?_
    refine lv_icmp_ne (tgt := 22) hx hb dX8_put_15 (by decide) (fun c_20 => ?_) (fun c_20 => ?_)
    ·
      have ic_20 : ¬ p1.toInt = 7 := tx_ne rfl (by decide) c_20
      refine lv_aload_n hx hb dX8_put_22 rfl (lv_at hl 1 rfl) ?_
      refine lv_iload_n hx hb dX8_put_23 rfl (lv_at hl 2 rfl) ?_
      refine lv_iload_n hx hb dX8_put_24 rfl (lv_at hl 4 rfl) ?_
      have hPc := hP.sub (ws' := [(h0, .inr (8, [.int th, .ref q1, .ref q2, .ref q3, .ref q4, .ref q5, .ref q6, .ref q7, .ref q8, .ref q9, .ref q10, .ref q11, v12, v13, v14, .ref q15, v16])), (q1, .inl (c1, 16, .inl a1)), (q4, .inl (c4, 16, .inl a4)), (q8, .inl (c8, 16, .inl a8)), (q9, .inl (c9, 16, .inl a9)), (q10, .inl (c10, 16, .inl a10)), (q11, .inl (c11, 16, .inl a11))]) [10, 11, 2, 12, 6, 7, 8] rfl
      have hDc := hD.sub (ws' := [(h0, .inr (8, [.int th, .ref q1, .ref q2, .ref q3, .ref q4, .ref q5, .ref q6, .ref q7, .ref q8, .ref q9, .ref q10, .ref q11, v12, v13, v14, .ref q15, v16])), (q1, .inl (c1, 16, .inl a1)), (q4, .inl (c4, 16, .inl a4)), (q8, .inl (c8, 16, .inl a8)), (q9, .inl (c9, 16, .inl a9)), (q10, .inl (c10, 16, .inl a10)), (q11, .inl (c11, 16, .inl a11))]) [10, 11, 2, 12, 6, 7, 8] (by decide) rfl
      have hKc := hK.sub (tys' := [(c1, .int), (c4, .int), (c8, .int), (c9, .int), (c10, .int), (c11, .int)]) [0, 3, 7, 8, 9, 10] rfl
      have hFc := va_free (wc := [(h0, .inr (8, [.int th, .ref q1, .ref q2, .ref q3, .ref q4, .ref q5, .ref q6, .ref q7, .ref q8, .ref q9, .ref q10, .ref q11, v12, v13, v14, .ref q15, v16])), (q1, .inl (c1, 16, .inl a1)), (q4, .inl (c4, 16, .inl a4)), (q8, .inl (c8, 16, .inl a8)), (q9, .inl (c9, 16, .inl a9)), (q10, .inl (c10, 16, .inl a10)), (q11, .inl (c11, 16, .inl a11))]) hD hS hA [10, 11, 2, 12, 6, 7, 8] rfl
      refine va_calli (va_runV (As := [.int (nI o), .int p2]) (rest := []) ⟨hx, hb, hml, hown, hts⟩ (c_X8_isWithin l  dC dI H.size h0 th q1 q4 q8 q9 q10 q11 c1 c4 c8 c9 c10 c11 a1 a4 a8 a9 a10 a11 (.ref q2) (.ref q3) (.ref q5) (.ref q6) (.ref q7) v12 v13 v14 (.ref q15) v16 o dep p2 ho9 hF9 hd9) (cwV 2 hts gX8_put_X8_isWithin rfl rfl rfl (by decide +kernel) ⟨(Nat.le_of_ble_eq_true rfl), (Nat.le_of_ble_eq_true rfl)⟩) ⟨pk_blind, va_recv hKc hPc (ci := 8) (q0 := 0) rfl rfl, pk_call hPc hKc hDc⟩ rfl rfl hl.1 rfl (lv_room (Nat.le_of_ble_eq_true rfl)) dX8_put_25 ⟨(Nat.le_of_ble_eq_true rfl), (Nat.le_of_ble_eq_true rfl)⟩) hS (fun q _ h => hFc q h) hFc (fun r_21 ur_21 t H1 locs ht hvm hw hB hz1 hk1 hS => ?_)
      try dsimp only at hw
      obtain ⟨hP1, hK1, hD1⟩ := hB
      rw [ht] at hP1
      have hK1 := va_K.moved hvm.symm hK1
      obtain ⟨hP, hD⟩ := va_join (wr := [(q2, .inl (c2, 67200, .inl a2)), (q3, .inl (c3, 16, .inl a3)), (q5, .inl (c5, 16, .inl a5)), (q6, .inl (c6, 16, .inl a6)), (q7, .inl (c7, 16, .inl a7)), (q15, .inl (c15, 4096, .inl a15))]) (w1 := [(h0, .inr (8, [.int th, .ref q1, .ref q2, .ref q3, .ref q4, .ref q5, .ref q6, .ref q7, .ref q8, .ref q9, .ref q10, .ref q11, v12, v13, v14, .ref q15, v16])), (q1, .inl (c1, 16, .inl a1)), (q4, .inl (c4, 16, .inl a4)), (q8, .inl (c8, 16, .inl a8)), (q9, .inl (c9, 16, .inl a9)), (q10, .inl (c10, 16, .inl a10)), (q11, .inl (c11, 16, .inl a11))]) hP hD [10, 11, 2, 12, 6, 7, 8] [0, 1, 3, 4, 5, 9] rfl rfl (by decide) (by decide) hk1 hFc hP1 hD1
      clear hk1 hz1 ht hPc hDc hKc hFc
      generalize H1 = H at hP hS ⊢
      replace hP : va_P (dC, dI) vwCl [(q2, .inl (c2, 67200, .inl a2)), (q3, .inl (c3, 16, .inl a3)), (q5, .inl (c5, 16, .inl a5)), (q6, .inl (c6, 16, .inl a6)), (q7, .inl (c7, 16, .inl a7)), (q15, .inl (c15, 4096, .inl a15)), (h0, .inr (8, [.int th, .ref q1, .ref q2, .ref q3, .ref q4, .ref q5, .ref q6, .ref q7, .ref q8, .ref q9, .ref q10, .ref q11, v12, v13, v14, .ref q15, v16])), (q1, .inl (c1, 16, .inl a1)), (q4, .inl (c4, 16, .inl a4)), (q8, .inl (c8, 16, .inl a8)), (q9, .inl (c9, 16, .inl a9)), (q10, .inl (c10, 16, .inl a10)), (q11, .inl (c11, 16, .inl a11))] H := hP
      replace hD : va_D A [(q2, .inl (c2, 67200, .inl a2)), (q3, .inl (c3, 16, .inl a3)), (q5, .inl (c5, 16, .inl a5)), (q6, .inl (c6, 16, .inl a6)), (q7, .inl (c7, 16, .inl a7)), (q15, .inl (c15, 4096, .inl a15)), (h0, .inr (8, [.int th, .ref q1, .ref q2, .ref q3, .ref q4, .ref q5, .ref q6, .ref q7, .ref q8, .ref q9, .ref q10, .ref q11, v12, v13, v14, .ref q15, v16])), (q1, .inl (c1, 16, .inl a1)), (q4, .inl (c4, 16, .inl a4)), (q8, .inl (c8, 16, .inl a8)), (q9, .inl (c9, 16, .inl a9)), (q10, .inl (c10, 16, .inl a10)), (q11, .inl (c11, 16, .inl a11))] := hD
      refine W.widen (k := 0) (n := 0) (Nat.le_of_ble_eq_true rfl) (Nat.le_of_ble_eq_true rfl) ?_
      obtain rfl : r_21 = tz (winN a1 a8 a11 a9 a10 a4 17 o p2) := hw
      refine W.eq (g2 := F0 m 28 ls [.int (tz (winN a1 a8 a11 a9 a10 a4 17 o p2))]) rfl ?_
      refine lv_if_ne (tgt := 38) hx hb dX8_put_28 (by decide) (fun c_22 => ?_) (fun c_22 => ?_)
      ·
        have ic_22 : ¬ (tz (winN a1 a8 a11 a9 a10 a4 17 o p2)).toInt = 0 := tx_ne rfl (by decide) c_22
        refine lv_aload_n hx hb dX8_put_38 rfl (lv_at hl 1 rfl) ?_
        refine va_get (D := (dC, dI)) (ci := 8) (v := .ref q3) (C := RX8) (T := TX8) (N := 17) hx hb hts hi0_ hown hK hP 6 rfl rfl 3 (by decide) hw2_ (fun _ h9 => h9) rfl dX8_put_39 ?_
        refine lv_iload hx hb dX8_put_42 (lv_at hl 0 rfl) ?_
        refine va_iald (i := nI r) hx hb hK hP 1 2 rfl rfl (vp_in_nI (by omega) (by omega)) dX8_put_44 ?_
        refine W.eq (g2 := F0 m 45 ls [.int (a3 r)]) (by rw [nI_clamp (by omega)]) ?_
        refine W.eq (g2 := F0 m 45 ls [.int (nI nz)]) (by rw [hs9]) ?_
        refine lv_sipush (v := 1000) hx hb dX8_put_45 (by decide) ?_
        refine lv_icmp_lt (tgt := 67) hx hb dX8_put_48 (by decide) (fun c_23 => ?_) (fun c_23 => ?_)
        ·
          have ic_23 : ((nz : Nat) : Int) < 1000 := tx_lt (nI_toInt (by omega)) (by decide) c_23
          refine lv_aload_n hx hb dX8_put_67 rfl (lv_at hl 1 rfl) ?_
          refine lv_iload_n hx hb dX8_put_68 rfl (lv_at hl 2 rfl) ?_
          refine lv_iload_n hx hb dX8_put_69 rfl (lv_at hl 4 rfl) ?_
          refine lv_iload hx hb dX8_put_70 (lv_at hl 5 rfl) ?_
          have hPc := hP.sub (ws' := [(h0, .inr (8, [.int th, .ref q1, .ref q2, .ref q3, .ref q4, .ref q5, .ref q6, .ref q7, .ref q8, .ref q9, .ref q10, .ref q11, v12, v13, v14, .ref q15, v16])), (q1, .inl (c1, 16, .inl a1)), (q2, .inl (c2, 67200, .inl a2)), (q3, .inl (c3, 16, .inl a3)), (q4, .inl (c4, 16, .inl a4)), (q5, .inl (c5, 16, .inl a5)), (q6, .inl (c6, 16, .inl a6)), (q7, .inl (c7, 16, .inl a7)), (q8, .inl (c8, 16, .inl a8)), (q15, .inl (c15, 4096, .inl a15))]) [6, 7, 0, 1, 8, 2, 3, 4, 9, 5] rfl
          have hDc := hD.sub (ws' := [(h0, .inr (8, [.int th, .ref q1, .ref q2, .ref q3, .ref q4, .ref q5, .ref q6, .ref q7, .ref q8, .ref q9, .ref q10, .ref q11, v12, v13, v14, .ref q15, v16])), (q1, .inl (c1, 16, .inl a1)), (q2, .inl (c2, 67200, .inl a2)), (q3, .inl (c3, 16, .inl a3)), (q4, .inl (c4, 16, .inl a4)), (q5, .inl (c5, 16, .inl a5)), (q6, .inl (c6, 16, .inl a6)), (q7, .inl (c7, 16, .inl a7)), (q8, .inl (c8, 16, .inl a8)), (q15, .inl (c15, 4096, .inl a15))]) [6, 7, 0, 1, 8, 2, 3, 4, 9, 5] (by decide) rfl
          have hKc := hK.sub (tys' := [(c1, .int), (c2, .int), (c3, .int), (c4, .int), (c5, .int), (c6, .int), (c7, .int), (c8, .int), (c15, .boolean)]) [0, 1, 2, 3, 4, 5, 6, 7, 11] rfl
          have hFc := va_free (wc := [(h0, .inr (8, [.int th, .ref q1, .ref q2, .ref q3, .ref q4, .ref q5, .ref q6, .ref q7, .ref q8, .ref q9, .ref q10, .ref q11, v12, v13, v14, .ref q15, v16])), (q1, .inl (c1, 16, .inl a1)), (q2, .inl (c2, 67200, .inl a2)), (q3, .inl (c3, 16, .inl a3)), (q4, .inl (c4, 16, .inl a4)), (q5, .inl (c5, 16, .inl a5)), (q6, .inl (c6, 16, .inl a6)), (q7, .inl (c7, 16, .inl a7)), (q8, .inl (c8, 16, .inl a8)), (q15, .inl (c15, 4096, .inl a15))]) hD hS hA [6, 7, 0, 1, 8, 2, 3, 4, 9, 5] rfl
          refine va_callv (va_runV (As := [.int (nI o), .int p2, .int p3]) (rest := []) ⟨hx, hb, hml, hown, hts⟩ (c_X8_newKey l  dC dI H.size h0 th q1 q2 q3 q4 q5 q6 q7 q8 q15 c1 c2 c3 c4 c5 c6 c7 c8 c15 a1 a2 a3 a4 a5 a6 a7 a8 a15 (.ref q9) (.ref q10) (.ref q11) v12 v13 v14 v16 o dep r p2 p3 ho9 hF9 hd9 hrt9 hM9 hkd9 (by omega)) (cwV 3 hts gX8_put_X8_newKey rfl rfl rfl (by decide +kernel) ⟨(Nat.le_of_ble_eq_true rfl), (Nat.le_of_ble_eq_true rfl)⟩) ⟨pk_blind, va_recv hKc hPc (ci := 8) (q0 := 0) rfl rfl, pk_call hPc hKc hDc⟩ rfl rfl hl.1 rfl (lv_room (Nat.le_of_ble_eq_true rfl)) dX8_put_72 ⟨(Nat.le_of_ble_eq_true rfl), (Nat.le_of_ble_eq_true rfl)⟩) hS (fun q _ h => hFc q h) hFc (fun ur_24 t H1 locs ht hvm hw hB hz1 hk1 hS => ?_)
          try dsimp only at hw
          have jr_24 := hw
          obtain ⟨hP1, hK1, hD1⟩ := hB
          rw [ht] at hP1
          have hK1 := va_K.moved hvm.symm hK1
          obtain ⟨hP, hD⟩ := va_join (wr := [(q9, .inl (c9, 16, .inl a9)), (q10, .inl (c10, 16, .inl a10)), (q11, .inl (c11, 16, .inl a11))]) (w1 := [(h0, .inr (8, [.int th, .ref q1, .ref q2, .ref q3, .ref q4, .ref q5, .ref q6, .ref q7, .ref q8, .ref q9, .ref q10, .ref q11, v12, v13, v14, .ref q15, v16])), (q1, .inl (c1, 16, .inl a1)), (q2, .inl (c2, 67200, .inl ur_24.1)), (q3, .inl (c3, 16, .inl ur_24.2.1)), (q4, .inl (c4, 16, .inl a4)), (q5, .inl (c5, 16, .inl a5)), (q6, .inl (c6, 16, .inl ur_24.2.2.1)), (q7, .inl (c7, 16, .inl ur_24.2.2.2.1)), (q8, .inl (c8, 16, .inl a8)), (q15, .inl (c15, 4096, .inl ur_24.2.2.2.2))]) hP hD [6, 7, 0, 1, 8, 2, 3, 4, 9, 5] [10, 11, 12] rfl rfl (by decide) (by decide) hk1 hFc hP1 hD1
          clear hk1 hz1 ht hPc hDc hKc hFc
          generalize H1 = H at hP hS ⊢
          replace hP : va_P (dC, dI) vwCl [(q9, .inl (c9, 16, .inl a9)), (q10, .inl (c10, 16, .inl a10)), (q11, .inl (c11, 16, .inl a11)), (h0, .inr (8, [.int th, .ref q1, .ref q2, .ref q3, .ref q4, .ref q5, .ref q6, .ref q7, .ref q8, .ref q9, .ref q10, .ref q11, v12, v13, v14, .ref q15, v16])), (q1, .inl (c1, 16, .inl a1)), (q2, .inl (c2, 67200, .inl ur_24.1)), (q3, .inl (c3, 16, .inl ur_24.2.1)), (q4, .inl (c4, 16, .inl a4)), (q5, .inl (c5, 16, .inl a5)), (q6, .inl (c6, 16, .inl ur_24.2.2.1)), (q7, .inl (c7, 16, .inl ur_24.2.2.2.1)), (q8, .inl (c8, 16, .inl a8)), (q15, .inl (c15, 4096, .inl ur_24.2.2.2.2))] H := hP
          replace hD : va_D A [(q9, .inl (c9, 16, .inl a9)), (q10, .inl (c10, 16, .inl a10)), (q11, .inl (c11, 16, .inl a11)), (h0, .inr (8, [.int th, .ref q1, .ref q2, .ref q3, .ref q4, .ref q5, .ref q6, .ref q7, .ref q8, .ref q9, .ref q10, .ref q11, v12, v13, v14, .ref q15, v16])), (q1, .inl (c1, 16, .inl a1)), (q2, .inl (c2, 67200, .inl ur_24.1)), (q3, .inl (c3, 16, .inl ur_24.2.1)), (q4, .inl (c4, 16, .inl a4)), (q5, .inl (c5, 16, .inl a5)), (q6, .inl (c6, 16, .inl ur_24.2.2.1)), (q7, .inl (c7, 16, .inl ur_24.2.2.2.1)), (q8, .inl (c8, 16, .inl a8)), (q15, .inl (c15, 4096, .inl ur_24.2.2.2.2))] := hD
          refine W.widen (k := 0) (n := 0) (Nat.le_of_ble_eq_true rfl) (Nat.le_of_ble_eq_true rfl) ?_
          refine W.eq (g2 := F0 m 75 ls []) rfl ?_
          obtain ⟨⟨d9, y1_, y2_⟩, y3_⟩ := jr_24
          refine lv_iload_n hx hb dX8_put_75 rfl (lv_at hl 3 rfl) ?_
          refine lv_bipush (v := 8) hx hb dX8_put_76 (by decide) ?_
          refine lv_icmp_ne (tgt := 87) hx hb dX8_put_78 (by decide) (fun c_25 => ?_) (fun c_25 => ?_)
          ·
            have ic_25 : ¬ p1.toInt = 8 := tx_ne rfl (by decide) c_25
            refine lv_ldc2 (v := 1099511627776) hx hb hown hw1_ dX8_put_87 ?_
            have hP9 := hP.sub (ws' := [(h0, .inr (8, [.int th, .ref q1, .ref q2, .ref q3, .ref q4, .ref q5, .ref q6, .ref q7, .ref q8, .ref q9, .ref q10, .ref q11, v12, v13, v14, .ref q15, v16])), (q1, .inl (c1, 16, .inl a1)), (q2, .inl (c2, 67200, .inl ur_24.1)), (q3, .inl (c3, 16, .inl ur_24.2.1)), (q4, .inl (c4, 16, .inl a4)), (q5, .inl (c5, 16, .inl a5)), (q6, .inl (c6, 16, .inl ur_24.2.2.1)), (q7, .inl (c7, 16, .inl ur_24.2.2.2.1)), (q8, .inl (c8, 16, .inl a8)), (q9, .inl (c9, 16, .inl a9)), (q10, .inl (c10, 16, .inl a10)), (q11, .inl (c11, 16, .inl a11)), (q15, .inl (c15, 4096, .inl ur_24.2.2.2.2))]) [3, 4, 5, 6, 7, 8, 9, 10, 11, 0, 1, 2, 12] rfl
            have hD9 := hD.sub (ws' := [(h0, .inr (8, [.int th, .ref q1, .ref q2, .ref q3, .ref q4, .ref q5, .ref q6, .ref q7, .ref q8, .ref q9, .ref q10, .ref q11, v12, v13, v14, .ref q15, v16])), (q1, .inl (c1, 16, .inl a1)), (q2, .inl (c2, 67200, .inl ur_24.1)), (q3, .inl (c3, 16, .inl ur_24.2.1)), (q4, .inl (c4, 16, .inl a4)), (q5, .inl (c5, 16, .inl a5)), (q6, .inl (c6, 16, .inl ur_24.2.2.1)), (q7, .inl (c7, 16, .inl ur_24.2.2.2.1)), (q8, .inl (c8, 16, .inl a8)), (q9, .inl (c9, 16, .inl a9)), (q10, .inl (c10, 16, .inl a10)), (q11, .inl (c11, 16, .inl a11)), (q15, .inl (c15, 4096, .inl ur_24.2.2.2.2))]) [3, 4, 5, 6, 7, 8, 9, 10, 11, 0, 1, 2, 12] (by decide) rfl
            have hK9 := hK.sub (tys' := [(c1, .int), (c2, .int), (c3, .int), (c4, .int), (c5, .int), (c6, .int), (c7, .int), (c8, .int), (c9, .int), (c10, .int), (c11, .int), (c15, .boolean)]) [0, 1, 2, 3, 4, 5, 6, 7, 8, 9, 10, 11] rfl
            refine W.widen (k := 0) (n := 0) (Nat.le_of_ble_eq_true rfl) (Nat.le_of_ble_eq_true rfl) ?_
            exact W.lret (v := 1099511627776) hx hb hr (fun t ht hW => ⟨⟨1099511627776, (th, ur_24.1, ur_24.2.1, ur_24.2.2.1, ur_24.2.2.2.1, ur_24.2.2.2.2), rfl, ⟨⟨d9, by omega, y2_⟩, y3_⟩, by rw [ht]; exact hP9, va_K.moved hW.alike hK9, hD9⟩, hS.F ht⟩) hS.2.2 dX8_put_90
          ·
            have ic_25 : p1.toInt = 8 := tx_eq rfl (by decide) c_25
            refine lv_iload hx hb dX8_put_81 (lv_at hl 5 rfl) ?_
            refine lv_i2l (v := p3.toInt64) hx hb dX8_put_83 rfl ?_
            refine lv_goto (tgt := 90) hx hb dX8_put_84 (by decide) ?_
            have hP9 := hP.sub (ws' := [(h0, .inr (8, [.int th, .ref q1, .ref q2, .ref q3, .ref q4, .ref q5, .ref q6, .ref q7, .ref q8, .ref q9, .ref q10, .ref q11, v12, v13, v14, .ref q15, v16])), (q1, .inl (c1, 16, .inl a1)), (q2, .inl (c2, 67200, .inl ur_24.1)), (q3, .inl (c3, 16, .inl ur_24.2.1)), (q4, .inl (c4, 16, .inl a4)), (q5, .inl (c5, 16, .inl a5)), (q6, .inl (c6, 16, .inl ur_24.2.2.1)), (q7, .inl (c7, 16, .inl ur_24.2.2.2.1)), (q8, .inl (c8, 16, .inl a8)), (q9, .inl (c9, 16, .inl a9)), (q10, .inl (c10, 16, .inl a10)), (q11, .inl (c11, 16, .inl a11)), (q15, .inl (c15, 4096, .inl ur_24.2.2.2.2))]) [3, 4, 5, 6, 7, 8, 9, 10, 11, 0, 1, 2, 12] rfl
            have hD9 := hD.sub (ws' := [(h0, .inr (8, [.int th, .ref q1, .ref q2, .ref q3, .ref q4, .ref q5, .ref q6, .ref q7, .ref q8, .ref q9, .ref q10, .ref q11, v12, v13, v14, .ref q15, v16])), (q1, .inl (c1, 16, .inl a1)), (q2, .inl (c2, 67200, .inl ur_24.1)), (q3, .inl (c3, 16, .inl ur_24.2.1)), (q4, .inl (c4, 16, .inl a4)), (q5, .inl (c5, 16, .inl a5)), (q6, .inl (c6, 16, .inl ur_24.2.2.1)), (q7, .inl (c7, 16, .inl ur_24.2.2.2.1)), (q8, .inl (c8, 16, .inl a8)), (q9, .inl (c9, 16, .inl a9)), (q10, .inl (c10, 16, .inl a10)), (q11, .inl (c11, 16, .inl a11)), (q15, .inl (c15, 4096, .inl ur_24.2.2.2.2))]) [3, 4, 5, 6, 7, 8, 9, 10, 11, 0, 1, 2, 12] (by decide) rfl
            have hK9 := hK.sub (tys' := [(c1, .int), (c2, .int), (c3, .int), (c4, .int), (c5, .int), (c6, .int), (c7, .int), (c8, .int), (c9, .int), (c10, .int), (c11, .int), (c15, .boolean)]) [0, 1, 2, 3, 4, 5, 6, 7, 8, 9, 10, 11] rfl
            refine W.widen (k := 0) (n := 0) (Nat.le_of_ble_eq_true rfl) (Nat.le_of_ble_eq_true rfl) ?_
            exact W.lret (v := p3.toInt64) hx hb hr (fun t ht hW => ⟨⟨p3.toInt64, (th, ur_24.1, ur_24.2.1, ur_24.2.2.1, ur_24.2.2.2.1, ur_24.2.2.2.2), rfl, ⟨⟨d9, by omega, y2_⟩, y3_⟩, by rw [ht]; exact hP9, va_K.moved hW.alike hK9, hD9⟩, hS.F ht⟩) hS.2.2 dX8_put_90
        ·
          have ic_23 : 1000 ≤ ((nz : Nat) : Int) := tx_nlt (nI_toInt (by omega)) (by decide) c_23
          refine lv_aload_n hx hb dX8_put_51 rfl (lv_at hl 1 rfl) ?_
          refine lv_iload hx hb dX8_put_52 (lv_at hl 0 rfl) ?_
          have hPc := hP.sub (ws' := [(h0, .inr (8, [.int th, .ref q1, .ref q2, .ref q3, .ref q4, .ref q5, .ref q6, .ref q7, .ref q8, .ref q9, .ref q10, .ref q11, v12, v13, v14, .ref q15, v16])), (q1, .inl (c1, 16, .inl a1)), (q4, .inl (c4, 16, .inl a4))]) [6, 7, 8] rfl
          have hDc := hD.sub (ws' := [(h0, .inr (8, [.int th, .ref q1, .ref q2, .ref q3, .ref q4, .ref q5, .ref q6, .ref q7, .ref q8, .ref q9, .ref q10, .ref q11, v12, v13, v14, .ref q15, v16])), (q1, .inl (c1, 16, .inl a1)), (q4, .inl (c4, 16, .inl a4))]) [6, 7, 8] (by decide) rfl
          have hKc := hK.sub (tys' := [(c1, .int), (c4, .int)]) [0, 3] rfl
          have hFc := va_free (wc := [(h0, .inr (8, [.int th, .ref q1, .ref q2, .ref q3, .ref q4, .ref q5, .ref q6, .ref q7, .ref q8, .ref q9, .ref q10, .ref q11, v12, v13, v14, .ref q15, v16])), (q1, .inl (c1, 16, .inl a1)), (q4, .inl (c4, 16, .inl a4))]) hD hS hA [6, 7, 8] rfl
          refine va_calli (va_runV (As := [.int (nI r)]) (rest := []) ⟨hx, hb, hml, hown, hts⟩ (c_X8_isLimited l  dC dI H.size h0 th q1 q4 c1 c4 a1 a4 (.ref q2) (.ref q3) (.ref q5) (.ref q6) (.ref q7) (.ref q8) (.ref q9) (.ref q10) (.ref q11) v12 v13 v14 (.ref q15) v16 r hr9) (cwV 1 hts gX8_put_X8_isLimited rfl rfl rfl (by decide +kernel) ⟨(Nat.le_of_ble_eq_true rfl), (Nat.le_of_ble_eq_true rfl)⟩) ⟨pk_blind, va_recv hKc hPc (ci := 8) (q0 := 0) rfl rfl, pk_call hPc hKc hDc⟩ rfl rfl hl.1 rfl (lv_room (Nat.le_of_ble_eq_true rfl)) dX8_put_54 ⟨(Nat.le_of_ble_eq_true rfl), (Nat.le_of_ble_eq_true rfl)⟩) hS (fun q _ h => hFc q h) hFc (fun r_26 ur_26 t H1 locs ht hvm hw hB hz1 hk1 hS => ?_)
          try dsimp only at hw
          have jr_26 := hw
          obtain ⟨hP1, hK1, hD1⟩ := hB
          rw [ht] at hP1
          have hK1 := va_K.moved hvm.symm hK1
          obtain ⟨hP, hD⟩ := va_join (wr := [(q2, .inl (c2, 67200, .inl a2)), (q3, .inl (c3, 16, .inl a3)), (q5, .inl (c5, 16, .inl a5)), (q6, .inl (c6, 16, .inl a6)), (q7, .inl (c7, 16, .inl a7)), (q15, .inl (c15, 4096, .inl a15)), (q8, .inl (c8, 16, .inl a8)), (q9, .inl (c9, 16, .inl a9)), (q10, .inl (c10, 16, .inl a10)), (q11, .inl (c11, 16, .inl a11))]) (w1 := [(h0, .inr (8, [.int th, .ref q1, .ref q2, .ref q3, .ref q4, .ref q5, .ref q6, .ref q7, .ref q8, .ref q9, .ref q10, .ref q11, v12, v13, v14, .ref q15, v16])), (q1, .inl (c1, 16, .inl a1)), (q4, .inl (c4, 16, .inl a4))]) hP hD [6, 7, 8] [0, 1, 2, 3, 4, 5, 9, 10, 11, 12] rfl rfl (by decide) (by decide) hk1 hFc hP1 hD1
          clear hk1 hz1 ht hPc hDc hKc hFc
          generalize H1 = H at hP hS ⊢
          replace hP : va_P (dC, dI) vwCl [(q2, .inl (c2, 67200, .inl a2)), (q3, .inl (c3, 16, .inl a3)), (q5, .inl (c5, 16, .inl a5)), (q6, .inl (c6, 16, .inl a6)), (q7, .inl (c7, 16, .inl a7)), (q15, .inl (c15, 4096, .inl a15)), (q8, .inl (c8, 16, .inl a8)), (q9, .inl (c9, 16, .inl a9)), (q10, .inl (c10, 16, .inl a10)), (q11, .inl (c11, 16, .inl a11)), (h0, .inr (8, [.int th, .ref q1, .ref q2, .ref q3, .ref q4, .ref q5, .ref q6, .ref q7, .ref q8, .ref q9, .ref q10, .ref q11, v12, v13, v14, .ref q15, v16])), (q1, .inl (c1, 16, .inl a1)), (q4, .inl (c4, 16, .inl a4))] H := hP
          replace hD : va_D A [(q2, .inl (c2, 67200, .inl a2)), (q3, .inl (c3, 16, .inl a3)), (q5, .inl (c5, 16, .inl a5)), (q6, .inl (c6, 16, .inl a6)), (q7, .inl (c7, 16, .inl a7)), (q15, .inl (c15, 4096, .inl a15)), (q8, .inl (c8, 16, .inl a8)), (q9, .inl (c9, 16, .inl a9)), (q10, .inl (c10, 16, .inl a10)), (q11, .inl (c11, 16, .inl a11)), (h0, .inr (8, [.int th, .ref q1, .ref q2, .ref q3, .ref q4, .ref q5, .ref q6, .ref q7, .ref q8, .ref q9, .ref q10, .ref q11, v12, v13, v14, .ref q15, v16])), (q1, .inl (c1, 16, .inl a1)), (q4, .inl (c4, 16, .inl a4))] := hD
          refine W.widen (k := 0) (n := 0) (Nat.le_of_ble_eq_true rfl) (Nat.le_of_ble_eq_true rfl) ?_
          refine W.eq (g2 := F0 m 57 ls [.int r_26]) rfl ?_
          refine lv_if_ne (tgt := 67) hx hb dX8_put_57 (by decide) (fun c_27 => ?_) (fun c_27 => ?_)
          ·
            have ic_27 : ¬ r_26.toInt = 0 := tx_ne rfl (by decide) c_27
            refine lv_aload_n hx hb dX8_put_67 rfl (lv_at hl 1 rfl) ?_
            refine lv_iload_n hx hb dX8_put_68 rfl (lv_at hl 2 rfl) ?_
            refine lv_iload_n hx hb dX8_put_69 rfl (lv_at hl 4 rfl) ?_
            refine lv_iload hx hb dX8_put_70 (lv_at hl 5 rfl) ?_
            have hPc := hP.sub (ws' := [(h0, .inr (8, [.int th, .ref q1, .ref q2, .ref q3, .ref q4, .ref q5, .ref q6, .ref q7, .ref q8, .ref q9, .ref q10, .ref q11, v12, v13, v14, .ref q15, v16])), (q1, .inl (c1, 16, .inl a1)), (q2, .inl (c2, 67200, .inl a2)), (q3, .inl (c3, 16, .inl a3)), (q4, .inl (c4, 16, .inl a4)), (q5, .inl (c5, 16, .inl a5)), (q6, .inl (c6, 16, .inl a6)), (q7, .inl (c7, 16, .inl a7)), (q8, .inl (c8, 16, .inl a8)), (q15, .inl (c15, 4096, .inl a15))]) [10, 11, 0, 1, 12, 2, 3, 4, 6, 5] rfl
            have hDc := hD.sub (ws' := [(h0, .inr (8, [.int th, .ref q1, .ref q2, .ref q3, .ref q4, .ref q5, .ref q6, .ref q7, .ref q8, .ref q9, .ref q10, .ref q11, v12, v13, v14, .ref q15, v16])), (q1, .inl (c1, 16, .inl a1)), (q2, .inl (c2, 67200, .inl a2)), (q3, .inl (c3, 16, .inl a3)), (q4, .inl (c4, 16, .inl a4)), (q5, .inl (c5, 16, .inl a5)), (q6, .inl (c6, 16, .inl a6)), (q7, .inl (c7, 16, .inl a7)), (q8, .inl (c8, 16, .inl a8)), (q15, .inl (c15, 4096, .inl a15))]) [10, 11, 0, 1, 12, 2, 3, 4, 6, 5] (by decide) rfl
            have hKc := hK.sub (tys' := [(c1, .int), (c2, .int), (c3, .int), (c4, .int), (c5, .int), (c6, .int), (c7, .int), (c8, .int), (c15, .boolean)]) [0, 1, 2, 3, 4, 5, 6, 7, 11] rfl
            have hFc := va_free (wc := [(h0, .inr (8, [.int th, .ref q1, .ref q2, .ref q3, .ref q4, .ref q5, .ref q6, .ref q7, .ref q8, .ref q9, .ref q10, .ref q11, v12, v13, v14, .ref q15, v16])), (q1, .inl (c1, 16, .inl a1)), (q2, .inl (c2, 67200, .inl a2)), (q3, .inl (c3, 16, .inl a3)), (q4, .inl (c4, 16, .inl a4)), (q5, .inl (c5, 16, .inl a5)), (q6, .inl (c6, 16, .inl a6)), (q7, .inl (c7, 16, .inl a7)), (q8, .inl (c8, 16, .inl a8)), (q15, .inl (c15, 4096, .inl a15))]) hD hS hA [10, 11, 0, 1, 12, 2, 3, 4, 6, 5] rfl
            refine va_callv (va_runV (As := [.int (nI o), .int p2, .int p3]) (rest := []) ⟨hx, hb, hml, hown, hts⟩ (c_X8_newKey l  dC dI H.size h0 th q1 q2 q3 q4 q5 q6 q7 q8 q15 c1 c2 c3 c4 c5 c6 c7 c8 c15 a1 a2 a3 a4 a5 a6 a7 a8 a15 (.ref q9) (.ref q10) (.ref q11) v12 v13 v14 v16 o dep r p2 p3 ho9 hF9 hd9 hrt9 hM9 hkd9 (by omega)) (cwV 3 hts gX8_put_X8_newKey rfl rfl rfl (by decide +kernel) ⟨(Nat.le_of_ble_eq_true rfl), (Nat.le_of_ble_eq_true rfl)⟩) ⟨pk_blind, va_recv hKc hPc (ci := 8) (q0 := 0) rfl rfl, pk_call hPc hKc hDc⟩ rfl rfl hl.1 rfl (lv_room (Nat.le_of_ble_eq_true rfl)) dX8_put_72 ⟨(Nat.le_of_ble_eq_true rfl), (Nat.le_of_ble_eq_true rfl)⟩) hS (fun q _ h => hFc q h) hFc (fun ur_28 t H1 locs ht hvm hw hB hz1 hk1 hS => ?_)
            try dsimp only at hw
            have jr_28 := hw
            obtain ⟨hP1, hK1, hD1⟩ := hB
            rw [ht] at hP1
            have hK1 := va_K.moved hvm.symm hK1
            obtain ⟨hP, hD⟩ := va_join (wr := [(q9, .inl (c9, 16, .inl a9)), (q10, .inl (c10, 16, .inl a10)), (q11, .inl (c11, 16, .inl a11))]) (w1 := [(h0, .inr (8, [.int th, .ref q1, .ref q2, .ref q3, .ref q4, .ref q5, .ref q6, .ref q7, .ref q8, .ref q9, .ref q10, .ref q11, v12, v13, v14, .ref q15, v16])), (q1, .inl (c1, 16, .inl a1)), (q2, .inl (c2, 67200, .inl ur_28.1)), (q3, .inl (c3, 16, .inl ur_28.2.1)), (q4, .inl (c4, 16, .inl a4)), (q5, .inl (c5, 16, .inl a5)), (q6, .inl (c6, 16, .inl ur_28.2.2.1)), (q7, .inl (c7, 16, .inl ur_28.2.2.2.1)), (q8, .inl (c8, 16, .inl a8)), (q15, .inl (c15, 4096, .inl ur_28.2.2.2.2))]) hP hD [10, 11, 0, 1, 12, 2, 3, 4, 6, 5] [7, 8, 9] rfl rfl (by decide) (by decide) hk1 hFc hP1 hD1
            clear hk1 hz1 ht hPc hDc hKc hFc
            generalize H1 = H at hP hS ⊢
            replace hP : va_P (dC, dI) vwCl [(q9, .inl (c9, 16, .inl a9)), (q10, .inl (c10, 16, .inl a10)), (q11, .inl (c11, 16, .inl a11)), (h0, .inr (8, [.int th, .ref q1, .ref q2, .ref q3, .ref q4, .ref q5, .ref q6, .ref q7, .ref q8, .ref q9, .ref q10, .ref q11, v12, v13, v14, .ref q15, v16])), (q1, .inl (c1, 16, .inl a1)), (q2, .inl (c2, 67200, .inl ur_28.1)), (q3, .inl (c3, 16, .inl ur_28.2.1)), (q4, .inl (c4, 16, .inl a4)), (q5, .inl (c5, 16, .inl a5)), (q6, .inl (c6, 16, .inl ur_28.2.2.1)), (q7, .inl (c7, 16, .inl ur_28.2.2.2.1)), (q8, .inl (c8, 16, .inl a8)), (q15, .inl (c15, 4096, .inl ur_28.2.2.2.2))] H := hP
            replace hD : va_D A [(q9, .inl (c9, 16, .inl a9)), (q10, .inl (c10, 16, .inl a10)), (q11, .inl (c11, 16, .inl a11)), (h0, .inr (8, [.int th, .ref q1, .ref q2, .ref q3, .ref q4, .ref q5, .ref q6, .ref q7, .ref q8, .ref q9, .ref q10, .ref q11, v12, v13, v14, .ref q15, v16])), (q1, .inl (c1, 16, .inl a1)), (q2, .inl (c2, 67200, .inl ur_28.1)), (q3, .inl (c3, 16, .inl ur_28.2.1)), (q4, .inl (c4, 16, .inl a4)), (q5, .inl (c5, 16, .inl a5)), (q6, .inl (c6, 16, .inl ur_28.2.2.1)), (q7, .inl (c7, 16, .inl ur_28.2.2.2.1)), (q8, .inl (c8, 16, .inl a8)), (q15, .inl (c15, 4096, .inl ur_28.2.2.2.2))] := hD
            refine W.widen (k := 0) (n := 0) (Nat.le_of_ble_eq_true rfl) (Nat.le_of_ble_eq_true rfl) ?_
            refine W.eq (g2 := F0 m 75 ls []) rfl ?_
            obtain ⟨⟨d9, y1_, y2_⟩, y3_⟩ := jr_28
            refine lv_iload_n hx hb dX8_put_75 rfl (lv_at hl 3 rfl) ?_
            refine lv_bipush (v := 8) hx hb dX8_put_76 (by decide) ?_
            refine lv_icmp_ne (tgt := 87) hx hb dX8_put_78 (by decide) (fun c_29 => ?_) (fun c_29 => ?_)
            ·
              have ic_29 : ¬ p1.toInt = 8 := tx_ne rfl (by decide) c_29
              refine lv_ldc2 (v := 1099511627776) hx hb hown hw1_ dX8_put_87 ?_
              have hP9 := hP.sub (ws' := [(h0, .inr (8, [.int th, .ref q1, .ref q2, .ref q3, .ref q4, .ref q5, .ref q6, .ref q7, .ref q8, .ref q9, .ref q10, .ref q11, v12, v13, v14, .ref q15, v16])), (q1, .inl (c1, 16, .inl a1)), (q2, .inl (c2, 67200, .inl ur_28.1)), (q3, .inl (c3, 16, .inl ur_28.2.1)), (q4, .inl (c4, 16, .inl a4)), (q5, .inl (c5, 16, .inl a5)), (q6, .inl (c6, 16, .inl ur_28.2.2.1)), (q7, .inl (c7, 16, .inl ur_28.2.2.2.1)), (q8, .inl (c8, 16, .inl a8)), (q9, .inl (c9, 16, .inl a9)), (q10, .inl (c10, 16, .inl a10)), (q11, .inl (c11, 16, .inl a11)), (q15, .inl (c15, 4096, .inl ur_28.2.2.2.2))]) [3, 4, 5, 6, 7, 8, 9, 10, 11, 0, 1, 2, 12] rfl
              have hD9 := hD.sub (ws' := [(h0, .inr (8, [.int th, .ref q1, .ref q2, .ref q3, .ref q4, .ref q5, .ref q6, .ref q7, .ref q8, .ref q9, .ref q10, .ref q11, v12, v13, v14, .ref q15, v16])), (q1, .inl (c1, 16, .inl a1)), (q2, .inl (c2, 67200, .inl ur_28.1)), (q3, .inl (c3, 16, .inl ur_28.2.1)), (q4, .inl (c4, 16, .inl a4)), (q5, .inl (c5, 16, .inl a5)), (q6, .inl (c6, 16, .inl ur_28.2.2.1)), (q7, .inl (c7, 16, .inl ur_28.2.2.2.1)), (q8, .inl (c8, 16, .inl a8)), (q9, .inl (c9, 16, .inl a9)), (q10, .inl (c10, 16, .inl a10)), (q11, .inl (c11, 16, .inl a11)), (q15, .inl (c15, 4096, .inl ur_28.2.2.2.2))]) [3, 4, 5, 6, 7, 8, 9, 10, 11, 0, 1, 2, 12] (by decide) rfl
              have hK9 := hK.sub (tys' := [(c1, .int), (c2, .int), (c3, .int), (c4, .int), (c5, .int), (c6, .int), (c7, .int), (c8, .int), (c9, .int), (c10, .int), (c11, .int), (c15, .boolean)]) [0, 1, 2, 3, 4, 5, 6, 7, 8, 9, 10, 11] rfl
              refine W.widen (k := 0) (n := 0) (Nat.le_of_ble_eq_true rfl) (Nat.le_of_ble_eq_true rfl) ?_
              exact W.lret (v := 1099511627776) hx hb hr (fun t ht hW => ⟨⟨1099511627776, (th, ur_28.1, ur_28.2.1, ur_28.2.2.1, ur_28.2.2.2.1, ur_28.2.2.2.2), rfl, ⟨⟨d9, by omega, y2_⟩, y3_⟩, by rw [ht]; exact hP9, va_K.moved hW.alike hK9, hD9⟩, hS.F ht⟩) hS.2.2 dX8_put_90
            ·
              have ic_29 : p1.toInt = 8 := tx_eq rfl (by decide) c_29
              refine lv_iload hx hb dX8_put_81 (lv_at hl 5 rfl) ?_
              refine lv_i2l (v := p3.toInt64) hx hb dX8_put_83 rfl ?_
              refine lv_goto (tgt := 90) hx hb dX8_put_84 (by decide) ?_
              have hP9 := hP.sub (ws' := [(h0, .inr (8, [.int th, .ref q1, .ref q2, .ref q3, .ref q4, .ref q5, .ref q6, .ref q7, .ref q8, .ref q9, .ref q10, .ref q11, v12, v13, v14, .ref q15, v16])), (q1, .inl (c1, 16, .inl a1)), (q2, .inl (c2, 67200, .inl ur_28.1)), (q3, .inl (c3, 16, .inl ur_28.2.1)), (q4, .inl (c4, 16, .inl a4)), (q5, .inl (c5, 16, .inl a5)), (q6, .inl (c6, 16, .inl ur_28.2.2.1)), (q7, .inl (c7, 16, .inl ur_28.2.2.2.1)), (q8, .inl (c8, 16, .inl a8)), (q9, .inl (c9, 16, .inl a9)), (q10, .inl (c10, 16, .inl a10)), (q11, .inl (c11, 16, .inl a11)), (q15, .inl (c15, 4096, .inl ur_28.2.2.2.2))]) [3, 4, 5, 6, 7, 8, 9, 10, 11, 0, 1, 2, 12] rfl
              have hD9 := hD.sub (ws' := [(h0, .inr (8, [.int th, .ref q1, .ref q2, .ref q3, .ref q4, .ref q5, .ref q6, .ref q7, .ref q8, .ref q9, .ref q10, .ref q11, v12, v13, v14, .ref q15, v16])), (q1, .inl (c1, 16, .inl a1)), (q2, .inl (c2, 67200, .inl ur_28.1)), (q3, .inl (c3, 16, .inl ur_28.2.1)), (q4, .inl (c4, 16, .inl a4)), (q5, .inl (c5, 16, .inl a5)), (q6, .inl (c6, 16, .inl ur_28.2.2.1)), (q7, .inl (c7, 16, .inl ur_28.2.2.2.1)), (q8, .inl (c8, 16, .inl a8)), (q9, .inl (c9, 16, .inl a9)), (q10, .inl (c10, 16, .inl a10)), (q11, .inl (c11, 16, .inl a11)), (q15, .inl (c15, 4096, .inl ur_28.2.2.2.2))]) [3, 4, 5, 6, 7, 8, 9, 10, 11, 0, 1, 2, 12] (by decide) rfl
              have hK9 := hK.sub (tys' := [(c1, .int), (c2, .int), (c3, .int), (c4, .int), (c5, .int), (c6, .int), (c7, .int), (c8, .int), (c9, .int), (c10, .int), (c11, .int), (c15, .boolean)]) [0, 1, 2, 3, 4, 5, 6, 7, 8, 9, 10, 11] rfl
              refine W.widen (k := 0) (n := 0) (Nat.le_of_ble_eq_true rfl) (Nat.le_of_ble_eq_true rfl) ?_
              exact W.lret (v := p3.toInt64) hx hb hr (fun t ht hW => ⟨⟨p3.toInt64, (th, ur_28.1, ur_28.2.1, ur_28.2.2.1, ur_28.2.2.2.1, ur_28.2.2.2.2), rfl, ⟨⟨d9, by omega, y2_⟩, y3_⟩, by rw [ht]; exact hP9, va_K.moved hW.alike hK9, hD9⟩, hS.F ht⟩) hS.2.2 dX8_put_90
          ·
            have ic_27 : r_26.toInt = 0 := tx_eq rfl (by decide) c_27
            refine lv_aload_n hx hb dX8_put_60 rfl (lv_at hl 1 rfl) ?_
            refine lv_iconst (v := 4) hx hb dX8_put_61 (by decide) ?_
            have hPc := hP.sub (ws' := [(h0, .inr (8, [.int th, .ref q1, .ref q2, .ref q3, .ref q4, .ref q5, .ref q6, .ref q7, .ref q8, .ref q9, .ref q10, .ref q11, v12, v13, v14, .ref q15, v16]))]) [10] rfl
            have hDc := hD.sub (ws' := [(h0, .inr (8, [.int th, .ref q1, .ref q2, .ref q3, .ref q4, .ref q5, .ref q6, .ref q7, .ref q8, .ref q9, .ref q10, .ref q11, v12, v13, v14, .ref q15, v16]))]) [10] (by decide) rfl
            have hKc := hK.sub (tys' := []) [] rfl
            have hFc := va_free (wc := [(h0, .inr (8, [.int th, .ref q1, .ref q2, .ref q3, .ref q4, .ref q5, .ref q6, .ref q7, .ref q8, .ref q9, .ref q10, .ref q11, v12, v13, v14, .ref q15, v16]))]) hD hS hA [10] rfl
            refine va_calli (va_runV (As := [.int 4]) (rest := []) ⟨hx, hb, hml, hown, hts⟩ (c_X8_refuse l  dC dI H.size h0 th (.ref q1) (.ref q2) (.ref q3) (.ref q4) (.ref q5) (.ref q6) (.ref q7) (.ref q8) (.ref q9) (.ref q10) (.ref q11) v12 v13 v14 (.ref q15) v16 4) (cwV 1 hts gX8_put_X8_refuse rfl rfl rfl (by decide +kernel) ⟨(Nat.le_of_ble_eq_true rfl), (Nat.le_of_ble_eq_true rfl)⟩) ⟨pk_blind, va_recv hKc hPc (ci := 8) (q0 := 0) rfl rfl, pk_call hPc hKc hDc⟩ rfl rfl hl.1 rfl (lv_room (Nat.le_of_ble_eq_true rfl)) dX8_put_62 ⟨(Nat.le_of_ble_eq_true rfl), (Nat.le_of_ble_eq_true rfl)⟩) hS (fun q _ h => hFc q h) hFc (fun r_30 ur_30 t H1 locs ht hvm hw hB hz1 hk1 hS => ?_)
            try dsimp only at hw
            obtain ⟨hP1, hK1, hD1⟩ := hB
            rw [ht] at hP1
            have hK1 := va_K.moved hvm.symm hK1
            obtain ⟨hP, hD⟩ := va_join (wr := [(q2, .inl (c2, 67200, .inl a2)), (q3, .inl (c3, 16, .inl a3)), (q5, .inl (c5, 16, .inl a5)), (q6, .inl (c6, 16, .inl a6)), (q7, .inl (c7, 16, .inl a7)), (q15, .inl (c15, 4096, .inl a15)), (q8, .inl (c8, 16, .inl a8)), (q9, .inl (c9, 16, .inl a9)), (q10, .inl (c10, 16, .inl a10)), (q11, .inl (c11, 16, .inl a11)), (q1, .inl (c1, 16, .inl a1)), (q4, .inl (c4, 16, .inl a4))]) (w1 := [(h0, .inr (8, [.int 4, .ref q1, .ref q2, .ref q3, .ref q4, .ref q5, .ref q6, .ref q7, .ref q8, .ref q9, .ref q10, .ref q11, v12, v13, v14, .ref q15, v16]))]) hP hD [10] [0, 1, 2, 3, 4, 5, 6, 7, 8, 9, 11, 12] rfl rfl (by decide) (by decide) hk1 hFc hP1 hD1
            clear hk1 hz1 ht hPc hDc hKc hFc
            generalize H1 = H at hP hS ⊢
            replace hP : va_P (dC, dI) vwCl [(q2, .inl (c2, 67200, .inl a2)), (q3, .inl (c3, 16, .inl a3)), (q5, .inl (c5, 16, .inl a5)), (q6, .inl (c6, 16, .inl a6)), (q7, .inl (c7, 16, .inl a7)), (q15, .inl (c15, 4096, .inl a15)), (q8, .inl (c8, 16, .inl a8)), (q9, .inl (c9, 16, .inl a9)), (q10, .inl (c10, 16, .inl a10)), (q11, .inl (c11, 16, .inl a11)), (q1, .inl (c1, 16, .inl a1)), (q4, .inl (c4, 16, .inl a4)), (h0, .inr (8, [.int 4, .ref q1, .ref q2, .ref q3, .ref q4, .ref q5, .ref q6, .ref q7, .ref q8, .ref q9, .ref q10, .ref q11, v12, v13, v14, .ref q15, v16]))] H := hP
            replace hD : va_D A [(q2, .inl (c2, 67200, .inl a2)), (q3, .inl (c3, 16, .inl a3)), (q5, .inl (c5, 16, .inl a5)), (q6, .inl (c6, 16, .inl a6)), (q7, .inl (c7, 16, .inl a7)), (q15, .inl (c15, 4096, .inl a15)), (q8, .inl (c8, 16, .inl a8)), (q9, .inl (c9, 16, .inl a9)), (q10, .inl (c10, 16, .inl a10)), (q11, .inl (c11, 16, .inl a11)), (q1, .inl (c1, 16, .inl a1)), (q4, .inl (c4, 16, .inl a4)), (h0, .inr (8, [.int 4, .ref q1, .ref q2, .ref q3, .ref q4, .ref q5, .ref q6, .ref q7, .ref q8, .ref q9, .ref q10, .ref q11, v12, v13, v14, .ref q15, v16]))] := hD
            refine W.widen (k := 0) (n := 0) (Nat.le_of_ble_eq_true rfl) (Nat.le_of_ble_eq_true rfl) ?_
            obtain rfl : r_30 = 0 := hw
            refine W.eq (g2 := F0 m 65 ls [.int 0]) rfl ?_
            refine lv_i2l (v := (0 : Int32).toInt64) hx hb dX8_put_65 rfl ?_
            have hP9 := hP.sub (ws' := [(h0, .inr (8, [.int 4, .ref q1, .ref q2, .ref q3, .ref q4, .ref q5, .ref q6, .ref q7, .ref q8, .ref q9, .ref q10, .ref q11, v12, v13, v14, .ref q15, v16])), (q1, .inl (c1, 16, .inl a1)), (q2, .inl (c2, 67200, .inl a2)), (q3, .inl (c3, 16, .inl a3)), (q4, .inl (c4, 16, .inl a4)), (q5, .inl (c5, 16, .inl a5)), (q6, .inl (c6, 16, .inl a6)), (q7, .inl (c7, 16, .inl a7)), (q8, .inl (c8, 16, .inl a8)), (q9, .inl (c9, 16, .inl a9)), (q10, .inl (c10, 16, .inl a10)), (q11, .inl (c11, 16, .inl a11)), (q15, .inl (c15, 4096, .inl a15))]) [12, 10, 0, 1, 11, 2, 3, 4, 6, 7, 8, 9, 5] rfl
            have hD9 := hD.sub (ws' := [(h0, .inr (8, [.int 4, .ref q1, .ref q2, .ref q3, .ref q4, .ref q5, .ref q6, .ref q7, .ref q8, .ref q9, .ref q10, .ref q11, v12, v13, v14, .ref q15, v16])), (q1, .inl (c1, 16, .inl a1)), (q2, .inl (c2, 67200, .inl a2)), (q3, .inl (c3, 16, .inl a3)), (q4, .inl (c4, 16, .inl a4)), (q5, .inl (c5, 16, .inl a5)), (q6, .inl (c6, 16, .inl a6)), (q7, .inl (c7, 16, .inl a7)), (q8, .inl (c8, 16, .inl a8)), (q9, .inl (c9, 16, .inl a9)), (q10, .inl (c10, 16, .inl a10)), (q11, .inl (c11, 16, .inl a11)), (q15, .inl (c15, 4096, .inl a15))]) [12, 10, 0, 1, 11, 2, 3, 4, 6, 7, 8, 9, 5] (by decide) rfl
            have hK9 := hK.sub (tys' := [(c1, .int), (c2, .int), (c3, .int), (c4, .int), (c5, .int), (c6, .int), (c7, .int), (c8, .int), (c9, .int), (c10, .int), (c11, .int), (c15, .boolean)]) [0, 1, 2, 3, 4, 5, 6, 7, 8, 9, 10, 11] rfl
            refine W.widen (k := 0) (n := 0) (Nat.le_of_ble_eq_true rfl) (Nat.le_of_ble_eq_true rfl) ?_
            exact W.lret (v := (0 : Int32).toInt64) hx hb hr (fun t ht hW => ⟨⟨(0 : Int32).toInt64, (4, a2, a3, a6, a7, a15), rfl, ⟨⟨0, by omega, rs_rf⟩, hM9⟩, by rw [ht]; exact hP9, va_K.moved hW.alike hK9, hD9⟩, hS.F ht⟩) hS.2.2 dX8_put_66
      ·
        have ic_22 : (tz (winN a1 a8 a11 a9 a10 a4 17 o p2)).toInt = 0 := tx_eq rfl (by decide) c_22
        refine lv_aload_n hx hb dX8_put_31 rfl (lv_at hl 1 rfl) ?_
        refine lv_iconst (v := 3) hx hb dX8_put_32 (by decide) ?_
        have hPc := hP.sub (ws' := [(h0, .inr (8, [.int th, .ref q1, .ref q2, .ref q3, .ref q4, .ref q5, .ref q6, .ref q7, .ref q8, .ref q9, .ref q10, .ref q11, v12, v13, v14, .ref q15, v16]))]) [6] rfl
        have hDc := hD.sub (ws' := [(h0, .inr (8, [.int th, .ref q1, .ref q2, .ref q3, .ref q4, .ref q5, .ref q6, .ref q7, .ref q8, .ref q9, .ref q10, .ref q11, v12, v13, v14, .ref q15, v16]))]) [6] (by decide) rfl
        have hKc := hK.sub (tys' := []) [] rfl
        have hFc := va_free (wc := [(h0, .inr (8, [.int th, .ref q1, .ref q2, .ref q3, .ref q4, .ref q5, .ref q6, .ref q7, .ref q8, .ref q9, .ref q10, .ref q11, v12, v13, v14, .ref q15, v16]))]) hD hS hA [6] rfl
        refine va_calli (va_runV (As := [.int 3]) (rest := []) ⟨hx, hb, hml, hown, hts⟩ (c_X8_refuse l  dC dI H.size h0 th (.ref q1) (.ref q2) (.ref q3) (.ref q4) (.ref q5) (.ref q6) (.ref q7) (.ref q8) (.ref q9) (.ref q10) (.ref q11) v12 v13 v14 (.ref q15) v16 3) (cwV 1 hts gX8_put_X8_refuse rfl rfl rfl (by decide +kernel) ⟨(Nat.le_of_ble_eq_true rfl), (Nat.le_of_ble_eq_true rfl)⟩) ⟨pk_blind, va_recv hKc hPc (ci := 8) (q0 := 0) rfl rfl, pk_call hPc hKc hDc⟩ rfl rfl hl.1 rfl (lv_room (Nat.le_of_ble_eq_true rfl)) dX8_put_33 ⟨(Nat.le_of_ble_eq_true rfl), (Nat.le_of_ble_eq_true rfl)⟩) hS (fun q _ h => hFc q h) hFc (fun r_31 ur_31 t H1 locs ht hvm hw hB hz1 hk1 hS => ?_)
        try dsimp only at hw
        obtain ⟨hP1, hK1, hD1⟩ := hB
        rw [ht] at hP1
        have hK1 := va_K.moved hvm.symm hK1
        obtain ⟨hP, hD⟩ := va_join (wr := [(q2, .inl (c2, 67200, .inl a2)), (q3, .inl (c3, 16, .inl a3)), (q5, .inl (c5, 16, .inl a5)), (q6, .inl (c6, 16, .inl a6)), (q7, .inl (c7, 16, .inl a7)), (q15, .inl (c15, 4096, .inl a15)), (q1, .inl (c1, 16, .inl a1)), (q4, .inl (c4, 16, .inl a4)), (q8, .inl (c8, 16, .inl a8)), (q9, .inl (c9, 16, .inl a9)), (q10, .inl (c10, 16, .inl a10)), (q11, .inl (c11, 16, .inl a11))]) (w1 := [(h0, .inr (8, [.int 3, .ref q1, .ref q2, .ref q3, .ref q4, .ref q5, .ref q6, .ref q7, .ref q8, .ref q9, .ref q10, .ref q11, v12, v13, v14, .ref q15, v16]))]) hP hD [6] [0, 1, 2, 3, 4, 5, 7, 8, 9, 10, 11, 12] rfl rfl (by decide) (by decide) hk1 hFc hP1 hD1
        clear hk1 hz1 ht hPc hDc hKc hFc
        generalize H1 = H at hP hS ⊢
        replace hP : va_P (dC, dI) vwCl [(q2, .inl (c2, 67200, .inl a2)), (q3, .inl (c3, 16, .inl a3)), (q5, .inl (c5, 16, .inl a5)), (q6, .inl (c6, 16, .inl a6)), (q7, .inl (c7, 16, .inl a7)), (q15, .inl (c15, 4096, .inl a15)), (q1, .inl (c1, 16, .inl a1)), (q4, .inl (c4, 16, .inl a4)), (q8, .inl (c8, 16, .inl a8)), (q9, .inl (c9, 16, .inl a9)), (q10, .inl (c10, 16, .inl a10)), (q11, .inl (c11, 16, .inl a11)), (h0, .inr (8, [.int 3, .ref q1, .ref q2, .ref q3, .ref q4, .ref q5, .ref q6, .ref q7, .ref q8, .ref q9, .ref q10, .ref q11, v12, v13, v14, .ref q15, v16]))] H := hP
        replace hD : va_D A [(q2, .inl (c2, 67200, .inl a2)), (q3, .inl (c3, 16, .inl a3)), (q5, .inl (c5, 16, .inl a5)), (q6, .inl (c6, 16, .inl a6)), (q7, .inl (c7, 16, .inl a7)), (q15, .inl (c15, 4096, .inl a15)), (q1, .inl (c1, 16, .inl a1)), (q4, .inl (c4, 16, .inl a4)), (q8, .inl (c8, 16, .inl a8)), (q9, .inl (c9, 16, .inl a9)), (q10, .inl (c10, 16, .inl a10)), (q11, .inl (c11, 16, .inl a11)), (h0, .inr (8, [.int 3, .ref q1, .ref q2, .ref q3, .ref q4, .ref q5, .ref q6, .ref q7, .ref q8, .ref q9, .ref q10, .ref q11, v12, v13, v14, .ref q15, v16]))] := hD
        refine W.widen (k := 0) (n := 0) (Nat.le_of_ble_eq_true rfl) (Nat.le_of_ble_eq_true rfl) ?_
        obtain rfl : r_31 = 0 := hw
        refine W.eq (g2 := F0 m 36 ls [.int 0]) rfl ?_
        refine lv_i2l (v := (0 : Int32).toInt64) hx hb dX8_put_36 rfl ?_
        have hP9 := hP.sub (ws' := [(h0, .inr (8, [.int 3, .ref q1, .ref q2, .ref q3, .ref q4, .ref q5, .ref q6, .ref q7, .ref q8, .ref q9, .ref q10, .ref q11, v12, v13, v14, .ref q15, v16])), (q1, .inl (c1, 16, .inl a1)), (q2, .inl (c2, 67200, .inl a2)), (q3, .inl (c3, 16, .inl a3)), (q4, .inl (c4, 16, .inl a4)), (q5, .inl (c5, 16, .inl a5)), (q6, .inl (c6, 16, .inl a6)), (q7, .inl (c7, 16, .inl a7)), (q8, .inl (c8, 16, .inl a8)), (q9, .inl (c9, 16, .inl a9)), (q10, .inl (c10, 16, .inl a10)), (q11, .inl (c11, 16, .inl a11)), (q15, .inl (c15, 4096, .inl a15))]) [12, 6, 0, 1, 7, 2, 3, 4, 8, 9, 10, 11, 5] rfl
        have hD9 := hD.sub (ws' := [(h0, .inr (8, [.int 3, .ref q1, .ref q2, .ref q3, .ref q4, .ref q5, .ref q6, .ref q7, .ref q8, .ref q9, .ref q10, .ref q11, v12, v13, v14, .ref q15, v16])), (q1, .inl (c1, 16, .inl a1)), (q2, .inl (c2, 67200, .inl a2)), (q3, .inl (c3, 16, .inl a3)), (q4, .inl (c4, 16, .inl a4)), (q5, .inl (c5, 16, .inl a5)), (q6, .inl (c6, 16, .inl a6)), (q7, .inl (c7, 16, .inl a7)), (q8, .inl (c8, 16, .inl a8)), (q9, .inl (c9, 16, .inl a9)), (q10, .inl (c10, 16, .inl a10)), (q11, .inl (c11, 16, .inl a11)), (q15, .inl (c15, 4096, .inl a15))]) [12, 6, 0, 1, 7, 2, 3, 4, 8, 9, 10, 11, 5] (by decide) rfl
        have hK9 := hK.sub (tys' := [(c1, .int), (c2, .int), (c3, .int), (c4, .int), (c5, .int), (c6, .int), (c7, .int), (c8, .int), (c9, .int), (c10, .int), (c11, .int), (c15, .boolean)]) [0, 1, 2, 3, 4, 5, 6, 7, 8, 9, 10, 11] rfl
        refine W.widen (k := 0) (n := 0) (Nat.le_of_ble_eq_true rfl) (Nat.le_of_ble_eq_true rfl) ?_
        exact W.lret (v := (0 : Int32).toInt64) hx hb hr (fun t ht hW => ⟨⟨(0 : Int32).toInt64, (3, a2, a3, a6, a7, a15), rfl, ⟨⟨0, by omega, rs_rf⟩, hM9⟩, by rw [ht]; exact hP9, va_K.moved hW.alike hK9, hD9⟩, hS.F ht⟩) hS.2.2 dX8_put_37
    ·
      have ic_20 : p1.toInt = 7 := tx_eq rfl (by decide) c_20
      refine lv_ldc2 (v := 1099511627776) hx hb hown hw1_ dX8_put_18 ?_
      have hP9 := hP.sub (ws' := [(h0, .inr (8, [.int th, .ref q1, .ref q2, .ref q3, .ref q4, .ref q5, .ref q6, .ref q7, .ref q8, .ref q9, .ref q10, .ref q11, v12, v13, v14, .ref q15, v16])), (q1, .inl (c1, 16, .inl a1)), (q2, .inl (c2, 67200, .inl a2)), (q3, .inl (c3, 16, .inl a3)), (q4, .inl (c4, 16, .inl a4)), (q5, .inl (c5, 16, .inl a5)), (q6, .inl (c6, 16, .inl a6)), (q7, .inl (c7, 16, .inl a7)), (q8, .inl (c8, 16, .inl a8)), (q9, .inl (c9, 16, .inl a9)), (q10, .inl (c10, 16, .inl a10)), (q11, .inl (c11, 16, .inl a11)), (q15, .inl (c15, 4096, .inl a15))]) [10, 11, 0, 1, 2, 3, 4, 5, 12, 6, 7, 8, 9] rfl
      have hD9 := hD.sub (ws' := [(h0, .inr (8, [.int th, .ref q1, .ref q2, .ref q3, .ref q4, .ref q5, .ref q6, .ref q7, .ref q8, .ref q9, .ref q10, .ref q11, v12, v13, v14, .ref q15, v16])), (q1, .inl (c1, 16, .inl a1)), (q2, .inl (c2, 67200, .inl a2)), (q3, .inl (c3, 16, .inl a3)), (q4, .inl (c4, 16, .inl a4)), (q5, .inl (c5, 16, .inl a5)), (q6, .inl (c6, 16, .inl a6)), (q7, .inl (c7, 16, .inl a7)), (q8, .inl (c8, 16, .inl a8)), (q9, .inl (c9, 16, .inl a9)), (q10, .inl (c10, 16, .inl a10)), (q11, .inl (c11, 16, .inl a11)), (q15, .inl (c15, 4096, .inl a15))]) [10, 11, 0, 1, 2, 3, 4, 5, 12, 6, 7, 8, 9] (by decide) rfl
      have hK9 := hK.sub (tys' := [(c1, .int), (c2, .int), (c3, .int), (c4, .int), (c5, .int), (c6, .int), (c7, .int), (c8, .int), (c9, .int), (c10, .int), (c11, .int), (c15, .boolean)]) [0, 1, 2, 3, 4, 5, 6, 7, 8, 9, 10, 11] rfl
      refine W.widen (k := 0) (n := 0) (Nat.le_of_ble_eq_true rfl) (Nat.le_of_ble_eq_true rfl) ?_
      exact W.lret (v := 1099511627776) hx hb hr (fun t ht hW => ⟨⟨1099511627776, (th, a2, a3, a6, a7, a15), rfl, ⟨⟨0, by omega, rs_rf⟩, hM9⟩, by rw [ht]; exact hP9, va_K.moved hW.alike hK9, hD9⟩, hS.F ht⟩) hS.2.2 dX8_put_21
