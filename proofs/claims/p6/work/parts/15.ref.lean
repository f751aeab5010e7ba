theorem dX8_hashed_0 : decode cX8_hashed 0 = .ok (.aload_n 0, 1) := by decide +kernel
theorem dX8_hashed_1 : decode cX8_hashed 1 = .ok (.getfield 26, 3) := by decide +kernel
theorem dX8_hashed_4 : decode cX8_hashed 4 = .ok (.iload_n 1, 1) := by decide +kernel
theorem dX8_hashed_5 : decode cX8_hashed 5 = .ok (.iaload, 1) := by decide +kernel
theorem dX8_hashed_6 : decode cX8_hashed 6 = .ok (.ifCond .ne 76, 3) := by decide +kernel
theorem dX8_hashed_82 : decode cX8_hashed 82 = .ok (.aload_n 0, 1) := by decide +kernel
theorem dX8_hashed_83 : decode cX8_hashed 83 = .ok (.iload_n 1, 1) := by decide +kernel
theorem dX8_hashed_84 : decode cX8_hashed 84 = .ok (.iload_n 2, 1) := by decide +kernel
set_option maxRecDepth 20000 in
theorem ggX8_hashed_X8_bin : GoodIn wsX8_hashed wsX8_bin := goodIn_r _ [9, 10, 11, 1, 12, 13, 8, 14, 41, 42, 43, 44, 45, 46, 47, 48, 49, 50, 51, 52, 53, 54, 55, 56, 57] rfl (by decide +kernel)
set_option maxRecDepth 20000 in
theorem gX8_hashed_X8_bin : GoodIn wsX8_hashed (wsV RX8 115 RX8 yX8_bin wsX8_bin) := goodIn_app (goodIn_of _ (by decide +kernel)) ggX8_hashed_X8_bin
theorem dX8_hashed_85 : decode cX8_hashed 85 = .ok (.invokevirtual 115, 3) := by decide +kernel
theorem dX8_hashed_88 : decode cX8_hashed 88 = .ok (.istore 4, 2) := by decide +kernel
theorem dX8_hashed_90 : decode cX8_hashed 90 = .ok (.aload_n 0, 1) := by decide +kernel
theorem dX8_hashed_91 : decode cX8_hashed 91 = .ok (.iload_n 1, 1) := by decide +kernel
theorem dX8_hashed_92 : decode cX8_hashed 92 = .ok (.iload 4, 2) := by decide +kernel
set_option maxRecDepth 20000 in
theorem ggX8_hashed_X8_inBin : GoodIn wsX8_hashed wsX8_inBin := goodIn_r _ [18, 4, 19, 20, 21, 8, 22, 3, 5, 6, 7, 9, 10, 11, 1, 12, 13, 14, 41, 42, 43, 44, 45, 46, 47, 48, 49, 50, 51, 52, 53, 54, 55, 56, 57] rfl (by decide +kernel)
set_option maxRecDepth 20000 in
theorem gX8_hashed_X8_inBin : GoodIn wsX8_hashed (wsV RX8 125 RX8 yX8_inBin wsX8_inBin) := goodIn_app (goodIn_of _ (by decide +kernel)) ggX8_hashed_X8_inBin
theorem dX8_hashed_94 : decode cX8_hashed 94 = .ok (.invokevirtual 125, 3) := by decide +kernel
theorem dX8_hashed_97 : decode cX8_hashed 97 = .ok (.istore 5, 2) := by decide +kernel
theorem dX8_hashed_99 : decode cX8_hashed 99 = .ok (.aload_n 0, 1) := by decide +kernel
theorem dX8_hashed_100 : decode cX8_hashed 100 = .ok (.getfield 17, 3) := by decide +kernel
theorem dX8_hashed_103 : decode cX8_hashed 103 = .ok (.iload_n 1, 1) := by decide +kernel
theorem dX8_hashed_104 : decode cX8_hashed 104 = .ok (.iaload, 1) := by decide +kernel
theorem dX8_hashed_105 : decode cX8_hashed 105 = .ok (.istore 6, 2) := by decide +kernel
theorem dX8_hashed_107 : decode cX8_hashed 107 = .ok (.iload 6, 2) := by decide +kernel
theorem dX8_hashed_109 : decode cX8_hashed 109 = .ok (.ifCond .le 28, 3) := by decide +kernel
theorem dX8_hashed_137 : decode cX8_hashed 137 = .ok (.aload_n 0, 1) := by decide +kernel
theorem dX8_hashed_138 : decode cX8_hashed 138 = .ok (.iload_n 1, 1) := by decide +kernel
theorem dX8_hashed_139 : decode cX8_hashed 139 = .ok (.iload 6, 2) := by decide +kernel
theorem dX8_hashed_141 : decode cX8_hashed 141 = .ok (.iload_n 2, 1) := by decide +kernel
theorem dX8_hashed_142 : decode cX8_hashed 142 = .ok (.iload_n 3, 1) := by decide +kernel
set_option maxRecDepth 20000 in
theorem ggX8_hashed_X8_comes : GoodIn wsX8_hashed wsX8_comes := goodIn_r _ [26, 4, 27, 19, 20, 21, 8, 22, 3, 28, 29, 30, 31, 32, 33, 34, 35, 41, 42, 43, 44, 45, 46, 47, 48, 49, 50, 51, 52, 53, 54, 55, 56, 57] rfl (by decide +kernel)
set_option maxRecDepth 20000 in
theorem gX8_hashed_X8_comes : GoodIn wsX8_hashed (wsV RX8 132 RX8 yX8_comes wsX8_comes) := goodIn_app (goodIn_of _ (by decide +kernel)) ggX8_hashed_X8_comes
theorem dX8_hashed_143 : decode cX8_hashed 143 = .ok (.invokevirtual 132, 3) := by decide +kernel
theorem dX8_hashed_146 : decode cX8_hashed 146 = .ok (.iload 5, 2) := by decide +kernel
theorem dX8_hashed_148 : decode cX8_hashed 148 = .ok (.bipush 8, 2) := by decide +kernel
theorem dX8_hashed_150 : decode cX8_hashed 150 = .ok (.if_icmp .lt 40, 3) := by decide +kernel
theorem dX8_hashed_190 : decode cX8_hashed 190 = .ok (.aload_n 0, 1) := by decide +kernel
theorem dX8_hashed_191 : decode cX8_hashed 191 = .ok (.getfield 17, 3) := by decide +kernel
theorem dX8_hashed_194 : decode cX8_hashed 194 = .ok (.iload_n 1, 1) := by decide +kernel
theorem dX8_hashed_195 : decode cX8_hashed 195 = .ok (.iaload, 1) := by decide +kernel
theorem dX8_hashed_196 : decode cX8_hashed 196 = .ok (.iconst 4, 1) := by decide +kernel
theorem dX8_hashed_197 : decode cX8_hashed 197 = .ok (.imul, 1) := by decide +kernel
theorem dX8_hashed_198 : decode cX8_hashed 198 = .ok (.aload_n 0, 1) := by decide +kernel
theorem dX8_hashed_199 : decode cX8_hashed 199 = .ok (.getfield 26, 3) := by decide +kernel
theorem dX8_hashed_202 : decode cX8_hashed 202 = .ok (.iload_n 1, 1) := by decide +kernel
theorem dX8_hashed_203 : decode cX8_hashed 203 = .ok (.iaload, 1) := by decide +kernel
theorem dX8_hashed_204 : decode cX8_hashed 204 = .ok (.iconst 3, 1) := by decide +kernel
theorem dX8_hashed_205 : decode cX8_hashed 205 = .ok (.imul, 1) := by decide +kernel
theorem dX8_hashed_206 : decode cX8_hashed 206 = .ok (.if_icmp .le 8, 3) := by decide +kernel
theorem dX8_hashed_214 : decode cX8_hashed 214 = .ok (.return_, 1) := by decide +kernel
theorem dX8_hashed_209 : decode cX8_hashed 209 = .ok (.aload_n 0, 1) := by decide +kernel
theorem dX8_hashed_210 : decode cX8_hashed 210 = .ok (.iload_n 1, 1) := by decide +kernel
set_option maxRecDepth 20000 in
theorem ggX8_hashed_X8_doubled : GoodIn wsX8_hashed wsX8_doubled := goodIn_r _ [39, 1, 40, 3, 4, 19, 20, 21, 8, 22, 28, 29, 30, 31, 5, 6, 7, 9, 10, 11, 12, 13, 14, 32, 33, 34, 35, 15, 16, 17, 18, 41, 42, 43, 44, 45, 46, 47, 48, 49, 50, 51, 52, 53, 54, 55, 56, 57] rfl (by decide +kernel)
set_option maxRecDepth 20000 in
theorem gX8_hashed_X8_doubled : GoodIn wsX8_hashed (wsV RX8 139 RX8 yX8_doubled wsX8_doubled) := goodIn_app (goodIn_of _ (by decide +kernel)) ggX8_hashed_X8_doubled
theorem dX8_hashed_211 : decode cX8_hashed 211 = .ok (.invokevirtual 139, 3) := by decide +kernel
theorem dX8_hashed_153 : decode cX8_hashed 153 = .ok (.aload_n 0, 1) := by decide +kernel
theorem dX8_hashed_154 : decode cX8_hashed 154 = .ok (.getfield 26, 3) := by decide +kernel
theorem dX8_hashed_157 : decode cX8_hashed 157 = .ok (.iload_n 1, 1) := by decide +kernel
theorem dX8_hashed_158 : decode cX8_hashed 158 = .ok (.iaload, 1) := by decide +kernel
theorem dX8_hashed_159 : decode cX8_hashed 159 = .ok (.bipush 64, 2) := by decide +kernel
theorem dX8_hashed_161 : decode cX8_hashed 161 = .ok (.if_icmp .ge 11, 3) := by decide +kernel
theorem dX8_hashed_172 : decode cX8_hashed 172 = .ok (.aload_n 0, 1) := by decide +kernel
theorem dX8_hashed_173 : decode cX8_hashed 173 = .ok (.getfield 14, 3) := by decide +kernel
theorem dX8_hashed_176 : decode cX8_hashed 176 = .ok (.sipush 4200, 3) := by decide +kernel
theorem dX8_hashed_179 : decode cX8_hashed 179 = .ok (.iload_n 1, 1) := by decide +kernel
theorem dX8_hashed_180 : decode cX8_hashed 180 = .ok (.imul, 1) := by decide +kernel
theorem dX8_hashed_181 : decode cX8_hashed 181 = .ok (.sipush 2000, 3) := by decide +kernel
theorem dX8_hashed_184 : decode cX8_hashed 184 = .ok (.iadd, 1) := by decide +kernel
theorem dX8_hashed_185 : decode cX8_hashed 185 = .ok (.iload 4, 2) := by decide +kernel
theorem dX8_hashed_187 : decode cX8_hashed 187 = .ok (.iadd, 1) := by decide +kernel
theorem dX8_hashed_188 : decode cX8_hashed 188 = .ok (.iconst 1, 1) := by decide +kernel
theorem dX8_hashed_189 : decode cX8_hashed 189 = .ok (.iastore, 1) := by decide +kernel
theorem dX8_hashed_164 : decode cX8_hashed 164 = .ok (.aload_n 0, 1) := by decide +kernel
theorem dX8_hashed_165 : decode cX8_hashed 165 = .ok (.iload_n 1, 1) := by decide +kernel
theorem dX8_hashed_166 : decode cX8_hashed 166 = .ok (.invokevirtual 139, 3) := by decide +kernel
theorem dX8_hashed_169 : decode cX8_hashed 169 = .ok (.goto 21, 3) := by decide +kernel
theorem dX8_hashed_112 : decode cX8_hashed 112 = .ok (.aload_n 0, 1) := by decide +kernel
theorem dX8_hashed_113 : decode cX8_hashed 113 = .ok (.iload_n 1, 1) := by decide +kernel
theorem dX8_hashed_114 : decode cX8_hashed 114 = .ok (.aload_n 0, 1) := by decide +kernel
theorem dX8_hashed_115 : decode cX8_hashed 115 = .ok (.iload_n 1, 1) := by decide +kernel
theorem dX8_hashed_116 : decode cX8_hashed 116 = .ok (.iload 6, 2) := by decide +kernel
theorem dX8_hashed_118 : decode cX8_hashed 118 = .ok (.iconst 1, 1) := by decide +kernel
theorem dX8_hashed_119 : decode cX8_hashed 119 = .ok (.isub, 1) := by decide +kernel
set_option maxRecDepth 20000 in
theorem ggX8_hashed_X8_key : GoodIn wsX8_hashed wsX8_key := goodIn_r _ [22, 3, 41, 42, 43, 44, 45, 46, 47, 48, 49, 50, 51, 52, 53, 54, 55, 56, 57] rfl (by decide +kernel)
set_option maxRecDepth 20000 in
theorem gX8_hashed_X8_key : GoodIn wsX8_hashed (wsV RX8 111 RX8 yX8_key wsX8_key) := goodIn_app (goodIn_of _ (by decide +kernel)) ggX8_hashed_X8_key
theorem dX8_hashed_120 : decode cX8_hashed 120 = .ok (.invokevirtual 111, 3) := by decide +kernel
theorem dX8_hashed_123 : decode cX8_hashed 123 = .ok (.invokevirtual 115, 3) := by decide +kernel
theorem dX8_hashed_126 : decode cX8_hashed 126 = .ok (.iload 4, 2) := by decide +kernel
theorem dX8_hashed_128 : decode cX8_hashed 128 = .ok (.if_icmp .le 9, 3) := by decide +kernel
theorem dX8_hashed_131 : decode cX8_hashed 131 = .ok (.iinc 6 (-1), 3) := by decide +kernel
theorem dX8_hashed_134 : decode cX8_hashed 134 = .ok (.goto (-27), 3) := by decide +kernel
theorem dX8_hashed_9 : decode cX8_hashed 9 = .ok (.aload_n 0, 1) := by decide +kernel
theorem dX8_hashed_10 : decode cX8_hashed 10 = .ok (.getfield 26, 3) := by decide +kernel
theorem dX8_hashed_13 : decode cX8_hashed 13 = .ok (.iload_n 1, 1) := by decide +kernel
theorem dX8_hashed_14 : decode cX8_hashed 14 = .ok (.iconst 1, 1) := by decide +kernel
theorem dX8_hashed_15 : decode cX8_hashed 15 = .ok (.iastore, 1) := by decide +kernel
theorem dX8_hashed_16 : decode cX8_hashed 16 = .ok (.aload_n 0, 1) := by decide +kernel
theorem dX8_hashed_17 : decode cX8_hashed 17 = .ok (.getfield 26, 3) := by decide +kernel
theorem dX8_hashed_20 : decode cX8_hashed 20 = .ok (.iload_n 1, 1) := by decide +kernel
theorem dX8_hashed_21 : decode cX8_hashed 21 = .ok (.iaload, 1) := by decide +kernel
theorem dX8_hashed_22 : decode cX8_hashed 22 = .ok (.aload_n 0, 1) := by decide +kernel
theorem dX8_hashed_23 : decode cX8_hashed 23 = .ok (.getfield 20, 3) := by decide +kernel
theorem dX8_hashed_26 : decode cX8_hashed 26 = .ok (.iload_n 1, 1) := by decide +kernel
theorem dX8_hashed_27 : decode cX8_hashed 27 = .ok (.iaload, 1) := by decide +kernel
theorem dX8_hashed_28 : decode cX8_hashed 28 = .ok (.if_icmp .ge 16, 3) := by decide +kernel
theorem dX8_hashed_44 : decode cX8_hashed 44 = .ok (.iconst 0, 1) := by decide +kernel
theorem dX8_hashed_45 : decode cX8_hashed 45 = .ok (.istore 4, 2) := by decide +kernel
theorem dX8_hashed_47 : decode cX8_hashed 47 = .ok (.iload 4, 2) := by decide +kernel
theorem dX8_hashed_49 : decode cX8_hashed 49 = .ok (.aload_n 0, 1) := by decide +kernel
theorem dX8_hashed_50 : decode cX8_hashed 50 = .ok (.getfield 26, 3) := by decide +kernel
theorem dX8_hashed_53 : decode cX8_hashed 53 = .ok (.iload_n 1, 1) := by decide +kernel
theorem dX8_hashed_54 : decode cX8_hashed 54 = .ok (.iaload, 1) := by decide +kernel
theorem dX8_hashed_55 : decode cX8_hashed 55 = .ok (.if_icmp .ge 27, 3) := by decide +kernel
theorem dX8_hashed_58 : decode cX8_hashed 58 = .ok (.aload_n 0, 1) := by decide +kernel
theorem dX8_hashed_59 : decode cX8_hashed 59 = .ok (.getfield 14, 3) := by decide +kernel
theorem dX8_hashed_62 : decode cX8_hashed 62 = .ok (.sipush 4200, 3) := by decide +kernel
theorem dX8_hashed_65 : decode cX8_hashed 65 = .ok (.iload_n 1, 1) := by decide +kernel
theorem dX8_hashed_66 : decode cX8_hashed 66 = .ok (.imul, 1) := by decide +kernel
theorem dX8_hashed_67 : decode cX8_hashed 67 = .ok (.sipush 2000, 3) := by decide +kernel
theorem dX8_hashed_70 : decode cX8_hashed 70 = .ok (.iadd, 1) := by decide +kernel
theorem dX8_hashed_71 : decode cX8_hashed 71 = .ok (.iload 4, 2) := by decide +kernel
theorem dX8_hashed_73 : decode cX8_hashed 73 = .ok (.iadd, 1) := by decide +kernel
theorem dX8_hashed_74 : decode cX8_hashed 74 = .ok (.iconst 0, 1) := by decide +kernel
theorem dX8_hashed_75 : decode cX8_hashed 75 = .ok (.iastore, 1) := by decide +kernel
theorem dX8_hashed_76 : decode cX8_hashed 76 = .ok (.iinc 4 1, 3) := by decide +kernel
theorem dX8_hashed_79 : decode cX8_hashed 79 = .ok (.goto (-32), 3) := by decide +kernel
theorem dX8_hashed_31 : decode cX8_hashed 31 = .ok (.aload_n 0, 1) := by decide +kernel
theorem dX8_hashed_32 : decode cX8_hashed 32 = .ok (.getfield 26, 3) := by decide +kernel
theorem dX8_hashed_35 : decode cX8_hashed 35 = .ok (.iload_n 1, 1) := by decide +kernel
theorem dX8_hashed_36 : decode cX8_hashed 36 = .ok (.dup2, 1) := by decide +kernel
theorem dX8_hashed_37 : decode cX8_hashed 37 = .ok (.iaload, 1) := by decide +kernel
theorem dX8_hashed_38 : decode cX8_hashed 38 = .ok (.iconst 2, 1) := by decide +kernel
theorem dX8_hashed_39 : decode cX8_hashed 39 = .ok (.imul, 1) := by decide +kernel
theorem dX8_hashed_40 : decode cX8_hashed 40 = .ok (.iastore, 1) := by decide +kernel
theorem dX8_hashed_41 : decode cX8_hashed 41 = .ok (.goto (-25), 3) := by decide +kernel
set_option maxHeartbeats 4000000 in
set_option maxRecDepth 100000 in
/-- a key comes into a HASH -/
theorem c_X8_hashed (l : Launch) (dC : Nat → ClassId) (dI : Nat → Nat → Nat) (sz : Nat) (h0 : Nat) (th : Int32) (q2 : Nat) (q3 : Nat) (q4 : Nat) (q5 : Nat) (q6 : Nat) (q7 : Nat) (q15 : Nat) (c2 : ClassId) (c3 : ClassId) (c4 : ClassId) (c5 : ClassId) (c6 : ClassId) (c7 : ClassId) (c15 : ClassId) (a2 : Nat → Int32) (a3 : Nat → Int32) (a4 : Nat → Int32) (a5 : Nat → Int32) (a6 : Nat → Int32) (a7 : Nat → Int32) (a15 : Nat → Int32) (v1 : Value) (v8 : Value) (v9 : Value) (v10 : Value) (v11 : Value) (v12 : Value) (v13 : Value) (v14 : Value) (v16 : Value) (r : Nat) (p1 : Int32) (p2 : Int32) (tb : Nat) (nz : Nat) (fi : Nat) (hr9 : r < 16) (hf9 : a4 r = nI fi) (hf8 : fi ≤ 1000) (htb : a6 r = nI tb) (hT9 : (tb = 0 ∧ nz = 0) ∨ (1 ≤ tb ∧ tb ≤ 2048 ∧ (∃ j : Nat, tb = 2 ^ j) ∧ nz * 4 ≤ tb * 3)) (hs9 : a3 r = nI nz) (hz9 : nz < 1000) : Met l yX8_hashed wsX8_hashed ({ frames := 4, cells := 0, slots := 0, locals := 170 }) (va_Pc [.ref h0, .int (nI r), .int p1, .int p2] (pk_Pre (dC, dI) [(h0, .inr (8, [.int th, v1, .ref q2, .ref q3, .ref q4, .ref q5, .ref q6, .ref q7, v8, v9, v10, v11, v12, v13, v14, .ref q15, v16])), (q2, .inl (c2, 67200, .inl a2)), (q3, .inl (c3, 16, .inl a3)), (q4, .inl (c4, 16, .inl a4)), (q5, .inl (c5, 16, .inl a5)), (q6, .inl (c6, 16, .inl a6)), (q7, .inl (c7, 16, .inl a7)), (q15, .inl (c15, 4096, .inl a15))] [(c2, .int), (c3, .int), (c4, .int), (c5, .int), (c6, .int), (c7, .int), (c15, .boolean)] sz)) (va_Qv (fun (u : (Nat → Int32) × (Nat → Int32) × (Nat → Int32)) => outR a2 u.1 r ∧ (∀ q : Nat, q ≠ r → u.2.1 q = a6 q) ∧ ∃ t9 : Nat, u.2.1 r = nI t9 ∧ 1 ≤ t9 ∧ t9 ≤ 2048 ∧ (∃ j : Nat, t9 = 2 ^ j) ∧ (nz + 1) * 4 ≤ t9 * 3) (fun (u : (Nat → Int32) × (Nat → Int32) × (Nat → Int32)) (t : State) => va_P (dC, dI) vwCl [(h0, .inr (8, [.int th, v1, .ref q2, .ref q3, .ref q4, .ref q5, .ref q6, .ref q7, v8, v9, v10, v11, v12, v13, v14, .ref q15, v16])), (q2, .inl (c2, 67200, .inl u.1)), (q3, .inl (c3, 16, .inl (upd a3 r (nI (nz + 1))))), (q4, .inl (c4, 16, .inl a4)), (q5, .inl (c5, 16, .inl a5)), (q6, .inl (c6, 16, .inl u.2.1)), (q7, .inl (c7, 16, .inl (upd a7 r (a7 r + 1)))), (q15, .inl (c15, 4096, .inl u.2.2))] t.heap ∧ va_K (dC, dI) vwCl [(c2, .int), (c3, .int), (c4, .int), (c5, .int), (c6, .int), (c7, .int), (c15, .boolean)] t ∧ va_D (va_A [(h0, .inr (8, [.int th, v1, .ref q2, .ref q3, .ref q4, .ref q5, .ref q6, .ref q7, v8, v9, v10, v11, v12, v13, v14, .ref q15, v16])), (q2, .inl (c2, 67200, .inl a2)), (q3, .inl (c3, 16, .inl a3)), (q4, .inl (c4, 16, .inl a4)), (q5, .inl (c5, 16, .inl a5)), (q6, .inl (c6, 16, .inl a6)), (q7, .inl (c7, 16, .inl a7)), (q15, .inl (c15, 4096, .inl a15))] sz) [(h0, .inr (8, [.int th, v1, .ref q2, .ref q3, .ref q4, .ref q5, .ref q6, .ref q7, v8, v9, v10, v11, v12, v13, v14, .ref q15, v16])), (q2, .inl (c2, 67200, .inl u.1)), (q3, .inl (c3, 16, .inl (upd a3 r (nI (nz + 1))))), (q4, .inl (c4, 16, .inl a4)), (q5, .inl (c5, 16, .inl a5)), (q6, .inl (c6, 16, .inl u.2.1)), (q7, .inl (c7, 16, .inl (upd a7 r (a7 r + 1)))), (q15, .inl (c15, 4096, .inl u.2.2))]) (va_A [(h0, .inr (8, [.int th, v1, .ref q2, .ref q3, .ref q4, .ref q5, .ref q6, .ref q7, v8, v9, v10, v11, v12, v13, v14, .ref q15, v16])), (q2, .inl (c2, 67200, .inl a2)), (q3, .inl (c3, 16, .inl a3)), (q4, .inl (c4, 16, .inl a4)), (q5, .inl (c5, 16, .inl a5)), (q6, .inl (c6, 16, .inl a6)), (q7, .inl (c7, 16, .inl a7)), (q15, .inl (c15, 4096, .inl a15))] sz)) 0 0 (va_A [(h0, .inr (8, [.int th, v1, .ref q2, .ref q3, .ref q4, .ref q5, .ref q6, .ref q7, v8, v9, v10, v11, v12, v13, v14, .ref q15, v16])), (q2, .inl (c2, 67200, .inl a2)), (q3, .inl (c3, 16, .inl a3)), (q4, .inl (c4, 16, .inl a4)), (q5, .inl (c5, 16, .inl a5)), (q6, .inl (c6, 16, .inl a6)), (q7, .inl (c7, 16, .inl a7)), (q15, .inl (c15, 4096, .inl a15))] sz) := by
  refine Met.ofW (cc := cX8_hashed) (maxL := 7) (ret := none) (by decide) rfl ?_
  intro p e s m args below meth c s₁ B hml hv
  obtain ⟨rfl, hsz, hP, hK, hD0⟩ := hv
  have hx := B.exec
  have hb := B.bytes
  have hr := B.returns
  have hts := atoms_spec (ws := wsX8_hashed) B.pre
  have hown : s.vm.findClass RX8 = some m.cls := findClass_of_methodNamed B.named
  have hlocks := B.notSynchronized
  subst hsz
  have hD := hD0.self (sz := s.heap.size)
  generalize hAe : va_A [(h0, .inr (8, [.int th, v1, .ref q2, .ref q3, .ref q4, .ref q5, .ref q6, .ref q7, v8, v9, v10, v11, v12, v13, v14, .ref q15, v16])), (q2, .inl (c2, 67200, .inl a2)), (q3, .inl (c3, 16, .inl a3)), (q4, .inl (c4, 16, .inl a4)), (q5, .inl (c5, 16, .inl a5)), (q6, .inl (c6, 16, .inl a6)), (q7, .inl (c7, 16, .inl a7)), (q15, .inl (c15, 4096, .inl a15))] s.heap.size = A at hD ⊢
  have hA : ∀ q : Nat, s.heap.size ≤ q → A q := fun q h => by rw [← hAe]; exact Or.inr h
  have hS : va_S A s.heap s.heap [] := va_S.rf
  have hP : va_P (dC, dI) vwCl [(h0, .inr (8, [.int th, v1, .ref q2, .ref q3, .ref q4, .ref q5, .ref q6, .ref q7, v8, v9, v10, v11, v12, v13, v14, .ref q15, v16])), (q2, .inl (c2, 67200, .inl a2)), (q3, .inl (c3, 16, .inl a3)), (q4, .inl (c4, 16, .inl a4)), (q5, .inl (c5, 16, .inl a5)), (q6, .inl (c6, 16, .inl a6)), (q7, .inl (c7, 16, .inl a7)), (q15, .inl (c15, 4096, .inl a15))] s.heap := hP
  have hl := lv_entry ([.ref h0, .int (nI r), .int p1, .int p2]) (n := 7) (Nat.le_of_ble_eq_true rfl)
  rw [lg_entry_eq]
  generalize (lg_sl ([.ref h0, .int (nI r), .int p1, .int p2]) ++ List.replicate (7 - (lg_sl ([.ref h0, .int (nI r), .int p1, .int p2])).length) Slot.unset).toArray = ls at hl ⊢
  replace hl : lv_has ls 7 [(0, .ref h0), (1, .int (nI r)), (2, .int p1), (3, .int p2)] := hl
  have hw0_ := hts (.fieldLink RX8 26 "KeyAtlasModel" "table" "[I") (List.mem_of_getElem? (l := wsX8_hashed) (i := 1) rfl)
  have hw1_ := hts (.fieldLink RX8 17 "KeyAtlasModel" "size" "[I") (List.mem_of_getElem? (l := wsX8_hashed) (i := 4) rfl)
  have hw2_ := hts (.fieldLink RX8 14 "KeyAtlasModel" "cell" "[I") (List.mem_of_getElem? (l := wsX8_hashed) (i := 3) rfl)
  have hw3_ := hts (.fieldLink RX8 20 "KeyAtlasModel" "first" "[I") (List.mem_of_getElem? (l := wsX8_hashed) (i := 2) rfl)
  have hi0_ : ∀ w ∈ u_ws RX8 TX8 17, w ∈ wsX8_hashed := fun w h => List.mem_cons_of_mem _ (List.mem_append_right _ h)
  refine lv_aload_n hx hb dX8_hashed_0 rfl (lv_at hl 0 rfl) ?_
  refine va_get (D := (dC, dI)) (ci := 8) (v := .ref q6) (C := RX8) (T := TX8) (N := 17) hx hb hts hi0_ hown hK hP 0 rfl rfl 6 (by decide) hw0_ (fun _ h9 => h9) rfl dX8_hashed_1 ?_
  refine lv_iload_n hx hb dX8_hashed_4 rfl (lv_at hl 1 rfl) ?_
  refine va_iald (i := nI r) hx hb hK hP 5 4 rfl rfl (vp_in_nI (by omega) (by omega)) dX8_hashed_5 ?_
  refine W.eq (g2 := F0 m 6 ls [.int (a6 r)]) (by rw [nI_clamp (by omega)]) ?_
  refine W.eq (g2 := F0 m 6 ls [.int (nI tb)]) (by rw [htb]) ?_
  refine lv_if_ne (tgt := 82) hx hb dX8_hashed_6 (by decide) (fun c_1 => ?_) (fun c_1 => ?_)
  ·
    have ic_1 : ¬ ((tb : Nat) : Int) = 0 := tx_ne (nI_toInt (by omega)) (by decide) c_1
    obtain ⟨u1_, u2_, u3_, u4_⟩ : 1 ≤ tb ∧ tb ≤ 2048 ∧ (∃ j : Nat, tb = 2 ^ j) ∧ nz * 4 ≤ tb * 3 := by rcases hT9 with h | h; exact absurd h.1 (by omega); exact h
    have q6_ : a6 r = nI tb := htb
    have qw : ∀ q : Nat, q ≠ r → a6 q = a6 q := fun _ _ => rfl
    have qo : outR a2 a2 r := outR_rf
    refine lv_aload_n hx hb dX8_hashed_82 rfl (lv_at hl 0 rfl) ?_
    refine lv_iload_n hx hb dX8_hashed_83 rfl (lv_at hl 1 rfl) ?_
    refine lv_iload_n hx hb dX8_hashed_84 rfl (lv_at hl 2 rfl) ?_
    have hPc := hP.sub (ws' := [(h0, .inr (8, [.int th, v1, .ref q2, .ref q3, .ref q4, .ref q5, .ref q6, .ref q7, v8, v9, v10, v11, v12, v13, v14, .ref q15, v16])), (q5, .inl (c5, 16, .inl a5)), (q6, .inl (c6, 16, .inl a6))]) [0, 4, 5] rfl
    have hDc := hD.sub (ws' := [(h0, .inr (8, [.int th, v1, .ref q2, .ref q3, .ref q4, .ref q5, .ref q6, .ref q7, v8, v9, v10, v11, v12, v13, v14, .ref q15, v16])), (q5, .inl (c5, 16, .inl a5)), (q6, .inl (c6, 16, .inl a6))]) [0, 4, 5] (by decide) rfl
    have hKc := hK.sub (tys' := [(c5, .int), (c6, .int)]) [3, 4] rfl
    have hFc := va_free (wc := [(h0, .inr (8, [.int th, v1, .ref q2, .ref q3, .ref q4, .ref q5, .ref q6, .ref q7, v8, v9, v10, v11, v12, v13, v14, .ref q15, v16])), (q5, .inl (c5, 16, .inl a5)), (q6, .inl (c6, 16, .inl a6))]) hD hS hA [0, 4, 5] rfl
    refine va_calli (va_runV (As := [.int (nI r), .int p1]) (rest := []) ⟨hx, hb, hml, hown, hts⟩ (c_X8_bin l  dC dI s.heap.size h0 th q5 q6 c5 c6 a5 a6 v1 (.ref q2) (.ref q3) (.ref q4) (.ref q7) v8 v9 v10 v11 v12 v13 v14 (.ref q15) v16 r p1 tb hr9 u1_ u2_ u3_ q6_) (cwV 2 hts gX8_hashed_X8_bin rfl rfl rfl (by decide +kernel) ⟨(Nat.le_of_ble_eq_true rfl), (Nat.le_of_ble_eq_true rfl)⟩) ⟨pk_blind, va_recv hKc hPc (ci := 8) (q0 := 0) rfl rfl, pk_call hPc hKc hDc⟩ rfl rfl hl.1 rfl (lv_room (Nat.le_of_ble_eq_true rfl)) dX8_hashed_85 ⟨(Nat.le_of_ble_eq_true rfl), (Nat.le_of_ble_eq_true rfl)⟩) hS (fun q _ h => hFc q h) hFc (fun r_2 ur_2 t H1 locs ht hvm hw hB hz1 hk1 hS => ?_)
    try dsimp only at hw
    have jr_2 := hw
    obtain ⟨hP1, hK1, hD1⟩ := hB
    rw [ht] at hP1
    have hK1 := va_K.moved hvm.symm hK1
    obtain ⟨hP, hD⟩ := va_join (wr := [(q2, .inl (c2, 67200, .inl a2)), (q3, .inl (c3, 16, .inl a3)), (q4, .inl (c4, 16, .inl a4)), (q7, .inl (c7, 16, .inl a7)), (q15, .inl (c15, 4096, .inl a15))]) (w1 := [(h0, .inr (8, [.int th, v1, .ref q2, .ref q3, .ref q4, .ref q5, .ref q6, .ref q7, v8, v9, v10, v11, v12, v13, v14, .ref q15, v16])), (q5, .inl (c5, 16, .inl a5)), (q6, .inl (c6, 16, .inl a6))]) hP hD [0, 4, 5] [1, 2, 3, 6, 7] rfl rfl (by decide) (by decide) hk1 hFc hP1 hD1
    clear hk1 hz1 ht hPc hDc hKc hFc
    generalize H1 = H at hP hS ⊢
    replace hP : va_P (dC, dI) vwCl [(q2, .inl (c2, 67200, .inl a2)), (q3, .inl (c3, 16, .inl a3)), (q4, .inl (c4, 16, .inl a4)), (q7, .inl (c7, 16, .inl a7)), (q15, .inl (c15, 4096, .inl a15)), (h0, .inr (8, [.int th, v1, .ref q2, .ref q3, .ref q4, .ref q5, .ref q6, .ref q7, v8, v9, v10, v11, v12, v13, v14, .ref q15, v16])), (q5, .inl (c5, 16, .inl a5)), (q6, .inl (c6, 16, .inl a6))] H := hP
    replace hD : va_D A [(q2, .inl (c2, 67200, .inl a2)), (q3, .inl (c3, 16, .inl a3)), (q4, .inl (c4, 16, .inl a4)), (q7, .inl (c7, 16, .inl a7)), (q15, .inl (c15, 4096, .inl a15)), (h0, .inr (8, [.int th, v1, .ref q2, .ref q3, .ref q4, .ref q5, .ref q6, .ref q7, v8, v9, v10, v11, v12, v13, v14, .ref q15, v16])), (q5, .inl (c5, 16, .inl a5)), (q6, .inl (c6, 16, .inl a6))] := hD
    refine W.widen (k := 0) (n := 0) (Nat.le_of_ble_eq_true rfl) (Nat.le_of_ble_eq_true rfl) ?_
    obtain ⟨b9, hb9, rfl⟩ := jr_2
    refine W.eq (g2 := F0 m 88 ls [.int (nI b9)]) rfl ?_
    refine lv_istore (lv' := [(4, .int (nI b9)), (0, .ref h0), (1, .int (nI r)), (2, .int p1), (3, .int p2)]) hx hb dX8_hashed_88 hl (by decide) rfl (fun ls hl => ?_)
    refine lv_aload_n hx hb dX8_hashed_90 rfl (lv_at hl 1 rfl) ?_
    refine lv_iload_n hx hb dX8_hashed_91 rfl (lv_at hl 2 rfl) ?_
    refine lv_iload hx hb dX8_hashed_92 (lv_at hl 0 rfl) ?_
    have hPc := hP.sub (ws' := [(h0, .inr (8, [.int th, v1, .ref q2, .ref q3, .ref q4, .ref q5, .ref q6, .ref q7, v8, v9, v10, v11, v12, v13, v14, .ref q15, v16])), (q2, .inl (c2, 67200, .inl a2)), (q3, .inl (c3, 16, .inl a3)), (q5, .inl (c5, 16, .inl a5)), (q6, .inl (c6, 16, .inl a6))]) [5, 0, 1, 6, 7] rfl
    have hDc := hD.sub (ws' := [(h0, .inr (8, [.int th, v1, .ref q2, .ref q3, .ref q4, .ref q5, .ref q6, .ref q7, v8, v9, v10, v11, v12, v13, v14, .ref q15, v16])), (q2, .inl (c2, 67200, .inl a2)), (q3, .inl (c3, 16, .inl a3)), (q5, .inl (c5, 16, .inl a5)), (q6, .inl (c6, 16, .inl a6))]) [5, 0, 1, 6, 7] (by decide) rfl
    have hKc := hK.sub (tys' := [(c2, .int), (c3, .int), (c5, .int), (c6, .int)]) [0, 1, 3, 4] rfl
    have hFc := va_free (wc := [(h0, .inr (8, [.int th, v1, .ref q2, .ref q3, .ref q4, .ref q5, .ref q6, .ref q7, v8, v9, v10, v11, v12, v13, v14, .ref q15, v16])), (q2, .inl (c2, 67200, .inl a2)), (q3, .inl (c3, 16, .inl a3)), (q5, .inl (c5, 16, .inl a5)), (q6, .inl (c6, 16, .inl a6))]) hD hS hA [5, 0, 1, 6, 7] rfl
    refine va_calli (va_runV (As := [.int (nI r), .int (nI b9)]) (rest := []) ⟨hx, hb, hml, hown, hts⟩ (c_X8_inBin l  dC dI H.size h0 th q2 q3 q5 q6 c2 c3 c5 c6 a2 a3 a5 a6 v1 (.ref q4) (.ref q7) v8 v9 v10 v11 v12 v13 v14 (.ref q15) v16 r (nI b9) tb nz hr9 u1_ u2_ u3_ q6_ hs9 (by omega)) (cwV 2 hts gX8_hashed_X8_inBin rfl rfl rfl (by decide +kernel) ⟨(Nat.le_of_ble_eq_true rfl), (Nat.le_of_ble_eq_true rfl)⟩) ⟨pk_blind, va_recv hKc hPc (ci := 8) (q0 := 0) rfl rfl, pk_call hPc hKc hDc⟩ rfl rfl hl.1 rfl (lv_room (Nat.le_of_ble_eq_true rfl)) dX8_hashed_94 ⟨(Nat.le_of_ble_eq_true rfl), (Nat.le_of_ble_eq_true rfl)⟩) hS (fun q _ h => hFc q h) hFc (fun r_3 ur_3 t H1 locs ht hvm hw hB hz1 hk1 hS => ?_)
    try dsimp only at hw
    have jr_3 := hw
    obtain ⟨hP1, hK1, hD1⟩ := hB
    rw [ht] at hP1
    have hK1 := va_K.moved hvm.symm hK1
    obtain ⟨hP, hD⟩ := va_join (wr := [(q4, .inl (c4, 16, .inl a4)), (q7, .inl (c7, 16, .inl a7)), (q15, .inl (c15, 4096, .inl a15))]) (w1 := [(h0, .inr (8, [.int th, v1, .ref q2, .ref q3, .ref q4, .ref q5, .ref q6, .ref q7, v8, v9, v10, v11, v12, v13, v14, .ref q15, v16])), (q2, .inl (c2, 67200, .inl a2)), (q3, .inl (c3, 16, .inl a3)), (q5, .inl (c5, 16, .inl a5)), (q6, .inl (c6, 16, .inl a6))]) hP hD [5, 0, 1, 6, 7] [2, 3, 4] rfl rfl (by decide) (by decide) hk1 hFc hP1 hD1
    clear hk1 hz1 ht hPc hDc hKc hFc
    generalize H1 = H at hP hS ⊢
    replace hP : va_P (dC, dI) vwCl [(q4, .inl (c4, 16, .inl a4)), (q7, .inl (c7, 16, .inl a7)), (q15, .inl (c15, 4096, .inl a15)), (h0, .inr (8, [.int th, v1, .ref q2, .ref q3, .ref q4, .ref q5, .ref q6, .ref q7, v8, v9, v10, v11, v12, v13, v14, .ref q15, v16])), (q2, .inl (c2, 67200, .inl a2)), (q3, .inl (c3, 16, .inl a3)), (q5, .inl (c5, 16, .inl a5)), (q6, .inl (c6, 16, .inl a6))] H := hP
    replace hD : va_D A [(q4, .inl (c4, 16, .inl a4)), (q7, .inl (c7, 16, .inl a7)), (q15, .inl (c15, 4096, .inl a15)), (h0, .inr (8, [.int th, v1, .ref q2, .ref q3, .ref q4, .ref q5, .ref q6, .ref q7, v8, v9, v10, v11, v12, v13, v14, .ref q15, v16])), (q2, .inl (c2, 67200, .inl a2)), (q3, .inl (c3, 16, .inl a3)), (q5, .inl (c5, 16, .inl a5)), (q6, .inl (c6, 16, .inl a6))] := hD
    refine W.widen (k := 0) (n := 0) (Nat.le_of_ble_eq_true rfl) (Nat.le_of_ble_eq_true rfl) ?_
    refine W.eq (g2 := F0 m 97 ls [.int r_3]) rfl ?_
    refine lv_istore (lv' := [(5, .int r_3), (4, .int (nI b9)), (0, .ref h0), (1, .int (nI r)), (2, .int p1), (3, .int p2)]) hx hb dX8_hashed_97 hl (by decide) rfl (fun ls hl => ?_)
    refine lv_aload_n hx hb dX8_hashed_99 rfl (lv_at hl 2 rfl) ?_
    refine va_get (D := (dC, dI)) (ci := 8) (v := .ref q3) (C := RX8) (T := TX8) (N := 17) hx hb hts hi0_ hown hK hP 3 rfl rfl 3 (by decide) hw1_ (fun _ h9 => h9) rfl dX8_hashed_100 ?_
    refine lv_iload_n hx hb dX8_hashed_103 rfl (lv_at hl 3 rfl) ?_
    refine va_iald (i := nI r) hx hb hK hP 5 1 rfl rfl (vp_in_nI (by omega) (by omega)) dX8_hashed_104 ?_
    refine W.eq (g2 := F0 m 105 ls [.int (a3 r)]) (by rw [nI_clamp (by omega)]) ?_
    refine W.eq (g2 := F0 m 105 ls [.int (nI nz)]) (by rw [hs9]) ?_
    refine lv_istore (lv' := [(6, .int (nI nz)), (5, .int r_3), (4, .int (nI b9)), (0, .ref h0), (1, .int (nI r)), (2, .int p1), (3, .int p2)]) hx hb dX8_hashed_105 hl (by decide) rfl (fun ls hl => ?_)
    obtain ⟨i3, es_i3⟩ : ∃ z : Nat, z = nz := ⟨_, rfl⟩
    obtain ⟨x3, ex3⟩ : ∃ y : Int32, y = nI i3 := ⟨_, rfl⟩
    obtain ⟨n9C, en9⟩ : ∃ n : Nat, n = nz + 1 := ⟨_, rfl⟩
    replace hl : lv_has ls 7 [(6, .int x3), (5, .int r_3), (4, .int (nI b9)), (0, .ref h0), (1, .int (nI r)), (2, .int p1), (3, .int p2)] := by subst ex3; subst es_i3; exact hl
    have hi3 : i3 ≤ nz := by subst ex3; subst es_i3; subst en9; exact Nat.le_refl _
    have hn3 : i3 + 1 ≤ n9C := by subst ex3; subst es_i3; subst en9; exact Nat.le_refl _
    clear en9 es_i3
    induction n9C generalizing i3 x3 ls H locs with
    | zero => exact absurd hn3 (by omega)
    | succ n9C ihC =>
      subst ex3
      refine lv_iload hx hb dX8_hashed_107 (lv_at hl 0 rfl) ?_
      refine lv_if_le (tgt := 137) hx hb dX8_hashed_109 (by decide) (fun c_4 => ?_) (fun c_4 => ?_)
      ·
        have ic_4 : ((i3 : Nat) : Int) ≤ 0 := tx_le (nI_toInt (by omega)) (by decide) c_4
        refine lv_aload_n hx hb dX8_hashed_137 rfl (lv_at hl 3 rfl) ?_
        refine lv_iload_n hx hb dX8_hashed_138 rfl (lv_at hl 4 rfl) ?_
        refine lv_iload hx hb dX8_hashed_139 (lv_at hl 0 rfl) ?_
        refine lv_iload_n hx hb dX8_hashed_141 rfl (lv_at hl 5 rfl) ?_
        refine lv_iload_n hx hb dX8_hashed_142 rfl (lv_at hl 6 rfl) ?_
        have hPc := hP.sub (ws' := [(h0, .inr (8, [.int th, v1, .ref q2, .ref q3, .ref q4, .ref q5, .ref q6, .ref q7, v8, v9, v10, v11, v12, v13, v14, .ref q15, v16])), (q2, .inl (c2, 67200, .inl a2)), (q3, .inl (c3, 16, .inl a3)), (q7, .inl (c7, 16, .inl a7))]) [3, 4, 5, 1] rfl
        have hDc := hD.sub (ws' := [(h0, .inr (8, [.int th, v1, .ref q2, .ref q3, .ref q4, .ref q5, .ref q6, .ref q7, v8, v9, v10, v11, v12, v13, v14, .ref q15, v16])), (q2, .inl (c2, 67200, .inl a2)), (q3, .inl (c3, 16, .inl a3)), (q7, .inl (c7, 16, .inl a7))]) [3, 4, 5, 1] (by decide) rfl
        have hKc := hK.sub (tys' := [(c2, .int), (c3, .int), (c7, .int)]) [0, 1, 5] rfl
        have hFc := va_free (wc := [(h0, .inr (8, [.int th, v1, .ref q2, .ref q3, .ref q4, .ref q5, .ref q6, .ref q7, v8, v9, v10, v11, v12, v13, v14, .ref q15, v16])), (q2, .inl (c2, 67200, .inl a2)), (q3, .inl (c3, 16, .inl a3)), (q7, .inl (c7, 16, .inl a7))]) hD hS hA [3, 4, 5, 1] rfl
        refine va_callv (va_runV (As := [.int (nI r), .int (nI i3), .int p1, .int p2]) (rest := []) ⟨hx, hb, hml, hown, hts⟩ (c_X8_comes l  dC dI H.size h0 th q2 q3 q7 c2 c3 c7 a2 a3 a7 v1 (.ref q4) (.ref q5) (.ref q6) v8 v9 v10 v11 v12 v13 v14 (.ref q15) v16 r i3 p1 p2 nz hr9 hi3 hs9 hz9) (cwV 4 hts gX8_hashed_X8_comes rfl rfl rfl (by decide +kernel) ⟨(Nat.le_of_ble_eq_true rfl), (Nat.le_of_ble_eq_true rfl)⟩) ⟨pk_blind, va_recv hKc hPc (ci := 8) (q0 := 0) rfl rfl, pk_call hPc hKc hDc⟩ rfl rfl hl.1 rfl (lv_room (Nat.le_of_ble_eq_true rfl)) dX8_hashed_143 ⟨(Nat.le_of_ble_eq_true rfl), (Nat.le_of_ble_eq_true rfl)⟩) hS (fun q _ h => hFc q h) hFc (fun ur_5 t H1 locs ht hvm hw hB hz1 hk1 hS => ?_)
        try dsimp only at hw
        have jr_5 := hw
        obtain ⟨hP1, hK1, hD1⟩ := hB
        rw [ht] at hP1
        have hK1 := va_K.moved hvm.symm hK1
        obtain ⟨hP, hD⟩ := va_join (wr := [(q4, .inl (c4, 16, .inl a4)), (q15, .inl (c15, 4096, .inl a15)), (q5, .inl (c5, 16, .inl a5)), (q6, .inl (c6, 16, .inl a6))]) (w1 := [(h0, .inr (8, [.int th, v1, .ref q2, .ref q3, .ref q4, .ref q5, .ref q6, .ref q7, v8, v9, v10, v11, v12, v13, v14, .ref q15, v16])), (q2, .inl (c2, 67200, .inl ur_5)), (q3, .inl (c3, 16, .inl (upd a3 r (nI (nz + 1))))), (q7, .inl (c7, 16, .inl (upd a7 r (a7 r + 1))))]) hP hD [3, 4, 5, 1] [0, 2, 6, 7] rfl rfl (by decide) (by decide) hk1 hFc hP1 hD1
        clear hk1 hz1 ht hPc hDc hKc hFc
        generalize H1 = H at hP hS ⊢
        replace hP : va_P (dC, dI) vwCl [(q4, .inl (c4, 16, .inl a4)), (q15, .inl (c15, 4096, .inl a15)), (q5, .inl (c5, 16, .inl a5)), (q6, .inl (c6, 16, .inl a6)), (h0, .inr (8, [.int th, v1, .ref q2, .ref q3, .ref q4, .ref q5, .ref q6, .ref q7, v8, v9, v10, v11, v12, v13, v14, .ref q15, v16])), (q2, .inl (c2, 67200, .inl ur_5)), (q3, .inl (c3, 16, .inl (upd a3 r (nI (nz + 1))))), (q7, .inl (c7, 16, .inl (upd a7 r (a7 r + 1))))] H := hP
        replace hD : va_D A [(q4, .inl (c4, 16, .inl a4)), (q15, .inl (c15, 4096, .inl a15)), (q5, .inl (c5, 16, .inl a5)), (q6, .inl (c6, 16, .inl a6)), (h0, .inr (8, [.int th, v1, .ref q2, .ref q3, .ref q4, .ref q5, .ref q6, .ref q7, v8, v9, v10, v11, v12, v13, v14, .ref q15, v16])), (q2, .inl (c2, 67200, .inl ur_5)), (q3, .inl (c3, 16, .inl (upd a3 r (nI (nz + 1))))), (q7, .inl (c7, 16, .inl (upd a7 r (a7 r + 1))))] := hD
        refine W.widen (k := 0) (n := 0) (Nat.le_of_ble_eq_true rfl) (Nat.le_of_ble_eq_true rfl) ?_
        refine W.eq (g2 := F0 m 146 ls []) rfl ?_
        have qo := outR_tr qo jr_5
        refine lv_iload hx hb dX8_hashed_146 (lv_at hl 1 rfl) ?_
        refine lv_bipush (v := 8) hx hb dX8_hashed_148 (by decide) ?_
        refine lv_icmp_lt (tgt := 190) hx hb dX8_hashed_150 (by decide) (fun c_6 => ?_) (fun c_6 => ?_)
        ·
          have ic_6 : r_3.toInt < 8 := tx_lt rfl (by decide) c_6
          refine lv_aload_n hx hb dX8_hashed_190 rfl (lv_at hl 3 rfl) ?_
          refine va_get (D := (dC, dI)) (ci := 8) (v := .ref q3) (C := RX8) (T := TX8) (N := 17) hx hb hts hi0_ hown hK hP 4 rfl rfl 3 (by decide) hw1_ (fun _ h9 => h9) rfl dX8_hashed_191 ?_
          refine lv_iload_n hx hb dX8_hashed_194 rfl (lv_at hl 4 rfl) ?_
          refine va_iald (i := nI r) hx hb hK hP 6 1 rfl rfl (vp_in_nI (by omega) (by omega)) dX8_hashed_195 ?_
          refine W.eq (g2 := F0 m 196 ls [.int ((upd a3 r (nI (nz + 1))) r)]) (by rw [nI_clamp (by omega)]) ?_
          refine W.eq (g2 := F0 m 196 ls [.int (nI (nz + 1))]) (by rw [pk_us]) ?_
          refine lv_iconst (v := 4) hx hb dX8_hashed_196 (by decide) ?_
          refine lv_imul hx hb dX8_hashed_197 ?_
          refine lv_topi (fun z_7 ez_7 => ?_)
          obtain rfl : z_7 = nI ((nz + 1) * 4) := ez_7.trans (by rw [show (4 : Int32) = nI 4 from rfl, pk_mul])
          refine lv_aload_n hx hb dX8_hashed_198 rfl (lv_at hl 3 rfl) ?_
          refine va_get (D := (dC, dI)) (ci := 8) (v := .ref q6) (C := RX8) (T := TX8) (N := 17) hx hb hts hi0_ hown hK hP 4 rfl rfl 6 (by decide) hw0_ (fun _ h9 => h9) rfl dX8_hashed_199 ?_
          refine lv_iload_n hx hb dX8_hashed_202 rfl (lv_at hl 4 rfl) ?_
          refine va_iald (i := nI r) hx hb hK hP 3 4 rfl rfl (vp_in_nI (by omega) (by omega)) dX8_hashed_203 ?_
          refine W.eq (g2 := F0 m 204 ls [.int (a6 r), .int (nI ((nz + 1) * 4))]) (by rw [nI_clamp (by omega)]) ?_
          refine W.eq (g2 := F0 m 204 ls [.int (nI tb), .int (nI ((nz + 1) * 4))]) (by rw [q6_]) ?_
          refine lv_iconst (v := 3) hx hb dX8_hashed_204 (by decide) ?_
          refine lv_imul hx hb dX8_hashed_205 ?_
          refine lv_topi (fun z_8 ez_8 => ?_)
          obtain rfl : z_8 = nI (tb * 3) := ez_8.trans (by rw [show (3 : Int32) = nI 3 from rfl, pk_mul])
          refine lv_icmp_le (tgt := 214) hx hb dX8_hashed_206 (by decide) (fun c_9 => ?_) (fun c_9 => ?_)
          ·
            have ic_9 : (((nz + 1) * 4 : Nat) : Int) ≤ ((tb * 3 : Nat) : Int) := tx_le (nI_toInt (by omega)) (nI_toInt (by omega)) c_9
            have hP9 := hP.sub (ws' := [(h0, .inr (8, [.int th, v1, .ref q2, .ref q3, .ref q4, .ref q5, .ref q6, .ref q7, v8, v9, v10, v11, v12, v13, v14, .ref q15, v16])), (q2, .inl (c2, 67200, .inl ur_5)), (q3, .inl (c3, 16, .inl (upd a3 r (nI (nz + 1))))), (q4, .inl (c4, 16, .inl a4)), (q5, .inl (c5, 16, .inl a5)), (q6, .inl (c6, 16, .inl a6)), (q7, .inl (c7, 16, .inl (upd a7 r (a7 r + 1)))), (q15, .inl (c15, 4096, .inl a15))]) [4, 5, 6, 0, 2, 3, 7, 1] rfl
            have hD9 := hD.sub (ws' := [(h0, .inr (8, [.int th, v1, .ref q2, .ref q3, .ref q4, .ref q5, .ref q6, .ref q7, v8, v9, v10, v11, v12, v13, v14, .ref q15, v16])), (q2, .inl (c2, 67200, .inl ur_5)), (q3, .inl (c3, 16, .inl (upd a3 r (nI (nz + 1))))), (q4, .inl (c4, 16, .inl a4)), (q5, .inl (c5, 16, .inl a5)), (q6, .inl (c6, 16, .inl a6)), (q7, .inl (c7, 16, .inl (upd a7 r (a7 r + 1)))), (q15, .inl (c15, 4096, .inl a15))]) [4, 5, 6, 0, 2, 3, 7, 1] (by decide) rfl
            have hK9 := hK.sub (tys' := [(c2, .int), (c3, .int), (c4, .int), (c5, .int), (c6, .int), (c7, .int), (c15, .boolean)]) [0, 1, 2, 3, 4, 5, 6] rfl
            refine W.widen (k := 0) (n := 0) (Nat.le_of_ble_eq_true rfl) (Nat.le_of_ble_eq_true rfl) ?_
            exact W.vret hx hb hr (fun t ht hW => ⟨⟨(ur_5, a6, a15), rfl, ⟨qo, qw, tb, q6_, u1_, u2_, u3_, by omega⟩, by rw [ht]; exact hP9, va_K.moved hW.alike hK9, hD9⟩, hS.F ht⟩) hS.2.2 dX8_hashed_214
          ·
            have ic_9 : ((tb * 3 : Nat) : Int) < (((nz + 1) * 4 : Nat) : Int) := tx_nle (nI_toInt (by omega)) (nI_toInt (by omega)) c_9
            refine lv_aload_n hx hb dX8_hashed_209 rfl (lv_at hl 3 rfl) ?_
            refine lv_iload_n hx hb dX8_hashed_210 rfl (lv_at hl 4 rfl) ?_
            have hPc := hP.sub (ws' := [(h0, .inr (8, [.int th, v1, .ref q2, .ref q3, .ref q4, .ref q5, .ref q6, .ref q7, v8, v9, v10, v11, v12, v13, v14, .ref q15, v16])), (q2, .inl (c2, 67200, .inl ur_5)), (q3, .inl (c3, 16, .inl (upd a3 r (nI (nz + 1))))), (q5, .inl (c5, 16, .inl a5)), (q6, .inl (c6, 16, .inl a6)), (q15, .inl (c15, 4096, .inl a15))]) [4, 5, 6, 2, 3, 1] rfl
            have hDc := hD.sub (ws' := [(h0, .inr (8, [.int th, v1, .ref q2, .ref q3, .ref q4, .ref q5, .ref q6, .ref q7, v8, v9, v10, v11, v12, v13, v14, .ref q15, v16])), (q2, .inl (c2, 67200, .inl ur_5)), (q3, .inl (c3, 16, .inl (upd a3 r (nI (nz + 1))))), (q5, .inl (c5, 16, .inl a5)), (q6, .inl (c6, 16, .inl a6)), (q15, .inl (c15, 4096, .inl a15))]) [4, 5, 6, 2, 3, 1] (by decide) rfl
            have hKc := hK.sub (tys' := [(c2, .int), (c3, .int), (c5, .int), (c6, .int), (c15, .boolean)]) [0, 1, 3, 4, 6] rfl
            have hFc := va_free (wc := [(h0, .inr (8, [.int th, v1, .ref q2, .ref q3, .ref q4, .ref q5, .ref q6, .ref q7, v8, v9, v10, v11, v12, v13, v14, .ref q15, v16])), (q2, .inl (c2, 67200, .inl ur_5)), (q3, .inl (c3, 16, .inl (upd a3 r (nI (nz + 1))))), (q5, .inl (c5, 16, .inl a5)), (q6, .inl (c6, 16, .inl a6)), (q15, .inl (c15, 4096, .inl a15))]) hD hS hA [4, 5, 6, 2, 3, 1] rfl
            refine va_callv (va_runV (As := [.int (nI r)]) (rest := []) ⟨hx, hb, hml, hown, hts⟩ (c_X8_doubled l  dC dI H.size h0 th q2 q3 q5 q6 q15 c2 c3 c5 c6 c15 ur_5 (upd a3 r (nI (nz + 1))) a5 a6 a15 v1 (.ref q4) (.ref q7) v8 v9 v10 v11 v12 v13 v14 v16 r tb (nz + 1) hr9 u1_ (by first | omega | exact p2_1024 u3_ (by omega)) u3_ q6_ pk_us (by omega)) (cwV 1 hts gX8_hashed_X8_doubled rfl rfl rfl (by decide +kernel) ⟨(Nat.le_of_ble_eq_true rfl), (Nat.le_of_ble_eq_true rfl)⟩) ⟨pk_blind, va_recv hKc hPc (ci := 8) (q0 := 0) rfl rfl, pk_call hPc hKc hDc⟩ rfl rfl hl.1 rfl (lv_room (Nat.le_of_ble_eq_true rfl)) dX8_hashed_211 ⟨(Nat.le_of_ble_eq_true rfl), (Nat.le_of_ble_eq_true rfl)⟩) hS (fun q _ h => hFc q h) hFc (fun ur_10 t H1 locs ht hvm hw hB hz1 hk1 hS => ?_)
            try dsimp only at hw
            have jr_10 := hw
            obtain ⟨hP1, hK1, hD1⟩ := hB
            rw [ht] at hP1
            have hK1 := va_K.moved hvm.symm hK1
            obtain ⟨hP, hD⟩ := va_join (wr := [(q4, .inl (c4, 16, .inl a4)), (q7, .inl (c7, 16, .inl (upd a7 r (a7 r + 1))))]) (w1 := [(h0, .inr (8, [.int th, v1, .ref q2, .ref q3, .ref q4, .ref q5, .ref q6, .ref q7, v8, v9, v10, v11, v12, v13, v14, .ref q15, v16])), (q2, .inl (c2, 67200, .inl ur_10.1)), (q3, .inl (c3, 16, .inl (upd a3 r (nI (nz + 1))))), (q5, .inl (c5, 16, .inl a5)), (q6, .inl (c6, 16, .inl (upd a6 r (nI (2 * tb))))), (q15, .inl (c15, 4096, .inl ur_10.2))]) hP hD [4, 5, 6, 2, 3, 1] [0, 7] rfl rfl (by decide) (by decide) hk1 hFc hP1 hD1
            clear hk1 hz1 ht hPc hDc hKc hFc
            generalize H1 = H at hP hS ⊢
            replace hP : va_P (dC, dI) vwCl [(q4, .inl (c4, 16, .inl a4)), (q7, .inl (c7, 16, .inl (upd a7 r (a7 r + 1)))), (h0, .inr (8, [.int th, v1, .ref q2, .ref q3, .ref q4, .ref q5, .ref q6, .ref q7, v8, v9, v10, v11, v12, v13, v14, .ref q15, v16])), (q2, .inl (c2, 67200, .inl ur_10.1)), (q3, .inl (c3, 16, .inl (upd a3 r (nI (nz + 1))))), (q5, .inl (c5, 16, .inl a5)), (q6, .inl (c6, 16, .inl (upd a6 r (nI (2 * tb))))), (q15, .inl (c15, 4096, .inl ur_10.2))] H := hP
            replace hD : va_D A [(q4, .inl (c4, 16, .inl a4)), (q7, .inl (c7, 16, .inl (upd a7 r (a7 r + 1)))), (h0, .inr (8, [.int th, v1, .ref q2, .ref q3, .ref q4, .ref q5, .ref q6, .ref q7, v8, v9, v10, v11, v12, v13, v14, .ref q15, v16])), (q2, .inl (c2, 67200, .inl ur_10.1)), (q3, .inl (c3, 16, .inl (upd a3 r (nI (nz + 1))))), (q5, .inl (c5, 16, .inl a5)), (q6, .inl (c6, 16, .inl (upd a6 r (nI (2 * tb))))), (q15, .inl (c15, 4096, .inl ur_10.2))] := hD
            refine W.widen (k := 0) (n := 0) (Nat.le_of_ble_eq_true rfl) (Nat.le_of_ble_eq_true rfl) ?_
            refine W.eq (g2 := F0 m 214 ls []) rfl ?_
            have qo := outR_tr qo jr_10
            have q6_ : (upd a6 r (nI (2 * tb))) r = nI (2 * tb) := pk_us
            have qw : ∀ q : Nat, q ≠ r → (upd a6 r (nI (2 * tb))) q = a6 q := fun q hq => (pk_un hq).trans (qw q hq)
            have u3_ := p2_dbl u3_
            have u1_ : 1 ≤ 2 * tb := by omega
            have u2_ : 2 * tb ≤ 2048 := by first | omega | (have := p2_1024 (t := tb) (by assumption) (by omega); omega)
            have hP9 := hP.sub (ws' := [(h0, .inr (8, [.int th, v1, .ref q2, .ref q3, .ref q4, .ref q5, .ref q6, .ref q7, v8, v9, v10, v11, v12, v13, v14, .ref q15, v16])), (q2, .inl (c2, 67200, .inl ur_10.1)), (q3, .inl (c3, 16, .inl (upd a3 r (nI (nz + 1))))), (q4, .inl (c4, 16, .inl a4)), (q5, .inl (c5, 16, .inl a5)), (q6, .inl (c6, 16, .inl (upd a6 r (nI (2 * tb))))), (q7, .inl (c7, 16, .inl (upd a7 r (a7 r + 1)))), (q15, .inl (c15, 4096, .inl ur_10.2))]) [2, 3, 4, 0, 5, 6, 1, 7] rfl
            have hD9 := hD.sub (ws' := [(h0, .inr (8, [.int th, v1, .ref q2, .ref q3, .ref q4, .ref q5, .ref q6, .ref q7, v8, v9, v10, v11, v12, v13, v14, .ref q15, v16])), (q2, .inl (c2, 67200, .inl ur_10.1)), (q3, .inl (c3, 16, .inl (upd a3 r (nI (nz + 1))))), (q4, .inl (c4, 16, .inl a4)), (q5, .inl (c5, 16, .inl a5)), (q6, .inl (c6, 16, .inl (upd a6 r (nI (2 * tb))))), (q7, .inl (c7, 16, .inl (upd a7 r (a7 r + 1)))), (q15, .inl (c15, 4096, .inl ur_10.2))]) [2, 3, 4, 0, 5, 6, 1, 7] (by decide) rfl
            have hK9 := hK.sub (tys' := [(c2, .int), (c3, .int), (c4, .int), (c5, .int), (c6, .int), (c7, .int), (c15, .boolean)]) [0, 1, 2, 3, 4, 5, 6] rfl
            refine W.widen (k := 0) (n := 0) (Nat.le_of_ble_eq_true rfl) (Nat.le_of_ble_eq_true rfl) ?_
            exact W.vret hx hb hr (fun t ht hW => ⟨⟨(ur_10.1, (upd a6 r (nI (2 * tb))), ur_10.2), rfl, ⟨qo, qw, (2 * tb), q6_, u1_, u2_, u3_, by omega⟩, by rw [ht]; exact hP9, va_K.moved hW.alike hK9, hD9⟩, hS.F ht⟩) hS.2.2 dX8_hashed_214
        ·
          have ic_6 : 8 ≤ r_3.toInt := tx_nlt rfl (by decide) c_6
          refine lv_aload_n hx hb dX8_hashed_153 rfl (lv_at hl 3 rfl) ?_
          refine va_get (D := (dC, dI)) (ci := 8) (v := .ref q6) (C := RX8) (T := TX8) (N := 17) hx hb hts hi0_ hown hK hP 4 rfl rfl 6 (by decide) hw0_ (fun _ h9 => h9) rfl dX8_hashed_154 ?_
          refine lv_iload_n hx hb dX8_hashed_157 rfl (lv_at hl 4 rfl) ?_
          refine va_iald (i := nI r) hx hb hK hP 3 4 rfl rfl (vp_in_nI (by omega) (by omega)) dX8_hashed_158 ?_
          refine W.eq (g2 := F0 m 159 ls [.int (a6 r)]) (by rw [nI_clamp (by omega)]) ?_
          refine W.eq (g2 := F0 m 159 ls [.int (nI tb)]) (by rw [q6_]) ?_
          refine lv_bipush (v := 64) hx hb dX8_hashed_159 (by decide) ?_
          refine lv_icmp_ge (tgt := 172) hx hb dX8_hashed_161 (by decide) (fun c_11 => ?_) (fun c_11 => ?_)
          ·
            have ic_11 : 64 ≤ ((tb : Nat) : Int) := tx_le (by decide) (nI_toInt (by omega)) c_11
            refine lv_aload_n hx hb dX8_hashed_172 rfl (lv_at hl 3 rfl) ?_
            refine va_get (D := (dC, dI)) (ci := 8) (v := .ref q2) (C := RX8) (T := TX8) (N := 17) hx hb hts hi0_ hown hK hP 4 rfl rfl 2 (by decide) hw2_ (fun _ h9 => h9) rfl dX8_hashed_173 ?_
            refine lv_sipush (v := 4200) hx hb dX8_hashed_176 (by decide) ?_
            refine lv_iload_n hx hb dX8_hashed_179 rfl (lv_at hl 4 rfl) ?_
            refine lv_imul hx hb dX8_hashed_180 ?_
            refine lv_topi (fun z_12 ez_12 => ?_)
            obtain rfl : z_12 = nI (4200 * r) := ez_12.trans (by rw [show (4200 : Int32) = nI 4200 from rfl, pk_mul])
            refine lv_sipush (v := 2000) hx hb dX8_hashed_181 (by decide) ?_
            refine lv_iadd hx hb dX8_hashed_184 ?_
            refine lv_topi (fun z_13 ez_13 => ?_)
            obtain rfl : z_13 = nI ((4200 * r) + 2000) := ez_13.trans (by rw [show (2000 : Int32) = nI 2000 from rfl, nI_add])
            refine lv_iload hx hb dX8_hashed_185 (lv_at hl 2 rfl) ?_
            refine lv_iadd hx hb dX8_hashed_187 ?_
            refine lv_topi (fun z_14 ez_14 => ?_)
            obtain rfl : z_14 = nI (((4200 * r) + 2000) + b9) := ez_14.trans (by rw [nI_add])
            refine lv_iconst (v := 1) hx hb dX8_hashed_188 (by decide) ?_
            refine va_iast (i := nI (((4200 * r) + 2000) + b9)) hx hb hK hP hD hS 5 0 rfl rfl (vp_in_nI (by omega) (by omega)) dX8_hashed_189 (fun H locs hP hD hS => ?_)
            rw [nI_clamp (by omega)] at hP hD
            replace hP : va_P (dC, dI) vwCl [(q4, .inl (c4, 16, .inl a4)), (q15, .inl (c15, 4096, .inl a15)), (q5, .inl (c5, 16, .inl a5)), (q6, .inl (c6, 16, .inl a6)), (h0, .inr (8, [.int th, v1, .ref q2, .ref q3, .ref q4, .ref q5, .ref q6, .ref q7, v8, v9, v10, v11, v12, v13, v14, .ref q15, v16])), (q2, .inl (c2, 67200, .inl (upd ur_5 (((4200 * r) + 2000) + b9) 1))), (q3, .inl (c3, 16, .inl (upd a3 r (nI (nz + 1))))), (q7, .inl (c7, 16, .inl (upd a7 r (a7 r + 1))))] H := hP
            replace hD : va_D A [(q4, .inl (c4, 16, .inl a4)), (q15, .inl (c15, 4096, .inl a15)), (q5, .inl (c5, 16, .inl a5)), (q6, .inl (c6, 16, .inl a6)), (h0, .inr (8, [.int th, v1, .ref q2, .ref q3, .ref q4, .ref q5, .ref q6, .ref q7, v8, v9, v10, v11, v12, v13, v14, .ref q15, v16])), (q2, .inl (c2, 67200, .inl (upd ur_5 (((4200 * r) + 2000) + b9) 1))), (q3, .inl (c3, 16, .inl (upd a3 r (nI (nz + 1))))), (q7, .inl (c7, 16, .inl (upd a7 r (a7 r + 1))))] := hD
            refine lv_aload_n hx hb dX8_hashed_190 rfl (lv_at hl 3 rfl) ?_
            refine va_get (D := (dC, dI)) (ci := 8) (v := .ref q3) (C := RX8) (T := TX8) (N := 17) hx hb hts hi0_ hown hK hP 4 rfl rfl 3 (by decide) hw1_ (fun _ h9 => h9) rfl dX8_hashed_191 ?_
            refine lv_iload_n hx hb dX8_hashed_194 rfl (lv_at hl 4 rfl) ?_
            refine va_iald (i := nI r) hx hb hK hP 6 1 rfl rfl (vp_in_nI (by omega) (by omega)) dX8_hashed_195 ?_
            refine W.eq (g2 := F0 m 196 ls [.int ((upd a3 r (nI (nz + 1))) r)]) (by rw [nI_clamp (by omega)]) ?_
            refine W.eq (g2 := F0 m 196 ls [.int (nI (nz + 1))]) (by rw [pk_us]) ?_
            refine lv_iconst (v := 4) hx hb dX8_hashed_196 (by decide) ?_
            refine lv_imul hx hb dX8_hashed_197 ?_
            refine lv_topi (fun z_15 ez_15 => ?_)
            obtain rfl : z_15 = nI ((nz + 1) * 4) := ez_15.trans (by rw [show (4 : Int32) = nI 4 from rfl, pk_mul])
            refine lv_aload_n hx hb dX8_hashed_198 rfl (lv_at hl 3 rfl) ?_
            refine va_get (D := (dC, dI)) (ci := 8) (v := .ref q6) (C := RX8) (T := TX8) (N := 17) hx hb hts hi0_ hown hK hP 4 rfl rfl 6 (by decide) hw0_ (fun _ h9 => h9) rfl dX8_hashed_199 ?_
            refine lv_iload_n hx hb dX8_hashed_202 rfl (lv_at hl 4 rfl) ?_
            refine va_iald (i := nI r) hx hb hK hP 3 4 rfl rfl (vp_in_nI (by omega) (by omega)) dX8_hashed_203 ?_
            refine W.eq (g2 := F0 m 204 ls [.int (a6 r), .int (nI ((nz + 1) * 4))]) (by rw [nI_clamp (by omega)]) ?_
            refine W.eq (g2 := F0 m 204 ls [.int (nI tb), .int (nI ((nz + 1) * 4))]) (by rw [q6_]) ?_
            refine lv_iconst (v := 3) hx hb dX8_hashed_204 (by decide) ?_
            refine lv_imul hx hb dX8_hashed_205 ?_
            refine lv_topi (fun z_16 ez_16 => ?_)
            obtain rfl : z_16 = nI (tb * 3) := ez_16.trans (by rw [show (3 : Int32) = nI 3 from rfl, pk_mul])
            refine lv_icmp_le (tgt := 214) hx hb dX8_hashed_206 (by decide) (fun c_17 => ?_) (fun c_17 => ?_)
            ·
              have ic_17 : (((nz + 1) * 4 : Nat) : Int) ≤ ((tb * 3 : Nat) : Int) := tx_le (nI_toInt (by omega)) (nI_toInt (by omega)) c_17
              have hP9 := hP.sub (ws' := [(h0, .inr (8, [.int th, v1, .ref q2, .ref q3, .ref q4, .ref q5, .ref q6, .ref q7, v8, v9, v10, v11, v12, v13, v14, .ref q15, v16])), (q2, .inl (c2, 67200, .inl (upd ur_5 (((4200 * r) + 2000) + b9) 1))), (q3, .inl (c3, 16, .inl (upd a3 r (nI (nz + 1))))), (q4, .inl (c4, 16, .inl a4)), (q5, .inl (c5, 16, .inl a5)), (q6, .inl (c6, 16, .inl a6)), (q7, .inl (c7, 16, .inl (upd a7 r (a7 r + 1)))), (q15, .inl (c15, 4096, .inl a15))]) [4, 5, 6, 0, 2, 3, 7, 1] rfl
              have hD9 := hD.sub (ws' := [(h0, .inr (8, [.int th, v1, .ref q2, .ref q3, .ref q4, .ref q5, .ref q6, .ref q7, v8, v9, v10, v11, v12, v13, v14, .ref q15, v16])), (q2, .inl (c2, 67200, .inl (upd ur_5 (((4200 * r) + 2000) + b9) 1))), (q3, .inl (c3, 16, .inl (upd a3 r (nI (nz + 1))))), (q4, .inl (c4, 16, .inl a4)), (q5, .inl (c5, 16, .inl a5)), (q6, .inl (c6, 16, .inl a6)), (q7, .inl (c7, 16, .inl (upd a7 r (a7 r + 1)))), (q15, .inl (c15, 4096, .inl a15))]) [4, 5, 6, 0, 2, 3, 7, 1] (by decide) rfl
              have hK9 := hK.sub (tys' := [(c2, .int), (c3, .int), (c4, .int), (c5, .int), (c6, .int), (c7, .int), (c15, .boolean)]) [0, 1, 2, 3, 4, 5, 6] rfl
              refine W.widen (k := 0) (n := 0) (Nat.le_of_ble_eq_true rfl) (Nat.le_of_ble_eq_true rfl) ?_
              exact W.vret hx hb hr (fun t ht hW => ⟨⟨((upd ur_5 (((4200 * r) + 2000) + b9) 1), a6, a15), rfl, ⟨outR_up' qo (k := 2000 + b9) (by omega) (by omega), qw, tb, q6_, u1_, u2_, u3_, by omega⟩, by rw [ht]; exact hP9, va_K.moved hW.alike hK9, hD9⟩, hS.F ht⟩) hS.2.2 dX8_hashed_214
            ·
              have ic_17 : ((tb * 3 : Nat) : Int) < (((nz + 1) * 4 : Nat) : Int) := tx_nle (nI_toInt (by omega)) (nI_toInt (by omega)) c_17
              refine lv_aload_n hx hb dX8_hashed_209 rfl (lv_at hl 3 rfl) ?_
              refine lv_iload_n hx hb dX8_hashed_210 rfl (lv_at hl 4 rfl) ?_
              have hPc := hP.sub (ws' := [(h0, .inr (8, [.int th, v1, .ref q2, .ref q3, .ref q4, .ref q5, .ref q6, .ref q7, v8, v9, v10, v11, v12, v13, v14, .ref q15, v16])), (q2, .inl (c2, 67200, .inl (upd ur_5 (((4200 * r) + 2000) + b9) 1))), (q3, .inl (c3, 16, .inl (upd a3 r (nI (nz + 1))))), (q5, .inl (c5, 16, .inl a5)), (q6, .inl (c6, 16, .inl a6)), (q15, .inl (c15, 4096, .inl a15))]) [4, 5, 6, 2, 3, 1] rfl
              have hDc := hD.sub (ws' := [(h0, .inr (8, [.int th, v1, .ref q2, .ref q3, .ref q4, .ref q5, .ref q6, .ref q7, v8, v9, v10, v11, v12, v13, v14, .ref q15, v16])), (q2, .inl (c2, 67200, .inl (upd ur_5 (((4200 * r) + 2000) + b9) 1))), (q3, .inl (c3, 16, .inl (upd a3 r (nI (nz + 1))))), (q5, .inl (c5, 16, .inl a5)), (q6, .inl (c6, 16, .inl a6)), (q15, .inl (c15, 4096, .inl a15))]) [4, 5, 6, 2, 3, 1] (by decide) rfl
              have hKc := hK.sub (tys' := [(c2, .int), (c3, .int), (c5, .int), (c6, .int), (c15, .boolean)]) [0, 1, 3, 4, 6] rfl
              have hFc := va_free (wc := [(h0, .inr (8, [.int th, v1, .ref q2, .ref q3, .ref q4, .ref q5, .ref q6, .ref q7, v8, v9, v10, v11, v12, v13, v14, .ref q15, v16])), (q2, .inl (c2, 67200, .inl (upd ur_5 (((4200 * r) + 2000) + b9) 1))), (q3, .inl (c3, 16, .inl (upd a3 r (nI (nz + 1))))), (q5, .inl (c5, 16, .inl a5)), (q6, .inl (c6, 16, .inl a6)), (q15, .inl (c15, 4096, .inl a15))]) hD hS hA [4, 5, 6, 2, 3, 1] rfl
              refine va_callv (va_runV (As := [.int (nI r)]) (rest := []) ⟨hx, hb, hml, hown, hts⟩ (c_X8_doubled l  dC dI H.size h0 th q2 q3 q5 q6 q15 c2 c3 c5 c6 c15 (upd ur_5 (((4200 * r) + 2000) + b9) 1) (upd a3 r (nI (nz + 1))) a5 a6 a15 v1 (.ref q4) (.ref q7) v8 v9 v10 v11 v12 v13 v14 v16 r tb (nz + 1) hr9 u1_ (by first | omega | exact p2_1024 u3_ (by omega)) u3_ q6_ pk_us (by omega)) (cwV 1 hts gX8_hashed_X8_doubled rfl rfl rfl (by decide +kernel) ⟨(Nat.le_of_ble_eq_true rfl), (Nat.le_of_ble_eq_true rfl)⟩) ⟨pk_blind, va_recv hKc hPc (ci := 8) (q0 := 0) rfl rfl, pk_call hPc hKc hDc⟩ rfl rfl hl.1 rfl (lv_room (Nat.le_of_ble_eq_true rfl)) dX8_hashed_211 ⟨(Nat.le_of_ble_eq_true rfl), (Nat.le_of_ble_eq_true rfl)⟩) hS (fun q _ h => hFc q h) hFc (fun ur_18 t H1 locs ht hvm hw hB hz1 hk1 hS => ?_)
              try dsimp only at hw
              have jr_18 := hw
              obtain ⟨hP1, hK1, hD1⟩ := hB
              rw [ht] at hP1
              have hK1 := va_K.moved hvm.symm hK1
              obtain ⟨hP, hD⟩ := va_join (wr := [(q4, .inl (c4, 16, .inl a4)), (q7, .inl (c7, 16, .inl (upd a7 r (a7 r + 1))))]) (w1 := [(h0, .inr (8, [.int th, v1, .ref q2, .ref q3, .ref q4, .ref q5, .ref q6, .ref q7, v8, v9, v10, v11, v12, v13, v14, .ref q15, v16])), (q2, .inl (c2, 67200, .inl ur_18.1)), (q3, .inl (c3, 16, .inl (upd a3 r (nI (nz + 1))))), (q5, .inl (c5, 16, .inl a5)), (q6, .inl (c6, 16, .inl (upd a6 r (nI (2 * tb))))), (q15, .inl (c15, 4096, .inl ur_18.2))]) hP hD [4, 5, 6, 2, 3, 1] [0, 7] rfl rfl (by decide) (by decide) hk1 hFc hP1 hD1
              clear hk1 hz1 ht hPc hDc hKc hFc
              generalize H1 = H at hP hS ⊢
              replace hP : va_P (dC, dI) vwCl [(q4, .inl (c4, 16, .inl a4)), (q7, .inl (c7, 16, .inl (upd a7 r (a7 r + 1)))), (h0, .inr (8, [.int th, v1, .ref q2, .ref q3, .ref q4, .ref q5, .ref q6, .ref q7, v8, v9, v10, v11, v12, v13, v14, .ref q15, v16])), (q2, .inl (c2, 67200, .inl ur_18.1)), (q3, .inl (c3, 16, .inl (upd a3 r (nI (nz + 1))))), (q5, .inl (c5, 16, .inl a5)), (q6, .inl (c6, 16, .inl (upd a6 r (nI (2 * tb))))), (q15, .inl (c15, 4096, .inl ur_18.2))] H := hP
              replace hD : va_D A [(q4, .inl (c4, 16, .inl a4)), (q7, .inl (c7, 16, .inl (upd a7 r (a7 r + 1)))), (h0, .inr (8, [.int th, v1, .ref q2, .ref q3, .ref q4, .ref q5, .ref q6, .ref q7, v8, v9, v10, v11, v12, v13, v14, .ref q15, v16])), (q2, .inl (c2, 67200, .inl ur_18.1)), (q3, .inl (c3, 16, .inl (upd a3 r (nI (nz + 1))))), (q5, .inl (c5, 16, .inl a5)), (q6, .inl (c6, 16, .inl (upd a6 r (nI (2 * tb))))), (q15, .inl (c15, 4096, .inl ur_18.2))] := hD
              refine W.widen (k := 0) (n := 0) (Nat.le_of_ble_eq_true rfl) (Nat.le_of_ble_eq_true rfl) ?_
              refine W.eq (g2 := F0 m 214 ls []) rfl ?_
              have qo := outR_tr (outR_up' qo (k := 2000 + b9) (by omega) (by omega)) jr_18
              have q6_ : (upd a6 r (nI (2 * tb))) r = nI (2 * tb) := pk_us
              have qw : ∀ q : Nat, q ≠ r → (upd a6 r (nI (2 * tb))) q = a6 q := fun q hq => (pk_un hq).trans (qw q hq)
              have u3_ := p2_dbl u3_
              have u1_ : 1 ≤ 2 * tb := by omega
              have u2_ : 2 * tb ≤ 2048 := by first | omega | (have := p2_1024 (t := tb) (by assumption) (by omega); omega)
              have hP9 := hP.sub (ws' := [(h0, .inr (8, [.int th, v1, .ref q2, .ref q3, .ref q4, .ref q5, .ref q6, .ref q7, v8, v9, v10, v11, v12, v13, v14, .ref q15, v16])), (q2, .inl (c2, 67200, .inl ur_18.1)), (q3, .inl (c3, 16, .inl (upd a3 r (nI (nz + 1))))), (q4, .inl (c4, 16, .inl a4)), (q5, .inl (c5, 16, .inl a5)), (q6, .inl (c6, 16, .inl (upd a6 r (nI (2 * tb))))), (q7, .inl (c7, 16, .inl (upd a7 r (a7 r + 1)))), (q15, .inl (c15, 4096, .inl ur_18.2))]) [2, 3, 4, 0, 5, 6, 1, 7] rfl
              have hD9 := hD.sub (ws' := [(h0, .inr (8, [.int th, v1, .ref q2, .ref q3, .ref q4, .ref q5, .ref q6, .ref q7, v8, v9, v10, v11, v12, v13, v14, .ref q15, v16])), (q2, .inl (c2, 67200, .inl ur_18.1)), (q3, .inl (c3, 16, .inl (upd a3 r (nI (nz + 1))))), (q4, .inl (c4, 16, .inl a4)), (q5, .inl (c5, 16, .inl a5)), (q6, .inl (c6, 16, .inl (upd a6 r (nI (2 * tb))))), (q7, .inl (c7, 16, .inl (upd a7 r (a7 r + 1)))), (q15, .inl (c15, 4096, .inl ur_18.2))]) [2, 3, 4, 0, 5, 6, 1, 7] (by decide) rfl
              have hK9 := hK.sub (tys' := [(c2, .int), (c3, .int), (c4, .int), (c5, .int), (c6, .int), (c7, .int), (c15, .boolean)]) [0, 1, 2, 3, 4, 5, 6] rfl
              refine W.widen (k := 0) (n := 0) (Nat.le_of_ble_eq_true rfl) (Nat.le_of_ble_eq_true rfl) ?_
              exact W.vret hx hb hr (fun t ht hW => ⟨⟨(ur_18.1, (upd a6 r (nI (2 * tb))), ur_18.2), rfl, ⟨qo, qw, (2 * tb), q6_, u1_, u2_, u3_, by omega⟩, by rw [ht]; exact hP9, va_K.moved hW.alike hK9, hD9⟩, hS.F ht⟩) hS.2.2 dX8_hashed_214
          ·
            have ic_11 : ((tb : Nat) : Int) < 64 := tx_nle (by decide) (nI_toInt (by omega)) c_11
            refine lv_aload_n hx hb dX8_hashed_164 rfl (lv_at hl 3 rfl) ?_
            refine lv_iload_n hx hb dX8_hashed_165 rfl (lv_at hl 4 rfl) ?_
            have hPc := hP.sub (ws' := [(h0, .inr (8, [.int th, v1, .ref q2, .ref q3, .ref q4, .ref q5, .ref q6, .ref q7, v8, v9, v10, v11, v12, v13, v14, .ref q15, v16])), (q2, .inl (c2, 67200, .inl ur_5)), (q3, .inl (c3, 16, .inl (upd a3 r (nI (nz + 1))))), (q5, .inl (c5, 16, .inl a5)), (q6, .inl (c6, 16, .inl a6)), (q15, .inl (c15, 4096, .inl a15))]) [4, 5, 6, 2, 3, 1] rfl
            have hDc := hD.sub (ws' := [(h0, .inr (8, [.int th, v1, .ref q2, .ref q3, .ref q4, .ref q5, .ref q6, .ref q7, v8, v9, v10, v11, v12, v13, v14, .ref q15, v16])), (q2, .inl (c2, 67200, .inl ur_5)), (q3, .inl (c3, 16, .inl (upd a3 r (nI (nz + 1))))), (q5, .inl (c5, 16, .inl a5)), (q6, .inl (c6, 16, .inl a6)), (q15, .inl (c15, 4096, .inl a15))]) [4, 5, 6, 2, 3, 1] (by decide) rfl
            have hKc := hK.sub (tys' := [(c2, .int), (c3, .int), (c5, .int), (c6, .int), (c15, .boolean)]) [0, 1, 3, 4, 6] rfl
            have hFc := va_free (wc := [(h0, .inr (8, [.int th, v1, .ref q2, .ref q3, .ref q4, .ref q5, .ref q6, .ref q7, v8, v9, v10, v11, v12, v13, v14, .ref q15, v16])), (q2, .inl (c2, 67200, .inl ur_5)), (q3, .inl (c3, 16, .inl (upd a3 r (nI (nz + 1))))), (q5, .inl (c5, 16, .inl a5)), (q6, .inl (c6, 16, .inl a6)), (q15, .inl (c15, 4096, .inl a15))]) hD hS hA [4, 5, 6, 2, 3, 1] rfl
            refine va_callv (va_runV (As := [.int (nI r)]) (rest := []) ⟨hx, hb, hml, hown, hts⟩ (c_X8_doubled l  dC dI H.size h0 th q2 q3 q5 q6 q15 c2 c3 c5 c6 c15 ur_5 (upd a3 r (nI (nz + 1))) a5 a6 a15 v1 (.ref q4) (.ref q7) v8 v9 v10 v11 v12 v13 v14 v16 r tb (nz + 1) hr9 u1_ (by first | omega | exact p2_1024 u3_ (by omega)) u3_ q6_ pk_us (by omega)) (cwV 1 hts gX8_hashed_X8_doubled rfl rfl rfl (by decide +kernel) ⟨(Nat.le_of_ble_eq_true rfl), (Nat.le_of_ble_eq_true rfl)⟩) ⟨pk_blind, va_recv hKc hPc (ci := 8) (q0 := 0) rfl rfl, pk_call hPc hKc hDc⟩ rfl rfl hl.1 rfl (lv_room (Nat.le_of_ble_eq_true rfl)) dX8_hashed_166 ⟨(Nat.le_of_ble_eq_true rfl), (Nat.le_of_ble_eq_true rfl)⟩) hS (fun q _ h => hFc q h) hFc (fun ur_19 t H1 locs ht hvm hw hB hz1 hk1 hS => ?_)
            try dsimp only at hw
            have jr_19 := hw
            obtain ⟨hP1, hK1, hD1⟩ := hB
            rw [ht] at hP1
            have hK1 := va_K.moved hvm.symm hK1
            obtain ⟨hP, hD⟩ := va_join (wr := [(q4, .inl (c4, 16, .inl a4)), (q7, .inl (c7, 16, .inl (upd a7 r (a7 r + 1))))]) (w1 := [(h0, .inr (8, [.int th, v1, .ref q2, .ref q3, .ref q4, .ref q5, .ref q6, .ref q7, v8, v9, v10, v11, v12, v13, v14, .ref q15, v16])), (q2, .inl (c2, 67200, .inl ur_19.1)), (q3, .inl (c3, 16, .inl (upd a3 r (nI (nz + 1))))), (q5, .inl (c5, 16, .inl a5)), (q6, .inl (c6, 16, .inl (upd a6 r (nI (2 * tb))))), (q15, .inl (c15, 4096, .inl ur_19.2))]) hP hD [4, 5, 6, 2, 3, 1] [0, 7] rfl rfl (by decide) (by decide) hk1 hFc hP1 hD1
            clear hk1 hz1 ht hPc hDc hKc hFc
            generalize H1 = H at hP hS ⊢
            replace hP : va_P (dC, dI) vwCl [(q4, .inl (c4, 16, .inl a4)), (q7, .inl (c7, 16, .inl (upd a7 r (a7 r + 1)))), (h0, .inr (8, [.int th, v1, .ref q2, .ref q3, .ref q4, .ref q5, .ref q6, .ref q7, v8, v9, v10, v11, v12, v13, v14, .ref q15, v16])), (q2, .inl (c2, 67200, .inl ur_19.1)), (q3, .inl (c3, 16, .inl (upd a3 r (nI (nz + 1))))), (q5, .inl (c5, 16, .inl a5)), (q6, .inl (c6, 16, .inl (upd a6 r (nI (2 * tb))))), (q15, .inl (c15, 4096, .inl ur_19.2))] H := hP
            replace hD : va_D A [(q4, .inl (c4, 16, .inl a4)), (q7, .inl (c7, 16, .inl (upd a7 r (a7 r + 1)))), (h0, .inr (8, [.int th, v1, .ref q2, .ref q3, .ref q4, .ref q5, .ref q6, .ref q7, v8, v9, v10, v11, v12, v13, v14, .ref q15, v16])), (q2, .inl (c2, 67200, .inl ur_19.1)), (q3, .inl (c3, 16, .inl (upd a3 r (nI (nz + 1))))), (q5, .inl (c5, 16, .inl a5)), (q6, .inl (c6, 16, .inl (upd a6 r (nI (2 * tb))))), (q15, .inl (c15, 4096, .inl ur_19.2))] := hD
            refine W.widen (k := 0) (n := 0) (Nat.le_of_ble_eq_true rfl) (Nat.le_of_ble_eq_true rfl) ?_
            refine W.eq (g2 := F0 m 169 ls []) rfl ?_
            have qo := outR_tr qo jr_19
            have q6_ : (upd a6 r (nI (2 * tb))) r = nI (2 * tb) := pk_us
            have qw : ∀ q : Nat, q ≠ r → (upd a6 r (nI (2 * tb))) q = a6 q := fun q hq => (pk_un hq).trans (qw q hq)
            have u3_ := p2_dbl u3_
            have u1_ : 1 ≤ 2 * tb := by omega
            have u2_ : 2 * tb ≤ 2048 := by first | omega | (have := p2_1024 (t := tb) (by assumption) (by omega); omega)
            refine lv_goto (tgt := 190) hx hb dX8_hashed_169 (by decide) ?_
            refine lv_aload_n hx hb dX8_hashed_190 rfl (lv_at hl 3 rfl) ?_
            refine va_get (D := (dC, dI)) (ci := 8) (v := .ref q3) (C := RX8) (T := TX8) (N := 17) hx hb hts hi0_ hown hK hP 2 rfl rfl 3 (by decide) hw1_ (fun _ h9 => h9) rfl dX8_hashed_191 ?_
            refine lv_iload_n hx hb dX8_hashed_194 rfl (lv_at hl 4 rfl) ?_
            refine va_iald (i := nI r) hx hb hK hP 4 1 rfl rfl (vp_in_nI (by omega) (by omega)) dX8_hashed_195 ?_
            refine W.eq (g2 := F0 m 196 ls [.int ((upd a3 r (nI (nz + 1))) r)]) (by rw [nI_clamp (by omega)]) ?_
            refine W.eq (g2 := F0 m 196 ls [.int (nI (nz + 1))]) (by rw [pk_us]) ?_
            refine lv_iconst (v := 4) hx hb dX8_hashed_196 (by decide) ?_
            refine lv_imul hx hb dX8_hashed_197 ?_
            refine lv_topi (fun z_20 ez_20 => ?_)
            obtain rfl : z_20 = nI ((nz + 1) * 4) := ez_20.trans (by rw [show (4 : Int32) = nI 4 from rfl, pk_mul])
            refine lv_aload_n hx hb dX8_hashed_198 rfl (lv_at hl 3 rfl) ?_
            refine va_get (D := (dC, dI)) (ci := 8) (v := .ref q6) (C := RX8) (T := TX8) (N := 17) hx hb hts hi0_ hown hK hP 2 rfl rfl 6 (by decide) hw0_ (fun _ h9 => h9) rfl dX8_hashed_199 ?_
            refine lv_iload_n hx hb dX8_hashed_202 rfl (lv_at hl 4 rfl) ?_
            refine va_iald (i := nI r) hx hb hK hP 6 4 rfl rfl (vp_in_nI (by omega) (by omega)) dX8_hashed_203 ?_
            refine W.eq (g2 := F0 m 204 ls [.int ((upd a6 r (nI (2 * tb))) r), .int (nI ((nz + 1) * 4))]) (by rw [nI_clamp (by omega)]) ?_
            refine W.eq (g2 := F0 m 204 ls [.int (nI (2 * tb)), .int (nI ((nz + 1) * 4))]) (by rw [q6_]) ?_
            refine lv_iconst (v := 3) hx hb dX8_hashed_204 (by decide) ?_
            refine lv_imul hx hb dX8_hashed_205 ?_
            refine lv_topi (fun z_21 ez_21 => ?_)
            obtain rfl : z_21 = nI ((2 * tb) * 3) := ez_21.trans (by rw [show (3 : Int32) = nI 3 from rfl, pk_mul])
            refine lv_icmp_le (tgt := 214) hx hb dX8_hashed_206 (by decide) (fun c_22 => ?_) (fun c_22 => ?_)
            ·
              have ic_22 : (((nz + 1) * 4 : Nat) : Int) ≤ (((2 * tb) * 3 : Nat) : Int) := tx_le (nI_toInt (by omega)) (nI_toInt (by omega)) c_22
              have hP9 := hP.sub (ws' := [(h0, .inr (8, [.int th, v1, .ref q2, .ref q3, .ref q4, .ref q5, .ref q6, .ref q7, v8, v9, v10, v11, v12, v13, v14, .ref q15, v16])), (q2, .inl (c2, 67200, .inl ur_19.1)), (q3, .inl (c3, 16, .inl (upd a3 r (nI (nz + 1))))), (q4, .inl (c4, 16, .inl a4)), (q5, .inl (c5, 16, .inl a5)), (q6, .inl (c6, 16, .inl (upd a6 r (nI (2 * tb))))), (q7, .inl (c7, 16, .inl (upd a7 r (a7 r + 1)))), (q15, .inl (c15, 4096, .inl ur_19.2))]) [2, 3, 4, 0, 5, 6, 1, 7] rfl
              have hD9 := hD.sub (ws' := [(h0, .inr (8, [.int th, v1, .ref q2, .ref q3, .ref q4, .ref q5, .ref q6, .ref q7, v8, v9, v10, v11, v12, v13, v14, .ref q15, v16])), (q2, .inl (c2, 67200, .inl ur_19.1)), (q3, .inl (c3, 16, .inl (upd a3 r (nI (nz + 1))))), (q4, .inl (c4, 16, .inl a4)), (q5, .inl (c5, 16, .inl a5)), (q6, .inl (c6, 16, .inl (upd a6 r (nI (2 * tb))))), (q7, .inl (c7, 16, .inl (upd a7 r (a7 r + 1)))), (q15, .inl (c15, 4096, .inl ur_19.2))]) [2, 3, 4, 0, 5, 6, 1, 7] (by decide) rfl
              have hK9 := hK.sub (tys' := [(c2, .int), (c3, .int), (c4, .int), (c5, .int), (c6, .int), (c7, .int), (c15, .boolean)]) [0, 1, 2, 3, 4, 5, 6] rfl
              refine W.widen (k := 0) (n := 0) (Nat.le_of_ble_eq_true rfl) (Nat.le_of_ble_eq_true rfl) ?_
              exact W.vret hx hb hr (fun t ht hW => ⟨⟨(ur_19.1, (upd a6 r (nI (2 * tb))), ur_19.2), rfl, ⟨qo, qw, (2 * tb), q6_, u1_, u2_, u3_, by omega⟩, by rw [ht]; exact hP9, va_K.moved hW.alike hK9, hD9⟩, hS.F ht⟩) hS.2.2 dX8_hashed_214
            ·
              have ic_22 : (((2 * tb) * 3 : Nat) : Int) < (((nz + 1) * 4 : Nat) : Int) := tx_nle (nI_toInt (by omega)) (nI_toInt (by omega)) c_22
              refine lv_aload_n hx hb dX8_hashed_209 rfl (lv_at hl 3 rfl) ?_
              refine lv_iload_n hx hb dX8_hashed_210 rfl (lv_at hl 4 rfl) ?_
              have hPc := hP.sub (ws' := [(h0, .inr (8, [.int th, v1, .ref q2, .ref q3, .ref q4, .ref q5, .ref q6, .ref q7, v8, v9, v10, v11, v12, v13, v14, .ref q15, v16])), (q2, .inl (c2, 67200, .inl ur_19.1)), (q3, .inl (c3, 16, .inl (upd a3 r (nI (nz + 1))))), (q5, .inl (c5, 16, .inl a5)), (q6, .inl (c6, 16, .inl (upd a6 r (nI (2 * tb))))), (q15, .inl (c15, 4096, .inl ur_19.2))]) [2, 3, 4, 5, 6, 7] rfl
              have hDc := hD.sub (ws' := [(h0, .inr (8, [.int th, v1, .ref q2, .ref q3, .ref q4, .ref q5, .ref q6, .ref q7, v8, v9, v10, v11, v12, v13, v14, .ref q15, v16])), (q2, .inl (c2, 67200, .inl ur_19.1)), (q3, .inl (c3, 16, .inl (upd a3 r (nI (nz + 1))))), (q5, .inl (c5, 16, .inl a5)), (q6, .inl (c6, 16, .inl (upd a6 r (nI (2 * tb))))), (q15, .inl (c15, 4096, .inl ur_19.2))]) [2, 3, 4, 5, 6, 7] (by decide) rfl
              have hKc := hK.sub (tys' := [(c2, .int), (c3, .int), (c5, .int), (c6, .int), (c15, .boolean)]) [0, 1, 3, 4, 6] rfl
              have hFc := va_free (wc := [(h0, .inr (8, [.int th, v1, .ref q2, .ref q3, .ref q4, .ref q5, .ref q6, .ref q7, v8, v9, v10, v11, v12, v13, v14, .ref q15, v16])), (q2, .inl (c2, 67200, .inl ur_19.1)), (q3, .inl (c3, 16, .inl (upd a3 r (nI (nz + 1))))), (q5, .inl (c5, 16, .inl a5)), (q6, .inl (c6, 16, .inl (upd a6 r (nI (2 * tb))))), (q15, .inl (c15, 4096, .inl ur_19.2))]) hD hS hA [2, 3, 4, 5, 6, 7] rfl
              refine va_callv (va_runV (As := [.int (nI r)]) (rest := []) ⟨hx, hb, hml, hown, hts⟩ (c_X8_doubled l  dC dI H.size h0 th q2 q3 q5 q6 q15 c2 c3 c5 c6 c15 ur_19.1 (upd a3 r (nI (nz + 1))) a5 (upd a6 r (nI (2 * tb))) ur_19.2 v1 (.ref q4) (.ref q7) v8 v9 v10 v11 v12 v13 v14 v16 r (2 * tb) (nz + 1) hr9 u1_ (by first | omega | exact p2_1024 u3_ (by omega)) u3_ q6_ pk_us (by omega)) (cwV 1 hts gX8_hashed_X8_doubled rfl rfl rfl (by decide +kernel) ⟨(Nat.le_of_ble_eq_true rfl), (Nat.le_of_ble_eq_true rfl)⟩) ⟨pk_blind, va_recv hKc hPc (ci := 8) (q0 := 0) rfl rfl, pk_call hPc hKc hDc⟩ rfl rfl hl.1 rfl (lv_room (Nat.le_of_ble_eq_true rfl)) dX8_hashed_211 ⟨(Nat.le_of_ble_eq_true rfl), (Nat.le_of_ble_eq_true rfl)⟩) hS (fun q _ h => hFc q h) hFc (fun ur_23 t H1 locs ht hvm hw hB hz1 hk1 hS => ?_)
              try dsimp only at hw
              have jr_23 := hw
              obtain ⟨hP1, hK1, hD1⟩ := hB
              rw [ht] at hP1
              have hK1 := va_K.moved hvm.symm hK1
              obtain ⟨hP, hD⟩ := va_join (wr := [(q4, .inl (c4, 16, .inl a4)), (q7, .inl (c7, 16, .inl (upd a7 r (a7 r + 1))))]) (w1 := [(h0, .inr (8, [.int th, v1, .ref q2, .ref q3, .ref q4, .ref q5, .ref q6, .ref q7, v8, v9, v10, v11, v12, v13, v14, .ref q15, v16])), (q2, .inl (c2, 67200, .inl ur_23.1)), (q3, .inl (c3, 16, .inl (upd a3 r (nI (nz + 1))))), (q5, .inl (c5, 16, .inl a5)), (q6, .inl (c6, 16, .inl (upd (upd a6 r (nI (2 * tb))) r (nI (2 * (2 * tb)))))), (q15, .inl (c15, 4096, .inl ur_23.2))]) hP hD [2, 3, 4, 5, 6, 7] [0, 1] rfl rfl (by decide) (by decide) hk1 hFc hP1 hD1
              clear hk1 hz1 ht hPc hDc hKc hFc
              generalize H1 = H at hP hS ⊢
              replace hP : va_P (dC, dI) vwCl [(q4, .inl (c4, 16, .inl a4)), (q7, .inl (c7, 16, .inl (upd a7 r (a7 r + 1)))), (h0, .inr (8, [.int th, v1, .ref q2, .ref q3, .ref q4, .ref q5, .ref q6, .ref q7, v8, v9, v10, v11, v12, v13, v14, .ref q15, v16])), (q2, .inl (c2, 67200, .inl ur_23.1)), (q3, .inl (c3, 16, .inl (upd a3 r (nI (nz + 1))))), (q5, .inl (c5, 16, .inl a5)), (q6, .inl (c6, 16, .inl (upd (upd a6 r (nI (2 * tb))) r (nI (2 * (2 * tb)))))), (q15, .inl (c15, 4096, .inl ur_23.2))] H := hP
              replace hD : va_D A [(q4, .inl (c4, 16, .inl a4)), (q7, .inl (c7, 16, .inl (upd a7 r (a7 r + 1)))), (h0, .inr (8, [.int th, v1, .ref q2, .ref q3, .ref q4, .ref q5, .ref q6, .ref q7, v8, v9, v10, v11, v12, v13, v14, .ref q15, v16])), (q2, .inl (c2, 67200, .inl ur_23.1)), (q3, .inl (c3, 16, .inl (upd a3 r (nI (nz + 1))))), (q5, .inl (c5, 16, .inl a5)), (q6, .inl (c6, 16, .inl (upd (upd a6 r (nI (2 * tb))) r (nI (2 * (2 * tb)))))), (q15, .inl (c15, 4096, .inl ur_23.2))] := hD
              refine W.widen (k := 0) (n := 0) (Nat.le_of_ble_eq_true rfl) (Nat.le_of_ble_eq_true rfl) ?_
              refine W.eq (g2 := F0 m 214 ls []) rfl ?_
              have qo := outR_tr qo jr_23
              have q6_ : (upd (upd a6 r (nI (2 * tb))) r (nI (2 * (2 * tb)))) r = nI (2 * (2 * tb)) := pk_us
              have qw : ∀ q : Nat, q ≠ r → (upd (upd a6 r (nI (2 * tb))) r (nI (2 * (2 * tb)))) q = a6 q := fun q hq => (pk_un hq).trans (qw q hq)
              have u3_ := p2_dbl u3_
              have u1_ : 1 ≤ 2 * (2 * tb) := by omega
              have u2_ : 2 * (2 * tb) ≤ 2048 := by first | omega | (have := p2_1024 (t := (2 * tb)) (by assumption) (by omega); omega)
              have hP9 := hP.sub (ws' := [(h0, .inr (8, [.int th, v1, .ref q2, .ref q3, .ref q4, .ref q5, .ref q6, .ref q7, v8, v9, v10, v11, v12, v13, v14, .ref q15, v16])), (q2, .inl (c2, 67200, .inl ur_23.1)), (q3, .inl (c3, 16, .inl (upd a3 r (nI (nz + 1))))), (q4, .inl (c4, 16, .inl a4)), (q5, .inl (c5, 16, .inl a5)), (q6, .inl (c6, 16, .inl (upd (upd a6 r (nI (2 * tb))) r (nI (2 * (2 * tb)))))), (q7, .inl (c7, 16, .inl (upd a7 r (a7 r + 1)))), (q15, .inl (c15, 4096, .inl ur_23.2))]) [2, 3, 4, 0, 5, 6, 1, 7] rfl
              have hD9 := hD.sub (ws' := [(h0, .inr (8, [.int th, v1, .ref q2, .ref q3, .ref q4, .ref q5, .ref q6, .ref q7, v8, v9, v10, v11, v12, v13, v14, .ref q15, v16])), (q2, .inl (c2, 67200, .inl ur_23.1)), (q3, .inl (c3, 16, .inl (upd a3 r (nI (nz + 1))))), (q4, .inl (c4, 16, .inl a4)), (q5, .inl (c5, 16, .inl a5)), (q6, .inl (c6, 16, .inl (upd (upd a6 r (nI (2 * tb))) r (nI (2 * (2 * tb)))))), (q7, .inl (c7, 16, .inl (upd a7 r (a7 r + 1)))), (q15, .inl (c15, 4096, .inl ur_23.2))]) [2, 3, 4, 0, 5, 6, 1, 7] (by decide) rfl
              have hK9 := hK.sub (tys' := [(c2, .int), (c3, .int), (c4, .int), (c5, .int), (c6, .int), (c7, .int), (c15, .boolean)]) [0, 1, 2, 3, 4, 5, 6] rfl
              refine W.widen (k := 0) (n := 0) (Nat.le_of_ble_eq_true rfl) (Nat.le_of_ble_eq_true rfl) ?_
              exact W.vret hx hb hr (fun t ht hW => ⟨⟨(ur_23.1, (upd (upd a6 r (nI (2 * tb))) r (nI (2 * (2 * tb)))), ur_23.2), rfl, ⟨qo, qw, (2 * (2 * tb)), q6_, u1_, u2_, u3_, by omega⟩, by rw [ht]; exact hP9, va_K.moved hW.alike hK9, hD9⟩, hS.F ht⟩) hS.2.2 dX8_hashed_214
      ·
        have ic_4 : 0 < ((i3 : Nat) : Int) := tx_nle (nI_toInt (by omega)) (by decide) c_4
        refine lv_aload_n hx hb dX8_hashed_112 rfl (lv_at hl 3 rfl) ?_
        refine lv_iload_n hx hb dX8_hashed_113 rfl (lv_at hl 4 rfl) ?_
        refine lv_aload_n hx hb dX8_hashed_114 rfl (lv_at hl 3 rfl) ?_
        refine lv_iload_n hx hb dX8_hashed_115 rfl (lv_at hl 4 rfl) ?_
        refine lv_iload hx hb dX8_hashed_116 (lv_at hl 0 rfl) ?_
        refine lv_iconst (v := 1) hx hb dX8_hashed_118 (by decide) ?_
        refine lv_isub hx hb dX8_hashed_119 ?_
        refine lv_topi (fun z_24 ez_24 => ?_)
        obtain rfl : z_24 = nI (i3 - 1) := ez_24.trans (by rw [show (1 : Int32) = nI 1 from rfl, pk_sub (by omega)])
        have hPc := hP.sub (ws' := [(h0, .inr (8, [.int th, v1, .ref q2, .ref q3, .ref q4, .ref q5, .ref q6, .ref q7, v8, v9, v10, v11, v12, v13, v14, .ref q15, v16])), (q2, .inl (c2, 67200, .inl a2))]) [3, 4] rfl
        have hDc := hD.sub (ws' := [(h0, .inr (8, [.int th, v1, .ref q2, .ref q3, .ref q4, .ref q5, .ref q6, .ref q7, v8, v9, v10, v11, v12, v13, v14, .ref q15, v16])), (q2, .inl (c2, 67200, .inl a2))]) [3, 4] (by decide) rfl
        have hKc := hK.sub (tys' := [(c2, .int)]) [0] rfl
        have hFc := va_free (wc := [(h0, .inr (8, [.int th, v1, .ref q2, .ref q3, .ref q4, .ref q5, .ref q6, .ref q7, v8, v9, v10, v11, v12, v13, v14, .ref q15, v16])), (q2, .inl (c2, 67200, .inl a2))]) hD hS hA [3, 4] rfl
        refine va_calli (va_runV (As := [.int (nI r), .int (nI (i3 - 1))]) (rest := [.int (nI r), .ref h0]) ⟨hx, hb, hml, hown, hts⟩ (c_X8_key l  dC dI H.size h0 th q2 c2 a2 v1 (.ref q3) (.ref q4) (.ref q5) (.ref q6) (.ref q7) v8 v9 v10 v11 v12 v13 v14 (.ref q15) v16 r (i3 - 1) hr9 (by omega)) (cwV 2 hts gX8_hashed_X8_key rfl rfl rfl (by decide +kernel) ⟨(Nat.le_of_ble_eq_true rfl), (Nat.le_of_ble_eq_true rfl)⟩) ⟨pk_blind, va_recv hKc hPc (ci := 8) (q0 := 0) rfl rfl, pk_call hPc hKc hDc⟩ rfl rfl hl.1 rfl (lv_room (Nat.le_of_ble_eq_true rfl)) dX8_hashed_120 ⟨(Nat.le_of_ble_eq_true rfl), (Nat.le_of_ble_eq_true rfl)⟩) hS (fun q _ h => hFc q h) hFc (fun r_25 ur_25 t H1 locs ht hvm hw hB hz1 hk1 hS => ?_)
        try dsimp only at hw
        obtain ⟨hP1, hK1, hD1⟩ := hB
        rw [ht] at hP1
        have hK1 := va_K.moved hvm.symm hK1
        obtain ⟨hP, hD⟩ := va_join (wr := [(q4, .inl (c4, 16, .inl a4)), (q7, .inl (c7, 16, .inl a7)), (q15, .inl (c15, 4096, .inl a15)), (q3, .inl (c3, 16, .inl a3)), (q5, .inl (c5, 16, .inl a5)), (q6, .inl (c6, 16, .inl a6))]) (w1 := [(h0, .inr (8, [.int th, v1, .ref q2, .ref q3, .ref q4, .ref q5, .ref q6, .ref q7, v8, v9, v10, v11, v12, v13, v14, .ref q15, v16])), (q2, .inl (c2, 67200, .inl a2))]) hP hD [3, 4] [0, 1, 2, 5, 6, 7] rfl rfl (by decide) (by decide) hk1 hFc hP1 hD1
        clear hk1 hz1 ht hPc hDc hKc hFc
        generalize H1 = H at hP hS ⊢
        replace hP : va_P (dC, dI) vwCl [(q4, .inl (c4, 16, .inl a4)), (q7, .inl (c7, 16, .inl a7)), (q15, .inl (c15, 4096, .inl a15)), (q3, .inl (c3, 16, .inl a3)), (q5, .inl (c5, 16, .inl a5)), (q6, .inl (c6, 16, .inl a6)), (h0, .inr (8, [.int th, v1, .ref q2, .ref q3, .ref q4, .ref q5, .ref q6, .ref q7, v8, v9, v10, v11, v12, v13, v14, .ref q15, v16])), (q2, .inl (c2, 67200, .inl a2))] H := hP
        replace hD : va_D A [(q4, .inl (c4, 16, .inl a4)), (q7, .inl (c7, 16, .inl a7)), (q15, .inl (c15, 4096, .inl a15)), (q3, .inl (c3, 16, .inl a3)), (q5, .inl (c5, 16, .inl a5)), (q6, .inl (c6, 16, .inl a6)), (h0, .inr (8, [.int th, v1, .ref q2, .ref q3, .ref q4, .ref q5, .ref q6, .ref q7, v8, v9, v10, v11, v12, v13, v14, .ref q15, v16])), (q2, .inl (c2, 67200, .inl a2))] := hD
        refine W.widen (k := 0) (n := 0) (Nat.le_of_ble_eq_true rfl) (Nat.le_of_ble_eq_true rfl) ?_
        obtain rfl : r_25 = a2 (4200 * r + (i3 - 1)) := hw
        refine W.eq (g2 := F0 m 123 ls [.int (a2 (4200 * r + (i3 - 1))), .int (nI r), .ref h0]) rfl ?_
        have hPc := hP.sub (ws' := [(h0, .inr (8, [.int th, v1, .ref q2, .ref q3, .ref q4, .ref q5, .ref q6, .ref q7, v8, v9, v10, v11, v12, v13, v14, .ref q15, v16])), (q5, .inl (c5, 16, .inl a5)), (q6, .inl (c6, 16, .inl a6))]) [6, 4, 5] rfl
        have hDc := hD.sub (ws' := [(h0, .inr (8, [.int th, v1, .ref q2, .ref q3, .ref q4, .ref q5, .ref q6, .ref q7, v8, v9, v10, v11, v12, v13, v14, .ref q15, v16])), (q5, .inl (c5, 16, .inl a5)), (q6, .inl (c6, 16, .inl a6))]) [6, 4, 5] (by decide) rfl
        have hKc := hK.sub (tys' := [(c5, .int), (c6, .int)]) [3, 4] rfl
        have hFc := va_free (wc := [(h0, .inr (8, [.int th, v1, .ref q2, .ref q3, .ref q4, .ref q5, .ref q6, .ref q7, v8, v9, v10, v11, v12, v13, v14, .ref q15, v16])), (q5, .inl (c5, 16, .inl a5)), (q6, .inl (c6, 16, .inl a6))]) hD hS hA [6, 4, 5] rfl
        refine va_calli (va_runV (As := [.int (nI r), .int (a2 (4200 * r + (i3 - 1)))]) (rest := []) ⟨hx, hb, hml, hown, hts⟩ (c_X8_bin l  dC dI H.size h0 th q5 q6 c5 c6 a5 a6 v1 (.ref q2) (.ref q3) (.ref q4) (.ref q7) v8 v9 v10 v11 v12 v13 v14 (.ref q15) v16 r (a2 (4200 * r + (i3 - 1))) tb hr9 u1_ u2_ u3_ q6_) (cwV 2 hts gX8_hashed_X8_bin rfl rfl rfl (by decide +kernel) ⟨(Nat.le_of_ble_eq_true rfl), (Nat.le_of_ble_eq_true rfl)⟩) ⟨pk_blind, va_recv hKc hPc (ci := 8) (q0 := 0) rfl rfl, pk_call hPc hKc hDc⟩ rfl rfl hl.1 rfl (lv_room (Nat.le_of_ble_eq_true rfl)) dX8_hashed_123 ⟨(Nat.le_of_ble_eq_true rfl), (Nat.le_of_ble_eq_true rfl)⟩) hS (fun q _ h => hFc q h) hFc (fun r_26 ur_26 t H1 locs ht hvm hw hB hz1 hk1 hS => ?_)
        try dsimp only at hw
        have jr_26 := hw
        obtain ⟨hP1, hK1, hD1⟩ := hB
        rw [ht] at hP1
        have hK1 := va_K.moved hvm.symm hK1
        obtain ⟨hP, hD⟩ := va_join (wr := [(q4, .inl (c4, 16, .inl a4)), (q7, .inl (c7, 16, .inl a7)), (q15, .inl (c15, 4096, .inl a15)), (q3, .inl (c3, 16, .inl a3)), (q2, .inl (c2, 67200, .inl a2))]) (w1 := [(h0, .inr (8, [.int th, v1, .ref q2, .ref q3, .ref q4, .ref q5, .ref q6, .ref q7, v8, v9, v10, v11, v12, v13, v14, .ref q15, v16])), (q5, .inl (c5, 16, .inl a5)), (q6, .inl (c6, 16, .inl a6))]) hP hD [6, 4, 5] [0, 1, 2, 3, 7] rfl rfl (by decide) (by decide) hk1 hFc hP1 hD1
        clear hk1 hz1 ht hPc hDc hKc hFc
        generalize H1 = H at hP hS ⊢
        replace hP : va_P (dC, dI) vwCl [(q4, .inl (c4, 16, .inl a4)), (q7, .inl (c7, 16, .inl a7)), (q15, .inl (c15, 4096, .inl a15)), (q3, .inl (c3, 16, .inl a3)), (q2, .inl (c2, 67200, .inl a2)), (h0, .inr (8, [.int th, v1, .ref q2, .ref q3, .ref q4, .ref q5, .ref q6, .ref q7, v8, v9, v10, v11, v12, v13, v14, .ref q15, v16])), (q5, .inl (c5, 16, .inl a5)), (q6, .inl (c6, 16, .inl a6))] H := hP
        replace hD : va_D A [(q4, .inl (c4, 16, .inl a4)), (q7, .inl (c7, 16, .inl a7)), (q15, .inl (c15, 4096, .inl a15)), (q3, .inl (c3, 16, .inl a3)), (q2, .inl (c2, 67200, .inl a2)), (h0, .inr (8, [.int th, v1, .ref q2, .ref q3, .ref q4, .ref q5, .ref q6, .ref q7, v8, v9, v10, v11, v12, v13, v14, .ref q15, v16])), (q5, .inl (c5, 16, .inl a5)), (q6, .inl (c6, 16, .inl a6))] := hD
        refine W.widen (k := 0) (n := 0) (Nat.le_of_ble_eq_true rfl) (Nat.le_of_ble_eq_true rfl) ?_
        refine W.eq (g2 := F0 m 126 ls [.int r_26]) rfl ?_
        refine lv_iload hx hb dX8_hashed_126 (lv_at hl 2 rfl) ?_
        refine lv_icmp_le (tgt := 137) hx hb dX8_hashed_128 (by decide) (fun c_27 => ?_) (fun c_27 => ?_)
        ·
          have ic_27 : r_26.toInt ≤ ((b9 : Nat) : Int) := tx_le rfl (nI_toInt (by omega)) c_27
          refine lv_aload_n hx hb dX8_hashed_137 rfl (lv_at hl 3 rfl) ?_
          refine lv_iload_n hx hb dX8_hashed_138 rfl (lv_at hl 4 rfl) ?_
          refine lv_iload hx hb dX8_hashed_139 (lv_at hl 0 rfl) ?_
          refine lv_iload_n hx hb dX8_hashed_141 rfl (lv_at hl 5 rfl) ?_
          refine lv_iload_n hx hb dX8_hashed_142 rfl (lv_at hl 6 rfl) ?_
          have hPc := hP.sub (ws' := [(h0, .inr (8, [.int th, v1, .ref q2, .ref q3, .ref q4, .ref q5, .ref q6, .ref q7, v8, v9, v10, v11, v12, v13, v14, .ref q15, v16])), (q2, .inl (c2, 67200, .inl a2)), (q3, .inl (c3, 16, .inl a3)), (q7, .inl (c7, 16, .inl a7))]) [5, 4, 3, 1] rfl
          have hDc := hD.sub (ws' := [(h0, .inr (8, [.int th, v1, .ref q2, .ref q3, .ref q4, .ref q5, .ref q6, .ref q7, v8, v9, v10, v11, v12, v13, v14, .ref q15, v16])), (q2, .inl (c2, 67200, .inl a2)), (q3, .inl (c3, 16, .inl a3)), (q7, .inl (c7, 16, .inl a7))]) [5, 4, 3, 1] (by decide) rfl
          have hKc := hK.sub (tys' := [(c2, .int), (c3, .int), (c7, .int)]) [0, 1, 5] rfl
          have hFc := va_free (wc := [(h0, .inr (8, [.int th, v1, .ref q2, .ref q3, .ref q4, .ref q5, .ref q6, .ref q7, v8, v9, v10, v11, v12, v13, v14, .ref q15, v16])), (q2, .inl (c2, 67200, .inl a2)), (q3, .inl (c3, 16, .inl a3)), (q7, .inl (c7, 16, .inl a7))]) hD hS hA [5, 4, 3, 1] rfl
          refine va_callv (va_runV (As := [.int (nI r), .int (nI i3), .int p1, .int p2]) (rest := []) ⟨hx, hb, hml, hown, hts⟩ (c_X8_comes l  dC dI H.size h0 th q2 q3 q7 c2 c3 c7 a2 a3 a7 v1 (.ref q4) (.ref q5) (.ref q6) v8 v9 v10 v11 v12 v13 v14 (.ref q15) v16 r i3 p1 p2 nz hr9 hi3 hs9 hz9) (cwV 4 hts gX8_hashed_X8_comes rfl rfl rfl (by decide +kernel) ⟨(Nat.le_of_ble_eq_true rfl), (Nat.le_of_ble_eq_true rfl)⟩) ⟨pk_blind, va_recv hKc hPc (ci := 8) (q0 := 0) rfl rfl, pk_call hPc hKc hDc⟩ rfl rfl hl.1 rfl (lv_room (Nat.le_of_ble_eq_true rfl)) dX8_hashed_143 ⟨(Nat.le_of_ble_eq_true rfl), (Nat.le_of_ble_eq_true rfl)⟩) hS (fun q _ h => hFc q h) hFc (fun ur_28 t H1 locs ht hvm hw hB hz1 hk1 hS => ?_)
          try dsimp only at hw
          have jr_28 := hw
          obtain ⟨hP1, hK1, hD1⟩ := hB
          rw [ht] at hP1
          have hK1 := va_K.moved hvm.symm hK1
          obtain ⟨hP, hD⟩ := va_join (wr := [(q4, .inl (c4, 16, .inl a4)), (q15, .inl (c15, 4096, .inl a15)), (q5, .inl (c5, 16, .inl a5)), (q6, .inl (c6, 16, .inl a6))]) (w1 := [(h0, .inr (8, [.int th, v1, .ref q2, .ref q3, .ref q4, .ref q5, .ref q6, .ref q7, v8, v9, v10, v11, v12, v13, v14, .ref q15, v16])), (q2, .inl (c2, 67200, .inl ur_28)), (q3, .inl (c3, 16, .inl (upd a3 r (nI (nz + 1))))), (q7, .inl (c7, 16, .inl (upd a7 r (a7 r + 1))))]) hP hD [5, 4, 3, 1] [0, 2, 6, 7] rfl rfl (by decide) (by decide) hk1 hFc hP1 hD1
          clear hk1 hz1 ht hPc hDc hKc hFc
          generalize H1 = H at hP hS ⊢
          replace hP : va_P (dC, dI) vwCl [(q4, .inl (c4, 16, .inl a4)), (q15, .inl (c15, 4096, .inl a15)), (q5, .inl (c5, 16, .inl a5)), (q6, .inl (c6, 16, .inl a6)), (h0, .inr (8, [.int th, v1, .ref q2, .ref q3, .ref q4, .ref q5, .ref q6, .ref q7, v8, v9, v10, v11, v12, v13, v14, .ref q15, v16])), (q2, .inl (c2, 67200, .inl ur_28)), (q3, .inl (c3, 16, .inl (upd a3 r (nI (nz + 1))))), (q7, .inl (c7, 16, .inl (upd a7 r (a7 r + 1))))] H := hP
          replace hD : va_D A [(q4, .inl (c4, 16, .inl a4)), (q15, .inl (c15, 4096, .inl a15)), (q5, .inl (c5, 16, .inl a5)), (q6, .inl (c6, 16, .inl a6)), (h0, .inr (8, [.int th, v1, .ref q2, .ref q3, .ref q4, .ref q5, .ref q6, .ref q7, v8, v9, v10, v11, v12, v13, v14, .ref q15, v16])), (q2, .inl (c2, 67200, .inl ur_28)), (q3, .inl (c3, 16, .inl (upd a3 r (nI (nz + 1))))), (q7, .inl (c7, 16, .inl (upd a7 r (a7 r + 1))))] := hD
          refine W.widen (k := 0) (n := 0) (Nat.le_of_ble_eq_true rfl) (Nat.le_of_ble_eq_true rfl) ?_
          refine W.eq (g2 := F0 m 146 ls []) rfl ?_
          have qo := outR_tr qo jr_28
          refine lv_iload hx hb dX8_hashed_146 (lv_at hl 1 rfl) ?_
          refine lv_bipush (v := 8) hx hb dX8_hashed_148 (by decide) ?_
          refine lv_icmp_lt (tgt := 190) hx hb dX8_hashed_150 (by decide) (fun c_29 => ?_) (fun c_29 => ?_)
          ·
            have ic_29 : r_3.toInt < 8 := tx_lt rfl (by decide) c_29
            refine lv_aload_n hx hb dX8_hashed_190 rfl (lv_at hl 3 rfl) ?_
            refine va_get (D := (dC, dI)) (ci := 8) (v := .ref q3) (C := RX8) (T := TX8) (N := 17) hx hb hts hi0_ hown hK hP 4 rfl rfl 3 (by decide) hw1_ (fun _ h9 => h9) rfl dX8_hashed_191 ?_
            refine lv_iload_n hx hb dX8_hashed_194 rfl (lv_at hl 4 rfl) ?_
            refine va_iald (i := nI r) hx hb hK hP 6 1 rfl rfl (vp_in_nI (by omega) (by omega)) dX8_hashed_195 ?_
            refine W.eq (g2 := F0 m 196 ls [.int ((upd a3 r (nI (nz + 1))) r)]) (by rw [nI_clamp (by omega)]) ?_
            refine W.eq (g2 := F0 m 196 ls [.int (nI (nz + 1))]) (by rw [pk_us]) ?_
            refine lv_iconst (v := 4) hx hb dX8_hashed_196 (by decide) ?_
            refine lv_imul hx hb dX8_hashed_197 ?_
            refine lv_topi (fun z_30 ez_30 => ?_)
            obtain rfl : z_30 = nI ((nz + 1) * 4) := ez_30.trans (by rw [show (4 : Int32) = nI 4 from rfl, pk_mul])
            refine lv_aload_n hx hb dX8_hashed_198 rfl (lv_at hl 3 rfl) ?_
            refine va_get (D := (dC, dI)) (ci := 8) (v := .ref q6) (C := RX8) (T := TX8) (N := 17) hx hb hts hi0_ hown hK hP 4 rfl rfl 6 (by decide) hw0_ (fun _ h9 => h9) rfl dX8_hashed_199 ?_
            refine lv_iload_n hx hb dX8_hashed_202 rfl (lv_at hl 4 rfl) ?_
            refine va_iald (i := nI r) hx hb hK hP 3 4 rfl rfl (vp_in_nI (by omega) (by omega)) dX8_hashed_203 ?_
            refine W.eq (g2 := F0 m 204 ls [.int (a6 r), .int (nI ((nz + 1) * 4))]) (by rw [nI_clamp (by omega)]) ?_
            refine W.eq (g2 := F0 m 204 ls [.int (nI tb), .int (nI ((nz + 1) * 4))]) (by rw [q6_]) ?_
            refine lv_iconst (v := 3) hx hb dX8_hashed_204 (by decide) ?_
            refine lv_imul hx hb dX8_hashed_205 ?_
            refine lv_topi (fun z_31 ez_31 => ?_)
            obtain rfl : z_31 = nI (tb * 3) := ez_31.trans (by rw [show (3 : Int32) = nI 3 from rfl, pk_mul])
            refine lv_icmp_le (tgt := 214) hx hb dX8_hashed_206 (by decide) (fun c_32 => ?_) (fun c_32 => ?_)
            ·
              have ic_32 : (((nz + 1) * 4 : Nat) : Int) ≤ ((tb * 3 : Nat) : Int) := tx_le (nI_toInt (by omega)) (nI_toInt (by omega)) c_32
              have hP9 := hP.sub (ws' := [(h0, .inr (8, [.int th, v1, .ref q2, .ref q3, .ref q4, .ref q5, .ref q6, .ref q7, v8, v9, v10, v11, v12, v13, v14, .ref q15, v16])), (q2, .inl (c2, 67200, .inl ur_28)), (q3, .inl (c3, 16, .inl (upd a3 r (nI (nz + 1))))), (q4, .inl (c4, 16, .inl a4)), (q5, .inl (c5, 16, .inl a5)), (q6, .inl (c6, 16, .inl a6)), (q7, .inl (c7, 16, .inl (upd a7 r (a7 r + 1)))), (q15, .inl (c15, 4096, .inl a15))]) [4, 5, 6, 0, 2, 3, 7, 1] rfl
              have hD9 := hD.sub (ws' := [(h0, .inr (8, [.int th, v1, .ref q2, .ref q3, .ref q4, .ref q5, .ref q6, .ref q7, v8, v9, v10, v11, v12, v13, v14, .ref q15, v16])), (q2, .inl (c2, 67200, .inl ur_28)), (q3, .inl (c3, 16, .inl (upd a3 r (nI (nz + 1))))), (q4, .inl (c4, 16, .inl a4)), (q5, .inl (c5, 16, .inl a5)), (q6, .inl (c6, 16, .inl a6)), (q7, .inl (c7, 16, .inl (upd a7 r (a7 r + 1)))), (q15, .inl (c15, 4096, .inl a15))]) [4, 5, 6, 0, 2, 3, 7, 1] (by decide) rfl
              have hK9 := hK.sub (tys' := [(c2, .int), (c3, .int), (c4, .int), (c5, .int), (c6, .int), (c7, .int), (c15, .boolean)]) [0, 1, 2, 3, 4, 5, 6] rfl
              refine W.widen (k := 0) (n := 0) (Nat.le_of_ble_eq_true rfl) (Nat.le_of_ble_eq_true rfl) ?_
              exact W.vret hx hb hr (fun t ht hW => ⟨⟨(ur_28, a6, a15), rfl, ⟨qo, qw, tb, q6_, u1_, u2_, u3_, by omega⟩, by rw [ht]; exact hP9, va_K.moved hW.alike hK9, hD9⟩, hS.F ht⟩) hS.2.2 dX8_hashed_214
            ·
              have ic_32 : ((tb * 3 : Nat) : Int) < (((nz + 1) * 4 : Nat) : Int) := tx_nle (nI_toInt (by omega)) (nI_toInt (by omega)) c_32
              refine lv_aload_n hx hb dX8_hashed_209 rfl (lv_at hl 3 rfl) ?_
              refine lv_iload_n hx hb dX8_hashed_210 rfl (lv_at hl 4 rfl) ?_
              have hPc := hP.sub (ws' := [(h0, .inr (8, [.int th, v1, .ref q2, .ref q3, .ref q4, .ref q5, .ref q6, .ref q7, v8, v9, v10, v11, v12, v13, v14, .ref q15, v16])), (q2, .inl (c2, 67200, .inl ur_28)), (q3, .inl (c3, 16, .inl (upd a3 r (nI (nz + 1))))), (q5, .inl (c5, 16, .inl a5)), (q6, .inl (c6, 16, .inl a6)), (q15, .inl (c15, 4096, .inl a15))]) [4, 5, 6, 2, 3, 1] rfl
              have hDc := hD.sub (ws' := [(h0, .inr (8, [.int th, v1, .ref q2, .ref q3, .ref q4, .ref q5, .ref q6, .ref q7, v8, v9, v10, v11, v12, v13, v14, .ref q15, v16])), (q2, .inl (c2, 67200, .inl ur_28)), (q3, .inl (c3, 16, .inl (upd a3 r (nI (nz + 1))))), (q5, .inl (c5, 16, .inl a5)), (q6, .inl (c6, 16, .inl a6)), (q15, .inl (c15, 4096, .inl a15))]) [4, 5, 6, 2, 3, 1] (by decide) rfl
              have hKc := hK.sub (tys' := [(c2, .int), (c3, .int), (c5, .int), (c6, .int), (c15, .boolean)]) [0, 1, 3, 4, 6] rfl
              have hFc := va_free (wc := [(h0, .inr (8, [.int th, v1, .ref q2, .ref q3, .ref q4, .ref q5, .ref q6, .ref q7, v8, v9, v10, v11, v12, v13, v14, .ref q15, v16])), (q2, .inl (c2, 67200, .inl ur_28)), (q3, .inl (c3, 16, .inl (upd a3 r (nI (nz + 1))))), (q5, .inl (c5, 16, .inl a5)), (q6, .inl (c6, 16, .inl a6)), (q15, .inl (c15, 4096, .inl a15))]) hD hS hA [4, 5, 6, 2, 3, 1] rfl
              refine va_callv (va_runV (As := [.int (nI r)]) (rest := []) ⟨hx, hb, hml, hown, hts⟩ (c_X8_doubled l  dC dI H.size h0 th q2 q3 q5 q6 q15 c2 c3 c5 c6 c15 ur_28 (upd a3 r (nI (nz + 1))) a5 a6 a15 v1 (.ref q4) (.ref q7) v8 v9 v10 v11 v12 v13 v14 v16 r tb (nz + 1) hr9 u1_ (by first | omega | exact p2_1024 u3_ (by omega)) u3_ q6_ pk_us (by omega)) (cwV 1 hts gX8_hashed_X8_doubled rfl rfl rfl (by decide +kernel) ⟨(Nat.le_of_ble_eq_true rfl), (Nat.le_of_ble_eq_true rfl)⟩) ⟨pk_blind, va_recv hKc hPc (ci := 8) (q0 := 0) rfl rfl, pk_call hPc hKc hDc⟩ rfl rfl hl.1 rfl (lv_room (Nat.le_of_ble_eq_true rfl)) dX8_hashed_211 ⟨(Nat.le_of_ble_eq_true rfl), (Nat.le_of_ble_eq_true rfl)⟩) hS (fun q _ h => hFc q h) hFc (fun ur_33 t H1 locs ht hvm hw hB hz1 hk1 hS => ?_)
              try dsimp only at hw
              have jr_33 := hw
              obtain ⟨hP1, hK1, hD1⟩ := hB
              rw [ht] at hP1
              have hK1 := va_K.moved hvm.symm hK1
              obtain ⟨hP, hD⟩ := va_join (wr := [(q4, .inl (c4, 16, .inl a4)), (q7, .inl (c7, 16, .inl (upd a7 r (a7 r + 1))))]) (w1 := [(h0, .inr (8, [.int th, v1, .ref q2, .ref q3, .ref q4, .ref q5, .ref q6, .ref q7, v8, v9, v10, v11, v12, v13, v14, .ref q15, v16])), (q2, .inl (c2, 67200, .inl ur_33.1)), (q3, .inl (c3, 16, .inl (upd a3 r (nI (nz + 1))))), (q5, .inl (c5, 16, .inl a5)), (q6, .inl (c6, 16, .inl (upd a6 r (nI (2 * tb))))), (q15, .inl (c15, 4096, .inl ur_33.2))]) hP hD [4, 5, 6, 2, 3, 1] [0, 7] rfl rfl (by decide) (by decide) hk1 hFc hP1 hD1
              clear hk1 hz1 ht hPc hDc hKc hFc
              generalize H1 = H at hP hS ⊢
              replace hP : va_P (dC, dI) vwCl [(q4, .inl (c4, 16, .inl a4)), (q7, .inl (c7, 16, .inl (upd a7 r (a7 r + 1)))), (h0, .inr (8, [.int th, v1, .ref q2, .ref q3, .ref q4, .ref q5, .ref q6, .ref q7, v8, v9, v10, v11, v12, v13, v14, .ref q15, v16])), (q2, .inl (c2, 67200, .inl ur_33.1)), (q3, .inl (c3, 16, .inl (upd a3 r (nI (nz + 1))))), (q5, .inl (c5, 16, .inl a5)), (q6, .inl (c6, 16, .inl (upd a6 r (nI (2 * tb))))), (q15, .inl (c15, 4096, .inl ur_33.2))] H := hP
              replace hD : va_D A [(q4, .inl (c4, 16, .inl a4)), (q7, .inl (c7, 16, .inl (upd a7 r (a7 r + 1)))), (h0, .inr (8, [.int th, v1, .ref q2, .ref q3, .ref q4, .ref q5, .ref q6, .ref q7, v8, v9, v10, v11, v12, v13, v14, .ref q15, v16])), (q2, .inl (c2, 67200, .inl ur_33.1)), (q3, .inl (c3, 16, .inl (upd a3 r (nI (nz + 1))))), (q5, .inl (c5, 16, .inl a5)), (q6, .inl (c6, 16, .inl (upd a6 r (nI (2 * tb))))), (q15, .inl (c15, 4096, .inl ur_33.2))] := hD
              refine W.widen (k := 0) (n := 0) (Nat.le_of_ble_eq_true rfl) (Nat.le_of_ble_eq_true rfl) ?_
              refine W.eq (g2 := F0 m 214 ls []) rfl ?_
              have qo := outR_tr qo jr_33
              have q6_ : (upd a6 r (nI (2 * tb))) r = nI (2 * tb) := pk_us
              have qw : ∀ q : Nat, q ≠ r → (upd a6 r (nI (2 * tb))) q = a6 q := fun q hq => (pk_un hq).trans (qw q hq)
              have u3_ := p2_dbl u3_
              have u1_ : 1 ≤ 2 * tb := by omega
              have u2_ : 2 * tb ≤ 2048 := by first | omega | (have := p2_1024 (t := tb) (by assumption) (by omega); omega)
              have hP9 := hP.sub (ws' := [(h0, .inr (8, [.int th, v1, .ref q2, .ref q3, .ref q4, .ref q5, .ref q6, .ref q7, v8, v9, v10, v11, v12, v13, v14, .ref q15, v16])), (q2, .inl (c2, 67200, .inl ur_33.1)), (q3, .inl (c3, 16, .inl (upd a3 r (nI (nz + 1))))), (q4, .inl (c4, 16, .inl a4)), (q5, .inl (c5, 16, .inl a5)), (q6, .inl (c6, 16, .inl (upd a6 r (nI (2 * tb))))), (q7, .inl (c7, 16, .inl (upd a7 r (a7 r + 1)))), (q15, .inl (c15, 4096, .inl ur_33.2))]) [2, 3, 4, 0, 5, 6, 1, 7] rfl
              have hD9 := hD.sub (ws' := [(h0, .inr (8, [.int th, v1, .ref q2, .ref q3, .ref q4, .ref q5, .ref q6, .ref q7, v8, v9, v10, v11, v12, v13, v14, .ref q15, v16])), (q2, .inl (c2, 67200, .inl ur_33.1)), (q3, .inl (c3, 16, .inl (upd a3 r (nI (nz + 1))))), (q4, .inl (c4, 16, .inl a4)), (q5, .inl (c5, 16, .inl a5)), (q6, .inl (c6, 16, .inl (upd a6 r (nI (2 * tb))))), (q7, .inl (c7, 16, .inl (upd a7 r (a7 r + 1)))), (q15, .inl (c15, 4096, .inl ur_33.2))]) [2, 3, 4, 0, 5, 6, 1, 7] (by decide) rfl
              have hK9 := hK.sub (tys' := [(c2, .int), (c3, .int), (c4, .int), (c5, .int), (c6, .int), (c7, .int), (c15, .boolean)]) [0, 1, 2, 3, 4, 5, 6] rfl
              refine W.widen (k := 0) (n := 0) (Nat.le_of_ble_eq_true rfl) (Nat.le_of_ble_eq_true rfl) ?_
              exact W.vret hx hb hr (fun t ht hW => ⟨⟨(ur_33.1, (upd a6 r (nI (2 * tb))), ur_33.2), rfl, ⟨qo, qw, (2 * tb), q6_, u1_, u2_, u3_, by omega⟩, by rw [ht]; exact hP9, va_K.moved hW.alike hK9, hD9⟩, hS.F ht⟩) hS.2.2 dX8_hashed_214
          ·
            have ic_29 : 8 ≤ r_3.toInt := tx_nlt rfl (by decide) c_29
            refine lv_aload_n hx hb dX8_hashed_153 rfl (lv_at hl 3 rfl) ?_
            refine va_get (D := (dC, dI)) (ci := 8) (v := .ref q6) (C := RX8) (T := TX8) (N := 17) hx hb hts hi0_ hown hK hP 4 rfl rfl 6 (by decide) hw0_ (fun _ h9 => h9) rfl dX8_hashed_154 ?_
            refine lv_iload_n hx hb dX8_hashed_157 rfl (lv_at hl 4 rfl) ?_
            refine va_iald (i := nI r) hx hb hK hP 3 4 rfl rfl (vp_in_nI (by omega) (by omega)) dX8_hashed_158 ?_
            refine W.eq (g2 := F0 m 159 ls [.int (a6 r)]) (by rw [nI_clamp (by omega)]) ?_
            refine W.eq (g2 := F0 m 159 ls [.int (nI tb)]) (by rw [q6_]) ?_
            refine lv_bipush (v := 64) hx hb dX8_hashed_159 (by decide) ?_
            refine lv_icmp_ge (tgt := 172) hx hb dX8_hashed_161 (by decide) (fun c_34 => ?_) (fun c_34 => ?_)
            ·
              have ic_34 : 64 ≤ ((tb : Nat) : Int) := tx_le (by decide) (nI_toInt (by omega)) c_34
              refine lv_aload_n hx hb dX8_hashed_172 rfl (lv_at hl 3 rfl) ?_
              refine va_get (D := (dC, dI)) (ci := 8) (v := .ref q2) (C := RX8) (T := TX8) (N := 17) hx hb hts hi0_ hown hK hP 4 rfl rfl 2 (by decide) hw2_ (fun _ h9 => h9) rfl dX8_hashed_173 ?_
              refine lv_sipush (v := 4200) hx hb dX8_hashed_176 (by decide) ?_
              refine lv_iload_n hx hb dX8_hashed_179 rfl (lv_at hl 4 rfl) ?_
              refine lv_imul hx hb dX8_hashed_180 ?_
              refine lv_topi (fun z_35 ez_35 => ?_)
              obtain rfl : z_35 = nI (4200 * r) := ez_35.trans (by rw [show (4200 : Int32) = nI 4200 from rfl, pk_mul])
              refine lv_sipush (v := 2000) hx hb dX8_hashed_181 (by decide) ?_
              refine lv_iadd hx hb dX8_hashed_184 ?_
              refine lv_topi (fun z_36 ez_36 => ?_)
              obtain rfl : z_36 = nI ((4200 * r) + 2000) := ez_36.trans (by rw [show (2000 : Int32) = nI 2000 from rfl, nI_add])
              refine lv_iload hx hb dX8_hashed_185 (lv_at hl 2 rfl) ?_
              refine lv_iadd hx hb dX8_hashed_187 ?_
              refine lv_topi (fun z_37 ez_37 => ?_)
              obtain rfl : z_37 = nI (((4200 * r) + 2000) + b9) := ez_37.trans (by rw [nI_add])
              refine lv_iconst (v := 1) hx hb dX8_hashed_188 (by decide) ?_
              refine va_iast (i := nI (((4200 * r) + 2000) + b9)) hx hb hK hP hD hS 5 0 rfl rfl (vp_in_nI (by omega) (by omega)) dX8_hashed_189 (fun H locs hP hD hS => ?_)
              rw [nI_clamp (by omega)] at hP hD
              replace hP : va_P (dC, dI) vwCl [(q4, .inl (c4, 16, .inl a4)), (q15, .inl (c15, 4096, .inl a15)), (q5, .inl (c5, 16, .inl a5)), (q6, .inl (c6, 16, .inl a6)), (h0, .inr (8, [.int th, v1, .ref q2, .ref q3, .ref q4, .ref q5, .ref q6, .ref q7, v8, v9, v10, v11, v12, v13, v14, .ref q15, v16])), (q2, .inl (c2, 67200, .inl (upd ur_28 (((4200 * r) + 2000) + b9) 1))), (q3, .inl (c3, 16, .inl (upd a3 r (nI (nz + 1))))), (q7, .inl (c7, 16, .inl (upd a7 r (a7 r + 1))))] H := hP
              replace hD : va_D A [(q4, .inl (c4, 16, .inl a4)), (q15, .inl (c15, 4096, .inl a15)), (q5, .inl (c5, 16, .inl a5)), (q6, .inl (c6, 16, .inl a6)), (h0, .inr (8, [.int th, v1, .ref q2, .ref q3, .ref q4, .ref q5, .ref q6, .ref q7, v8, v9, v10, v11, v12, v13, v14, .ref q15, v16])), (q2, .inl (c2, 67200, .inl (upd ur_28 (((4200 * r) + 2000) + b9) 1))), (q3, .inl (c3, 16, .inl (upd a3 r (nI (nz + 1))))), (q7, .inl (c7, 16, .inl (upd a7 r (a7 r + 1))))] := hD
              refine lv_aload_n hx hb dX8_hashed_190 rfl (lv_at hl 3 rfl) ?_
              refine va_get (D := (dC, dI)) (ci := 8) (v := .ref q3) (C := RX8) (T := TX8) (N := 17) hx hb hts hi0_ hown hK hP 4 rfl rfl 3 (by decide) hw1_ (fun _ h9 => h9) rfl dX8_hashed_191 ?_
              refine lv_iload_n hx hb dX8_hashed_194 rfl (lv_at hl 4 rfl) ?_
              refine va_iald (i := nI r) hx hb hK hP 6 1 rfl rfl (vp_in_nI (by omega) (by omega)) dX8_hashed_195 ?_
              refine W.eq (g2 := F0 m 196 ls [.int ((upd a3 r (nI (nz + 1))) r)]) (by rw [nI_clamp (by omega)]) ?_
              refine W.eq (g2 := F0 m 196 ls [.int (nI (nz + 1))]) (by rw [pk_us]) ?_
              refine lv_iconst (v := 4) hx hb dX8_hashed_196 (by decide) ?_
              refine lv_imul hx hb dX8_hashed_197 ?_
              refine lv_topi (fun z_38 ez_38 => ?_)
              obtain rfl : z_38 = nI ((nz + 1) * 4) := ez_38.trans (by rw [show (4 : Int32) = nI 4 from rfl, pk_mul])
              refine lv_aload_n hx hb dX8_hashed_198 rfl (lv_at hl 3 rfl) ?_
              refine va_get (D := (dC, dI)) (ci := 8) (v := .ref q6) (C := RX8) (T := TX8) (N := 17) hx hb hts hi0_ hown hK hP 4 rfl rfl 6 (by decide) hw0_ (fun _ h9 => h9) rfl dX8_hashed_199 ?_
              refine lv_iload_n hx hb dX8_hashed_202 rfl (lv_at hl 4 rfl) ?_
              refine va_iald (i := nI r) hx hb hK hP 3 4 rfl rfl (vp_in_nI (by omega) (by omega)) dX8_hashed_203 ?_
              refine W.eq (g2 := F0 m 204 ls [.int (a6 r), .int (nI ((nz + 1) * 4))]) (by rw [nI_clamp (by omega)]) ?_
              refine W.eq (g2 := F0 m 204 ls [.int (nI tb), .int (nI ((nz + 1) * 4))]) (by rw [q6_]) ?_
              refine lv_iconst (v := 3) hx hb dX8_hashed_204 (by decide) ?_
              refine lv_imul hx hb dX8_hashed_205 ?_
              refine lv_topi (fun z_39 ez_39 => ?_)
              obtain rfl : z_39 = nI (tb * 3) := ez_39.trans (by rw [show (3 : Int32) = nI 3 from rfl, pk_mul])
              refine lv_icmp_le (tgt := 214) hx hb dX8_hashed_206 (by decide) (fun c_40 => ?_) (fun c_40 => ?_)
              ·
                have ic_40 : (((nz + 1) * 4 : Nat) : Int) ≤ ((tb * 3 : Nat) : Int) := tx_le (nI_toInt (by omega)) (nI_toInt (by omega)) c_40
                have hP9 := hP.sub (ws' := [(h0, .inr (8, [.int th, v1, .ref q2, .ref q3, .ref q4, .ref q5, .ref q6, .ref q7, v8, v9, v10, v11, v12, v13, v14, .ref q15, v16])), (q2, .inl (c2, 67200, .inl (upd ur_28 (((4200 * r) + 2000) + b9) 1))), (q3, .inl (c3, 16, .inl (upd a3 r (nI (nz + 1))))), (q4, .inl (c4, 16, .inl a4)), (q5, .inl (c5, 16, .inl a5)), (q6, .inl (c6, 16, .inl a6)), (q7, .inl (c7, 16, .inl (upd a7 r (a7 r + 1)))), (q15, .inl (c15, 4096, .inl a15))]) [4, 5, 6, 0, 2, 3, 7, 1] rfl
                have hD9 := hD.sub (ws' := [(h0, .inr (8, [.int th, v1, .ref q2, .ref q3, .ref q4, .ref q5, .ref q6, .ref q7, v8, v9, v10, v11, v12, v13, v14, .ref q15, v16])), (q2, .inl (c2, 67200, .inl (upd ur_28 (((4200 * r) + 2000) + b9) 1))), (q3, .inl (c3, 16, .inl (upd a3 r (nI (nz + 1))))), (q4, .inl (c4, 16, .inl a4)), (q5, .inl (c5, 16, .inl a5)), (q6, .inl (c6, 16, .inl a6)), (q7, .inl (c7, 16, .inl (upd a7 r (a7 r + 1)))), (q15, .inl (c15, 4096, .inl a15))]) [4, 5, 6, 0, 2, 3, 7, 1] (by decide) rfl
                have hK9 := hK.sub (tys' := [(c2, .int), (c3, .int), (c4, .int), (c5, .int), (c6, .int), (c7, .int), (c15, .boolean)]) [0, 1, 2, 3, 4, 5, 6] rfl
                refine W.widen (k := 0) (n := 0) (Nat.le_of_ble_eq_true rfl) (Nat.le_of_ble_eq_true rfl) ?_
                exact W.vret hx hb hr (fun t ht hW => ⟨⟨((upd ur_28 (((4200 * r) + 2000) + b9) 1), a6, a15), rfl, ⟨outR_up' qo (k := 2000 + b9) (by omega) (by omega), qw, tb, q6_, u1_, u2_, u3_, by omega⟩, by rw [ht]; exact hP9, va_K.moved hW.alike hK9, hD9⟩, hS.F ht⟩) hS.2.2 dX8_hashed_214
              ·
                have ic_40 : ((tb * 3 : Nat) : Int) < (((nz + 1) * 4 : Nat) : Int) := tx_nle (nI_toInt (by omega)) (nI_toInt (by omega)) c_40
                refine lv_aload_n hx hb dX8_hashed_209 rfl (lv_at hl 3 rfl) ?_
                refine lv_iload_n hx hb dX8_hashed_210 rfl (lv_at hl 4 rfl) ?_
                have hPc := hP.sub (ws' := [(h0, .inr (8, [.int th, v1, .ref q2, .ref q3, .ref q4, .ref q5, .ref q6, .ref q7, v8, v9, v10, v11, v12, v13, v14, .ref q15, v16])), (q2, .inl (c2, 67200, .inl (upd ur_28 (((4200 * r) + 2000) + b9) 1))), (q3, .inl (c3, 16, .inl (upd a3 r (nI (nz + 1))))), (q5, .inl (c5, 16, .inl a5)), (q6, .inl (c6, 16, .inl a6)), (q15, .inl (c15, 4096, .inl a15))]) [4, 5, 6, 2, 3, 1] rfl
                have hDc := hD.sub (ws' := [(h0, .inr (8, [.int th, v1, .ref q2, .ref q3, .ref q4, .ref q5, .ref q6, .ref q7, v8, v9, v10, v11, v12, v13, v14, .ref q15, v16])), (q2, .inl (c2, 67200, .inl (upd ur_28 (((4200 * r) + 2000) + b9) 1))), (q3, .inl (c3, 16, .inl (upd a3 r (nI (nz + 1))))), (q5, .inl (c5, 16, .inl a5)), (q6, .inl (c6, 16, .inl a6)), (q15, .inl (c15, 4096, .inl a15))]) [4, 5, 6, 2, 3, 1] (by decide) rfl
                have hKc := hK.sub (tys' := [(c2, .int), (c3, .int), (c5, .int), (c6, .int), (c15, .boolean)]) [0, 1, 3, 4, 6] rfl
                have hFc := va_free (wc := [(h0, .inr (8, [.int th, v1, .ref q2, .ref q3, .ref q4, .ref q5, .ref q6, .ref q7, v8, v9, v10, v11, v12, v13, v14, .ref q15, v16])), (q2, .inl (c2, 67200, .inl (upd ur_28 (((4200 * r) + 2000) + b9) 1))), (q3, .inl (c3, 16, .inl (upd a3 r (nI (nz + 1))))), (q5, .inl (c5, 16, .inl a5)), (q6, .inl (c6, 16, .inl a6)), (q15, .inl (c15, 4096, .inl a15))]) hD hS hA [4, 5, 6, 2, 3, 1] rfl
                refine va_callv (va_runV (As := [.int (nI r)]) (rest := []) ⟨hx, hb, hml, hown, hts⟩ (c_X8_doubled l  dC dI H.size h0 th q2 q3 q5 q6 q15 c2 c3 c5 c6 c15 (upd ur_28 (((4200 * r) + 2000) + b9) 1) (upd a3 r (nI (nz + 1))) a5 a6 a15 v1 (.ref q4) (.ref q7) v8 v9 v10 v11 v12 v13 v14 v16 r tb (nz + 1) hr9 u1_ (by first | omega | exact p2_1024 u3_ (by omega)) u3_ q6_ pk_us (by omega)) (cwV 1 hts gX8_hashed_X8_doubled rfl rfl rfl (by decide +kernel) ⟨(Nat.le_of_ble_eq_true rfl), (Nat.le_of_ble_eq_true rfl)⟩) ⟨pk_blind, va_recv hKc hPc (ci := 8) (q0 := 0) rfl rfl, pk_call hPc hKc hDc⟩ rfl rfl hl.1 rfl (lv_room (Nat.le_of_ble_eq_true rfl)) dX8_hashed_211 ⟨(Nat.le_of_ble_eq_true rfl), (Nat.le_of_ble_eq_true rfl)⟩) hS (fun q _ h => hFc q h) hFc (fun ur_41 t H1 locs ht hvm hw hB hz1 hk1 hS => ?_)
                try dsimp only at hw
                have jr_41 := hw
                obtain ⟨hP1, hK1, hD1⟩ := hB
                rw [ht] at hP1
                have hK1 := va_K.moved hvm.symm hK1
                obtain ⟨hP, hD⟩ := va_join (wr := [(q4, .inl (c4, 16, .inl a4)), (q7, .inl (c7, 16, .inl (upd a7 r (a7 r + 1))))]) (w1 := [(h0, .inr (8, [.int th, v1, .ref q2, .ref q3, .ref q4, .ref q5, .ref q6, .ref q7, v8, v9, v10, v11, v12, v13, v14, .ref q15, v16])), (q2, .inl (c2, 67200, .inl ur_41.1)), (q3, .inl (c3, 16, .inl (upd a3 r (nI (nz + 1))))), (q5, .inl (c5, 16, .inl a5)), (q6, .inl (c6, 16, .inl (upd a6 r (nI (2 * tb))))), (q15, .inl (c15, 4096, .inl ur_41.2))]) hP hD [4, 5, 6, 2, 3, 1] [0, 7] rfl rfl (by decide) (by decide) hk1 hFc hP1 hD1
                clear hk1 hz1 ht hPc hDc hKc hFc
                generalize H1 = H at hP hS ⊢
                replace hP : va_P (dC, dI) vwCl [(q4, .inl (c4, 16, .inl a4)), (q7, .inl (c7, 16, .inl (upd a7 r (a7 r + 1)))), (h0, .inr (8, [.int th, v1, .ref q2, .ref q3, .ref q4, .ref q5, .ref q6, .ref q7, v8, v9, v10, v11, v12, v13, v14, .ref q15, v16])), (q2, .inl (c2, 67200, .inl ur_41.1)), (q3, .inl (c3, 16, .inl (upd a3 r (nI (nz + 1))))), (q5, .inl (c5, 16, .inl a5)), (q6, .inl (c6, 16, .inl (upd a6 r (nI (2 * tb))))), (q15, .inl (c15, 4096, .inl ur_41.2))] H := hP
                replace hD : va_D A [(q4, .inl (c4, 16, .inl a4)), (q7, .inl (c7, 16, .inl (upd a7 r (a7 r + 1)))), (h0, .inr (8, [.int th, v1, .ref q2, .ref q3, .ref q4, .ref q5, .ref q6, .ref q7, v8, v9, v10, v11, v12, v13, v14, .ref q15, v16])), (q2, .inl (c2, 67200, .inl ur_41.1)), (q3, .inl (c3, 16, .inl (upd a3 r (nI (nz + 1))))), (q5, .inl (c5, 16, .inl a5)), (q6, .inl (c6, 16, .inl (upd a6 r (nI (2 * tb))))), (q15, .inl (c15, 4096, .inl ur_41.2))] := hD
                refine W.widen (k := 0) (n := 0) (Nat.le_of_ble_eq_true rfl) (Nat.le_of_ble_eq_true rfl) ?_
                refine W.eq (g2 := F0 m 214 ls []) rfl ?_
                have qo := outR_tr (outR_up' qo (k := 2000 + b9) (by omega) (by omega)) jr_41
                have q6_ : (upd a6 r (nI (2 * tb))) r = nI (2 * tb) := pk_us
                have qw : ∀ q : Nat, q ≠ r → (upd a6 r (nI (2 * tb))) q = a6 q := fun q hq => (pk_un hq).trans (qw q hq)
                have u3_ := p2_dbl u3_
                have u1_ : 1 ≤ 2 * tb := by omega
                have u2_ : 2 * tb ≤ 2048 := by first | omega | (have := p2_1024 (t := tb) (by assumption) (by omega); omega)
                have hP9 := hP.sub (ws' := [(h0, .inr (8, [.int th, v1, .ref q2, .ref q3, .ref q4, .ref q5, .ref q6, .ref q7, v8, v9, v10, v11, v12, v13, v14, .ref q15, v16])), (q2, .inl (c2, 67200, .inl ur_41.1)), (q3, .inl (c3, 16, .inl (upd a3 r (nI (nz + 1))))), (q4, .inl (c4, 16, .inl a4)), (q5, .inl (c5, 16, .inl a5)), (q6, .inl (c6, 16, .inl (upd a6 r (nI (2 * tb))))), (q7, .inl (c7, 16, .inl (upd a7 r (a7 r + 1)))), (q15, .inl (c15, 4096, .inl ur_41.2))]) [2, 3, 4, 0, 5, 6, 1, 7] rfl
                have hD9 := hD.sub (ws' := [(h0, .inr (8, [.int th, v1, .ref q2, .ref q3, .ref q4, .ref q5, .ref q6, .ref q7, v8, v9, v10, v11, v12, v13, v14, .ref q15, v16])), (q2, .inl (c2, 67200, .inl ur_41.1)), (q3, .inl (c3, 16, .inl (upd a3 r (nI (nz + 1))))), (q4, .inl (c4, 16, .inl a4)), (q5, .inl (c5, 16, .inl a5)), (q6, .inl (c6, 16, .inl (upd a6 r (nI (2 * tb))))), (q7, .inl (c7, 16, .inl (upd a7 r (a7 r + 1)))), (q15, .inl (c15, 4096, .inl ur_41.2))]) [2, 3, 4, 0, 5, 6, 1, 7] (by decide) rfl
                have hK9 := hK.sub (tys' := [(c2, .int), (c3, .int), (c4, .int), (c5, .int), (c6, .int), (c7, .int), (c15, .boolean)]) [0, 1, 2, 3, 4, 5, 6] rfl
                refine W.widen (k := 0) (n := 0) (Nat.le_of_ble_eq_true rfl) (Nat.le_of_ble_eq_true rfl) ?_
                exact W.vret hx hb hr (fun t ht hW => ⟨⟨(ur_41.1, (upd a6 r (nI (2 * tb))), ur_41.2), rfl, ⟨qo, qw, (2 * tb), q6_, u1_, u2_, u3_, by omega⟩, by rw [ht]; exact hP9, va_K.moved hW.alike hK9, hD9⟩, hS.F ht⟩) hS.2.2 dX8_hashed_214
            ·
              have ic_34 : ((tb : Nat) : Int) < 64 := tx_nle (by decide) (nI_toInt (by omega)) c_34
              refine lv_aload_n hx hb dX8_hashed_164 rfl (lv_at hl 3 rfl) ?_
              refine lv_iload_n hx hb dX8_hashed_165 rfl (lv_at hl 4 rfl) ?_
              have hPc := hP.sub (ws' := [(h0, .inr (8, [.int th, v1, .ref q2, .ref q3, .ref q4, .ref q5, .ref q6, .ref q7, v8, v9, v10, v11, v12, v13, v14, .ref q15, v16])), (q2, .inl (c2, 67200, .inl ur_28)), (q3, .inl (c3, 16, .inl (upd a3 r (nI (nz + 1))))), (q5, .inl (c5, 16, .inl a5)), (q6, .inl (c6, 16, .inl a6)), (q15, .inl (c15, 4096, .inl a15))]) [4, 5, 6, 2, 3, 1] rfl
              have hDc := hD.sub (ws' := [(h0, .inr (8, [.int th, v1, .ref q2, .ref q3, .ref q4, .ref q5, .ref q6, .ref q7, v8, v9, v10, v11, v12, v13, v14, .ref q15, v16])), (q2, .inl (c2, 67200, .inl ur_28)), (q3, .inl (c3, 16, .inl (upd a3 r (nI (nz + 1))))), (q5, .inl (c5, 16, .inl a5)), (q6, .inl (c6, 16, .inl a6)), (q15, .inl (c15, 4096, .inl a15))]) [4, 5, 6, 2, 3, 1] (by decide) rfl
              have hKc := hK.sub (tys' := [(c2, .int), (c3, .int), (c5, .int), (c6, .int), (c15, .boolean)]) [0, 1, 3, 4, 6] rfl
              have hFc := va_free (wc := [(h0, .inr (8, [.int th, v1, .ref q2, .ref q3, .ref q4, .ref q5, .ref q6, .ref q7, v8, v9, v10, v11, v12, v13, v14, .ref q15, v16])), (q2, .inl (c2, 67200, .inl ur_28)), (q3, .inl (c3, 16, .inl (upd a3 r (nI (nz + 1))))), (q5, .inl (c5, 16, .inl a5)), (q6, .inl (c6, 16, .inl a6)), (q15, .inl (c15, 4096, .inl a15))]) hD hS hA [4, 5, 6, 2, 3, 1] rfl
              refine va_callv (va_runV (As := [.int (nI r)]) (rest := []) ⟨hx, hb, hml, hown, hts⟩ (c_X8_doubled l  dC dI H.size h0 th q2 q3 q5 q6 q15 c2 c3 c5 c6 c15 ur_28 (upd a3 r (nI (nz + 1))) a5 a6 a15 v1 (.ref q4) (.ref q7) v8 v9 v10 v11 v12 v13 v14 v16 r tb (nz + 1) hr9 u1_ (by first | omega | exact p2_1024 u3_ (by omega)) u3_ q6_ pk_us (by omega)) (cwV 1 hts gX8_hashed_X8_doubled rfl rfl rfl (by decide +kernel) ⟨(Nat.le_of_ble_eq_true rfl), (Nat.le_of_ble_eq_true rfl)⟩) ⟨pk_blind, va_recv hKc hPc (ci := 8) (q0 := 0) rfl rfl, pk_call hPc hKc hDc⟩ rfl rfl hl.1 rfl (lv_room (Nat.le_of_ble_eq_true rfl)) dX8_hashed_166 ⟨(Nat.le_of_ble_eq_true rfl), (Nat.le_of_ble_eq_true rfl)⟩) hS (fun q _ h => hFc q h) hFc (fun ur_42 t H1 locs ht hvm hw hB hz1 hk1 hS => ?_)
              try dsimp only at hw
              have jr_42 := hw
              obtain ⟨hP1, hK1, hD1⟩ := hB
              rw [ht] at hP1
              have hK1 := va_K.moved hvm.symm hK1
              obtain ⟨hP, hD⟩ := va_join (wr := [(q4, .inl (c4, 16, .inl a4)), (q7, .inl (c7, 16, .inl (upd a7 r (a7 r + 1))))]) (w1 := [(h0, .inr (8, [.int th, v1, .ref q2, .ref q3, .ref q4, .ref q5, .ref q6, .ref q7, v8, v9, v10, v11, v12, v13, v14, .ref q15, v16])), (q2, .inl (c2, 67200, .inl ur_42.1)), (q3, .inl (c3, 16, .inl (upd a3 r (nI (nz + 1))))), (q5, .inl (c5, 16, .inl a5)), (q6, .inl (c6, 16, .inl (upd a6 r (nI (2 * tb))))), (q15, .inl (c15, 4096, .inl ur_42.2))]) hP hD [4, 5, 6, 2, 3, 1] [0, 7] rfl rfl (by decide) (by decide) hk1 hFc hP1 hD1
              clear hk1 hz1 ht hPc hDc hKc hFc
              generalize H1 = H at hP hS ⊢
              replace hP : va_P (dC, dI) vwCl [(q4, .inl (c4, 16, .inl a4)), (q7, .inl (c7, 16, .inl (upd a7 r (a7 r + 1)))), (h0, .inr (8, [.int th, v1, .ref q2, .ref q3, .ref q4, .ref q5, .ref q6, .ref q7, v8, v9, v10, v11, v12, v13, v14, .ref q15, v16])), (q2, .inl (c2, 67200, .inl ur_42.1)), (q3, .inl (c3, 16, .inl (upd a3 r (nI (nz + 1))))), (q5, .inl (c5, 16, .inl a5)), (q6, .inl (c6, 16, .inl (upd a6 r (nI (2 * tb))))), (q15, .inl (c15, 4096, .inl ur_42.2))] H := hP
              replace hD : va_D A [(q4, .inl (c4, 16, .inl a4)), (q7, .inl (c7, 16, .inl (upd a7 r (a7 r + 1)))), (h0, .inr (8, [.int th, v1, .ref q2, .ref q3, .ref q4, .ref q5, .ref q6, .ref q7, v8, v9, v10, v11, v12, v13, v14, .ref q15, v16])), (q2, .inl (c2, 67200, .inl ur_42.1)), (q3, .inl (c3, 16, .inl (upd a3 r (nI (nz + 1))))), (q5, .inl (c5, 16, .inl a5)), (q6, .inl (c6, 16, .inl (upd a6 r (nI (2 * tb))))), (q15, .inl (c15, 4096, .inl ur_42.2))] := hD
              refine W.widen (k := 0) (n := 0) (Nat.le_of_ble_eq_true rfl) (Nat.le_of_ble_eq_true rfl) ?_
              refine W.eq (g2 := F0 m 169 ls []) rfl ?_
              have qo := outR_tr qo jr_42
              have q6_ : (upd a6 r (nI (2 * tb))) r = nI (2 * tb) := pk_us
              have qw : ∀ q : Nat, q ≠ r → (upd a6 r (nI (2 * tb))) q = a6 q := fun q hq => (pk_un hq).trans (qw q hq)
              have u3_ := p2_dbl u3_
              have u1_ : 1 ≤ 2 * tb := by omega
              have u2_ : 2 * tb ≤ 2048 := by first | omega | (have := p2_1024 (t := tb) (by assumption) (by omega); omega)
              refine lv_goto (tgt := 190) hx hb dX8_hashed_169 (by decide) ?_
              refine lv_aload_n hx hb dX8_hashed_190 rfl (lv_at hl 3 rfl) ?_
              refine va_get (D := (dC, dI)) (ci := 8) (v := .ref q3) (C := RX8) (T := TX8) (N := 17) hx hb hts hi0_ hown hK hP 2 rfl rfl 3 (by decide) hw1_ (fun _ h9 => h9) rfl dX8_hashed_191 ?_
              refine lv_iload_n hx hb dX8_hashed_194 rfl (lv_at hl 4 rfl) ?_
              refine va_iald (i := nI r) hx hb hK hP 4 1 rfl rfl (vp_in_nI (by omega) (by omega)) dX8_hashed_195 ?_
              refine W.eq (g2 := F0 m 196 ls [.int ((upd a3 r (nI (nz + 1))) r)]) (by rw [nI_clamp (by omega)]) ?_
              refine W.eq (g2 := F0 m 196 ls [.int (nI (nz + 1))]) (by rw [pk_us]) ?_
              refine lv_iconst (v := 4) hx hb dX8_hashed_196 (by decide) ?_
              refine lv_imul hx hb dX8_hashed_197 ?_
              refine lv_topi (fun z_43 ez_43 => ?_)
              obtain rfl : z_43 = nI ((nz + 1) * 4) := ez_43.trans (by rw [show (4 : Int32) = nI 4 from rfl, pk_mul])
              refine lv_aload_n hx hb dX8_hashed_198 rfl (lv_at hl 3 rfl) ?_
              refine va_get (D := (dC, dI)) (ci := 8) (v := .ref q6) (C := RX8) (T := TX8) (N := 17) hx hb hts hi0_ hown hK hP 2 rfl rfl 6 (by decide) hw0_ (fun _ h9 => h9) rfl dX8_hashed_199 ?_
              refine lv_iload_n hx hb dX8_hashed_202 rfl (lv_at hl 4 rfl) ?_
              refine va_iald (i := nI r) hx hb hK hP 6 4 rfl rfl (vp_in_nI (by omega) (by omega)) dX8_hashed_203 ?_
              refine W.eq (g2 := F0 m 204 ls [.int ((upd a6 r (nI (2 * tb))) r), .int (nI ((nz + 1) * 4))]) (by rw [nI_clamp (by omega)]) ?_
              refine W.eq (g2 := F0 m 204 ls [.int (nI (2 * tb)), .int (nI ((nz + 1) * 4))]) (by rw [q6_]) ?_
              refine lv_iconst (v := 3) hx hb dX8_hashed_204 (by decide) ?_
              refine lv_imul hx hb dX8_hashed_205 ?_
              refine lv_topi (fun z_44 ez_44 => ?_)
              obtain rfl : z_44 = nI ((2 * tb) * 3) := ez_44.trans (by rw [show (3 : Int32) = nI 3 from rfl, pk_mul])
              refine lv_icmp_le (tgt := 214) hx hb dX8_hashed_206 (by decide) (fun c_45 => ?_) (fun c_45 => ?_)
              ·
                have ic_45 : (((nz + 1) * 4 : Nat) : Int) ≤ (((2 * tb) * 3 : Nat) : Int) := tx_le (nI_toInt (by omega)) (nI_toInt (by omega)) c_45
                have hP9 := hP.sub (ws' := [(h0, .inr (8, [.int th, v1, .ref q2, .ref q3, .ref q4, .ref q5, .ref q6, .ref q7, v8, v9, v10, v11, v12, v13, v14, .ref q15, v16])), (q2, .inl (c2, 67200, .inl ur_42.1)), (q3, .inl (c3, 16, .inl (upd a3 r (nI (nz + 1))))), (q4, .inl (c4, 16, .inl a4)), (q5, .inl (c5, 16, .inl a5)), (q6, .inl (c6, 16, .inl (upd a6 r (nI (2 * tb))))), (q7, .inl (c7, 16, .inl (upd a7 r (a7 r + 1)))), (q15, .inl (c15, 4096, .inl ur_42.2))]) [2, 3, 4, 0, 5, 6, 1, 7] rfl
                have hD9 := hD.sub (ws' := [(h0, .inr (8, [.int th, v1, .ref q2, .ref q3, .ref q4, .ref q5, .ref q6, .ref q7, v8, v9, v10, v11, v12, v13, v14, .ref q15, v16])), (q2, .inl (c2, 67200, .inl ur_42.1)), (q3, .inl (c3, 16, .inl (upd a3 r (nI (nz + 1))))), (q4, .inl (c4, 16, .inl a4)), (q5, .inl (c5, 16, .inl a5)), (q6, .inl (c6, 16, .inl (upd a6 r (nI (2 * tb))))), (q7, .inl (c7, 16, .inl (upd a7 r (a7 r + 1)))), (q15, .inl (c15, 4096, .inl ur_42.2))]) [2, 3, 4, 0, 5, 6, 1, 7] (by decide) rfl
                have hK9 := hK.sub (tys' := [(c2, .int), (c3, .int), (c4, .int), (c5, .int), (c6, .int), (c7, .int), (c15, .boolean)]) [0, 1, 2, 3, 4, 5, 6] rfl
                refine W.widen (k := 0) (n := 0) (Nat.le_of_ble_eq_true rfl) (Nat.le_of_ble_eq_true rfl) ?_
                exact W.vret hx hb hr (fun t ht hW => ⟨⟨(ur_42.1, (upd a6 r (nI (2 * tb))), ur_42.2), rfl, ⟨qo, qw, (2 * tb), q6_, u1_, u2_, u3_, by omega⟩, by rw [ht]; exact hP9, va_K.moved hW.alike hK9, hD9⟩, hS.F ht⟩) hS.2.2 dX8_hashed_214
              ·
                have ic_45 : (((2 * tb) * 3 : Nat) : Int) < (((nz + 1) * 4 : Nat) : Int) := tx_nle (nI_toInt (by omega)) (nI_toInt (by omega)) c_45
                refine lv_aload_n hx hb dX8_hashed_209 rfl (lv_at hl 3 rfl) ?_
                refine lv_iload_n hx hb dX8_hashed_210 rfl (lv_at hl 4 rfl) ?_
                have hPc := hP.sub (ws' := [(h0, .inr (8, [.int th, v1, .ref q2, .ref q3, .ref q4, .ref q5, .ref q6, .ref q7, v8, v9, v10, v11, v12, v13, v14, .ref q15, v16])), (q2, .inl (c2, 67200, .inl ur_42.1)), (q3, .inl (c3, 16, .inl (upd a3 r (nI (nz + 1))))), (q5, .inl (c5, 16, .inl a5)), (q6, .inl (c6, 16, .inl (upd a6 r (nI (2 * tb))))), (q15, .inl (c15, 4096, .inl ur_42.2))]) [2, 3, 4, 5, 6, 7] rfl
                have hDc := hD.sub (ws' := [(h0, .inr (8, [.int th, v1, .ref q2, .ref q3, .ref q4, .ref q5, .ref q6, .ref q7, v8, v9, v10, v11, v12, v13, v14, .ref q15, v16])), (q2, .inl (c2, 67200, .inl ur_42.1)), (q3, .inl (c3, 16, .inl (upd a3 r (nI (nz + 1))))), (q5, .inl (c5, 16, .inl a5)), (q6, .inl (c6, 16, .inl (upd a6 r (nI (2 * tb))))), (q15, .inl (c15, 4096, .inl ur_42.2))]) [2, 3, 4, 5, 6, 7] (by decide) rfl
                have hKc := hK.sub (tys' := [(c2, .int), (c3, .int), (c5, .int), (c6, .int), (c15, .boolean)]) [0, 1, 3, 4, 6] rfl
                have hFc := va_free (wc := [(h0, .inr (8, [.int th, v1, .ref q2, .ref q3, .ref q4, .ref q5, .ref q6, .ref q7, v8, v9, v10, v11, v12, v13, v14, .ref q15, v16])), (q2, .inl (c2, 67200, .inl ur_42.1)), (q3, .inl (c3, 16, .inl (upd a3 r (nI (nz + 1))))), (q5, .inl (c5, 16, .inl a5)), (q6, .inl (c6, 16, .inl (upd a6 r (nI (2 * tb))))), (q15, .inl (c15, 4096, .inl ur_42.2))]) hD hS hA [2, 3, 4, 5, 6, 7] rfl
                refine va_callv (va_runV (As := [.int (nI r)]) (rest := []) ⟨hx, hb, hml, hown, hts⟩ (c_X8_doubled l  dC dI H.size h0 th q2 q3 q5 q6 q15 c2 c3 c5 c6 c15 ur_42.1 (upd a3 r (nI (nz + 1))) a5 (upd a6 r (nI (2 * tb))) ur_42.2 v1 (.ref q4) (.ref q7) v8 v9 v10 v11 v12 v13 v14 v16 r (2 * tb) (nz + 1) hr9 u1_ (by first | omega | exact p2_1024 u3_ (by omega)) u3_ q6_ pk_us (by omega)) (cwV 1 hts gX8_hashed_X8_doubled rfl rfl rfl (by decide +kernel) ⟨(Nat.le_of_ble_eq_true rfl), (Nat.le_of_ble_eq_true rfl)⟩) ⟨pk_blind, va_recv hKc hPc (ci := 8) (q0 := 0) rfl rfl, pk_call hPc hKc hDc⟩ rfl rfl hl.1 rfl (lv_room (Nat.le_of_ble_eq_true rfl)) dX8_hashed_211 ⟨(Nat.le_of_ble_eq_true rfl), (Nat.le_of_ble_eq_true rfl)⟩) hS (fun q _ h => hFc q h) hFc (fun ur_46 t H1 locs ht hvm hw hB hz1 hk1 hS => ?_)
                try dsimp only at hw
                have jr_46 := hw
                obtain ⟨hP1, hK1, hD1⟩ := hB
                rw [ht] at hP1
                have hK1 := va_K.moved hvm.symm hK1
                obtain ⟨hP, hD⟩ := va_join (wr := [(q4, .inl (c4, 16, .inl a4)), (q7, .inl (c7, 16, .inl (upd a7 r (a7 r + 1))))]) (w1 := [(h0, .inr (8, [.int th, v1, .ref q2, .ref q3, .ref q4, .ref q5, .ref q6, .ref q7, v8, v9, v10, v11, v12, v13, v14, .ref q15, v16])), (q2, .inl (c2, 67200, .inl ur_46.1)), (q3, .inl (c3, 16, .inl (upd a3 r (nI (nz + 1))))), (q5, .inl (c5, 16, .inl a5)), (q6, .inl (c6, 16, .inl (upd (upd a6 r (nI (2 * tb))) r (nI (2 * (2 * tb)))))), (q15, .inl (c15, 4096, .inl ur_46.2))]) hP hD [2, 3, 4, 5, 6, 7] [0, 1] rfl rfl (by decide) (by decide) hk1 hFc hP1 hD1
                clear hk1 hz1 ht hPc hDc hKc hFc
                generalize H1 = H at hP hS ⊢
                replace hP : va_P (dC, dI) vwCl [(q4, .inl (c4, 16, .inl a4)), (q7, .inl (c7, 16, .inl (upd a7 r (a7 r + 1)))), (h0, .inr (8, [.int th, v1, .ref q2, .ref q3, .ref q4, .ref q5, .ref q6, .ref q7, v8, v9, v10, v11, v12, v13, v14, .ref q15, v16])), (q2, .inl (c2, 67200, .inl ur_46.1)), (q3, .inl (c3, 16, .inl (upd a3 r (nI (nz + 1))))), (q5, .inl (c5, 16, .inl a5)), (q6, .inl (c6, 16, .inl (upd (upd a6 r (nI (2 * tb))) r (nI (2 * (2 * tb)))))), (q15, .inl (c15, 4096, .inl ur_46.2))] H := hP
                replace hD : va_D A [(q4, .inl (c4, 16, .inl a4)), (q7, .inl (c7, 16, .inl (upd a7 r (a7 r + 1)))), (h0, .inr (8, [.int th, v1, .ref q2, .ref q3, .ref q4, .ref q5, .ref q6, .ref q7, v8, v9, v10, v11, v12, v13, v14, .ref q15, v16])), (q2, .inl (c2, 67200, .inl ur_46.1)), (q3, .inl (c3, 16, .inl (upd a3 r (nI (nz + 1))))), (q5, .inl (c5, 16, .inl a5)), (q6, .inl (c6, 16, .inl (upd (upd a6 r (nI (2 * tb))) r (nI (2 * (2 * tb)))))), (q15, .inl (c15, 4096, .inl ur_46.2))] := hD
                refine W.widen (k := 0) (n := 0) (Nat.le_of_ble_eq_true rfl) (Nat.le_of_ble_eq_true rfl) ?_
                refine W.eq (g2 := F0 m 214 ls []) rfl ?_
                have qo := outR_tr qo jr_46
                have q6_ : (upd (upd a6 r (nI (2 * tb))) r (nI (2 * (2 * tb)))) r = nI (2 * (2 * tb)) := pk_us
                have qw : ∀ q : Nat, q ≠ r → (upd (upd a6 r (nI (2 * tb))) r (nI (2 * (2 * tb)))) q = a6 q := fun q hq => (pk_un hq).trans (qw q hq)
                have u3_ := p2_dbl u3_
                have u1_ : 1 ≤ 2 * (2 * tb) := by omega
                have u2_ : 2 * (2 * tb) ≤ 2048 := by first | omega | (have := p2_1024 (t := (2 * tb)) (by assumption) (by omega); omega)
                have hP9 := hP.sub (ws' := [(h0, .inr (8, [.int th, v1, .ref q2, .ref q3, .ref q4, .ref q5, .ref q6, .ref q7, v8, v9, v10, v11, v12, v13, v14, .ref q15, v16])), (q2, .inl (c2, 67200, .inl ur_46.1)), (q3, .inl (c3, 16, .inl (upd a3 r (nI (nz + 1))))), (q4, .inl (c4, 16, .inl a4)), (q5, .inl (c5, 16, .inl a5)), (q6, .inl (c6, 16, .inl (upd (upd a6 r (nI (2 * tb))) r (nI (2 * (2 * tb)))))), (q7, .inl (c7, 16, .inl (upd a7 r (a7 r + 1)))), (q15, .inl (c15, 4096, .inl ur_46.2))]) [2, 3, 4, 0, 5, 6, 1, 7] rfl
                have hD9 := hD.sub (ws' := [(h0, .inr (8, [.int th, v1, .ref q2, .ref q3, .ref q4, .ref q5, .ref q6, .ref q7, v8, v9, v10, v11, v12, v13, v14, .ref q15, v16])), (q2, .inl (c2, 67200, .inl ur_46.1)), (q3, .inl (c3, 16, .inl (upd a3 r (nI (nz + 1))))), (q4, .inl (c4, 16, .inl a4)), (q5, .inl (c5, 16, .inl a5)), (q6, .inl (c6, 16, .inl (upd (upd a6 r (nI (2 * tb))) r (nI (2 * (2 * tb)))))), (q7, .inl (c7, 16, .inl (upd a7 r (a7 r + 1)))), (q15, .inl (c15, 4096, .inl ur_46.2))]) [2, 3, 4, 0, 5, 6, 1, 7] (by decide) rfl
                have hK9 := hK.sub (tys' := [(c2, .int), (c3, .int), (c4, .int), (c5, .int), (c6, .int), (c7, .int), (c15, .boolean)]) [0, 1, 2, 3, 4, 5, 6] rfl
                refine W.widen (k := 0) (n := 0) (Nat.le_of_ble_eq_true rfl) (Nat.le_of_ble_eq_true rfl) ?_
                exact W.vret hx hb hr (fun t ht hW => ⟨⟨(ur_46.1, (upd (upd a6 r (nI (2 * tb))) r (nI (2 * (2 * tb)))), ur_46.2), rfl, ⟨qo, qw, (2 * (2 * tb)), q6_, u1_, u2_, u3_, by omega⟩, by rw [ht]; exact hP9, va_K.moved hW.alike hK9, hD9⟩, hS.F ht⟩) hS.2.2 dX8_hashed_214
        ·
          have ic_27 : ((b9 : Nat) : Int) < r_26.toInt := tx_nle rfl (nI_toInt (by omega)) c_27
          refine lv_iinc (v := nI (i3 - 1)) (lv' := [(6, .int (nI (i3 - 1))), (5, .int r_3), (4, .int (nI b9)), (0, .ref h0), (1, .int (nI r)), (2, .int p1), (3, .int p2)]) hx hb dX8_hashed_131 hl (k := 0) rfl (by rw [show Int32.ofInt (-1) = -1 from rfl]; exact sb_m1 (by omega)) (by decide) rfl (fun ls hl => ?_)
          refine lv_goto (tgt := 107) hx hb dX8_hashed_134 (by decide) ?_
          exact ihC (i3 := i3 - 1) (x3 := nI (i3 - 1)) (ex3 := rfl) (ls := ls) (H := H) (locs := locs) (hP := hP.sub (ws' := [(q4, .inl (c4, 16, .inl a4)), (q7, .inl (c7, 16, .inl a7)), (q15, .inl (c15, 4096, .inl a15)), (h0, .inr (8, [.int th, v1, .ref q2, .ref q3, .ref q4, .ref q5, .ref q6, .ref q7, v8, v9, v10, v11, v12, v13, v14, .ref q15, v16])), (q2, .inl (c2, 67200, .inl a2)), (q3, .inl (c3, 16, .inl a3)), (q5, .inl (c5, 16, .inl a5)), (q6, .inl (c6, 16, .inl a6))]) [0, 1, 2, 5, 4, 3, 6, 7] rfl) (hS := hS) (hi3 := by omega) (hn3 := by omega) (hl := lv_sub hl [0, 1, 2, 3, 4, 5, 6] rfl)
  ·
    have ic_1 : ((tb : Nat) : Int) = 0 := tx_eq (nI_toInt (by omega)) (by decide) c_1
    refine lv_aload_n hx hb dX8_hashed_9 rfl (lv_at hl 0 rfl) ?_
    refine va_get (D := (dC, dI)) (ci := 8) (v := .ref q6) (C := RX8) (T := TX8) (N := 17) hx hb hts hi0_ hown hK hP 0 rfl rfl 6 (by decide) hw0_ (fun _ h9 => h9) rfl dX8_hashed_10 ?_
    refine lv_iload_n hx hb dX8_hashed_13 rfl (lv_at hl 1 rfl) ?_
    refine lv_iconst (v := 1) hx hb dX8_hashed_14 (by decide) ?_
    refine va_iast (i := nI r) hx hb hK hP hD hS 5 4 rfl rfl (vp_in_nI (by omega) (by omega)) dX8_hashed_15 (fun H locs hP hD hS => ?_)
    rw [nI_clamp (by omega)] at hP hD
    replace hP : va_P (dC, dI) vwCl [(h0, .inr (8, [.int th, v1, .ref q2, .ref q3, .ref q4, .ref q5, .ref q6, .ref q7, v8, v9, v10, v11, v12, v13, v14, .ref q15, v16])), (q2, .inl (c2, 67200, .inl a2)), (q3, .inl (c3, 16, .inl a3)), (q4, .inl (c4, 16, .inl a4)), (q5, .inl (c5, 16, .inl a5)), (q6, .inl (c6, 16, .inl (upd a6 r 1))), (q7, .inl (c7, 16, .inl a7)), (q15, .inl (c15, 4096, .inl a15))] H := hP
    replace hD : va_D A [(h0, .inr (8, [.int th, v1, .ref q2, .ref q3, .ref q4, .ref q5, .ref q6, .ref q7, v8, v9, v10, v11, v12, v13, v14, .ref q15, v16])), (q2, .inl (c2, 67200, .inl a2)), (q3, .inl (c3, 16, .inl a3)), (q4, .inl (c4, 16, .inl a4)), (q5, .inl (c5, 16, .inl a5)), (q6, .inl (c6, 16, .inl (upd a6 r 1))), (q7, .inl (c7, 16, .inl a7)), (q15, .inl (c15, 4096, .inl a15))] := hD
    obtain ⟨t9, es_t9⟩ : ∃ z : Nat, z = 1 := ⟨_, rfl⟩
    obtain ⟨g6, ef_g6⟩ : ∃ z : Nat → Int32, z = (upd a6 r 1) := ⟨_, rfl⟩
    obtain ⟨n9A, en9⟩ : ∃ n : Nat, n = 1025 := ⟨_, rfl⟩
    replace hl : lv_has ls 7 [(0, .ref h0), (1, .int (nI r)), (2, .int p1), (3, .int p2)] := by subst es_t9; exact hl
    replace hP : va_P (dC, dI) vwCl [(h0, .inr (8, [.int th, v1, .ref q2, .ref q3, .ref q4, .ref q5, .ref q6, .ref q7, v8, v9, v10, v11, v12, v13, v14, .ref q15, v16])), (q2, .inl (c2, 67200, .inl a2)), (q3, .inl (c3, 16, .inl a3)), (q4, .inl (c4, 16, .inl a4)), (q5, .inl (c5, 16, .inl a5)), (q6, .inl (c6, 16, .inl g6)), (q7, .inl (c7, 16, .inl a7)), (q15, .inl (c15, 4096, .inl a15))] H := by subst ef_g6; exact hP
    replace hD : va_D A [(h0, .inr (8, [.int th, v1, .ref q2, .ref q3, .ref q4, .ref q5, .ref q6, .ref q7, v8, v9, v10, v11, v12, v13, v14, .ref q15, v16])), (q2, .inl (c2, 67200, .inl a2)), (q3, .inl (c3, 16, .inl a3)), (q4, .inl (c4, 16, .inl a4)), (q5, .inl (c5, 16, .inl a5)), (q6, .inl (c6, 16, .inl g6)), (q7, .inl (c7, 16, .inl a7)), (q15, .inl (c15, 4096, .inl a15))] := by subst ef_g6; exact hD
    have hv6 : g6 r = nI t9 := by subst es_t9; subst ef_g6; subst en9; exact pk_us
    have hw6 : ∀ q : Nat, q ≠ r → g6 q = a6 q := by subst es_t9; subst ef_g6; subst en9; exact fun q hq => pk_un hq
    have h16 : 1 ≤ t9 := by subst es_t9; subst ef_g6; subst en9; exact Nat.le_refl _
    have h26 : t9 ≤ 1024 := by subst es_t9; subst ef_g6; subst en9; exact by omega
    have h36 : ∃ j : Nat, t9 = 2 ^ j := by subst es_t9; subst ef_g6; subst en9; exact p2_one
    have hn6 : 1025 ≤ t9 + n9A := by subst es_t9; subst ef_g6; subst en9; exact by omega
    clear en9 es_t9 ef_g6
    induction n9A generalizing t9 ls H locs g6 with
    | zero => exact absurd hn6 (by omega)
    | succ n9A ihA =>
      refine lv_aload_n hx hb dX8_hashed_16 rfl (lv_at hl 0 rfl) ?_
      refine va_get (D := (dC, dI)) (ci := 8) (v := .ref q6) (C := RX8) (T := TX8) (N := 17) hx hb hts hi0_ hown hK hP 0 rfl rfl 6 (by decide) hw0_ (fun _ h9 => h9) rfl dX8_hashed_17 ?_
      refine lv_iload_n hx hb dX8_hashed_20 rfl (lv_at hl 1 rfl) ?_
      refine va_iald (i := nI r) hx hb hK hP 5 4 rfl rfl (vp_in_nI (by omega) (by omega)) dX8_hashed_21 ?_
      refine W.eq (g2 := F0 m 22 ls [.int (g6 r)]) (by rw [nI_clamp (by omega)]) ?_
      refine W.eq (g2 := F0 m 22 ls [.int (nI t9)]) (by rw [hv6]) ?_
      refine lv_aload_n hx hb dX8_hashed_22 rfl (lv_at hl 0 rfl) ?_
      refine va_get (D := (dC, dI)) (ci := 8) (v := .ref q4) (C := RX8) (T := TX8) (N := 17) hx hb hts hi0_ hown hK hP 0 rfl rfl 4 (by decide) hw3_ (fun _ h9 => h9) rfl dX8_hashed_23 ?_
      refine lv_iload_n hx hb dX8_hashed_26 rfl (lv_at hl 1 rfl) ?_
      refine va_iald (i := nI r) hx hb hK hP 3 2 rfl rfl (vp_in_nI (by omega) (by omega)) dX8_hashed_27 ?_
      refine W.eq (g2 := F0 m 28 ls [.int (a4 r), .int (nI t9)]) (by rw [nI_clamp (by omega)]) ?_
      refine W.eq (g2 := F0 m 28 ls [.int (nI fi), .int (nI t9)]) (by rw [hf9]) ?_
      refine lv_icmp_ge (tgt := 44) hx hb dX8_hashed_28 (by decide) (fun c_47 => ?_) (fun c_47 => ?_)
      ·
        have ic_47 : ((fi : Nat) : Int) ≤ ((t9 : Nat) : Int) := tx_le (nI_toInt (by omega)) (nI_toInt (by omega)) c_47
        refine lv_iconst (v := 0) hx hb dX8_hashed_44 (by decide) ?_
        refine lv_istore (lv' := [(4, .int 0), (0, .ref h0), (1, .int (nI r)), (2, .int p1), (3, .int p2)]) hx hb dX8_hashed_45 hl (by decide) rfl (fun ls hl => ?_)
        obtain ⟨i2, es_i2⟩ : ∃ z : Nat, z = 0 := ⟨_, rfl⟩
        obtain ⟨x2, ex2⟩ : ∃ y : Int32, y = nI i2 := ⟨_, rfl⟩
        obtain ⟨f1, ef_f1⟩ : ∃ z : Nat → Int32, z = a2 := ⟨_, rfl⟩
        obtain ⟨n9B, en9⟩ : ∃ n : Nat, n = t9 + 1 := ⟨_, rfl⟩
        replace hl : lv_has ls 7 [(4, .int x2), (0, .ref h0), (1, .int (nI r)), (2, .int p1), (3, .int p2)] := by subst ex2; subst es_i2; exact hl
        replace hP : va_P (dC, dI) vwCl [(h0, .inr (8, [.int th, v1, .ref q2, .ref q3, .ref q4, .ref q5, .ref q6, .ref q7, v8, v9, v10, v11, v12, v13, v14, .ref q15, v16])), (q2, .inl (c2, 67200, .inl f1)), (q3, .inl (c3, 16, .inl a3)), (q4, .inl (c4, 16, .inl a4)), (q5, .inl (c5, 16, .inl a5)), (q6, .inl (c6, 16, .inl g6)), (q7, .inl (c7, 16, .inl a7)), (q15, .inl (c15, 4096, .inl a15))] H := by subst ef_f1; exact hP
        replace hD : va_D A [(h0, .inr (8, [.int th, v1, .ref q2, .ref q3, .ref q4, .ref q5, .ref q6, .ref q7, v8, v9, v10, v11, v12, v13, v14, .ref q15, v16])), (q2, .inl (c2, 67200, .inl f1)), (q3, .inl (c3, 16, .inl a3)), (q4, .inl (c4, 16, .inl a4)), (q5, .inl (c5, 16, .inl a5)), (q6, .inl (c6, 16, .inl g6)), (q7, .inl (c7, 16, .inl a7)), (q15, .inl (c15, 4096, .inl a15))] := by subst ef_f1; exact hD
        have hi2 : i2 ≤ t9 := by subst ex2; subst es_i2; subst ef_f1; subst en9; exact Nat.zero_le _
        have hn2 : t9 + 1 ≤ i2 + n9B := by subst ex2; subst es_i2; subst ef_f1; subst en9; exact by omega
        have hv2 : outR a2 f1 r := by subst ex2; subst es_i2; subst ef_f1; subst en9; exact outR_rf
        clear en9 es_i2 ef_f1
        induction n9B generalizing i2 x2 ls H locs f1 with
        | zero => exact absurd hn2 (by omega)
        | succ n9B ihB =>
          subst ex2
          refine lv_iload hx hb dX8_hashed_47 (lv_at hl 0 rfl) ?_
          refine lv_aload_n hx hb dX8_hashed_49 rfl (lv_at hl 1 rfl) ?_
          refine va_get (D := (dC, dI)) (ci := 8) (v := .ref q6) (C := RX8) (T := TX8) (N := 17) hx hb hts hi0_ hown hK hP 0 rfl rfl 6 (by decide) hw0_ (fun _ h9 => h9) rfl dX8_hashed_50 ?_
          refine lv_iload_n hx hb dX8_hashed_53 rfl (lv_at hl 2 rfl) ?_
          refine va_iald (i := nI r) hx hb hK hP 5 4 rfl rfl (vp_in_nI (by omega) (by omega)) dX8_hashed_54 ?_
          refine W.eq (g2 := F0 m 55 ls [.int (g6 r), .int (nI i2)]) (by rw [nI_clamp (by omega)]) ?_
          refine W.eq (g2 := F0 m 55 ls [.int (nI t9), .int (nI i2)]) (by rw [hv6]) ?_
          refine lv_icmp_ge (tgt := 82) hx hb dX8_hashed_55 (by decide) (fun c_48 => ?_) (fun c_48 => ?_)
          ·
            have ic_48 : ((t9 : Nat) : Int) ≤ ((i2 : Nat) : Int) := tx_le (nI_toInt (by omega)) (nI_toInt (by omega)) c_48
            have u1_ : 1 ≤ t9 := h16
            have u2_ : t9 ≤ 2048 := by omega
            have u3_ := h36
            have u4_ : nz * 4 ≤ t9 * 3 := by rcases hT9 with h | h; omega; exact absurd h.1 (by omega)
            have q6_ := hv6
            have qw := hw6
            have qo := hv2
            refine lv_aload_n hx hb dX8_hashed_82 rfl (lv_at hl 1 rfl) ?_
            refine lv_iload_n hx hb dX8_hashed_83 rfl (lv_at hl 2 rfl) ?_
            refine lv_iload_n hx hb dX8_hashed_84 rfl (lv_at hl 3 rfl) ?_
            have hPc := hP.sub (ws' := [(h0, .inr (8, [.int th, v1, .ref q2, .ref q3, .ref q4, .ref q5, .ref q6, .ref q7, v8, v9, v10, v11, v12, v13, v14, .ref q15, v16])), (q5, .inl (c5, 16, .inl a5)), (q6, .inl (c6, 16, .inl g6))]) [0, 4, 5] rfl
            have hDc := hD.sub (ws' := [(h0, .inr (8, [.int th, v1, .ref q2, .ref q3, .ref q4, .ref q5, .ref q6, .ref q7, v8, v9, v10, v11, v12, v13, v14, .ref q15, v16])), (q5, .inl (c5, 16, .inl a5)), (q6, .inl (c6, 16, .inl g6))]) [0, 4, 5] (by decide) rfl
            have hKc := hK.sub (tys' := [(c5, .int), (c6, .int)]) [3, 4] rfl
            have hFc := va_free (wc := [(h0, .inr (8, [.int th, v1, .ref q2, .ref q3, .ref q4, .ref q5, .ref q6, .ref q7, v8, v9, v10, v11, v12, v13, v14, .ref q15, v16])), (q5, .inl (c5, 16, .inl a5)), (q6, .inl (c6, 16, .inl g6))]) hD hS hA [0, 4, 5] rfl
            refine va_calli (va_runV (As := [.int (nI r), .int p1]) (rest := []) ⟨hx, hb, hml, hown, hts⟩ (c_X8_bin l  dC dI H.size h0 th q5 q6 c5 c6 a5 g6 v1 (.ref q2) (.ref q3) (.ref q4) (.ref q7) v8 v9 v10 v11 v12 v13 v14 (.ref q15) v16 r p1 t9 hr9 u1_ u2_ u3_ q6_) (cwV 2 hts gX8_hashed_X8_bin rfl rfl rfl (by decide +kernel) ⟨(Nat.le_of_ble_eq_true rfl), (Nat.le_of_ble_eq_true rfl)⟩) ⟨pk_blind, va_recv hKc hPc (ci := 8) (q0 := 0) rfl rfl, pk_call hPc hKc hDc⟩ rfl rfl hl.1 rfl (lv_room (Nat.le_of_ble_eq_true rfl)) dX8_hashed_85 ⟨(Nat.le_of_ble_eq_true rfl), (Nat.le_of_ble_eq_true rfl)⟩) hS (fun q _ h => hFc q h) hFc (fun r_49 ur_49 t H1 locs ht hvm hw hB hz1 hk1 hS => ?_)
            try dsimp only at hw
            have jr_49 := hw
            obtain ⟨hP1, hK1, hD1⟩ := hB
            rw [ht] at hP1
            have hK1 := va_K.moved hvm.symm hK1
            obtain ⟨hP, hD⟩ := va_join (wr := [(q2, .inl (c2, 67200, .inl f1)), (q3, .inl (c3, 16, .inl a3)), (q4, .inl (c4, 16, .inl a4)), (q7, .inl (c7, 16, .inl a7)), (q15, .inl (c15, 4096, .inl a15))]) (w1 := [(h0, .inr (8, [.int th, v1, .ref q2, .ref q3, .ref q4, .ref q5, .ref q6, .ref q7, v8, v9, v10, v11, v12, v13, v14, .ref q15, v16])), (q5, .inl (c5, 16, .inl a5)), (q6, .inl (c6, 16, .inl g6))]) hP hD [0, 4, 5] [1, 2, 3, 6, 7] rfl rfl (by decide) (by decide) hk1 hFc hP1 hD1
            clear hk1 hz1 ht hPc hDc hKc hFc
            generalize H1 = H at hP hS ⊢
            replace hP : va_P (dC, dI) vwCl [(q2, .inl (c2, 67200, .inl f1)), (q3, .inl (c3, 16, .inl a3)), (q4, .inl (c4, 16, .inl a4)), (q7, .inl (c7, 16, .inl a7)), (q15, .inl (c15, 4096, .inl a15)), (h0, .inr (8, [.int th, v1, .ref q2, .ref q3, .ref q4, .ref q5, .ref q6, .ref q7, v8, v9, v10, v11, v12, v13, v14, .ref q15, v16])), (q5, .inl (c5, 16, .inl a5)), (q6, .inl (c6, 16, .inl g6))] H := hP
            replace hD : va_D A [(q2, .inl (c2, 67200, .inl f1)), (q3, .inl (c3, 16, .inl a3)), (q4, .inl (c4, 16, .inl a4)), (q7, .inl (c7, 16, .inl a7)), (q15, .inl (c15, 4096, .inl a15)), (h0, .inr (8, [.int th, v1, .ref q2, .ref q3, .ref q4, .ref q5, .ref q6, .ref q7, v8, v9, v10, v11, v12, v13, v14, .ref q15, v16])), (q5, .inl (c5, 16, .inl a5)), (q6, .inl (c6, 16, .inl g6))] := hD
            refine W.widen (k := 0) (n := 0) (Nat.le_of_ble_eq_true rfl) (Nat.le_of_ble_eq_true rfl) ?_
            obtain ⟨b9, hb9, rfl⟩ := jr_49
            refine W.eq (g2 := F0 m 88 ls [.int (nI b9)]) rfl ?_
            refine lv_istore (lv' := [(4, .int (nI b9)), (0, .ref h0), (1, .int (nI r)), (2, .int p1), (3, .int p2)]) hx hb dX8_hashed_88 hl (by decide) rfl (fun ls hl => ?_)
            refine lv_aload_n hx hb dX8_hashed_90 rfl (lv_at hl 1 rfl) ?_
            refine lv_iload_n hx hb dX8_hashed_91 rfl (lv_at hl 2 rfl) ?_
            refine lv_iload hx hb dX8_hashed_92 (lv_at hl 0 rfl) ?_
            have hPc := hP.sub (ws' := [(h0, .inr (8, [.int th, v1, .ref q2, .ref q3, .ref q4, .ref q5, .ref q6, .ref q7, v8, v9, v10, v11, v12, v13, v14, .ref q15, v16])), (q2, .inl (c2, 67200, .inl f1)), (q3, .inl (c3, 16, .inl a3)), (q5, .inl (c5, 16, .inl a5)), (q6, .inl (c6, 16, .inl g6))]) [5, 0, 1, 6, 7] rfl
            have hDc := hD.sub (ws' := [(h0, .inr (8, [.int th, v1, .ref q2, .ref q3, .ref q4, .ref q5, .ref q6, .ref q7, v8, v9, v10, v11, v12, v13, v14, .ref q15, v16])), (q2, .inl (c2, 67200, .inl f1)), (q3, .inl (c3, 16, .inl a3)), (q5, .inl (c5, 16, .inl a5)), (q6, .inl (c6, 16, .inl g6))]) [5, 0, 1, 6, 7] (by decide) rfl
            have hKc := hK.sub (tys' := [(c2, .int), (c3, .int), (c5, .int), (c6, .int)]) [0, 1, 3, 4] rfl
            have hFc := va_free (wc := [(h0, .inr (8, [.int th, v1, .ref q2, .ref q3, .ref q4, .ref q5, .ref q6, .ref q7, v8, v9, v10, v11, v12, v13, v14, .ref q15, v16])), (q2, .inl (c2, 67200, .inl f1)), (q3, .inl (c3, 16, .inl a3)), (q5, .inl (c5, 16, .inl a5)), (q6, .inl (c6, 16, .inl g6))]) hD hS hA [5, 0, 1, 6, 7] rfl
            refine va_calli (va_runV (As := [.int (nI r), .int (nI b9)]) (rest := []) ⟨hx, hb, hml, hown, hts⟩ (c_X8_inBin l  dC dI H.size h0 th q2 q3 q5 q6 c2 c3 c5 c6 f1 a3 a5 g6 v1 (.ref q4) (.ref q7) v8 v9 v10 v11 v12 v13 v14 (.ref q15) v16 r (nI b9) t9 nz hr9 u1_ u2_ u3_ q6_ hs9 (by omega)) (cwV 2 hts gX8_hashed_X8_inBin rfl rfl rfl (by decide +kernel) ⟨(Nat.le_of_ble_eq_true rfl), (Nat.le_of_ble_eq_true rfl)⟩) ⟨pk_blind, va_recv hKc hPc (ci := 8) (q0 := 0) rfl rfl, pk_call hPc hKc hDc⟩ rfl rfl hl.1 rfl (lv_room (Nat.le_of_ble_eq_true rfl)) dX8_hashed_94 ⟨(Nat.le_of_ble_eq_true rfl), (Nat.le_of_ble_eq_true rfl)⟩) hS (fun q _ h => hFc q h) hFc (fun r_50 ur_50 t H1 locs ht hvm hw hB hz1 hk1 hS => ?_)
            try dsimp only at hw
            have jr_50 := hw
            obtain ⟨hP1, hK1, hD1⟩ := hB
            rw [ht] at hP1
            have hK1 := va_K.moved hvm.symm hK1
            obtain ⟨hP, hD⟩ := va_join (wr := [(q4, .inl (c4, 16, .inl a4)), (q7, .inl (c7, 16, .inl a7)), (q15, .inl (c15, 4096, .inl a15))]) (w1 := [(h0, .inr (8, [.int th, v1, .ref q2, .ref q3, .ref q4, .ref q5, .ref q6, .ref q7, v8, v9, v10, v11, v12, v13, v14, .ref q15, v16])), (q2, .inl (c2, 67200, .inl f1)), (q3, .inl (c3, 16, .inl a3)), (q5, .inl (c5, 16, .inl a5)), (q6, .inl (c6, 16, .inl g6))]) hP hD [5, 0, 1, 6, 7] [2, 3, 4] rfl rfl (by decide) (by decide) hk1 hFc hP1 hD1
            clear hk1 hz1 ht hPc hDc hKc hFc
            generalize H1 = H at hP hS ⊢
            replace hP : va_P (dC, dI) vwCl [(q4, .inl (c4, 16, .inl a4)), (q7, .inl (c7, 16, .inl a7)), (q15, .inl (c15, 4096, .inl a15)), (h0, .inr (8, [.int th, v1, .ref q2, .ref q3, .ref q4, .ref q5, .ref q6, .ref q7, v8, v9, v10, v11, v12, v13, v14, .ref q15, v16])), (q2, .inl (c2, 67200, .inl f1)), (q3, .inl (c3, 16, .inl a3)), (q5, .inl (c5, 16, .inl a5)), (q6, .inl (c6, 16, .inl g6))] H := hP
            replace hD : va_D A [(q4, .inl (c4, 16, .inl a4)), (q7, .inl (c7, 16, .inl a7)), (q15, .inl (c15, 4096, .inl a15)), (h0, .inr (8, [.int th, v1, .ref q2, .ref q3, .ref q4, .ref q5, .ref q6, .ref q7, v8, v9, v10, v11, v12, v13, v14, .ref q15, v16])), (q2, .inl (c2, 67200, .inl f1)), (q3, .inl (c3, 16, .inl a3)), (q5, .inl (c5, 16, .inl a5)), (q6, .inl (c6, 16, .inl g6))] := hD
            refine W.widen (k := 0) (n := 0) (Nat.le_of_ble_eq_true rfl) (Nat.le_of_ble_eq_true rfl) ?_
            refine W.eq (g2 := F0 m 97 ls [.int r_50]) rfl ?_
            refine lv_istore (lv' := [(5, .int r_50), (4, .int (nI b9)), (0, .ref h0), (1, .int (nI r)), (2, .int p1), (3, .int p2)]) hx hb dX8_hashed_97 hl (by decide) rfl (fun ls hl => ?_)
            refine lv_aload_n hx hb dX8_hashed_99 rfl (lv_at hl 2 rfl) ?_
            refine va_get (D := (dC, dI)) (ci := 8) (v := .ref q3) (C := RX8) (T := TX8) (N := 17) hx hb hts hi0_ hown hK hP 3 rfl rfl 3 (by decide) hw1_ (fun _ h9 => h9) rfl dX8_hashed_100 ?_
            refine lv_iload_n hx hb dX8_hashed_103 rfl (lv_at hl 3 rfl) ?_
            refine va_iald (i := nI r) hx hb hK hP 5 1 rfl rfl (vp_in_nI (by omega) (by omega)) dX8_hashed_104 ?_
            refine W.eq (g2 := F0 m 105 ls [.int (a3 r)]) (by rw [nI_clamp (by omega)]) ?_
            refine W.eq (g2 := F0 m 105 ls [.int (nI nz)]) (by rw [hs9]) ?_
            refine lv_istore (lv' := [(6, .int (nI nz)), (5, .int r_50), (4, .int (nI b9)), (0, .ref h0), (1, .int (nI r)), (2, .int p1), (3, .int p2)]) hx hb dX8_hashed_105 hl (by decide) rfl (fun ls hl => ?_)
            obtain ⟨i3, es_i3⟩ : ∃ z : Nat, z = nz := ⟨_, rfl⟩
            obtain ⟨x3, ex3⟩ : ∃ y : Int32, y = nI i3 := ⟨_, rfl⟩
            obtain ⟨n9C, en9⟩ : ∃ n : Nat, n = nz + 1 := ⟨_, rfl⟩
            replace hl : lv_has ls 7 [(6, .int x3), (5, .int r_50), (4, .int (nI b9)), (0, .ref h0), (1, .int (nI r)), (2, .int p1), (3, .int p2)] := by subst ex3; subst es_i3; exact hl
            have hi3 : i3 ≤ nz := by subst ex3; subst es_i3; subst en9; exact Nat.le_refl _
            have hn3 : i3 + 1 ≤ n9C := by subst ex3; subst es_i3; subst en9; exact Nat.le_refl _
            clear en9 es_i3
            induction n9C generalizing i3 x3 ls H locs with
            | zero => exact absurd hn3 (by omega)
            | succ n9C ihC =>
              subst ex3
              refine lv_iload hx hb dX8_hashed_107 (lv_at hl 0 rfl) ?_
              refine lv_if_le (tgt := 137) hx hb dX8_hashed_109 (by decide) (fun c_51 => ?_) (fun c_51 => ?_)
              ·
                have ic_51 : ((i3 : Nat) : Int) ≤ 0 := tx_le (nI_toInt (by omega)) (by decide) c_51
                refine lv_aload_n hx hb dX8_hashed_137 rfl (lv_at hl 3 rfl) ?_
                refine lv_iload_n hx hb dX8_hashed_138 rfl (lv_at hl 4 rfl) ?_
                refine lv_iload hx hb dX8_hashed_139 (lv_at hl 0 rfl) ?_
                refine lv_iload_n hx hb dX8_hashed_141 rfl (lv_at hl 5 rfl) ?_
                refine lv_iload_n hx hb dX8_hashed_142 rfl (lv_at hl 6 rfl) ?_
                have hPc := hP.sub (ws' := [(h0, .inr (8, [.int th, v1, .ref q2, .ref q3, .ref q4, .ref q5, .ref q6, .ref q7, v8, v9, v10, v11, v12, v13, v14, .ref q15, v16])), (q2, .inl (c2, 67200, .inl f1)), (q3, .inl (c3, 16, .inl a3)), (q7, .inl (c7, 16, .inl a7))]) [3, 4, 5, 1] rfl
                have hDc := hD.sub (ws' := [(h0, .inr (8, [.int th, v1, .ref q2, .ref q3, .ref q4, .ref q5, .ref q6, .ref q7, v8, v9, v10, v11, v12, v13, v14, .ref q15, v16])), (q2, .inl (c2, 67200, .inl f1)), (q3, .inl (c3, 16, .inl a3)), (q7, .inl (c7, 16, .inl a7))]) [3, 4, 5, 1] (by decide) rfl
                have hKc := hK.sub (tys' := [(c2, .int), (c3, .int), (c7, .int)]) [0, 1, 5] rfl
                have hFc := va_free (wc := [(h0, .inr (8, [.int th, v1, .ref q2, .ref q3, .ref q4, .ref q5, .ref q6, .ref q7, v8, v9, v10, v11, v12, v13, v14, .ref q15, v16])), (q2, .inl (c2, 67200, .inl f1)), (q3, .inl (c3, 16, .inl a3)), (q7, .inl (c7, 16, .inl a7))]) hD hS hA [3, 4, 5, 1] rfl
                refine va_callv (va_runV (As := [.int (nI r), .int (nI i3), .int p1, .int p2]) (rest := []) ⟨hx, hb, hml, hown, hts⟩ (c_X8_comes l  dC dI H.size h0 th q2 q3 q7 c2 c3 c7 f1 a3 a7 v1 (.ref q4) (.ref q5) (.ref q6) v8 v9 v10 v11 v12 v13 v14 (.ref q15) v16 r i3 p1 p2 nz hr9 hi3 hs9 hz9) (cwV 4 hts gX8_hashed_X8_comes rfl rfl rfl (by decide +kernel) ⟨(Nat.le_of_ble_eq_true rfl), (Nat.le_of_ble_eq_true rfl)⟩) ⟨pk_blind, va_recv hKc hPc (ci := 8) (q0 := 0) rfl rfl, pk_call hPc hKc hDc⟩ rfl rfl hl.1 rfl (lv_room (Nat.le_of_ble_eq_true rfl)) dX8_hashed_143 ⟨(Nat.le_of_ble_eq_true rfl), (Nat.le_of_ble_eq_true rfl)⟩) hS (fun q _ h => hFc q h) hFc (fun ur_52 t H1 locs ht hvm hw hB hz1 hk1 hS => ?_)
                try dsimp only at hw
                have jr_52 := hw
                obtain ⟨hP1, hK1, hD1⟩ := hB
                rw [ht] at hP1
                have hK1 := va_K.moved hvm.symm hK1
                obtain ⟨hP, hD⟩ := va_join (wr := [(q4, .inl (c4, 16, .inl a4)), (q15, .inl (c15, 4096, .inl a15)), (q5, .inl (c5, 16, .inl a5)), (q6, .inl (c6, 16, .inl g6))]) (w1 := [(h0, .inr (8, [.int th, v1, .ref q2, .ref q3, .ref q4, .ref q5, .ref q6, .ref q7, v8, v9, v10, v11, v12, v13, v14, .ref q15, v16])), (q2, .inl (c2, 67200, .inl ur_52)), (q3, .inl (c3, 16, .inl (upd a3 r (nI (nz + 1))))), (q7, .inl (c7, 16, .inl (upd a7 r (a7 r + 1))))]) hP hD [3, 4, 5, 1] [0, 2, 6, 7] rfl rfl (by decide) (by decide) hk1 hFc hP1 hD1
                clear hk1 hz1 ht hPc hDc hKc hFc
                generalize H1 = H at hP hS ⊢
                replace hP : va_P (dC, dI) vwCl [(q4, .inl (c4, 16, .inl a4)), (q15, .inl (c15, 4096, .inl a15)), (q5, .inl (c5, 16, .inl a5)), (q6, .inl (c6, 16, .inl g6)), (h0, .inr (8, [.int th, v1, .ref q2, .ref q3, .ref q4, .ref q5, .ref q6, .ref q7, v8, v9, v10, v11, v12, v13, v14, .ref q15, v16])), (q2, .inl (c2, 67200, .inl ur_52)), (q3, .inl (c3, 16, .inl (upd a3 r (nI (nz + 1))))), (q7, .inl (c7, 16, .inl (upd a7 r (a7 r + 1))))] H := hP
                replace hD : va_D A [(q4, .inl (c4, 16, .inl a4)), (q15, .inl (c15, 4096, .inl a15)), (q5, .inl (c5, 16, .inl a5)), (q6, .inl (c6, 16, .inl g6)), (h0, .inr (8, [.int th, v1, .ref q2, .ref q3, .ref q4, .ref q5, .ref q6, .ref q7, v8, v9, v10, v11, v12, v13, v14, .ref q15, v16])), (q2, .inl (c2, 67200, .inl ur_52)), (q3, .inl (c3, 16, .inl (upd a3 r (nI (nz + 1))))), (q7, .inl (c7, 16, .inl (upd a7 r (a7 r + 1))))] := hD
                refine W.widen (k := 0) (n := 0) (Nat.le_of_ble_eq_true rfl) (Nat.le_of_ble_eq_true rfl) ?_
                refine W.eq (g2 := F0 m 146 ls []) rfl ?_
                have qo := outR_tr qo jr_52
                refine lv_iload hx hb dX8_hashed_146 (lv_at hl 1 rfl) ?_
                refine lv_bipush (v := 8) hx hb dX8_hashed_148 (by decide) ?_
                refine lv_icmp_lt (tgt := 190) hx hb dX8_hashed_150 (by decide) (fun c_53 => ?_) (fun c_53 => ?_)
                ·
                  have ic_53 : r_50.toInt < 8 := tx_lt rfl (by decide) c_53
                  refine lv_aload_n hx hb dX8_hashed_190 rfl (lv_at hl 3 rfl) ?_
                  refine va_get (D := (dC, dI)) (ci := 8) (v := .ref q3) (C := RX8) (T := TX8) (N := 17) hx hb hts hi0_ hown hK hP 4 rfl rfl 3 (by decide) hw1_ (fun _ h9 => h9) rfl dX8_hashed_191 ?_
                  refine lv_iload_n hx hb dX8_hashed_194 rfl (lv_at hl 4 rfl) ?_
                  refine va_iald (i := nI r) hx hb hK hP 6 1 rfl rfl (vp_in_nI (by omega) (by omega)) dX8_hashed_195 ?_
                  refine W.eq (g2 := F0 m 196 ls [.int ((upd a3 r (nI (nz + 1))) r)]) (by rw [nI_clamp (by omega)]) ?_
                  refine W.eq (g2 := F0 m 196 ls [.int (nI (nz + 1))]) (by rw [pk_us]) ?_
                  refine lv_iconst (v := 4) hx hb dX8_hashed_196 (by decide) ?_
                  refine lv_imul hx hb dX8_hashed_197 ?_
                  refine lv_topi (fun z_54 ez_54 => ?_)
                  obtain rfl : z_54 = nI ((nz + 1) * 4) := ez_54.trans (by rw [show (4 : Int32) = nI 4 from rfl, pk_mul])
                  refine lv_aload_n hx hb dX8_hashed_198 rfl (lv_at hl 3 rfl) ?_
                  refine va_get (D := (dC, dI)) (ci := 8) (v := .ref q6) (C := RX8) (T := TX8) (N := 17) hx hb hts hi0_ hown hK hP 4 rfl rfl 6 (by decide) hw0_ (fun _ h9 => h9) rfl dX8_hashed_199 ?_
                  refine lv_iload_n hx hb dX8_hashed_202 rfl (lv_at hl 4 rfl) ?_
                  refine va_iald (i := nI r) hx hb hK hP 3 4 rfl rfl (vp_in_nI (by omega) (by omega)) dX8_hashed_203 ?_
                  refine W.eq (g2 := F0 m 204 ls [.int (g6 r), .int (nI ((nz + 1) * 4))]) (by rw [nI_clamp (by omega)]) ?_
                  refine W.eq (g2 := F0 m 204 ls [.int (nI t9), .int (nI ((nz + 1) * 4))]) (by rw [q6_]) ?_
                  refine lv_iconst (v := 3) hx hb dX8_hashed_204 (by decide) ?_
                  refine lv_imul hx hb dX8_hashed_205 ?_
                  refine lv_topi (fun z_55 ez_55 => ?_)
                  obtain rfl : z_55 = nI (t9 * 3) := ez_55.trans (by rw [show (3 : Int32) = nI 3 from rfl, pk_mul])
                  refine lv_icmp_le (tgt := 214) hx hb dX8_hashed_206 (by decide) (fun c_56 => ?_) (fun c_56 => ?_)
                  ·
                    have ic_56 : (((nz + 1) * 4 : Nat) : Int) ≤ ((t9 * 3 : Nat) : Int) := tx_le (nI_toInt (by omega)) (nI_toInt (by omega)) c_56
                    have hP9 := hP.sub (ws' := [(h0, .inr (8, [.int th, v1, .ref q2, .ref q3, .ref q4, .ref q5, .ref q6, .ref q7, v8, v9, v10, v11, v12, v13, v14, .ref q15, v16])), (q2, .inl (c2, 67200, .inl ur_52)), (q3, .inl (c3, 16, .inl (upd a3 r (nI (nz + 1))))), (q4, .inl (c4, 16, .inl a4)), (q5, .inl (c5, 16, .inl a5)), (q6, .inl (c6, 16, .inl g6)), (q7, .inl (c7, 16, .inl (upd a7 r (a7 r + 1)))), (q15, .inl (c15, 4096, .inl a15))]) [4, 5, 6, 0, 2, 3, 7, 1] rfl
                    have hD9 := hD.sub (ws' := [(h0, .inr (8, [.int th, v1, .ref q2, .ref q3, .ref q4, .ref q5, .ref q6, .ref q7, v8, v9, v10, v11, v12, v13, v14, .ref q15, v16])), (q2, .inl (c2, 67200, .inl ur_52)), (q3, .inl (c3, 16, .inl (upd a3 r (nI (nz + 1))))), (q4, .inl (c4, 16, .inl a4)), (q5, .inl (c5, 16, .inl a5)), (q6, .inl (c6, 16, .inl g6)), (q7, .inl (c7, 16, .inl (upd a7 r (a7 r + 1)))), (q15, .inl (c15, 4096, .inl a15))]) [4, 5, 6, 0, 2, 3, 7, 1] (by decide) rfl
                    have hK9 := hK.sub (tys' := [(c2, .int), (c3, .int), (c4, .int), (c5, .int), (c6, .int), (c7, .int), (c15, .boolean)]) [0, 1, 2, 3, 4, 5, 6] rfl
                    refine W.widen (k := 0) (n := 0) (Nat.le_of_ble_eq_true rfl) (Nat.le_of_ble_eq_true rfl) ?_
                    exact W.vret hx hb hr (fun t ht hW => ⟨⟨(ur_52, g6, a15), rfl, ⟨qo, qw, t9, q6_, u1_, u2_, u3_, by omega⟩, by rw [ht]; exact hP9, va_K.moved hW.alike hK9, hD9⟩, hS.F ht⟩) hS.2.2 dX8_hashed_214
                  ·
                    have ic_56 : ((t9 * 3 : Nat) : Int) < (((nz + 1) * 4 : Nat) : Int) := tx_nle (nI_toInt (by omega)) (nI_toInt (by omega)) c_56
                    refine lv_aload_n hx hb dX8_hashed_209 rfl (lv_at hl 3 rfl) ?_
                    refine lv_iload_n hx hb dX8_hashed_210 rfl (lv_at hl 4 rfl) ?_
                    have hPc := hP.sub (ws' := [(h0, .inr (8, [.int th, v1, .ref q2, .ref q3, .ref q4, .ref q5, .ref q6, .ref q7, v8, v9, v10, v11, v12, v13, v14, .ref q15, v16])), (q2, .inl (c2, 67200, .inl ur_52)), (q3, .inl (c3, 16, .inl (upd a3 r (nI (nz + 1))))), (q5, .inl (c5, 16, .inl a5)), (q6, .inl (c6, 16, .inl g6)), (q15, .inl (c15, 4096, .inl a15))]) [4, 5, 6, 2, 3, 1] rfl
                    have hDc := hD.sub (ws' := [(h0, .inr (8, [.int th, v1, .ref q2, .ref q3, .ref q4, .ref q5, .ref q6, .ref q7, v8, v9, v10, v11, v12, v13, v14, .ref q15, v16])), (q2, .inl (c2, 67200, .inl ur_52)), (q3, .inl (c3, 16, .inl (upd a3 r (nI (nz + 1))))), (q5, .inl (c5, 16, .inl a5)), (q6, .inl (c6, 16, .inl g6)), (q15, .inl (c15, 4096, .inl a15))]) [4, 5, 6, 2, 3, 1] (by decide) rfl
                    have hKc := hK.sub (tys' := [(c2, .int), (c3, .int), (c5, .int), (c6, .int), (c15, .boolean)]) [0, 1, 3, 4, 6] rfl
                    have hFc := va_free (wc := [(h0, .inr (8, [.int th, v1, .ref q2, .ref q3, .ref q4, .ref q5, .ref q6, .ref q7, v8, v9, v10, v11, v12, v13, v14, .ref q15, v16])), (q2, .inl (c2, 67200, .inl ur_52)), (q3, .inl (c3, 16, .inl (upd a3 r (nI (nz + 1))))), (q5, .inl (c5, 16, .inl a5)), (q6, .inl (c6, 16, .inl g6)), (q15, .inl (c15, 4096, .inl a15))]) hD hS hA [4, 5, 6, 2, 3, 1] rfl
                    refine va_callv (va_runV (As := [.int (nI r)]) (rest := []) ⟨hx, hb, hml, hown, hts⟩ (c_X8_doubled l  dC dI H.size h0 th q2 q3 q5 q6 q15 c2 c3 c5 c6 c15 ur_52 (upd a3 r (nI (nz + 1))) a5 g6 a15 v1 (.ref q4) (.ref q7) v8 v9 v10 v11 v12 v13 v14 v16 r t9 (nz + 1) hr9 u1_ (by first | omega | exact p2_1024 u3_ (by omega)) u3_ q6_ pk_us (by omega)) (cwV 1 hts gX8_hashed_X8_doubled rfl rfl rfl (by decide +kernel) ⟨(Nat.le_of_ble_eq_true rfl), (Nat.le_of_ble_eq_true rfl)⟩) ⟨pk_blind, va_recv hKc hPc (ci := 8) (q0 := 0) rfl rfl, pk_call hPc hKc hDc⟩ rfl rfl hl.1 rfl (lv_room (Nat.le_of_ble_eq_true rfl)) dX8_hashed_211 ⟨(Nat.le_of_ble_eq_true rfl), (Nat.le_of_ble_eq_true rfl)⟩) hS (fun q _ h => hFc q h) hFc (fun ur_57 t H1 locs ht hvm hw hB hz1 hk1 hS => ?_)
                    try dsimp only at hw
                    have jr_57 := hw
                    obtain ⟨hP1, hK1, hD1⟩ := hB
                    rw [ht] at hP1
                    have hK1 := va_K.moved hvm.symm hK1
                    obtain ⟨hP, hD⟩ := va_join (wr := [(q4, .inl (c4, 16, .inl a4)), (q7, .inl (c7, 16, .inl (upd a7 r (a7 r + 1))))]) (w1 := [(h0, .inr (8, [.int th, v1, .ref q2, .ref q3, .ref q4, .ref q5, .ref q6, .ref q7, v8, v9, v10, v11, v12, v13, v14, .ref q15, v16])), (q2, .inl (c2, 67200, .inl ur_57.1)), (q3, .inl (c3, 16, .inl (upd a3 r (nI (nz + 1))))), (q5, .inl (c5, 16, .inl a5)), (q6, .inl (c6, 16, .inl (upd g6 r (nI (2 * t9))))), (q15, .inl (c15, 4096, .inl ur_57.2))]) hP hD [4, 5, 6, 2, 3, 1] [0, 7] rfl rfl (by decide) (by decide) hk1 hFc hP1 hD1
                    clear hk1 hz1 ht hPc hDc hKc hFc
                    generalize H1 = H at hP hS ⊢
                    replace hP : va_P (dC, dI) vwCl [(q4, .inl (c4, 16, .inl a4)), (q7, .inl (c7, 16, .inl (upd a7 r (a7 r + 1)))), (h0, .inr (8, [.int th, v1, .ref q2, .ref q3, .ref q4, .ref q5, .ref q6, .ref q7, v8, v9, v10, v11, v12, v13, v14, .ref q15, v16])), (q2, .inl (c2, 67200, .inl ur_57.1)), (q3, .inl (c3, 16, .inl (upd a3 r (nI (nz + 1))))), (q5, .inl (c5, 16, .inl a5)), (q6, .inl (c6, 16, .inl (upd g6 r (nI (2 * t9))))), (q15, .inl (c15, 4096, .inl ur_57.2))] H := hP
                    replace hD : va_D A [(q4, .inl (c4, 16, .inl a4)), (q7, .inl (c7, 16, .inl (upd a7 r (a7 r + 1)))), (h0, .inr (8, [.int th, v1, .ref q2, .ref q3, .ref q4, .ref q5, .ref q6, .ref q7, v8, v9, v10, v11, v12, v13, v14, .ref q15, v16])), (q2, .inl (c2, 67200, .inl ur_57.1)), (q3, .inl (c3, 16, .inl (upd a3 r (nI (nz + 1))))), (q5, .inl (c5, 16, .inl a5)), (q6, .inl (c6, 16, .inl (upd g6 r (nI (2 * t9))))), (q15, .inl (c15, 4096, .inl ur_57.2))] := hD
                    refine W.widen (k := 0) (n := 0) (Nat.le_of_ble_eq_true rfl) (Nat.le_of_ble_eq_true rfl) ?_
                    refine W.eq (g2 := F0 m 214 ls []) rfl ?_
                    have qo := outR_tr qo jr_57
                    have q6_ : (upd g6 r (nI (2 * t9))) r = nI (2 * t9) := pk_us
                    have qw : ∀ q : Nat, q ≠ r → (upd g6 r (nI (2 * t9))) q = a6 q := fun q hq => (pk_un hq).trans (qw q hq)
                    have u3_ := p2_dbl u3_
                    have u1_ : 1 ≤ 2 * t9 := by omega
                    have u2_ : 2 * t9 ≤ 2048 := by first | omega | (have := p2_1024 (t := t9) (by assumption) (by omega); omega)
                    have hP9 := hP.sub (ws' := [(h0, .inr (8, [.int th, v1, .ref q2, .ref q3, .ref q4, .ref q5, .ref q6, .ref q7, v8, v9, v10, v11, v12, v13, v14, .ref q15, v16])), (q2, .inl (c2, 67200, .inl ur_57.1)), (q3, .inl (c3, 16, .inl (upd a3 r (nI (nz + 1))))), (q4, .inl (c4, 16, .inl a4)), (q5, .inl (c5, 16, .inl a5)), (q6, .inl (c6, 16, .inl (upd g6 r (nI (2 * t9))))), (q7, .inl (c7, 16, .inl (upd a7 r (a7 r + 1)))), (q15, .inl (c15, 4096, .inl ur_57.2))]) [2, 3, 4, 0, 5, 6, 1, 7] rfl
                    have hD9 := hD.sub (ws' := [(h0, .inr (8, [.int th, v1, .ref q2, .ref q3, .ref q4, .ref q5, .ref q6, .ref q7, v8, v9, v10, v11, v12, v13, v14, .ref q15, v16])), (q2, .inl (c2, 67200, .inl ur_57.1)), (q3, .inl (c3, 16, .inl (upd a3 r (nI (nz + 1))))), (q4, .inl (c4, 16, .inl a4)), (q5, .inl (c5, 16, .inl a5)), (q6, .inl (c6, 16, .inl (upd g6 r (nI (2 * t9))))), (q7, .inl (c7, 16, .inl (upd a7 r (a7 r + 1)))), (q15, .inl (c15, 4096, .inl ur_57.2))]) [2, 3, 4, 0, 5, 6, 1, 7] (by decide) rfl
                    have hK9 := hK.sub (tys' := [(c2, .int), (c3, .int), (c4, .int), (c5, .int), (c6, .int), (c7, .int), (c15, .boolean)]) [0, 1, 2, 3, 4, 5, 6] rfl
                    refine W.widen (k := 0) (n := 0) (Nat.le_of_ble_eq_true rfl) (Nat.le_of_ble_eq_true rfl) ?_
                    exact W.vret hx hb hr (fun t ht hW => ⟨⟨(ur_57.1, (upd g6 r (nI (2 * t9))), ur_57.2), rfl, ⟨qo, qw, (2 * t9), q6_, u1_, u2_, u3_, by omega⟩, by rw [ht]; exact hP9, va_K.moved hW.alike hK9, hD9⟩, hS.F ht⟩) hS.2.2 dX8_hashed_214
                ·
                  have ic_53 : 8 ≤ r_50.toInt := tx_nlt rfl (by decide) c_53
                  refine lv_aload_n hx hb dX8_hashed_153 rfl (lv_at hl 3 rfl) ?_
                  refine va_get (D := (dC, dI)) (ci := 8) (v := .ref q6) (C := RX8) (T := TX8) (N := 17) hx hb hts hi0_ hown hK hP 4 rfl rfl 6 (by decide) hw0_ (fun _ h9 => h9) rfl dX8_hashed_154 ?_
                  refine lv_iload_n hx hb dX8_hashed_157 rfl (lv_at hl 4 rfl) ?_
                  refine va_iald (i := nI r) hx hb hK hP 3 4 rfl rfl (vp_in_nI (by omega) (by omega)) dX8_hashed_158 ?_
                  refine W.eq (g2 := F0 m 159 ls [.int (g6 r)]) (by rw [nI_clamp (by omega)]) ?_
                  refine W.eq (g2 := F0 m 159 ls [.int (nI t9)]) (by rw [q6_]) ?_
                  refine lv_bipush (v := 64) hx hb dX8_hashed_159 (by decide) ?_
                  refine lv_icmp_ge (tgt := 172) hx hb dX8_hashed_161 (by decide) (fun c_58 => ?_) (fun c_58 => ?_)
                  ·
                    have ic_58 : 64 ≤ ((t9 : Nat) : Int) := tx_le (by decide) (nI_toInt (by omega)) c_58
                    refine lv_aload_n hx hb dX8_hashed_172 rfl (lv_at hl 3 rfl) ?_
                    refine va_get (D := (dC, dI)) (ci := 8) (v := .ref q2) (C := RX8) (T := TX8) (N := 17) hx hb hts hi0_ hown hK hP 4 rfl rfl 2 (by decide) hw2_ (fun _ h9 => h9) rfl dX8_hashed_173 ?_
                    refine lv_sipush (v := 4200) hx hb dX8_hashed_176 (by decide) ?_
                    refine lv_iload_n hx hb dX8_hashed_179 rfl (lv_at hl 4 rfl) ?_
                    refine lv_imul hx hb dX8_hashed_180 ?_
                    refine lv_topi (fun z_59 ez_59 => ?_)
                    obtain rfl : z_59 = nI (4200 * r) := ez_59.trans (by rw [show (4200 : Int32) = nI 4200 from rfl, pk_mul])
                    refine lv_sipush (v := 2000) hx hb dX8_hashed_181 (by decide) ?_
                    refine lv_iadd hx hb dX8_hashed_184 ?_
                    refine lv_topi (fun z_60 ez_60 => ?_)
                    obtain rfl : z_60 = nI ((4200 * r) + 2000) := ez_60.trans (by rw [show (2000 : Int32) = nI 2000 from rfl, nI_add])
                    refine lv_iload hx hb dX8_hashed_185 (lv_at hl 2 rfl) ?_
                    refine lv_iadd hx hb dX8_hashed_187 ?_
                    refine lv_topi (fun z_61 ez_61 => ?_)
                    obtain rfl : z_61 = nI (((4200 * r) + 2000) + b9) := ez_61.trans (by rw [nI_add])
                    refine lv_iconst (v := 1) hx hb dX8_hashed_188 (by decide) ?_
                    refine va_iast (i := nI (((4200 * r) + 2000) + b9)) hx hb hK hP hD hS 5 0 rfl rfl (vp_in_nI (by omega) (by omega)) dX8_hashed_189 (fun H locs hP hD hS => ?_)
                    rw [nI_clamp (by omega)] at hP hD
                    replace hP : va_P (dC, dI) vwCl [(q4, .inl (c4, 16, .inl a4)), (q15, .inl (c15, 4096, .inl a15)), (q5, .inl (c5, 16, .inl a5)), (q6, .inl (c6, 16, .inl g6)), (h0, .inr (8, [.int th, v1, .ref q2, .ref q3, .ref q4, .ref q5, .ref q6, .ref q7, v8, v9, v10, v11, v12, v13, v14, .ref q15, v16])), (q2, .inl (c2, 67200, .inl (upd ur_52 (((4200 * r) + 2000) + b9) 1))), (q3, .inl (c3, 16, .inl (upd a3 r (nI (nz + 1))))), (q7, .inl (c7, 16, .inl (upd a7 r (a7 r + 1))))] H := hP
                    replace hD : va_D A [(q4, .inl (c4, 16, .inl a4)), (q15, .inl (c15, 4096, .inl a15)), (q5, .inl (c5, 16, .inl a5)), (q6, .inl (c6, 16, .inl g6)), (h0, .inr (8, [.int th, v1, .ref q2, .ref q3, .ref q4, .ref q5, .ref q6, .ref q7, v8, v9, v10, v11, v12, v13, v14, .ref q15, v16])), (q2, .inl (c2, 67200, .inl (upd ur_52 (((4200 * r) + 2000) + b9) 1))), (q3, .inl (c3, 16, .inl (upd a3 r (nI (nz + 1))))), (q7, .inl (c7, 16, .inl (upd a7 r (a7 r + 1))))] := hD
                    refine lv_aload_n hx hb dX8_hashed_190 rfl (lv_at hl 3 rfl) ?_
                    refine va_get (D := (dC, dI)) (ci := 8) (v := .ref q3) (C := RX8) (T := TX8) (N := 17) hx hb hts hi0_ hown hK hP 4 rfl rfl 3 (by decide) hw1_ (fun _ h9 => h9) rfl dX8_hashed_191 ?_
                    refine lv_iload_n hx hb dX8_hashed_194 rfl (lv_at hl 4 rfl) ?_
                    refine va_iald (i := nI r) hx hb hK hP 6 1 rfl rfl (vp_in_nI (by omega) (by omega)) dX8_hashed_195 ?_
                    refine W.eq (g2 := F0 m 196 ls [.int ((upd a3 r (nI (nz + 1))) r)]) (by rw [nI_clamp (by omega)]) ?_
                    refine W.eq (g2 := F0 m 196 ls [.int (nI (nz + 1))]) (by rw [pk_us]) ?_
                    refine lv_iconst (v := 4) hx hb dX8_hashed_196 (by decide) ?_
                    refine lv_imul hx hb dX8_hashed_197 ?_
                    refine lv_topi (fun z_62 ez_62 => ?_)
                    obtain rfl : z_62 = nI ((nz + 1) * 4) := ez_62.trans (by rw [show (4 : Int32) = nI 4 from rfl, pk_mul])
                    refine lv_aload_n hx hb dX8_hashed_198 rfl (lv_at hl 3 rfl) ?_
                    refine va_get (D := (dC, dI)) (ci := 8) (v := .ref q6) (C := RX8) (T := TX8) (N := 17) hx hb hts hi0_ hown hK hP 4 rfl rfl 6 (by decide) hw0_ (fun _ h9 => h9) rfl dX8_hashed_199 ?_
                    refine lv_iload_n hx hb dX8_hashed_202 rfl (lv_at hl 4 rfl) ?_
                    refine va_iald (i := nI r) hx hb hK hP 3 4 rfl rfl (vp_in_nI (by omega) (by omega)) dX8_hashed_203 ?_
                    refine W.eq (g2 := F0 m 204 ls [.int (g6 r), .int (nI ((nz + 1) * 4))]) (by rw [nI_clamp (by omega)]) ?_
                    refine W.eq (g2 := F0 m 204 ls [.int (nI t9), .int (nI ((nz + 1) * 4))]) (by rw [q6_]) ?_
                    refine lv_iconst (v := 3) hx hb dX8_hashed_204 (by decide) ?_
                    refine lv_imul hx hb dX8_hashed_205 ?_
                    refine lv_topi (fun z_63 ez_63 => ?_)
                    obtain rfl : z_63 = nI (t9 * 3) := ez_63.trans (by rw [show (3 : Int32) = nI 3 from rfl, pk_mul])
                    refine lv_icmp_le (tgt := 214) hx hb dX8_hashed_206 (by decide) (fun c_64 => ?_) (fun c_64 => ?_)
                    ·
                      have ic_64 : (((nz + 1) * 4 : Nat) : Int) ≤ ((t9 * 3 : Nat) : Int) := tx_le (nI_toInt (by omega)) (nI_toInt (by omega)) c_64
                      have hP9 := hP.sub (ws' := [(h0, .inr (8, [.int th, v1, .ref q2, .ref q3, .ref q4, .ref q5, .ref q6, .ref q7, v8, v9, v10, v11, v12, v13, v14, .ref q15, v16])), (q2, .inl (c2, 67200, .inl (upd ur_52 (((4200 * r) + 2000) + b9) 1))), (q3, .inl (c3, 16, .inl (upd a3 r (nI (nz + 1))))), (q4, .inl (c4, 16, .inl a4)), (q5, .inl (c5, 16, .inl a5)), (q6, .inl (c6, 16, .inl g6)), (q7, .inl (c7, 16, .inl (upd a7 r (a7 r + 1)))), (q15, .inl (c15, 4096, .inl a15))]) [4, 5, 6, 0, 2, 3, 7, 1] rfl
                      have hD9 := hD.sub (ws' := [(h0, .inr (8, [.int th, v1, .ref q2, .ref q3, .ref q4, .ref q5, .ref q6, .ref q7, v8, v9, v10, v11, v12, v13, v14, .ref q15, v16])), (q2, .inl (c2, 67200, .inl (upd ur_52 (((4200 * r) + 2000) + b9) 1))), (q3, .inl (c3, 16, .inl (upd a3 r (nI (nz + 1))))), (q4, .inl (c4, 16, .inl a4)), (q5, .inl (c5, 16, .inl a5)), (q6, .inl (c6, 16, .inl g6)), (q7, .inl (c7, 16, .inl (upd a7 r (a7 r + 1)))), (q15, .inl (c15, 4096, .inl a15))]) [4, 5, 6, 0, 2, 3, 7, 1] (by decide) rfl
                      have hK9 := hK.sub (tys' := [(c2, .int), (c3, .int), (c4, .int), (c5, .int), (c6, .int), (c7, .int), (c15, .boolean)]) [0, 1, 2, 3, 4, 5, 6] rfl
                      refine W.widen (k := 0) (n := 0) (Nat.le_of_ble_eq_true rfl) (Nat.le_of_ble_eq_true rfl) ?_
                      exact W.vret hx hb hr (fun t ht hW => ⟨⟨((upd ur_52 (((4200 * r) + 2000) + b9) 1), g6, a15), rfl, ⟨outR_up' qo (k := 2000 + b9) (by omega) (by omega), qw, t9, q6_, u1_, u2_, u3_, by omega⟩, by rw [ht]; exact hP9, va_K.moved hW.alike hK9, hD9⟩, hS.F ht⟩) hS.2.2 dX8_hashed_214
                    ·
                      have ic_64 : ((t9 * 3 : Nat) : Int) < (((nz + 1) * 4 : Nat) : Int) := tx_nle (nI_toInt (by omega)) (nI_toInt (by omega)) c_64
                      refine lv_aload_n hx hb dX8_hashed_209 rfl (lv_at hl 3 rfl) ?_
                      refine lv_iload_n hx hb dX8_hashed_210 rfl (lv_at hl 4 rfl) ?_
                      have hPc := hP.sub (ws' := [(h0, .inr (8, [.int th, v1, .ref q2, .ref q3, .ref q4, .ref q5, .ref q6, .ref q7, v8, v9, v10, v11, v12, v13, v14, .ref q15, v16])), (q2, .inl (c2, 67200, .inl (upd ur_52 (((4200 * r) + 2000) + b9) 1))), (q3, .inl (c3, 16, .inl (upd a3 r (nI (nz + 1))))), (q5, .inl (c5, 16, .inl a5)), (q6, .inl (c6, 16, .inl g6)), (q15, .inl (c15, 4096, .inl a15))]) [4, 5, 6, 2, 3, 1] rfl
                      have hDc := hD.sub (ws' := [(h0, .inr (8, [.int th, v1, .ref q2, .ref q3, .ref q4, .ref q5, .ref q6, .ref q7, v8, v9, v10, v11, v12, v13, v14, .ref q15, v16])), (q2, .inl (c2, 67200, .inl (upd ur_52 (((4200 * r) + 2000) + b9) 1))), (q3, .inl (c3, 16, .inl (upd a3 r (nI (nz + 1))))), (q5, .inl (c5, 16, .inl a5)), (q6, .inl (c6, 16, .inl g6)), (q15, .inl (c15, 4096, .inl a15))]) [4, 5, 6, 2, 3, 1] (by decide) rfl
                      have hKc := hK.sub (tys' := [(c2, .int), (c3, .int), (c5, .int), (c6, .int), (c15, .boolean)]) [0, 1, 3, 4, 6] rfl
                      have hFc := va_free (wc := [(h0, .inr (8, [.int th, v1, .ref q2, .ref q3, .ref q4, .ref q5, .ref q6, .ref q7, v8, v9, v10, v11, v12, v13, v14, .ref q15, v16])), (q2, .inl (c2, 67200, .inl (upd ur_52 (((4200 * r) + 2000) + b9) 1))), (q3, .inl (c3, 16, .inl (upd a3 r (nI (nz + 1))))), (q5, .inl (c5, 16, .inl a5)), (q6, .inl (c6, 16, .inl g6)), (q15, .inl (c15, 4096, .inl a15))]) hD hS hA [4, 5, 6, 2, 3, 1] rfl
                      refine va_callv (va_runV (As := [.int (nI r)]) (rest := []) ⟨hx, hb, hml, hown, hts⟩ (c_X8_doubled l  dC dI H.size h0 th q2 q3 q5 q6 q15 c2 c3 c5 c6 c15 (upd ur_52 (((4200 * r) + 2000) + b9) 1) (upd a3 r (nI (nz + 1))) a5 g6 a15 v1 (.ref q4) (.ref q7) v8 v9 v10 v11 v12 v13 v14 v16 r t9 (nz + 1) hr9 u1_ (by first | omega | exact p2_1024 u3_ (by omega)) u3_ q6_ pk_us (by omega)) (cwV 1 hts gX8_hashed_X8_doubled rfl rfl rfl (by decide +kernel) ⟨(Nat.le_of_ble_eq_true rfl), (Nat.le_of_ble_eq_true rfl)⟩) ⟨pk_blind, va_recv hKc hPc (ci := 8) (q0 := 0) rfl rfl, pk_call hPc hKc hDc⟩ rfl rfl hl.1 rfl (lv_room (Nat.le_of_ble_eq_true rfl)) dX8_hashed_211 ⟨(Nat.le_of_ble_eq_true rfl), (Nat.le_of_ble_eq_true rfl)⟩) hS (fun q _ h => hFc q h) hFc (fun ur_65 t H1 locs ht hvm hw hB hz1 hk1 hS => ?_)
                      try dsimp only at hw
                      have jr_65 := hw
                      obtain ⟨hP1, hK1, hD1⟩ := hB
                      rw [ht] at hP1
                      have hK1 := va_K.moved hvm.symm hK1
                      obtain ⟨hP, hD⟩ := va_join (wr := [(q4, .inl (c4, 16, .inl a4)), (q7, .inl (c7, 16, .inl (upd a7 r (a7 r + 1))))]) (w1 := [(h0, .inr (8, [.int th, v1, .ref q2, .ref q3, .ref q4, .ref q5, .ref q6, .ref q7, v8, v9, v10, v11, v12, v13, v14, .ref q15, v16])), (q2, .inl (c2, 67200, .inl ur_65.1)), (q3, .inl (c3, 16, .inl (upd a3 r (nI (nz + 1))))), (q5, .inl (c5, 16, .inl a5)), (q6, .inl (c6, 16, .inl (upd g6 r (nI (2 * t9))))), (q15, .inl (c15, 4096, .inl ur_65.2))]) hP hD [4, 5, 6, 2, 3, 1] [0, 7] rfl rfl (by decide) (by decide) hk1 hFc hP1 hD1
                      clear hk1 hz1 ht hPc hDc hKc hFc
                      generalize H1 = H at hP hS ⊢
                      replace hP : va_P (dC, dI) vwCl [(q4, .inl (c4, 16, .inl a4)), (q7, .inl (c7, 16, .inl (upd a7 r (a7 r + 1)))), (h0, .inr (8, [.int th, v1, .ref q2, .ref q3, .ref q4, .ref q5, .ref q6, .ref q7, v8, v9, v10, v11, v12, v13, v14, .ref q15, v16])), (q2, .inl (c2, 67200, .inl ur_65.1)), (q3, .inl (c3, 16, .inl (upd a3 r (nI (nz + 1))))), (q5, .inl (c5, 16, .inl a5)), (q6, .inl (c6, 16, .inl (upd g6 r (nI (2 * t9))))), (q15, .inl (c15, 4096, .inl ur_65.2))] H := hP
                      replace hD : va_D A [(q4, .inl (c4, 16, .inl a4)), (q7, .inl (c7, 16, .inl (upd a7 r (a7 r + 1)))), (h0, .inr (8, [.int th, v1, .ref q2, .ref q3, .ref q4, .ref q5, .ref q6, .ref q7, v8, v9, v10, v11, v12, v13, v14, .ref q15, v16])), (q2, .inl (c2, 67200, .inl ur_65.1)), (q3, .inl (c3, 16, .inl (upd a3 r (nI (nz + 1))))), (q5, .inl (c5, 16, .inl a5)), (q6, .inl (c6, 16, .inl (upd g6 r (nI (2 * t9))))), (q15, .inl (c15, 4096, .inl ur_65.2))] := hD
                      refine W.widen (k := 0) (n := 0) (Nat.le_of_ble_eq_true rfl) (Nat.le_of_ble_eq_true rfl) ?_
                      refine W.eq (g2 := F0 m 214 ls []) rfl ?_
                      have qo := outR_tr (outR_up' qo (k := 2000 + b9) (by omega) (by omega)) jr_65
                      have q6_ : (upd g6 r (nI (2 * t9))) r = nI (2 * t9) := pk_us
                      have qw : ∀ q : Nat, q ≠ r → (upd g6 r (nI (2 * t9))) q = a6 q := fun q hq => (pk_un hq).trans (qw q hq)
                      have u3_ := p2_dbl u3_
                      have u1_ : 1 ≤ 2 * t9 := by omega
                      have u2_ : 2 * t9 ≤ 2048 := by first | omega | (have := p2_1024 (t := t9) (by assumption) (by omega); omega)
                      have hP9 := hP.sub (ws' := [(h0, .inr (8, [.int th, v1, .ref q2, .ref q3, .ref q4, .ref q5, .ref q6, .ref q7, v8, v9, v10, v11, v12, v13, v14, .ref q15, v16])), (q2, .inl (c2, 67200, .inl ur_65.1)), (q3, .inl (c3, 16, .inl (upd a3 r (nI (nz + 1))))), (q4, .inl (c4, 16, .inl a4)), (q5, .inl (c5, 16, .inl a5)), (q6, .inl (c6, 16, .inl (upd g6 r (nI (2 * t9))))), (q7, .inl (c7, 16, .inl (upd a7 r (a7 r + 1)))), (q15, .inl (c15, 4096, .inl ur_65.2))]) [2, 3, 4, 0, 5, 6, 1, 7] rfl
                      have hD9 := hD.sub (ws' := [(h0, .inr (8, [.int th, v1, .ref q2, .ref q3, .ref q4, .ref q5, .ref q6, .ref q7, v8, v9, v10, v11, v12, v13, v14, .ref q15, v16])), (q2, .inl (c2, 67200, .inl ur_65.1)), (q3, .inl (c3, 16, .inl (upd a3 r (nI (nz + 1))))), (q4, .inl (c4, 16, .inl a4)), (q5, .inl (c5, 16, .inl a5)), (q6, .inl (c6, 16, .inl (upd g6 r (nI (2 * t9))))), (q7, .inl (c7, 16, .inl (upd a7 r (a7 r + 1)))), (q15, .inl (c15, 4096, .inl ur_65.2))]) [2, 3, 4, 0, 5, 6, 1, 7] (by decide) rfl
                      have hK9 := hK.sub (tys' := [(c2, .int), (c3, .int), (c4, .int), (c5, .int), (c6, .int), (c7, .int), (c15, .boolean)]) [0, 1, 2, 3, 4, 5, 6] rfl
                      refine W.widen (k := 0) (n := 0) (Nat.le_of_ble_eq_true rfl) (Nat.le_of_ble_eq_true rfl) ?_
                      exact W.vret hx hb hr (fun t ht hW => ⟨⟨(ur_65.1, (upd g6 r (nI (2 * t9))), ur_65.2), rfl, ⟨qo, qw, (2 * t9), q6_, u1_, u2_, u3_, by omega⟩, by rw [ht]; exact hP9, va_K.moved hW.alike hK9, hD9⟩, hS.F ht⟩) hS.2.2 dX8_hashed_214
                  ·
                    have ic_58 : ((t9 : Nat) : Int) < 64 := tx_nle (by decide) (nI_toInt (by omega)) c_58
                    refine lv_aload_n hx hb dX8_hashed_164 rfl (lv_at hl 3 rfl) ?_
                    refine lv_iload_n hx hb dX8_hashed_165 rfl (lv_at hl 4 rfl) ?_
                    have hPc := hP.sub (ws' := [(h0, .inr (8, [.int th, v1, .ref q2, .ref q3, .ref q4, .ref q5, .ref q6, .ref q7, v8, v9, v10, v11, v12, v13, v14, .ref q15, v16])), (q2, .inl (c2, 67200, .inl ur_52)), (q3, .inl (c3, 16, .inl (upd a3 r (nI (nz + 1))))), (q5, .inl (c5, 16, .inl a5)), (q6, .inl (c6, 16, .inl g6)), (q15, .inl (c15, 4096, .inl a15))]) [4, 5, 6, 2, 3, 1] rfl
                    have hDc := hD.sub (ws' := [(h0, .inr (8, [.int th, v1, .ref q2, .ref q3, .ref q4, .ref q5, .ref q6, .ref q7, v8, v9, v10, v11, v12, v13, v14, .ref q15, v16])), (q2, .inl (c2, 67200, .inl ur_52)), (q3, .inl (c3, 16, .inl (upd a3 r (nI (nz + 1))))), (q5, .inl (c5, 16, .inl a5)), (q6, .inl (c6, 16, .inl g6)), (q15, .inl (c15, 4096, .inl a15))]) [4, 5, 6, 2, 3, 1] (by decide) rfl
                    have hKc := hK.sub (tys' := [(c2, .int), (c3, .int), (c5, .int), (c6, .int), (c15, .boolean)]) [0, 1, 3, 4, 6] rfl
                    have hFc := va_free (wc := [(h0, .inr (8, [.int th, v1, .ref q2, .ref q3, .ref q4, .ref q5, .ref q6, .ref q7, v8, v9, v10, v11, v12, v13, v14, .ref q15, v16])), (q2, .inl (c2, 67200, .inl ur_52)), (q3, .inl (c3, 16, .inl (upd a3 r (nI (nz + 1))))), (q5, .inl (c5, 16, .inl a5)), (q6, .inl (c6, 16, .inl g6)), (q15, .inl (c15, 4096, .inl a15))]) hD hS hA [4, 5, 6, 2, 3, 1] rfl
                    refine va_callv (va_runV (As := [.int (nI r)]) (rest := []) ⟨hx, hb, hml, hown, hts⟩ (c_X8_doubled l  dC dI H.size h0 th q2 q3 q5 q6 q15 c2 c3 c5 c6 c15 ur_52 (upd a3 r (nI (nz + 1))) a5 g6 a15 v1 (.ref q4) (.ref q7) v8 v9 v10 v11 v12 v13 v14 v16 r t9 (nz + 1) hr9 u1_ (by first | omega | exact p2_1024 u3_ (by omega)) u3_ q6_ pk_us (by omega)) (cwV 1 hts gX8_hashed_X8_doubled rfl rfl rfl (by decide +kernel) ⟨(Nat.le_of_ble_eq_true rfl), (Nat.le_of_ble_eq_true rfl)⟩) ⟨pk_blind, va_recv hKc hPc (ci := 8) (q0 := 0) rfl rfl, pk_call hPc hKc hDc⟩ rfl rfl hl.1 rfl (lv_room (Nat.le_of_ble_eq_true rfl)) dX8_hashed_166 ⟨(Nat.le_of_ble_eq_true rfl), (Nat.le_of_ble_eq_true rfl)⟩) hS (fun q _ h => hFc q h) hFc (fun ur_66 t H1 locs ht hvm hw hB hz1 hk1 hS => ?_)
                    try dsimp only at hw
                    have jr_66 := hw
                    obtain ⟨hP1, hK1, hD1⟩ := hB
                    rw [ht] at hP1
                    have hK1 := va_K.moved hvm.symm hK1
                    obtain ⟨hP, hD⟩ := va_join (wr := [(q4, .inl (c4, 16, .inl a4)), (q7, .inl (c7, 16, .inl (upd a7 r (a7 r + 1))))]) (w1 := [(h0, .inr (8, [.int th, v1, .ref q2, .ref q3, .ref q4, .ref q5, .ref q6, .ref q7, v8, v9, v10, v11, v12, v13, v14, .ref q15, v16])), (q2, .inl (c2, 67200, .inl ur_66.1)), (q3, .inl (c3, 16, .inl (upd a3 r (nI (nz + 1))))), (q5, .inl (c5, 16, .inl a5)), (q6, .inl (c6, 16, .inl (upd g6 r (nI (2 * t9))))), (q15, .inl (c15, 4096, .inl ur_66.2))]) hP hD [4, 5, 6, 2, 3, 1] [0, 7] rfl rfl (by decide) (by decide) hk1 hFc hP1 hD1
                    clear hk1 hz1 ht hPc hDc hKc hFc
                    generalize H1 = H at hP hS ⊢
                    replace hP : va_P (dC, dI) vwCl [(q4, .inl (c4, 16, .inl a4)), (q7, .inl (c7, 16, .inl (upd a7 r (a7 r + 1)))), (h0, .inr (8, [.int th, v1, .ref q2, .ref q3, .ref q4, .ref q5, .ref q6, .ref q7, v8, v9, v10, v11, v12, v13, v14, .ref q15, v16])), (q2, .inl (c2, 67200, .inl ur_66.1)), (q3, .inl (c3, 16, .inl (upd a3 r (nI (nz + 1))))), (q5, .inl (c5, 16, .inl a5)), (q6, .inl (c6, 16, .inl (upd g6 r (nI (2 * t9))))), (q15, .inl (c15, 4096, .inl ur_66.2))] H := hP
                    replace hD : va_D A [(q4, .inl (c4, 16, .inl a4)), (q7, .inl (c7, 16, .inl (upd a7 r (a7 r + 1)))), (h0, .inr (8, [.int th, v1, .ref q2, .ref q3, .ref q4, .ref q5, .ref q6, .ref q7, v8, v9, v10, v11, v12, v13, v14, .ref q15, v16])), (q2, .inl (c2, 67200, .inl ur_66.1)), (q3, .inl (c3, 16, .inl (upd a3 r (nI (nz + 1))))), (q5, .inl (c5, 16, .inl a5)), (q6, .inl (c6, 16, .inl (upd g6 r (nI (2 * t9))))), (q15, .inl (c15, 4096, .inl ur_66.2))] := hD
                    refine W.widen (k := 0) (n := 0) (Nat.le_of_ble_eq_true rfl) (Nat.le_of_ble_eq_true rfl) ?_
                    refine W.eq (g2 := F0 m 169 ls []) rfl ?_
                    have qo := outR_tr qo jr_66
                    have q6_ : (upd g6 r (nI (2 * t9))) r = nI (2 * t9) := pk_us
                    have qw : ∀ q : Nat, q ≠ r → (upd g6 r (nI (2 * t9))) q = a6 q := fun q hq => (pk_un hq).trans (qw q hq)
                    have u3_ := p2_dbl u3_
                    have u1_ : 1 ≤ 2 * t9 := by omega
                    have u2_ : 2 * t9 ≤ 2048 := by first | omega | (have := p2_1024 (t := t9) (by assumption) (by omega); omega)
                    refine lv_goto (tgt := 190) hx hb dX8_hashed_169 (by decide) ?_
                    refine lv_aload_n hx hb dX8_hashed_190 rfl (lv_at hl 3 rfl) ?_
                    refine va_get (D := (dC, dI)) (ci := 8) (v := .ref q3) (C := RX8) (T := TX8) (N := 17) hx hb hts hi0_ hown hK hP 2 rfl rfl 3 (by decide) hw1_ (fun _ h9 => h9) rfl dX8_hashed_191 ?_
                    refine lv_iload_n hx hb dX8_hashed_194 rfl (lv_at hl 4 rfl) ?_
                    refine va_iald (i := nI r) hx hb hK hP 4 1 rfl rfl (vp_in_nI (by omega) (by omega)) dX8_hashed_195 ?_
                    refine W.eq (g2 := F0 m 196 ls [.int ((upd a3 r (nI (nz + 1))) r)]) (by rw [nI_clamp (by omega)]) ?_
                    refine W.eq (g2 := F0 m 196 ls [.int (nI (nz + 1))]) (by rw [pk_us]) ?_
                    refine lv_iconst (v := 4) hx hb dX8_hashed_196 (by decide) ?_
                    refine lv_imul hx hb dX8_hashed_197 ?_
                    refine lv_topi (fun z_67 ez_67 => ?_)
                    obtain rfl : z_67 = nI ((nz + 1) * 4) := ez_67.trans (by rw [show (4 : Int32) = nI 4 from rfl, pk_mul])
                    refine lv_aload_n hx hb dX8_hashed_198 rfl (lv_at hl 3 rfl) ?_
                    refine va_get (D := (dC, dI)) (ci := 8) (v := .ref q6) (C := RX8) (T := TX8) (N := 17) hx hb hts hi0_ hown hK hP 2 rfl rfl 6 (by decide) hw0_ (fun _ h9 => h9) rfl dX8_hashed_199 ?_
                    refine lv_iload_n hx hb dX8_hashed_202 rfl (lv_at hl 4 rfl) ?_
                    refine va_iald (i := nI r) hx hb hK hP 6 4 rfl rfl (vp_in_nI (by omega) (by omega)) dX8_hashed_203 ?_
                    refine W.eq (g2 := F0 m 204 ls [.int ((upd g6 r (nI (2 * t9))) r), .int (nI ((nz + 1) * 4))]) (by rw [nI_clamp (by omega)]) ?_
                    refine W.eq (g2 := F0 m 204 ls [.int (nI (2 * t9)), .int (nI ((nz + 1) * 4))]) (by rw [q6_]) ?_
                    refine lv_iconst (v := 3) hx hb dX8_hashed_204 (by decide) ?_
                    refine lv_imul hx hb dX8_hashed_205 ?_
                    refine lv_topi (fun z_68 ez_68 => ?_)
                    obtain rfl : z_68 = nI ((2 * t9) * 3) := ez_68.trans (by rw [show (3 : Int32) = nI 3 from rfl, pk_mul])
                    refine lv_icmp_le (tgt := 214) hx hb dX8_hashed_206 (by decide) (fun c_69 => ?_) (fun c_69 => ?_)
                    ·
                      have ic_69 : (((nz + 1) * 4 : Nat) : Int) ≤ (((2 * t9) * 3 : Nat) : Int) := tx_le (nI_toInt (by omega)) (nI_toInt (by omega)) c_69
                      have hP9 := hP.sub (ws' := [(h0, .inr (8, [.int th, v1, .ref q2, .ref q3, .ref q4, .ref q5, .ref q6, .ref q7, v8, v9, v10, v11, v12, v13, v14, .ref q15, v16])), (q2, .inl (c2, 67200, .inl ur_66.1)), (q3, .inl (c3, 16, .inl (upd a3 r (nI (nz + 1))))), (q4, .inl (c4, 16, .inl a4)), (q5, .inl (c5, 16, .inl a5)), (q6, .inl (c6, 16, .inl (upd g6 r (nI (2 * t9))))), (q7, .inl (c7, 16, .inl (upd a7 r (a7 r + 1)))), (q15, .inl (c15, 4096, .inl ur_66.2))]) [2, 3, 4, 0, 5, 6, 1, 7] rfl
                      have hD9 := hD.sub (ws' := [(h0, .inr (8, [.int th, v1, .ref q2, .ref q3, .ref q4, .ref q5, .ref q6, .ref q7, v8, v9, v10, v11, v12, v13, v14, .ref q15, v16])), (q2, .inl (c2, 67200, .inl ur_66.1)), (q3, .inl (c3, 16, .inl (upd a3 r (nI (nz + 1))))), (q4, .inl (c4, 16, .inl a4)), (q5, .inl (c5, 16, .inl a5)), (q6, .inl (c6, 16, .inl (upd g6 r (nI (2 * t9))))), (q7, .inl (c7, 16, .inl (upd a7 r (a7 r + 1)))), (q15, .inl (c15, 4096, .inl ur_66.2))]) [2, 3, 4, 0, 5, 6, 1, 7] (by decide) rfl
                      have hK9 := hK.sub (tys' := [(c2, .int), (c3, .int), (c4, .int), (c5, .int), (c6, .int), (c7, .int), (c15, .boolean)]) [0, 1, 2, 3, 4, 5, 6] rfl
                      refine W.widen (k := 0) (n := 0) (Nat.le_of_ble_eq_true rfl) (Nat.le_of_ble_eq_true rfl) ?_
                      exact W.vret hx hb hr (fun t ht hW => ⟨⟨(ur_66.1, (upd g6 r (nI (2 * t9))), ur_66.2), rfl, ⟨qo, qw, (2 * t9), q6_, u1_, u2_, u3_, by omega⟩, by rw [ht]; exact hP9, va_K.moved hW.alike hK9, hD9⟩, hS.F ht⟩) hS.2.2 dX8_hashed_214
                    ·
                      have ic_69 : (((2 * t9) * 3 : Nat) : Int) < (((nz + 1) * 4 : Nat) : Int) := tx_nle (nI_toInt (by omega)) (nI_toInt (by omega)) c_69
                      refine lv_aload_n hx hb dX8_hashed_209 rfl (lv_at hl 3 rfl) ?_
                      refine lv_iload_n hx hb dX8_hashed_210 rfl (lv_at hl 4 rfl) ?_
                      have hPc := hP.sub (ws' := [(h0, .inr (8, [.int th, v1, .ref q2, .ref q3, .ref q4, .ref q5, .ref q6, .ref q7, v8, v9, v10, v11, v12, v13, v14, .ref q15, v16])), (q2, .inl (c2, 67200, .inl ur_66.1)), (q3, .inl (c3, 16, .inl (upd a3 r (nI (nz + 1))))), (q5, .inl (c5, 16, .inl a5)), (q6, .inl (c6, 16, .inl (upd g6 r (nI (2 * t9))))), (q15, .inl (c15, 4096, .inl ur_66.2))]) [2, 3, 4, 5, 6, 7] rfl
                      have hDc := hD.sub (ws' := [(h0, .inr (8, [.int th, v1, .ref q2, .ref q3, .ref q4, .ref q5, .ref q6, .ref q7, v8, v9, v10, v11, v12, v13, v14, .ref q15, v16])), (q2, .inl (c2, 67200, .inl ur_66.1)), (q3, .inl (c3, 16, .inl (upd a3 r (nI (nz + 1))))), (q5, .inl (c5, 16, .inl a5)), (q6, .inl (c6, 16, .inl (upd g6 r (nI (2 * t9))))), (q15, .inl (c15, 4096, .inl ur_66.2))]) [2, 3, 4, 5, 6, 7] (by decide) rfl
                      have hKc := hK.sub (tys' := [(c2, .int), (c3, .int), (c5, .int), (c6, .int), (c15, .boolean)]) [0, 1, 3, 4, 6] rfl
                      have hFc := va_free (wc := [(h0, .inr (8, [.int th, v1, .ref q2, .ref q3, .ref q4, .ref q5, .ref q6, .ref q7, v8, v9, v10, v11, v12, v13, v14, .ref q15, v16])), (q2, .inl (c2, 67200, .inl ur_66.1)), (q3, .inl (c3, 16, .inl (upd a3 r (nI (nz + 1))))), (q5, .inl (c5, 16, .inl a5)), (q6, .inl (c6, 16, .inl (upd g6 r (nI (2 * t9))))), (q15, .inl (c15, 4096, .inl ur_66.2))]) hD hS hA [2, 3, 4, 5, 6, 7] rfl
                      refine va_callv (va_runV (As := [.int (nI r)]) (rest := []) ⟨hx, hb, hml, hown, hts⟩ (c_X8_doubled l  dC dI H.size h0 th q2 q3 q5 q6 q15 c2 c3 c5 c6 c15 ur_66.1 (upd a3 r (nI (nz + 1))) a5 (upd g6 r (nI (2 * t9))) ur_66.2 v1 (.ref q4) (.ref q7) v8 v9 v10 v11 v12 v13 v14 v16 r (2 * t9) (nz + 1) hr9 u1_ (by first | omega | exact p2_1024 u3_ (by omega)) u3_ q6_ pk_us (by omega)) (cwV 1 hts gX8_hashed_X8_doubled rfl rfl rfl (by decide +kernel) ⟨(Nat.le_of_ble_eq_true rfl), (Nat.le_of_ble_eq_true rfl)⟩) ⟨pk_blind, va_recv hKc hPc (ci := 8) (q0 := 0) rfl rfl, pk_call hPc hKc hDc⟩ rfl rfl hl.1 rfl (lv_room (Nat.le_of_ble_eq_true rfl)) dX8_hashed_211 ⟨(Nat.le_of_ble_eq_true rfl), (Nat.le_of_ble_eq_true rfl)⟩) hS (fun q _ h => hFc q h) hFc (fun ur_70 t H1 locs ht hvm hw hB hz1 hk1 hS => ?_)
                      try dsimp only at hw
                      have jr_70 := hw
                      obtain ⟨hP1, hK1, hD1⟩ := hB
                      rw [ht] at hP1
                      have hK1 := va_K.moved hvm.symm hK1
                      obtain ⟨hP, hD⟩ := va_join (wr := [(q4, .inl (c4, 16, .inl a4)), (q7, .inl (c7, 16, .inl (upd a7 r (a7 r + 1))))]) (w1 := [(h0, .inr (8, [.int th, v1, .ref q2, .ref q3, .ref q4, .ref q5, .ref q6, .ref q7, v8, v9, v10, v11, v12, v13, v14, .ref q15, v16])), (q2, .inl (c2, 67200, .inl ur_70.1)), (q3, .inl (c3, 16, .inl (upd a3 r (nI (nz + 1))))), (q5, .inl (c5, 16, .inl a5)), (q6, .inl (c6, 16, .inl (upd (upd g6 r (nI (2 * t9))) r (nI (2 * (2 * t9)))))), (q15, .inl (c15, 4096, .inl ur_70.2))]) hP hD [2, 3, 4, 5, 6, 7] [0, 1] rfl rfl (by decide) (by decide) hk1 hFc hP1 hD1
                      clear hk1 hz1 ht hPc hDc hKc hFc
                      generalize H1 = H at hP hS ⊢
                      replace hP : va_P (dC, dI) vwCl [(q4, .inl (c4, 16, .inl a4)), (q7, .inl (c7, 16, .inl (upd a7 r (a7 r + 1)))), (h0, .inr (8, [.int th, v1, .ref q2, .ref q3, .ref q4, .ref q5, .ref q6, .ref q7, v8, v9, v10, v11, v12, v13, v14, .ref q15, v16])), (q2, .inl (c2, 67200, .inl ur_70.1)), (q3, .inl (c3, 16, .inl (upd a3 r (nI (nz + 1))))), (q5, .inl (c5, 16, .inl a5)), (q6, .inl (c6, 16, .inl (upd (upd g6 r (nI (2 * t9))) r (nI (2 * (2 * t9)))))), (q15, .inl (c15, 4096, .inl ur_70.2))] H := hP
                      replace hD : va_D A [(q4, .inl (c4, 16, .inl a4)), (q7, .inl (c7, 16, .inl (upd a7 r (a7 r + 1)))), (h0, .inr (8, [.int th, v1, .ref q2, .ref q3, .ref q4, .ref q5, .ref q6, .ref q7, v8, v9, v10, v11, v12, v13, v14, .ref q15, v16])), (q2, .inl (c2, 67200, .inl ur_70.1)), (q3, .inl (c3, 16, .inl (upd a3 r (nI (nz + 1))))), (q5, .inl (c5, 16, .inl a5)), (q6, .inl (c6, 16, .inl (upd (upd g6 r (nI (2 * t9))) r (nI (2 * (2 * t9)))))), (q15, .inl (c15, 4096, .inl ur_70.2))] := hD
                      refine W.widen (k := 0) (n := 0) (Nat.le_of_ble_eq_true rfl) (Nat.le_of_ble_eq_true rfl) ?_
                      refine W.eq (g2 := F0 m 214 ls []) rfl ?_
                      have qo := outR_tr qo jr_70
                      have q6_ : (upd (upd g6 r (nI (2 * t9))) r (nI (2 * (2 * t9)))) r = nI (2 * (2 * t9)) := pk_us
                      have qw : ∀ q : Nat, q ≠ r → (upd (upd g6 r (nI (2 * t9))) r (nI (2 * (2 * t9)))) q = a6 q := fun q hq => (pk_un hq).trans (qw q hq)
                      have u3_ := p2_dbl u3_
                      have u1_ : 1 ≤ 2 * (2 * t9) := by omega
                      have u2_ : 2 * (2 * t9) ≤ 2048 := by first | omega | (have := p2_1024 (t := (2 * t9)) (by assumption) (by omega); omega)
                      have hP9 := hP.sub (ws' := [(h0, .inr (8, [.int th, v1, .ref q2, .ref q3, .ref q4, .ref q5, .ref q6, .ref q7, v8, v9, v10, v11, v12, v13, v14, .ref q15, v16])), (q2, .inl (c2, 67200, .inl ur_70.1)), (q3, .inl (c3, 16, .inl (upd a3 r (nI (nz + 1))))), (q4, .inl (c4, 16, .inl a4)), (q5, .inl (c5, 16, .inl a5)), (q6, .inl (c6, 16, .inl (upd (upd g6 r (nI (2 * t9))) r (nI (2 * (2 * t9)))))), (q7, .inl (c7, 16, .inl (upd a7 r (a7 r + 1)))), (q15, .inl (c15, 4096, .inl ur_70.2))]) [2, 3, 4, 0, 5, 6, 1, 7] rfl
                      have hD9 := hD.sub (ws' := [(h0, .inr (8, [.int th, v1, .ref q2, .ref q3, .ref q4, .ref q5, .ref q6, .ref q7, v8, v9, v10, v11, v12, v13, v14, .ref q15, v16])), (q2, .inl (c2, 67200, .inl ur_70.1)), (q3, .inl (c3, 16, .inl (upd a3 r (nI (nz + 1))))), (q4, .inl (c4, 16, .inl a4)), (q5, .inl (c5, 16, .inl a5)), (q6, .inl (c6, 16, .inl (upd (upd g6 r (nI (2 * t9))) r (nI (2 * (2 * t9)))))), (q7, .inl (c7, 16, .inl (upd a7 r (a7 r + 1)))), (q15, .inl (c15, 4096, .inl ur_70.2))]) [2, 3, 4, 0, 5, 6, 1, 7] (by decide) rfl
                      have hK9 := hK.sub (tys' := [(c2, .int), (c3, .int), (c4, .int), (c5, .int), (c6, .int), (c7, .int), (c15, .boolean)]) [0, 1, 2, 3, 4, 5, 6] rfl
                      refine W.widen (k := 0) (n := 0) (Nat.le_of_ble_eq_true rfl) (Nat.le_of_ble_eq_true rfl) ?_
                      exact W.vret hx hb hr (fun t ht hW => ⟨⟨(ur_70.1, (upd (upd g6 r (nI (2 * t9))) r (nI (2 * (2 * t9)))), ur_70.2), rfl, ⟨qo, qw, (2 * (2 * t9)), q6_, u1_, u2_, u3_, by omega⟩, by rw [ht]; exact hP9, va_K.moved hW.alike hK9, hD9⟩, hS.F ht⟩) hS.2.2 dX8_hashed_214
              ·
                have ic_51 : 0 < ((i3 : Nat) : Int) := tx_nle (nI_toInt (by omega)) (by decide) c_51
                refine lv_aload_n hx hb dX8_hashed_112 rfl (lv_at hl 3 rfl) ?_
                refine lv_iload_n hx hb dX8_hashed_113 rfl (lv_at hl 4 rfl) ?_
                refine lv_aload_n hx hb dX8_hashed_114 rfl (lv_at hl 3 rfl) ?_
                refine lv_iload_n hx hb dX8_hashed_115 rfl (lv_at hl 4 rfl) ?_
                refine lv_iload hx hb dX8_hashed_116 (lv_at hl 0 rfl) ?_
                refine lv_iconst (v := 1) hx hb dX8_hashed_118 (by decide) ?_
                refine lv_isub hx hb dX8_hashed_119 ?_
                refine lv_topi (fun z_71 ez_71 => ?_)
                obtain rfl : z_71 = nI (i3 - 1) := ez_71.trans (by rw [show (1 : Int32) = nI 1 from rfl, pk_sub (by omega)])
                have hPc := hP.sub (ws' := [(h0, .inr (8, [.int th, v1, .ref q2, .ref q3, .ref q4, .ref q5, .ref q6, .ref q7, v8, v9, v10, v11, v12, v13, v14, .ref q15, v16])), (q2, .inl (c2, 67200, .inl f1))]) [3, 4] rfl
                have hDc := hD.sub (ws' := [(h0, .inr (8, [.int th, v1, .ref q2, .ref q3, .ref q4, .ref q5, .ref q6, .ref q7, v8, v9, v10, v11, v12, v13, v14, .ref q15, v16])), (q2, .inl (c2, 67200, .inl f1))]) [3, 4] (by decide) rfl
                have hKc := hK.sub (tys' := [(c2, .int)]) [0] rfl
                have hFc := va_free (wc := [(h0, .inr (8, [.int th, v1, .ref q2, .ref q3, .ref q4, .ref q5, .ref q6, .ref q7, v8, v9, v10, v11, v12, v13, v14, .ref q15, v16])), (q2, .inl (c2, 67200, .inl f1))]) hD hS hA [3, 4] rfl
                refine va_calli (va_runV (As := [.int (nI r), .int (nI (i3 - 1))]) (rest := [.int (nI r), .ref h0]) ⟨hx, hb, hml, hown, hts⟩ (c_X8_key l  dC dI H.size h0 th q2 c2 f1 v1 (.ref q3) (.ref q4) (.ref q5) (.ref q6) (.ref q7) v8 v9 v10 v11 v12 v13 v14 (.ref q15) v16 r (i3 - 1) hr9 (by omega)) (cwV 2 hts gX8_hashed_X8_key rfl rfl rfl (by decide +kernel) ⟨(Nat.le_of_ble_eq_true rfl), (Nat.le_of_ble_eq_true rfl)⟩) ⟨pk_blind, va_recv hKc hPc (ci := 8) (q0 := 0) rfl rfl, pk_call hPc hKc hDc⟩ rfl rfl hl.1 rfl (lv_room (Nat.le_of_ble_eq_true rfl)) dX8_hashed_120 ⟨(Nat.le_of_ble_eq_true rfl), (Nat.le_of_ble_eq_true rfl)⟩) hS (fun q _ h => hFc q h) hFc (fun r_72 ur_72 t H1 locs ht hvm hw hB hz1 hk1 hS => ?_)
                try dsimp only at hw
                obtain ⟨hP1, hK1, hD1⟩ := hB
                rw [ht] at hP1
                have hK1 := va_K.moved hvm.symm hK1
                obtain ⟨hP, hD⟩ := va_join (wr := [(q4, .inl (c4, 16, .inl a4)), (q7, .inl (c7, 16, .inl a7)), (q15, .inl (c15, 4096, .inl a15)), (q3, .inl (c3, 16, .inl a3)), (q5, .inl (c5, 16, .inl a5)), (q6, .inl (c6, 16, .inl g6))]) (w1 := [(h0, .inr (8, [.int th, v1, .ref q2, .ref q3, .ref q4, .ref q5, .ref q6, .ref q7, v8, v9, v10, v11, v12, v13, v14, .ref q15, v16])), (q2, .inl (c2, 67200, .inl f1))]) hP hD [3, 4] [0, 1, 2, 5, 6, 7] rfl rfl (by decide) (by decide) hk1 hFc hP1 hD1
                clear hk1 hz1 ht hPc hDc hKc hFc
                generalize H1 = H at hP hS ⊢
                replace hP : va_P (dC, dI) vwCl [(q4, .inl (c4, 16, .inl a4)), (q7, .inl (c7, 16, .inl a7)), (q15, .inl (c15, 4096, .inl a15)), (q3, .inl (c3, 16, .inl a3)), (q5, .inl (c5, 16, .inl a5)), (q6, .inl (c6, 16, .inl g6)), (h0, .inr (8, [.int th, v1, .ref q2, .ref q3, .ref q4, .ref q5, .ref q6, .ref q7, v8, v9, v10, v11, v12, v13, v14, .ref q15, v16])), (q2, .inl (c2, 67200, .inl f1))] H := hP
                replace hD : va_D A [(q4, .inl (c4, 16, .inl a4)), (q7, .inl (c7, 16, .inl a7)), (q15, .inl (c15, 4096, .inl a15)), (q3, .inl (c3, 16, .inl a3)), (q5, .inl (c5, 16, .inl a5)), (q6, .inl (c6, 16, .inl g6)), (h0, .inr (8, [.int th, v1, .ref q2, .ref q3, .ref q4, .ref q5, .ref q6, .ref q7, v8, v9, v10, v11, v12, v13, v14, .ref q15, v16])), (q2, .inl (c2, 67200, .inl f1))] := hD
                refine W.widen (k := 0) (n := 0) (Nat.le_of_ble_eq_true rfl) (Nat.le_of_ble_eq_true rfl) ?_
                obtain rfl : r_72 = f1 (4200 * r + (i3 - 1)) := hw
                refine W.eq (g2 := F0 m 123 ls [.int (f1 (4200 * r + (i3 - 1))), .int (nI r), .ref h0]) rfl ?_
                have hPc := hP.sub (ws' := [(h0, .inr (8, [.int th, v1, .ref q2, .ref q3, .ref q4, .ref q5, .ref q6, .ref q7, v8, v9, v10, v11, v12, v13, v14, .ref q15, v16])), (q5, .inl (c5, 16, .inl a5)), (q6, .inl (c6, 16, .inl g6))]) [6, 4, 5] rfl
                have hDc := hD.sub (ws' := [(h0, .inr (8, [.int th, v1, .ref q2, .ref q3, .ref q4, .ref q5, .ref q6, .ref q7, v8, v9, v10, v11, v12, v13, v14, .ref q15, v16])), (q5, .inl (c5, 16, .inl a5)), (q6, .inl (c6, 16, .inl g6))]) [6, 4, 5] (by decide) rfl
                have hKc := hK.sub (tys' := [(c5, .int), (c6, .int)]) [3, 4] rfl
                have hFc := va_free (wc := [(h0, .inr (8, [.int th, v1, .ref q2, .ref q3, .ref q4, .ref q5, .ref q6, .ref q7, v8, v9, v10, v11, v12, v13, v14, .ref q15, v16])), (q5, .inl (c5, 16, .inl a5)), (q6, .inl (c6, 16, .inl g6))]) hD hS hA [6, 4, 5] rfl
                refine va_calli (va_runV (As := [.int (nI r), .int (f1 (4200 * r + (i3 - 1)))]) (rest := []) ⟨hx, hb, hml, hown, hts⟩ (c_X8_bin l  dC dI H.size h0 th q5 q6 c5 c6 a5 g6 v1 (.ref q2) (.ref q3) (.ref q4) (.ref q7) v8 v9 v10 v11 v12 v13 v14 (.ref q15) v16 r (f1 (4200 * r + (i3 - 1))) t9 hr9 u1_ u2_ u3_ q6_) (cwV 2 hts gX8_hashed_X8_bin rfl rfl rfl (by decide +kernel) ⟨(Nat.le_of_ble_eq_true rfl), (Nat.le_of_ble_eq_true rfl)⟩) ⟨pk_blind, va_recv hKc hPc (ci := 8) (q0 := 0) rfl rfl, pk_call hPc hKc hDc⟩ rfl rfl hl.1 rfl (lv_room (Nat.le_of_ble_eq_true rfl)) dX8_hashed_123 ⟨(Nat.le_of_ble_eq_true rfl), (Nat.le_of_ble_eq_true rfl)⟩) hS (fun q _ h => hFc q h) hFc (fun r_73 ur_73 t H1 locs ht hvm hw hB hz1 hk1 hS => ?_)
                try dsimp only at hw
                have jr_73 := hw
                obtain ⟨hP1, hK1, hD1⟩ := hB
                rw [ht] at hP1
                have hK1 := va_K.moved hvm.symm hK1
                obtain ⟨hP, hD⟩ := va_join (wr := [(q4, .inl (c4, 16, .inl a4)), (q7, .inl (c7, 16, .inl a7)), (q15, .inl (c15, 4096, .inl a15)), (q3, .inl (c3, 16, .inl a3)), (q2, .inl (c2, 67200, .inl f1))]) (w1 := [(h0, .inr (8, [.int th, v1, .ref q2, .ref q3, .ref q4, .ref q5, .ref q6, .ref q7, v8, v9, v10, v11, v12, v13, v14, .ref q15, v16])), (q5, .inl (c5, 16, .inl a5)), (q6, .inl (c6, 16, .inl g6))]) hP hD [6, 4, 5] [0, 1, 2, 3, 7] rfl rfl (by decide) (by decide) hk1 hFc hP1 hD1
                clear hk1 hz1 ht hPc hDc hKc hFc
                generalize H1 = H at hP hS ⊢
                replace hP : va_P (dC, dI) vwCl [(q4, .inl (c4, 16, .inl a4)), (q7, .inl (c7, 16, .inl a7)), (q15, .inl (c15, 4096, .inl a15)), (q3, .inl (c3, 16, .inl a3)), (q2, .inl (c2, 67200, .inl f1)), (h0, .inr (8, [.int th, v1, .ref q2, .ref q3, .ref q4, .ref q5, .ref q6, .ref q7, v8, v9, v10, v11, v12, v13, v14, .ref q15, v16])), (q5, .inl (c5, 16, .inl a5)), (q6, .inl (c6, 16, .inl g6))] H := hP
                replace hD : va_D A [(q4, .inl (c4, 16, .inl a4)), (q7, .inl (c7, 16, .inl a7)), (q15, .inl (c15, 4096, .inl a15)), (q3, .inl (c3, 16, .inl a3)), (q2, .inl (c2, 67200, .inl f1)), (h0, .inr (8, [.int th, v1, .ref q2, .ref q3, .ref q4, .ref q5, .ref q6, .ref q7, v8, v9, v10, v11, v12, v13, v14, .ref q15, v16])), (q5, .inl (c5, 16, .inl a5)), (q6, .inl (c6, 16, .inl g6))] := hD
                refine W.widen (k := 0) (n := 0) (Nat.le_of_ble_eq_true rfl) (Nat.le_of_ble_eq_true rfl) ?_
                refine W.eq (g2 := F0 m 126 ls [.int r_73]) rfl ?_
                refine lv_iload hx hb dX8_hashed_126 (lv_at hl 2 rfl) ?_
                refine lv_icmp_le (tgt := 137) hx hb dX8_hashed_128 (by decide) (fun c_74 => ?_) (fun c_74 => ?_)
                ·
                  have ic_74 : r_73.toInt ≤ ((b9 : Nat) : Int) := tx_le rfl (nI_toInt (by omega)) c_74
                  refine lv_aload_n hx hb dX8_hashed_137 rfl (lv_at hl 3 rfl) ?_
                  refine lv_iload_n hx hb dX8_hashed_138 rfl (lv_at hl 4 rfl) ?_
                  refine lv_iload hx hb dX8_hashed_139 (lv_at hl 0 rfl) ?_
                  refine lv_iload_n hx hb dX8_hashed_141 rfl (lv_at hl 5 rfl) ?_
                  refine lv_iload_n hx hb dX8_hashed_142 rfl (lv_at hl 6 rfl) ?_
                  have hPc := hP.sub (ws' := [(h0, .inr (8, [.int th, v1, .ref q2, .ref q3, .ref q4, .ref q5, .ref q6, .ref q7, v8, v9, v10, v11, v12, v13, v14, .ref q15, v16])), (q2, .inl (c2, 67200, .inl f1)), (q3, .inl (c3, 16, .inl a3)), (q7, .inl (c7, 16, .inl a7))]) [5, 4, 3, 1] rfl
                  have hDc := hD.sub (ws' := [(h0, .inr (8, [.int th, v1, .ref q2, .ref q3, .ref q4, .ref q5, .ref q6, .ref q7, v8, v9, v10, v11, v12, v13, v14, .ref q15, v16])), (q2, .inl (c2, 67200, .inl f1)), (q3, .inl (c3, 16, .inl a3)), (q7, .inl (c7, 16, .inl a7))]) [5, 4, 3, 1] (by decide) rfl
                  have hKc := hK.sub (tys' := [(c2, .int), (c3, .int), (c7, .int)]) [0, 1, 5] rfl
                  have hFc := va_free (wc := [(h0, .inr (8, [.int th, v1, .ref q2, .ref q3, .ref q4, .ref q5, .ref q6, .ref q7, v8, v9, v10, v11, v12, v13, v14, .ref q15, v16])), (q2, .inl (c2, 67200, .inl f1)), (q3, .inl (c3, 16, .inl a3)), (q7, .inl (c7, 16, .inl a7))]) hD hS hA [5, 4, 3, 1] rfl
                  refine va_callv (va_runV (As := [.int (nI r), .int (nI i3), .int p1, .int p2]) (rest := []) ⟨hx, hb, hml, hown, hts⟩ (c_X8_comes l  dC dI H.size h0 th q2 q3 q7 c2 c3 c7 f1 a3 a7 v1 (.ref q4) (.ref q5) (.ref q6) v8 v9 v10 v11 v12 v13 v14 (.ref q15) v16 r i3 p1 p2 nz hr9 hi3 hs9 hz9) (cwV 4 hts gX8_hashed_X8_comes rfl rfl rfl (by decide +kernel) ⟨(Nat.le_of_ble_eq_true rfl), (Nat.le_of_ble_eq_true rfl)⟩) ⟨pk_blind, va_recv hKc hPc (ci := 8) (q0 := 0) rfl rfl, pk_call hPc hKc hDc⟩ rfl rfl hl.1 rfl (lv_room (Nat.le_of_ble_eq_true rfl)) dX8_hashed_143 ⟨(Nat.le_of_ble_eq_true rfl), (Nat.le_of_ble_eq_true rfl)⟩) hS (fun q _ h => hFc q h) hFc (fun ur_75 t H1 locs ht hvm hw hB hz1 hk1 hS => ?_)
                  try dsimp only at hw
                  have jr_75 := hw
                  obtain ⟨hP1, hK1, hD1⟩ := hB
                  rw [ht] at hP1
                  have hK1 := va_K.moved hvm.symm hK1
                  obtain ⟨hP, hD⟩ := va_join (wr := [(q4, .inl (c4, 16, .inl a4)), (q15, .inl (c15, 4096, .inl a15)), (q5, .inl (c5, 16, .inl a5)), (q6, .inl (c6, 16, .inl g6))]) (w1 := [(h0, .inr (8, [.int th, v1, .ref q2, .ref q3, .ref q4, .ref q5, .ref q6, .ref q7, v8, v9, v10, v11, v12, v13, v14, .ref q15, v16])), (q2, .inl (c2, 67200, .inl ur_75)), (q3, .inl (c3, 16, .inl (upd a3 r (nI (nz + 1))))), (q7, .inl (c7, 16, .inl (upd a7 r (a7 r + 1))))]) hP hD [5, 4, 3, 1] [0, 2, 6, 7] rfl rfl (by decide) (by decide) hk1 hFc hP1 hD1
                  clear hk1 hz1 ht hPc hDc hKc hFc
                  generalize H1 = H at hP hS ⊢
                  replace hP : va_P (dC, dI) vwCl [(q4, .inl (c4, 16, .inl a4)), (q15, .inl (c15, 4096, .inl a15)), (q5, .inl (c5, 16, .inl a5)), (q6, .inl (c6, 16, .inl g6)), (h0, .inr (8, [.int th, v1, .ref q2, .ref q3, .ref q4, .ref q5, .ref q6, .ref q7, v8, v9, v10, v11, v12, v13, v14, .ref q15, v16])), (q2, .inl (c2, 67200, .inl ur_75)), (q3, .inl (c3, 16, .inl (upd a3 r (nI (nz + 1))))), (q7, .inl (c7, 16, .inl (upd a7 r (a7 r + 1))))] H := hP
                  replace hD : va_D A [(q4, .inl (c4, 16, .inl a4)), (q15, .inl (c15, 4096, .inl a15)), (q5, .inl (c5, 16, .inl a5)), (q6, .inl (c6, 16, .inl g6)), (h0, .inr (8, [.int th, v1, .ref q2, .ref q3, .ref q4, .ref q5, .ref q6, .ref q7, v8, v9, v10, v11, v12, v13, v14, .ref q15, v16])), (q2, .inl (c2, 67200, .inl ur_75)), (q3, .inl (c3, 16, .inl (upd a3 r (nI (nz + 1))))), (q7, .inl (c7, 16, .inl (upd a7 r (a7 r + 1))))] := hD
                  refine W.widen (k := 0) (n := 0) (Nat.le_of_ble_eq_true rfl) (Nat.le_of_ble_eq_true rfl) ?_
                  refine W.eq (g2 := F0 m 146 ls []) rfl ?_
                  have qo := outR_tr qo jr_75
                  refine lv_iload hx hb dX8_hashed_146 (lv_at hl 1 rfl) ?_
                  refine lv_bipush (v := 8) hx hb dX8_hashed_148 (by decide) ?_
                  refine lv_icmp_lt (tgt := 190) hx hb dX8_hashed_150 (by decide) (fun c_76 => ?_) (fun c_76 => ?_)
                  ·
                    have ic_76 : r_50.toInt < 8 := tx_lt rfl (by decide) c_76
                    refine lv_aload_n hx hb dX8_hashed_190 rfl (lv_at hl 3 rfl) ?_
                    refine va_get (D := (dC, dI)) (ci := 8) (v := .ref q3) (C := RX8) (T := TX8) (N := 17) hx hb hts hi0_ hown hK hP 4 rfl rfl 3 (by decide) hw1_ (fun _ h9 => h9) rfl dX8_hashed_191 ?_
                    refine lv_iload_n hx hb dX8_hashed_194 rfl (lv_at hl 4 rfl) ?_
                    refine va_iald (i := nI r) hx hb hK hP 6 1 rfl rfl (vp_in_nI (by omega) (by omega)) dX8_hashed_195 ?_
                    refine W.eq (g2 := F0 m 196 ls [.int ((upd a3 r (nI (nz + 1))) r)]) (by rw [nI_clamp (by omega)]) ?_
                    refine W.eq (g2 := F0 m 196 ls [.int (nI (nz + 1))]) (by rw [pk_us]) ?_
                    refine lv_iconst (v := 4) hx hb dX8_hashed_196 (by decide) ?_
                    refine lv_imul hx hb dX8_hashed_197 ?_
                    refine lv_topi (fun z_77 ez_77 => ?_)
                    obtain rfl : z_77 = nI ((nz + 1) * 4) := ez_77.trans (by rw [show (4 : Int32) = nI 4 from rfl, pk_mul])
                    refine lv_aload_n hx hb dX8_hashed_198 rfl (lv_at hl 3 rfl) ?_
                    refine va_get (D := (dC, dI)) (ci := 8) (v := .ref q6) (C := RX8) (T := TX8) (N := 17) hx hb hts hi0_ hown hK hP 4 rfl rfl 6 (by decide) hw0_ (fun _ h9 => h9) rfl dX8_hashed_199 ?_
                    refine lv_iload_n hx hb dX8_hashed_202 rfl (lv_at hl 4 rfl) ?_
                    refine va_iald (i := nI r) hx hb hK hP 3 4 rfl rfl (vp_in_nI (by omega) (by omega)) dX8_hashed_203 ?_
                    refine W.eq (g2 := F0 m 204 ls [.int (g6 r), .int (nI ((nz + 1) * 4))]) (by rw [nI_clamp (by omega)]) ?_
                    refine W.eq (g2 := F0 m 204 ls [.int (nI t9), .int (nI ((nz + 1) * 4))]) (by rw [q6_]) ?_
                    refine lv_iconst (v := 3) hx hb dX8_hashed_204 (by decide) ?_
                    refine lv_imul hx hb dX8_hashed_205 ?_
                    refine lv_topi (fun z_78 ez_78 => ?_)
                    obtain rfl : z_78 = nI (t9 * 3) := ez_78.trans (by rw [show (3 : Int32) = nI 3 from rfl, pk_mul])
                    refine lv_icmp_le (tgt := 214) hx hb dX8_hashed_206 (by decide) (fun c_79 => ?_) (fun c_79 => ?_)
                    ·
                      have ic_79 : (((nz + 1) * 4 : Nat) : Int) ≤ ((t9 * 3 : Nat) : Int) := tx_le (nI_toInt (by omega)) (nI_toInt (by omega)) c_79
                      have hP9 := hP.sub (ws' := [(h0, .inr (8, [.int th, v1, .ref q2, .ref q3, .ref q4, .ref q5, .ref q6, .ref q7, v8, v9, v10, v11, v12, v13, v14, .ref q15, v16])), (q2, .inl (c2, 67200, .inl ur_75)), (q3, .inl (c3, 16, .inl (upd a3 r (nI (nz + 1))))), (q4, .inl (c4, 16, .inl a4)), (q5, .inl (c5, 16, .inl a5)), (q6, .inl (c6, 16, .inl g6)), (q7, .inl (c7, 16, .inl (upd a7 r (a7 r + 1)))), (q15, .inl (c15, 4096, .inl a15))]) [4, 5, 6, 0, 2, 3, 7, 1] rfl
                      have hD9 := hD.sub (ws' := [(h0, .inr (8, [.int th, v1, .ref q2, .ref q3, .ref q4, .ref q5, .ref q6, .ref q7, v8, v9, v10, v11, v12, v13, v14, .ref q15, v16])), (q2, .inl (c2, 67200, .inl ur_75)), (q3, .inl (c3, 16, .inl (upd a3 r (nI (nz + 1))))), (q4, .inl (c4, 16, .inl a4)), (q5, .inl (c5, 16, .inl a5)), (q6, .inl (c6, 16, .inl g6)), (q7, .inl (c7, 16, .inl (upd a7 r (a7 r + 1)))), (q15, .inl (c15, 4096, .inl a15))]) [4, 5, 6, 0, 2, 3, 7, 1] (by decide) rfl
                      have hK9 := hK.sub (tys' := [(c2, .int), (c3, .int), (c4, .int), (c5, .int), (c6, .int), (c7, .int), (c15, .boolean)]) [0, 1, 2, 3, 4, 5, 6] rfl
                      refine W.widen (k := 0) (n := 0) (Nat.le_of_ble_eq_true rfl) (Nat.le_of_ble_eq_true rfl) ?_
                      exact W.vret hx hb hr (fun t ht hW => ⟨⟨(ur_75, g6, a15), rfl, ⟨qo, qw, t9, q6_, u1_, u2_, u3_, by omega⟩, by rw [ht]; exact hP9, va_K.moved hW.alike hK9, hD9⟩, hS.F ht⟩) hS.2.2 dX8_hashed_214
                    ·
                      have ic_79 : ((t9 * 3 : Nat) : Int) < (((nz + 1) * 4 : Nat) : Int) := tx_nle (nI_toInt (by omega)) (nI_toInt (by omega)) c_79
                      refine lv_aload_n hx hb dX8_hashed_209 rfl (lv_at hl 3 rfl) ?_
                      refine lv_iload_n hx hb dX8_hashed_210 rfl (lv_at hl 4 rfl) ?_
                      have hPc := hP.sub (ws' := [(h0, .inr (8, [.int th, v1, .ref q2, .ref q3, .ref q4, .ref q5, .ref q6, .ref q7, v8, v9, v10, v11, v12, v13, v14, .ref q15, v16])), (q2, .inl (c2, 67200, .inl ur_75)), (q3, .inl (c3, 16, .inl (upd a3 r (nI (nz + 1))))), (q5, .inl (c5, 16, .inl a5)), (q6, .inl (c6, 16, .inl g6)), (q15, .inl (c15, 4096, .inl a15))]) [4, 5, 6, 2, 3, 1] rfl
                      have hDc := hD.sub (ws' := [(h0, .inr (8, [.int th, v1, .ref q2, .ref q3, .ref q4, .ref q5, .ref q6, .ref q7, v8, v9, v10, v11, v12, v13, v14, .ref q15, v16])), (q2, .inl (c2, 67200, .inl ur_75)), (q3, .inl (c3, 16, .inl (upd a3 r (nI (nz + 1))))), (q5, .inl (c5, 16, .inl a5)), (q6, .inl (c6, 16, .inl g6)), (q15, .inl (c15, 4096, .inl a15))]) [4, 5, 6, 2, 3, 1] (by decide) rfl
                      have hKc := hK.sub (tys' := [(c2, .int), (c3, .int), (c5, .int), (c6, .int), (c15, .boolean)]) [0, 1, 3, 4, 6] rfl
                      have hFc := va_free (wc := [(h0, .inr (8, [.int th, v1, .ref q2, .ref q3, .ref q4, .ref q5, .ref q6, .ref q7, v8, v9, v10, v11, v12, v13, v14, .ref q15, v16])), (q2, .inl (c2, 67200, .inl ur_75)), (q3, .inl (c3, 16, .inl (upd a3 r (nI (nz + 1))))), (q5, .inl (c5, 16, .inl a5)), (q6, .inl (c6, 16, .inl g6)), (q15, .inl (c15, 4096, .inl a15))]) hD hS hA [4, 5, 6, 2, 3, 1] rfl
                      refine va_callv (va_runV (As := [.int (nI r)]) (rest := []) ⟨hx, hb, hml, hown, hts⟩ (c_X8_doubled l  dC dI H.size h0 th q2 q3 q5 q6 q15 c2 c3 c5 c6 c15 ur_75 (upd a3 r (nI (nz + 1))) a5 g6 a15 v1 (.ref q4) (.ref q7) v8 v9 v10 v11 v12 v13 v14 v16 r t9 (nz + 1) hr9 u1_ (by first | omega | exact p2_1024 u3_ (by omega)) u3_ q6_ pk_us (by omega)) (cwV 1 hts gX8_hashed_X8_doubled rfl rfl rfl (by decide +kernel) ⟨(Nat.le_of_ble_eq_true rfl), (Nat.le_of_ble_eq_true rfl)⟩) ⟨pk_blind, va_recv hKc hPc (ci := 8) (q0 := 0) rfl rfl, pk_call hPc hKc hDc⟩ rfl rfl hl.1 rfl (lv_room (Nat.le_of_ble_eq_true rfl)) dX8_hashed_211 ⟨(Nat.le_of_ble_eq_true rfl), (Nat.le_of_ble_eq_true rfl)⟩) hS (fun q _ h => hFc q h) hFc (fun ur_80 t H1 locs ht hvm hw hB hz1 hk1 hS => ?_)
                      try dsimp only at hw
                      have jr_80 := hw
                      obtain ⟨hP1, hK1, hD1⟩ := hB
                      rw [ht] at hP1
                      have hK1 := va_K.moved hvm.symm hK1
                      obtain ⟨hP, hD⟩ := va_join (wr := [(q4, .inl (c4, 16, .inl a4)), (q7, .inl (c7, 16, .inl (upd a7 r (a7 r + 1))))]) (w1 := [(h0, .inr (8, [.int th, v1, .ref q2, .ref q3, .ref q4, .ref q5, .ref q6, .ref q7, v8, v9, v10, v11, v12, v13, v14, .ref q15, v16])), (q2, .inl (c2, 67200, .inl ur_80.1)), (q3, .inl (c3, 16, .inl (upd a3 r (nI (nz + 1))))), (q5, .inl (c5, 16, .inl a5)), (q6, .inl (c6, 16, .inl (upd g6 r (nI (2 * t9))))), (q15, .inl (c15, 4096, .inl ur_80.2))]) hP hD [4, 5, 6, 2, 3, 1] [0, 7] rfl rfl (by decide) (by decide) hk1 hFc hP1 hD1
                      clear hk1 hz1 ht hPc hDc hKc hFc
                      generalize H1 = H at hP hS ⊢
                      replace hP : va_P (dC, dI) vwCl [(q4, .inl (c4, 16, .inl a4)), (q7, .inl (c7, 16, .inl (upd a7 r (a7 r + 1)))), (h0, .inr (8, [.int th, v1, .ref q2, .ref q3, .ref q4, .ref q5, .ref q6, .ref q7, v8, v9, v10, v11, v12, v13, v14, .ref q15, v16])), (q2, .inl (c2, 67200, .inl ur_80.1)), (q3, .inl (c3, 16, .inl (upd a3 r (nI (nz + 1))))), (q5, .inl (c5, 16, .inl a5)), (q6, .inl (c6, 16, .inl (upd g6 r (nI (2 * t9))))), (q15, .inl (c15, 4096, .inl ur_80.2))] H := hP
                      replace hD : va_D A [(q4, .inl (c4, 16, .inl a4)), (q7, .inl (c7, 16, .inl (upd a7 r (a7 r + 1)))), (h0, .inr (8, [.int th, v1, .ref q2, .ref q3, .ref q4, .ref q5, .ref q6, .ref q7, v8, v9, v10, v11, v12, v13, v14, .ref q15, v16])), (q2, .inl (c2, 67200, .inl ur_80.1)), (q3, .inl (c3, 16, .inl (upd a3 r (nI (nz + 1))))), (q5, .inl (c5, 16, .inl a5)), (q6, .inl (c6, 16, .inl (upd g6 r (nI (2 * t9))))), (q15, .inl (c15, 4096, .inl ur_80.2))] := hD
                      refine W.widen (k := 0) (n := 0) (Nat.le_of_ble_eq_true rfl) (Nat.le_of_ble_eq_true rfl) ?_
                      refine W.eq (g2 := F0 m 214 ls []) rfl ?_
                      have qo := outR_tr qo jr_80
                      have q6_ : (upd g6 r (nI (2 * t9))) r = nI (2 * t9) := pk_us
                      have qw : ∀ q : Nat, q ≠ r → (upd g6 r (nI (2 * t9))) q = a6 q := fun q hq => (pk_un hq).trans (qw q hq)
                      have u3_ := p2_dbl u3_
                      have u1_ : 1 ≤ 2 * t9 := by omega
                      have u2_ : 2 * t9 ≤ 2048 := by first | omega | (have := p2_1024 (t := t9) (by assumption) (by omega); omega)
                      have hP9 := hP.sub (ws' := [(h0, .inr (8, [.int th, v1, .ref q2, .ref q3, .ref q4, .ref q5, .ref q6, .ref q7, v8, v9, v10, v11, v12, v13, v14, .ref q15, v16])), (q2, .inl (c2, 67200, .inl ur_80.1)), (q3, .inl (c3, 16, .inl (upd a3 r (nI (nz + 1))))), (q4, .inl (c4, 16, .inl a4)), (q5, .inl (c5, 16, .inl a5)), (q6, .inl (c6, 16, .inl (upd g6 r (nI (2 * t9))))), (q7, .inl (c7, 16, .inl (upd a7 r (a7 r + 1)))), (q15, .inl (c15, 4096, .inl ur_80.2))]) [2, 3, 4, 0, 5, 6, 1, 7] rfl
                      have hD9 := hD.sub (ws' := [(h0, .inr (8, [.int th, v1, .ref q2, .ref q3, .ref q4, .ref q5, .ref q6, .ref q7, v8, v9, v10, v11, v12, v13, v14, .ref q15, v16])), (q2, .inl (c2, 67200, .inl ur_80.1)), (q3, .inl (c3, 16, .inl (upd a3 r (nI (nz + 1))))), (q4, .inl (c4, 16, .inl a4)), (q5, .inl (c5, 16, .inl a5)), (q6, .inl (c6, 16, .inl (upd g6 r (nI (2 * t9))))), (q7, .inl (c7, 16, .inl (upd a7 r (a7 r + 1)))), (q15, .inl (c15, 4096, .inl ur_80.2))]) [2, 3, 4, 0, 5, 6, 1, 7] (by decide) rfl
                      have hK9 := hK.sub (tys' := [(c2, .int), (c3, .int), (c4, .int), (c5, .int), (c6, .int), (c7, .int), (c15, .boolean)]) [0, 1, 2, 3, 4, 5, 6] rfl
                      refine W.widen (k := 0) (n := 0) (Nat.le_of_ble_eq_true rfl) (Nat.le_of_ble_eq_true rfl) ?_
                      exact W.vret hx hb hr (fun t ht hW => ⟨⟨(ur_80.1, (upd g6 r (nI (2 * t9))), ur_80.2), rfl, ⟨qo, qw, (2 * t9), q6_, u1_, u2_, u3_, by omega⟩, by rw [ht]; exact hP9, va_K.moved hW.alike hK9, hD9⟩, hS.F ht⟩) hS.2.2 dX8_hashed_214
                  ·
                    have ic_76 : 8 ≤ r_50.toInt := tx_nlt rfl (by decide) c_76
                    refine lv_aload_n hx hb dX8_hashed_153 rfl (lv_at hl 3 rfl) ?_
                    refine va_get (D := (dC, dI)) (ci := 8) (v := .ref q6) (C := RX8) (T := TX8) (N := 17) hx hb hts hi0_ hown hK hP 4 rfl rfl 6 (by decide) hw0_ (fun _ h9 => h9) rfl dX8_hashed_154 ?_
                    refine lv_iload_n hx hb dX8_hashed_157 rfl (lv_at hl 4 rfl) ?_
                    refine va_iald (i := nI r) hx hb hK hP 3 4 rfl rfl (vp_in_nI (by omega) (by omega)) dX8_hashed_158 ?_
                    refine W.eq (g2 := F0 m 159 ls [.int (g6 r)]) (by rw [nI_clamp (by omega)]) ?_
                    refine W.eq (g2 := F0 m 159 ls [.int (nI t9)]) (by rw [q6_]) ?_
                    refine lv_bipush (v := 64) hx hb dX8_hashed_159 (by decide) ?_
                    refine lv_icmp_ge (tgt := 172) hx hb dX8_hashed_161 (by decide) (fun c_81 => ?_) (fun c_81 => ?_)
                    ·
                      have ic_81 : 64 ≤ ((t9 : Nat) : Int) := tx_le (by decide) (nI_toInt (by omega)) c_81
                      refine lv_aload_n hx hb dX8_hashed_172 rfl (lv_at hl 3 rfl) ?_
                      refine va_get (D := (dC, dI)) (ci := 8) (v := .ref q2) (C := RX8) (T := TX8) (N := 17) hx hb hts hi0_ hown hK hP 4 rfl rfl 2 (by decide) hw2_ (fun _ h9 => h9) rfl dX8_hashed_173 ?_
                      refine lv_sipush (v := 4200) hx hb dX8_hashed_176 (by decide) ?_
                      refine lv_iload_n hx hb dX8_hashed_179 rfl (lv_at hl 4 rfl) ?_
                      refine lv_imul hx hb dX8_hashed_180 ?_
                      refine lv_topi (fun z_82 ez_82 => ?_)
                      obtain rfl : z_82 = nI (4200 * r) := ez_82.trans (by rw [show (4200 : Int32) = nI 4200 from rfl, pk_mul])
                      refine lv_sipush (v := 2000) hx hb dX8_hashed_181 (by decide) ?_
                      refine lv_iadd hx hb dX8_hashed_184 ?_
                      refine lv_topi (fun z_83 ez_83 => ?_)
                      obtain rfl : z_83 = nI ((4200 * r) + 2000) := ez_83.trans (by rw [show (2000 : Int32) = nI 2000 from rfl, nI_add])
                      refine lv_iload hx hb dX8_hashed_185 (lv_at hl 2 rfl) ?_
                      refine lv_iadd hx hb dX8_hashed_187 ?_
                      refine lv_topi (fun z_84 ez_84 => ?_)
                      obtain rfl : z_84 = nI (((4200 * r) + 2000) + b9) := ez_84.trans (by rw [nI_add])
                      refine lv_iconst (v := 1) hx hb dX8_hashed_188 (by decide) ?_
                      refine va_iast (i := nI (((4200 * r) + 2000) + b9)) hx hb hK hP hD hS 5 0 rfl rfl (vp_in_nI (by omega) (by omega)) dX8_hashed_189 (fun H locs hP hD hS => ?_)
                      rw [nI_clamp (by omega)] at hP hD
                      replace hP : va_P (dC, dI) vwCl [(q4, .inl (c4, 16, .inl a4)), (q15, .inl (c15, 4096, .inl a15)), (q5, .inl (c5, 16, .inl a5)), (q6, .inl (c6, 16, .inl g6)), (h0, .inr (8, [.int th, v1, .ref q2, .ref q3, .ref q4, .ref q5, .ref q6, .ref q7, v8, v9, v10, v11, v12, v13, v14, .ref q15, v16])), (q2, .inl (c2, 67200, .inl (upd ur_75 (((4200 * r) + 2000) + b9) 1))), (q3, .inl (c3, 16, .inl (upd a3 r (nI (nz + 1))))), (q7, .inl (c7, 16, .inl (upd a7 r (a7 r + 1))))] H := hP
                      replace hD : va_D A [(q4, .inl (c4, 16, .inl a4)), (q15, .inl (c15, 4096, .inl a15)), (q5, .inl (c5, 16, .inl a5)), (q6, .inl (c6, 16, .inl g6)), (h0, .inr (8, [.int th, v1, .ref q2, .ref q3, .ref q4, .ref q5, .ref q6, .ref q7, v8, v9, v10, v11, v12, v13, v14, .ref q15, v16])), (q2, .inl (c2, 67200, .inl (upd ur_75 (((4200 * r) + 2000) + b9) 1))), (q3, .inl (c3, 16, .inl (upd a3 r (nI (nz + 1))))), (q7, .inl (c7, 16, .inl (upd a7 r (a7 r + 1))))] := hD
                      refine lv_aload_n hx hb dX8_hashed_190 rfl (lv_at hl 3 rfl) ?_
                      refine va_get (D := (dC, dI)) (ci := 8) (v := .ref q3) (C := RX8) (T := TX8) (N := 17) hx hb hts hi0_ hown hK hP 4 rfl rfl 3 (by decide) hw1_ (fun _ h9 => h9) rfl dX8_hashed_191 ?_
                      refine lv_iload_n hx hb dX8_hashed_194 rfl (lv_at hl 4 rfl) ?_
                      refine va_iald (i := nI r) hx hb hK hP 6 1 rfl rfl (vp_in_nI (by omega) (by omega)) dX8_hashed_195 ?_
                      refine W.eq (g2 := F0 m 196 ls [.int ((upd a3 r (nI (nz + 1))) r)]) (by rw [nI_clamp (by omega)]) ?_
                      refine W.eq (g2 := F0 m 196 ls [.int (nI (nz + 1))]) (by rw [pk_us]) ?_
                      refine lv_iconst (v := 4) hx hb dX8_hashed_196 (by decide) ?_
                      refine lv_imul hx hb dX8_hashed_197 ?_
                      refine lv_topi (fun z_85 ez_85 => ?_)
                      obtain rfl : z_85 = nI ((nz + 1) * 4) := ez_85.trans (by rw [show (4 : Int32) = nI 4 from rfl, pk_mul])
                      refine lv_aload_n hx hb dX8_hashed_198 rfl (lv_at hl 3 rfl) ?_
                      refine va_get (D := (dC, dI)) (ci := 8) (v := .ref q6) (C := RX8) (T := TX8) (N := 17) hx hb hts hi0_ hown hK hP 4 rfl rfl 6 (by decide) hw0_ (fun _ h9 => h9) rfl dX8_hashed_199 ?_
                      refine lv_iload_n hx hb dX8_hashed_202 rfl (lv_at hl 4 rfl) ?_
                      refine va_iald (i := nI r) hx hb hK hP 3 4 rfl rfl (vp_in_nI (by omega) (by omega)) dX8_hashed_203 ?_
                      refine W.eq (g2 := F0 m 204 ls [.int (g6 r), .int (nI ((nz + 1) * 4))]) (by rw [nI_clamp (by omega)]) ?_
                      refine W.eq (g2 := F0 m 204 ls [.int (nI t9), .int (nI ((nz + 1) * 4))]) (by rw [q6_]) ?_
                      refine lv_iconst (v := 3) hx hb dX8_hashed_204 (by decide) ?_
                      refine lv_imul hx hb dX8_hashed_205 ?_
                      refine lv_topi (fun z_86 ez_86 => ?_)
                      obtain rfl : z_86 = nI (t9 * 3) := ez_86.trans (by rw [show (3 : Int32) = nI 3 from rfl, pk_mul])
                      refine lv_icmp_le (tgt := 214) hx hb dX8_hashed_206 (by decide) (fun c_87 => ?_) (fun c_87 => ?_)
                      ·
                        have ic_87 : (((nz + 1) * 4 : Nat) : Int) ≤ ((t9 * 3 : Nat) : Int) := tx_le (nI_toInt (by omega)) (nI_toInt (by omega)) c_87
                        have hP9 := hP.sub (ws' := [(h0, .inr (8, [.int th, v1, .ref q2, .ref q3, .ref q4, .ref q5, .ref q6, .ref q7, v8, v9, v10, v11, v12, v13, v14, .ref q15, v16])), (q2, .inl (c2, 67200, .inl (upd ur_75 (((4200 * r) + 2000) + b9) 1))), (q3, .inl (c3, 16, .inl (upd a3 r (nI (nz + 1))))), (q4, .inl (c4, 16, .inl a4)), (q5, .inl (c5, 16, .inl a5)), (q6, .inl (c6, 16, .inl g6)), (q7, .inl (c7, 16, .inl (upd a7 r (a7 r + 1)))), (q15, .inl (c15, 4096, .inl a15))]) [4, 5, 6, 0, 2, 3, 7, 1] rfl
                        have hD9 := hD.sub (ws' := [(h0, .inr (8, [.int th, v1, .ref q2, .ref q3, .ref q4, .ref q5, .ref q6, .ref q7, v8, v9, v10, v11, v12, v13, v14, .ref q15, v16])), (q2, .inl (c2, 67200, .inl (upd ur_75 (((4200 * r) + 2000) + b9) 1))), (q3, .inl (c3, 16, .inl (upd a3 r (nI (nz + 1))))), (q4, .inl (c4, 16, .inl a4)), (q5, .inl (c5, 16, .inl a5)), (q6, .inl (c6, 16, .inl g6)), (q7, .inl (c7, 16, .inl (upd a7 r (a7 r + 1)))), (q15, .inl (c15, 4096, .inl a15))]) [4, 5, 6, 0, 2, 3, 7, 1] (by decide) rfl
                        have hK9 := hK.sub (tys' := [(c2, .int), (c3, .int), (c4, .int), (c5, .int), (c6, .int), (c7, .int), (c15, .boolean)]) [0, 1, 2, 3, 4, 5, 6] rfl
                        refine W.widen (k := 0) (n := 0) (Nat.le_of_ble_eq_true rfl) (Nat.le_of_ble_eq_true rfl) ?_
                        exact W.vret hx hb hr (fun t ht hW => ⟨⟨((upd ur_75 (((4200 * r) + 2000) + b9) 1), g6, a15), rfl, ⟨outR_up' qo (k := 2000 + b9) (by omega) (by omega), qw, t9, q6_, u1_, u2_, u3_, by omega⟩, by rw [ht]; exact hP9, va_K.moved hW.alike hK9, hD9⟩, hS.F ht⟩) hS.2.2 dX8_hashed_214
                      ·
                        have ic_87 : ((t9 * 3 : Nat) : Int) < (((nz + 1) * 4 : Nat) : Int) := tx_nle (nI_toInt (by omega)) (nI_toInt (by omega)) c_87
                        refine lv_aload_n hx hb dX8_hashed_209 rfl (lv_at hl 3 rfl) ?_
                        refine lv_iload_n hx hb dX8_hashed_210 rfl (lv_at hl 4 rfl) ?_
                        have hPc := hP.sub (ws' := [(h0, .inr (8, [.int th, v1, .ref q2, .ref q3, .ref q4, .ref q5, .ref q6, .ref q7, v8, v9, v10, v11, v12, v13, v14, .ref q15, v16])), (q2, .inl (c2, 67200, .inl (upd ur_75 (((4200 * r) + 2000) + b9) 1))), (q3, .inl (c3, 16, .inl (upd a3 r (nI (nz + 1))))), (q5, .inl (c5, 16, .inl a5)), (q6, .inl (c6, 16, .inl g6)), (q15, .inl (c15, 4096, .inl a15))]) [4, 5, 6, 2, 3, 1] rfl
                        have hDc := hD.sub (ws' := [(h0, .inr (8, [.int th, v1, .ref q2, .ref q3, .ref q4, .ref q5, .ref q6, .ref q7, v8, v9, v10, v11, v12, v13, v14, .ref q15, v16])), (q2, .inl (c2, 67200, .inl (upd ur_75 (((4200 * r) + 2000) + b9) 1))), (q3, .inl (c3, 16, .inl (upd a3 r (nI (nz + 1))))), (q5, .inl (c5, 16, .inl a5)), (q6, .inl (c6, 16, .inl g6)), (q15, .inl (c15, 4096, .inl a15))]) [4, 5, 6, 2, 3, 1] (by decide) rfl
                        have hKc := hK.sub (tys' := [(c2, .int), (c3, .int), (c5, .int), (c6, .int), (c15, .boolean)]) [0, 1, 3, 4, 6] rfl
                        have hFc := va_free (wc := [(h0, .inr (8, [.int th, v1, .ref q2, .ref q3, .ref q4, .ref q5, .ref q6, .ref q7, v8, v9, v10, v11, v12, v13, v14, .ref q15, v16])), (q2, .inl (c2, 67200, .inl (upd ur_75 (((4200 * r) + 2000) + b9) 1))), (q3, .inl (c3, 16, .inl (upd a3 r (nI (nz + 1))))), (q5, .inl (c5, 16, .inl a5)), (q6, .inl (c6, 16, .inl g6)), (q15, .inl (c15, 4096, .inl a15))]) hD hS hA [4, 5, 6, 2, 3, 1] rfl
                        refine va_callv (va_runV (As := [.int (nI r)]) (rest := []) ⟨hx, hb, hml, hown, hts⟩ (c_X8_doubled l  dC dI H.size h0 th q2 q3 q5 q6 q15 c2 c3 c5 c6 c15 (upd ur_75 (((4200 * r) + 2000) + b9) 1) (upd a3 r (nI (nz + 1))) a5 g6 a15 v1 (.ref q4) (.ref q7) v8 v9 v10 v11 v12 v13 v14 v16 r t9 (nz + 1) hr9 u1_ (by first | omega | exact p2_1024 u3_ (by omega)) u3_ q6_ pk_us (by omega)) (cwV 1 hts gX8_hashed_X8_doubled rfl rfl rfl (by decide +kernel) ⟨(Nat.le_of_ble_eq_true rfl), (Nat.le_of_ble_eq_true rfl)⟩) ⟨pk_blind, va_recv hKc hPc (ci := 8) (q0 := 0) rfl rfl, pk_call hPc hKc hDc⟩ rfl rfl hl.1 rfl (lv_room (Nat.le_of_ble_eq_true rfl)) dX8_hashed_211 ⟨(Nat.le_of_ble_eq_true rfl), (Nat.le_of_ble_eq_true rfl)⟩) hS (fun q _ h => hFc q h) hFc (fun ur_88 t H1 locs ht hvm hw hB hz1 hk1 hS => ?_)
                        try dsimp only at hw
                        have jr_88 := hw
                        obtain ⟨hP1, hK1, hD1⟩ := hB
                        rw [ht] at hP1
                        have hK1 := va_K.moved hvm.symm hK1
                        obtain ⟨hP, hD⟩ := va_join (wr := [(q4, .inl (c4, 16, .inl a4)), (q7, .inl (c7, 16, .inl (upd a7 r (a7 r + 1))))]) (w1 := [(h0, .inr (8, [.int th, v1, .ref q2, .ref q3, .ref q4, .ref q5, .ref q6, .ref q7, v8, v9, v10, v11, v12, v13, v14, .ref q15, v16])), (q2, .inl (c2, 67200, .inl ur_88.1)), (q3, .inl (c3, 16, .inl (upd a3 r (nI (nz + 1))))), (q5, .inl (c5, 16, .inl a5)), (q6, .inl (c6, 16, .inl (upd g6 r (nI (2 * t9))))), (q15, .inl (c15, 4096, .inl ur_88.2))]) hP hD [4, 5, 6, 2, 3, 1] [0, 7] rfl rfl (by decide) (by decide) hk1 hFc hP1 hD1
                        clear hk1 hz1 ht hPc hDc hKc hFc
                        generalize H1 = H at hP hS ⊢
                        replace hP : va_P (dC, dI) vwCl [(q4, .inl (c4, 16, .inl a4)), (q7, .inl (c7, 16, .inl (upd a7 r (a7 r + 1)))), (h0, .inr (8, [.int th, v1, .ref q2, .ref q3, .ref q4, .ref q5, .ref q6, .ref q7, v8, v9, v10, v11, v12, v13, v14, .ref q15, v16])), (q2, .inl (c2, 67200, .inl ur_88.1)), (q3, .inl (c3, 16, .inl (upd a3 r (nI (nz + 1))))), (q5, .inl (c5, 16, .inl a5)), (q6, .inl (c6, 16, .inl (upd g6 r (nI (2 * t9))))), (q15, .inl (c15, 4096, .inl ur_88.2))] H := hP
                        replace hD : va_D A [(q4, .inl (c4, 16, .inl a4)), (q7, .inl (c7, 16, .inl (upd a7 r (a7 r + 1)))), (h0, .inr (8, [.int th, v1, .ref q2, .ref q3, .ref q4, .ref q5, .ref q6, .ref q7, v8, v9, v10, v11, v12, v13, v14, .ref q15, v16])), (q2, .inl (c2, 67200, .inl ur_88.1)), (q3, .inl (c3, 16, .inl (upd a3 r (nI (nz + 1))))), (q5, .inl (c5, 16, .inl a5)), (q6, .inl (c6, 16, .inl (upd g6 r (nI (2 * t9))))), (q15, .inl (c15, 4096, .inl ur_88.2))] := hD
                        refine W.widen (k := 0) (n := 0) (Nat.le_of_ble_eq_true rfl) (Nat.le_of_ble_eq_true rfl) ?_
                        refine W.eq (g2 := F0 m 214 ls []) rfl ?_
                        have qo := outR_tr (outR_up' qo (k := 2000 + b9) (by omega) (by omega)) jr_88
                        have q6_ : (upd g6 r (nI (2 * t9))) r = nI (2 * t9) := pk_us
                        have qw : ∀ q : Nat, q ≠ r → (upd g6 r (nI (2 * t9))) q = a6 q := fun q hq => (pk_un hq).trans (qw q hq)
                        have u3_ := p2_dbl u3_
                        have u1_ : 1 ≤ 2 * t9 := by omega
                        have u2_ : 2 * t9 ≤ 2048 := by first | omega | (have := p2_1024 (t := t9) (by assumption) (by omega); omega)
                        have hP9 := hP.sub (ws' := [(h0, .inr (8, [.int th, v1, .ref q2, .ref q3, .ref q4, .ref q5, .ref q6, .ref q7, v8, v9, v10, v11, v12, v13, v14, .ref q15, v16])), (q2, .inl (c2, 67200, .inl ur_88.1)), (q3, .inl (c3, 16, .inl (upd a3 r (nI (nz + 1))))), (q4, .inl (c4, 16, .inl a4)), (q5, .inl (c5, 16, .inl a5)), (q6, .inl (c6, 16, .inl (upd g6 r (nI (2 * t9))))), (q7, .inl (c7, 16, .inl (upd a7 r (a7 r + 1)))), (q15, .inl (c15, 4096, .inl ur_88.2))]) [2, 3, 4, 0, 5, 6, 1, 7] rfl
                        have hD9 := hD.sub (ws' := [(h0, .inr (8, [.int th, v1, .ref q2, .ref q3, .ref q4, .ref q5, .ref q6, .ref q7, v8, v9, v10, v11, v12, v13, v14, .ref q15, v16])), (q2, .inl (c2, 67200, .inl ur_88.1)), (q3, .inl (c3, 16, .inl (upd a3 r (nI (nz + 1))))), (q4, .inl (c4, 16, .inl a4)), (q5, .inl (c5, 16, .inl a5)), (q6, .inl (c6, 16, .inl (upd g6 r (nI (2 * t9))))), (q7, .inl (c7, 16, .inl (upd a7 r (a7 r + 1)))), (q15, .inl (c15, 4096, .inl ur_88.2))]) [2, 3, 4, 0, 5, 6, 1, 7] (by decide) rfl
                        have hK9 := hK.sub (tys' := [(c2, .int), (c3, .int), (c4, .int), (c5, .int), (c6, .int), (c7, .int), (c15, .boolean)]) [0, 1, 2, 3, 4, 5, 6] rfl
                        refine W.widen (k := 0) (n := 0) (Nat.le_of_ble_eq_true rfl) (Nat.le_of_ble_eq_true rfl) ?_
                        exact W.vret hx hb hr (fun t ht hW => ⟨⟨(ur_88.1, (upd g6 r (nI (2 * t9))), ur_88.2), rfl, ⟨qo, qw, (2 * t9), q6_, u1_, u2_, u3_, by omega⟩, by rw [ht]; exact hP9, va_K.moved hW.alike hK9, hD9⟩, hS.F ht⟩) hS.2.2 dX8_hashed_214
                    ·
                      have ic_81 : ((t9 : Nat) : Int) < 64 := tx_nle (by decide) (nI_toInt (by omega)) c_81
                      refine lv_aload_n hx hb dX8_hashed_164 rfl (lv_at hl 3 rfl) ?_
                      refine lv_iload_n hx hb dX8_hashed_165 rfl (lv_at hl 4 rfl) ?_
                      have hPc := hP.sub (ws' := [(h0, .inr (8, [.int th, v1, .ref q2, .ref q3, .ref q4, .ref q5, .ref q6, .ref q7, v8, v9, v10, v11, v12, v13, v14, .ref q15, v16])), (q2, .inl (c2, 67200, .inl ur_75)), (q3, .inl (c3, 16, .inl (upd a3 r (nI (nz + 1))))), (q5, .inl (c5, 16, .inl a5)), (q6, .inl (c6, 16, .inl g6)), (q15, .inl (c15, 4096, .inl a15))]) [4, 5, 6, 2, 3, 1] rfl
                      have hDc := hD.sub (ws' := [(h0, .inr (8, [.int th, v1, .ref q2, .ref q3, .ref q4, .ref q5, .ref q6, .ref q7, v8, v9, v10, v11, v12, v13, v14, .ref q15, v16])), (q2, .inl (c2, 67200, .inl ur_75)), (q3, .inl (c3, 16, .inl (upd a3 r (nI (nz + 1))))), (q5, .inl (c5, 16, .inl a5)), (q6, .inl (c6, 16, .inl g6)), (q15, .inl (c15, 4096, .inl a15))]) [4, 5, 6, 2, 3, 1] (by decide) rfl
                      have hKc := hK.sub (tys' := [(c2, .int), (c3, .int), (c5, .int), (c6, .int), (c15, .boolean)]) [0, 1, 3, 4, 6] rfl
                      have hFc := va_free (wc := [(h0, .inr (8, [.int th, v1, .ref q2, .ref q3, .ref q4, .ref q5, .ref q6, .ref q7, v8, v9, v10, v11, v12, v13, v14, .ref q15, v16])), (q2, .inl (c2, 67200, .inl ur_75)), (q3, .inl (c3, 16, .inl (upd a3 r (nI (nz + 1))))), (q5, .inl (c5, 16, .inl a5)), (q6, .inl (c6, 16, .inl g6)), (q15, .inl (c15, 4096, .inl a15))]) hD hS hA [4, 5, 6, 2, 3, 1] rfl
                      refine va_callv (va_runV (As := [.int (nI r)]) (rest := []) ⟨hx, hb, hml, hown, hts⟩ (c_X8_doubled l  dC dI H.size h0 th q2 q3 q5 q6 q15 c2 c3 c5 c6 c15 ur_75 (upd a3 r (nI (nz + 1))) a5 g6 a15 v1 (.ref q4) (.ref q7) v8 v9 v10 v11 v12 v13 v14 v16 r t9 (nz + 1) hr9 u1_ (by first | omega | exact p2_1024 u3_ (by omega)) u3_ q6_ pk_us (by omega)) (cwV 1 hts gX8_hashed_X8_doubled rfl rfl rfl (by decide +kernel) ⟨(Nat.le_of_ble_eq_true rfl), (Nat.le_of_ble_eq_true rfl)⟩) ⟨pk_blind, va_recv hKc hPc (ci := 8) (q0 := 0) rfl rfl, pk_call hPc hKc hDc⟩ rfl rfl hl.1 rfl (lv_room (Nat.le_of_ble_eq_true rfl)) dX8_hashed_166 ⟨(Nat.le_of_ble_eq_true rfl), (Nat.le_of_ble_eq_true rfl)⟩) hS (fun q _ h => hFc q h) hFc (fun ur_89 t H1 locs ht hvm hw hB hz1 hk1 hS => ?_)
                      try dsimp only at hw
                      have jr_89 := hw
                      obtain ⟨hP1, hK1, hD1⟩ := hB
                      rw [ht] at hP1
                      have hK1 := va_K.moved hvm.symm hK1
                      obtain ⟨hP, hD⟩ := va_join (wr := [(q4, .inl (c4, 16, .inl a4)), (q7, .inl (c7, 16, .inl (upd a7 r (a7 r + 1))))]) (w1 := [(h0, .inr (8, [.int th, v1, .ref q2, .ref q3, .ref q4, .ref q5, .ref q6, .ref q7, v8, v9, v10, v11, v12, v13, v14, .ref q15, v16])), (q2, .inl (c2, 67200, .inl ur_89.1)), (q3, .inl (c3, 16, .inl (upd a3 r (nI (nz + 1))))), (q5, .inl (c5, 16, .inl a5)), (q6, .inl (c6, 16, .inl (upd g6 r (nI (2 * t9))))), (q15, .inl (c15, 4096, .inl ur_89.2))]) hP hD [4, 5, 6, 2, 3, 1] [0, 7] rfl rfl (by decide) (by decide) hk1 hFc hP1 hD1
                      clear hk1 hz1 ht hPc hDc hKc hFc
                      generalize H1 = H at hP hS ⊢
                      replace hP : va_P (dC, dI) vwCl [(q4, .inl (c4, 16, .inl a4)), (q7, .inl (c7, 16, .inl (upd a7 r (a7 r + 1)))), (h0, .inr (8, [.int th, v1, .ref q2, .ref q3, .ref q4, .ref q5, .ref q6, .ref q7, v8, v9, v10, v11, v12, v13, v14, .ref q15, v16])), (q2, .inl (c2, 67200, .inl ur_89.1)), (q3, .inl (c3, 16, .inl (upd a3 r (nI (nz + 1))))), (q5, .inl (c5, 16, .inl a5)), (q6, .inl (c6, 16, .inl (upd g6 r (nI (2 * t9))))), (q15, .inl (c15, 4096, .inl ur_89.2))] H := hP
                      replace hD : va_D A [(q4, .inl (c4, 16, .inl a4)), (q7, .inl (c7, 16, .inl (upd a7 r (a7 r + 1)))), (h0, .inr (8, [.int th, v1, .ref q2, .ref q3, .ref q4, .ref q5, .ref q6, .ref q7, v8, v9, v10, v11, v12, v13, v14, .ref q15, v16])), (q2, .inl (c2, 67200, .inl ur_89.1)), (q3, .inl (c3, 16, .inl (upd a3 r (nI (nz + 1))))), (q5, .inl (c5, 16, .inl a5)), (q6, .inl (c6, 16, .inl (upd g6 r (nI (2 * t9))))), (q15, .inl (c15, 4096, .inl ur_89.2))] := hD
                      refine W.widen (k := 0) (n := 0) (Nat.le_of_ble_eq_true rfl) (Nat.le_of_ble_eq_true rfl) ?_
                      refine W.eq (g2 := F0 m 169 ls []) rfl ?_
                      have qo := outR_tr qo jr_89
                      have q6_ : (upd g6 r (nI (2 * t9))) r = nI (2 * t9) := pk_us
                      have qw : ∀ q : Nat, q ≠ r → (upd g6 r (nI (2 * t9))) q = a6 q := fun q hq => (pk_un hq).trans (qw q hq)
                      have u3_ := p2_dbl u3_
                      have u1_ : 1 ≤ 2 * t9 := by omega
                      have u2_ : 2 * t9 ≤ 2048 := by first | omega | (have := p2_1024 (t := t9) (by assumption) (by omega); omega)
                      refine lv_goto (tgt := 190) hx hb dX8_hashed_169 (by decide) ?_
                      refine lv_aload_n hx hb dX8_hashed_190 rfl (lv_at hl 3 rfl) ?_
                      refine va_get (D := (dC, dI)) (ci := 8) (v := .ref q3) (C := RX8) (T := TX8) (N := 17) hx hb hts hi0_ hown hK hP 2 rfl rfl 3 (by decide) hw1_ (fun _ h9 => h9) rfl dX8_hashed_191 ?_
                      refine lv_iload_n hx hb dX8_hashed_194 rfl (lv_at hl 4 rfl) ?_
                      refine va_iald (i := nI r) hx hb hK hP 4 1 rfl rfl (vp_in_nI (by omega) (by omega)) dX8_hashed_195 ?_
                      refine W.eq (g2 := F0 m 196 ls [.int ((upd a3 r (nI (nz + 1))) r)]) (by rw [nI_clamp (by omega)]) ?_
                      refine W.eq (g2 := F0 m 196 ls [.int (nI (nz + 1))]) (by rw [pk_us]) ?_
                      refine lv_iconst (v := 4) hx hb dX8_hashed_196 (by decide) ?_
                      refine lv_imul hx hb dX8_hashed_197 ?_
                      refine lv_topi (fun z_90 ez_90 => ?_)
                      obtain rfl : z_90 = nI ((nz + 1) * 4) := ez_90.trans (by rw [show (4 : Int32) = nI 4 from rfl, pk_mul])
                      refine lv_aload_n hx hb dX8_hashed_198 rfl (lv_at hl 3 rfl) ?_
                      refine va_get (D := (dC, dI)) (ci := 8) (v := .ref q6) (C := RX8) (T := TX8) (N := 17) hx hb hts hi0_ hown hK hP 2 rfl rfl 6 (by decide) hw0_ (fun _ h9 => h9) rfl dX8_hashed_199 ?_
                      refine lv_iload_n hx hb dX8_hashed_202 rfl (lv_at hl 4 rfl) ?_
                      refine va_iald (i := nI r) hx hb hK hP 6 4 rfl rfl (vp_in_nI (by omega) (by omega)) dX8_hashed_203 ?_
                      refine W.eq (g2 := F0 m 204 ls [.int ((upd g6 r (nI (2 * t9))) r), .int (nI ((nz + 1) * 4))]) (by rw [nI_clamp (by omega)]) ?_
                      refine W.eq (g2 := F0 m 204 ls [.int (nI (2 * t9)), .int (nI ((nz + 1) * 4))]) (by rw [q6_]) ?_
                      refine lv_iconst (v := 3) hx hb dX8_hashed_204 (by decide) ?_
                      refine lv_imul hx hb dX8_hashed_205 ?_
                      refine lv_topi (fun z_91 ez_91 => ?_)
                      obtain rfl : z_91 = nI ((2 * t9) * 3) := ez_91.trans (by rw [show (3 : Int32) = nI 3 from rfl, pk_mul])
                      refine lv_icmp_le (tgt := 214) hx hb dX8_hashed_206 (by decide) (fun c_92 => ?_) (fun c_92 => ?_)
                      ·
                        have ic_92 : (((nz + 1) * 4 : Nat) : Int) ≤ (((2 * t9) * 3 : Nat) : Int) := tx_le (nI_toInt (by omega)) (nI_toInt (by omega)) c_92
                        have hP9 := hP.sub (ws' := [(h0, .inr (8, [.int th, v1, .ref q2, .ref q3, .ref q4, .ref q5, .ref q6, .ref q7, v8, v9, v10, v11, v12, v13, v14, .ref q15, v16])), (q2, .inl (c2, 67200, .inl ur_89.1)), (q3, .inl (c3, 16, .inl (upd a3 r (nI (nz + 1))))), (q4, .inl (c4, 16, .inl a4)), (q5, .inl (c5, 16, .inl a5)), (q6, .inl (c6, 16, .inl (upd g6 r (nI (2 * t9))))), (q7, .inl (c7, 16, .inl (upd a7 r (a7 r + 1)))), (q15, .inl (c15, 4096, .inl ur_89.2))]) [2, 3, 4, 0, 5, 6, 1, 7] rfl
                        have hD9 := hD.sub (ws' := [(h0, .inr (8, [.int th, v1, .ref q2, .ref q3, .ref q4, .ref q5, .ref q6, .ref q7, v8, v9, v10, v11, v12, v13, v14, .ref q15, v16])), (q2, .inl (c2, 67200, .inl ur_89.1)), (q3, .inl (c3, 16, .inl (upd a3 r (nI (nz + 1))))), (q4, .inl (c4, 16, .inl a4)), (q5, .inl (c5, 16, .inl a5)), (q6, .inl (c6, 16, .inl (upd g6 r (nI (2 * t9))))), (q7, .inl (c7, 16, .inl (upd a7 r (a7 r + 1)))), (q15, .inl (c15, 4096, .inl ur_89.2))]) [2, 3, 4, 0, 5, 6, 1, 7] (by decide) rfl
                        have hK9 := hK.sub (tys' := [(c2, .int), (c3, .int), (c4, .int), (c5, .int), (c6, .int), (c7, .int), (c15, .boolean)]) [0, 1, 2, 3, 4, 5, 6] rfl
                        refine W.widen (k := 0) (n := 0) (Nat.le_of_ble_eq_true rfl) (Nat.le_of_ble_eq_true rfl) ?_
                        exact W.vret hx hb hr (fun t ht hW => ⟨⟨(ur_89.1, (upd g6 r (nI (2 * t9))), ur_89.2), rfl, ⟨qo, qw, (2 * t9), q6_, u1_, u2_, u3_, by omega⟩, by rw [ht]; exact hP9, va_K.moved hW.alike hK9, hD9⟩, hS.F ht⟩) hS.2.2 dX8_hashed_214
                      ·
                        have ic_92 : (((2 * t9) * 3 : Nat) : Int) < (((nz + 1) * 4 : Nat) : Int) := tx_nle (nI_toInt (by omega)) (nI_toInt (by omega)) c_92
                        refine lv_aload_n hx hb dX8_hashed_209 rfl (lv_at hl 3 rfl) ?_
                        refine lv_iload_n hx hb dX8_hashed_210 rfl (lv_at hl 4 rfl) ?_
                        have hPc := hP.sub (ws' := [(h0, .inr (8, [.int th, v1, .ref q2, .ref q3, .ref q4, .ref q5, .ref q6, .ref q7, v8, v9, v10, v11, v12, v13, v14, .ref q15, v16])), (q2, .inl (c2, 67200, .inl ur_89.1)), (q3, .inl (c3, 16, .inl (upd a3 r (nI (nz + 1))))), (q5, .inl (c5, 16, .inl a5)), (q6, .inl (c6, 16, .inl (upd g6 r (nI (2 * t9))))), (q15, .inl (c15, 4096, .inl ur_89.2))]) [2, 3, 4, 5, 6, 7] rfl
                        have hDc := hD.sub (ws' := [(h0, .inr (8, [.int th, v1, .ref q2, .ref q3, .ref q4, .ref q5, .ref q6, .ref q7, v8, v9, v10, v11, v12, v13, v14, .ref q15, v16])), (q2, .inl (c2, 67200, .inl ur_89.1)), (q3, .inl (c3, 16, .inl (upd a3 r (nI (nz + 1))))), (q5, .inl (c5, 16, .inl a5)), (q6, .inl (c6, 16, .inl (upd g6 r (nI (2 * t9))))), (q15, .inl (c15, 4096, .inl ur_89.2))]) [2, 3, 4, 5, 6, 7] (by decide) rfl
                        have hKc := hK.sub (tys' := [(c2, .int), (c3, .int), (c5, .int), (c6, .int), (c15, .boolean)]) [0, 1, 3, 4, 6] rfl
                        have hFc := va_free (wc := [(h0, .inr (8, [.int th, v1, .ref q2, .ref q3, .ref q4, .ref q5, .ref q6, .ref q7, v8, v9, v10, v11, v12, v13, v14, .ref q15, v16])), (q2, .inl (c2, 67200, .inl ur_89.1)), (q3, .inl (c3, 16, .inl (upd a3 r (nI (nz + 1))))), (q5, .inl (c5, 16, .inl a5)), (q6, .inl (c6, 16, .inl (upd g6 r (nI (2 * t9))))), (q15, .inl (c15, 4096, .inl ur_89.2))]) hD hS hA [2, 3, 4, 5, 6, 7] rfl
                        refine va_callv (va_runV (As := [.int (nI r)]) (rest := []) ⟨hx, hb, hml, hown, hts⟩ (c_X8_doubled l  dC dI H.size h0 th q2 q3 q5 q6 q15 c2 c3 c5 c6 c15 ur_89.1 (upd a3 r (nI (nz + 1))) a5 (upd g6 r (nI (2 * t9))) ur_89.2 v1 (.ref q4) (.ref q7) v8 v9 v10 v11 v12 v13 v14 v16 r (2 * t9) (nz + 1) hr9 u1_ (by first | omega | exact p2_1024 u3_ (by omega)) u3_ q6_ pk_us (by omega)) (cwV 1 hts gX8_hashed_X8_doubled rfl rfl rfl (by decide +kernel) ⟨(Nat.le_of_ble_eq_true rfl), (Nat.le_of_ble_eq_true rfl)⟩) ⟨pk_blind, va_recv hKc hPc (ci := 8) (q0 := 0) rfl rfl, pk_call hPc hKc hDc⟩ rfl rfl hl.1 rfl (lv_room (Nat.le_of_ble_eq_true rfl)) dX8_hashed_211 ⟨(Nat.le_of_ble_eq_true rfl), (Nat.le_of_ble_eq_true rfl)⟩) hS (fun q _ h => hFc q h) hFc (fun ur_93 t H1 locs ht hvm hw hB hz1 hk1 hS => ?_)
                        try dsimp only at hw
                        have jr_93 := hw
                        obtain ⟨hP1, hK1, hD1⟩ := hB
                        rw [ht] at hP1
                        have hK1 := va_K.moved hvm.symm hK1
                        obtain ⟨hP, hD⟩ := va_join (wr := [(q4, .inl (c4, 16, .inl a4)), (q7, .inl (c7, 16, .inl (upd a7 r (a7 r + 1))))]) (w1 := [(h0, .inr (8, [.int th, v1, .ref q2, .ref q3, .ref q4, .ref q5, .ref q6, .ref q7, v8, v9, v10, v11, v12, v13, v14, .ref q15, v16])), (q2, .inl (c2, 67200, .inl ur_93.1)), (q3, .inl (c3, 16, .inl (upd a3 r (nI (nz + 1))))), (q5, .inl (c5, 16, .inl a5)), (q6, .inl (c6, 16, .inl (upd (upd g6 r (nI (2 * t9))) r (nI (2 * (2 * t9)))))), (q15, .inl (c15, 4096, .inl ur_93.2))]) hP hD [2, 3, 4, 5, 6, 7] [0, 1] rfl rfl (by decide) (by decide) hk1 hFc hP1 hD1
                        clear hk1 hz1 ht hPc hDc hKc hFc
                        generalize H1 = H at hP hS ⊢
                        replace hP : va_P (dC, dI) vwCl [(q4, .inl (c4, 16, .inl a4)), (q7, .inl (c7, 16, .inl (upd a7 r (a7 r + 1)))), (h0, .inr (8, [.int th, v1, .ref q2, .ref q3, .ref q4, .ref q5, .ref q6, .ref q7, v8, v9, v10, v11, v12, v13, v14, .ref q15, v16])), (q2, .inl (c2, 67200, .inl ur_93.1)), (q3, .inl (c3, 16, .inl (upd a3 r (nI (nz + 1))))), (q5, .inl (c5, 16, .inl a5)), (q6, .inl (c6, 16, .inl (upd (upd g6 r (nI (2 * t9))) r (nI (2 * (2 * t9)))))), (q15, .inl (c15, 4096, .inl ur_93.2))] H := hP
                        replace hD : va_D A [(q4, .inl (c4, 16, .inl a4)), (q7, .inl (c7, 16, .inl (upd a7 r (a7 r + 1)))), (h0, .inr (8, [.int th, v1, .ref q2, .ref q3, .ref q4, .ref q5, .ref q6, .ref q7, v8, v9, v10, v11, v12, v13, v14, .ref q15, v16])), (q2, .inl (c2, 67200, .inl ur_93.1)), (q3, .inl (c3, 16, .inl (upd a3 r (nI (nz + 1))))), (q5, .inl (c5, 16, .inl a5)), (q6, .inl (c6, 16, .inl (upd (upd g6 r (nI (2 * t9))) r (nI (2 * (2 * t9)))))), (q15, .inl (c15, 4096, .inl ur_93.2))] := hD
                        refine W.widen (k := 0) (n := 0) (Nat.le_of_ble_eq_true rfl) (Nat.le_of_ble_eq_true rfl) ?_
                        refine W.eq (g2 := F0 m 214 ls []) rfl ?_
                        have qo := outR_tr qo jr_93
                        have q6_ : (upd (upd g6 r (nI (2 * t9))) r (nI (2 * (2 * t9)))) r = nI (2 * (2 * t9)) := pk_us
                        have qw : ∀ q : Nat, q ≠ r → (upd (upd g6 r (nI (2 * t9))) r (nI (2 * (2 * t9)))) q = a6 q := fun q hq => (pk_un hq).trans (qw q hq)
                        have u3_ := p2_dbl u3_
                        have u1_ : 1 ≤ 2 * (2 * t9) := by omega
                        have u2_ : 2 * (2 * t9) ≤ 2048 := by first | omega | (have := p2_1024 (t := (2 * t9)) (by assumption) (by omega); omega)
                        have hP9 := hP.sub (ws' := [(h0, .inr (8, [.int th, v1, .ref q2, .ref q3, .ref q4, .ref q5, .ref q6, .ref q7, v8, v9, v10, v11, v12, v13, v14, .ref q15, v16])), (q2, .inl (c2, 67200, .inl ur_93.1)), (q3, .inl (c3, 16, .inl (upd a3 r (nI (nz + 1))))), (q4, .inl (c4, 16, .inl a4)), (q5, .inl (c5, 16, .inl a5)), (q6, .inl (c6, 16, .inl (upd (upd g6 r (nI (2 * t9))) r (nI (2 * (2 * t9)))))), (q7, .inl (c7, 16, .inl (upd a7 r (a7 r + 1)))), (q15, .inl (c15, 4096, .inl ur_93.2))]) [2, 3, 4, 0, 5, 6, 1, 7] rfl
                        have hD9 := hD.sub (ws' := [(h0, .inr (8, [.int th, v1, .ref q2, .ref q3, .ref q4, .ref q5, .ref q6, .ref q7, v8, v9, v10, v11, v12, v13, v14, .ref q15, v16])), (q2, .inl (c2, 67200, .inl ur_93.1)), (q3, .inl (c3, 16, .inl (upd a3 r (nI (nz + 1))))), (q4, .inl (c4, 16, .inl a4)), (q5, .inl (c5, 16, .inl a5)), (q6, .inl (c6, 16, .inl (upd (upd g6 r (nI (2 * t9))) r (nI (2 * (2 * t9)))))), (q7, .inl (c7, 16, .inl (upd a7 r (a7 r + 1)))), (q15, .inl (c15, 4096, .inl ur_93.2))]) [2, 3, 4, 0, 5, 6, 1, 7] (by decide) rfl
                        have hK9 := hK.sub (tys' := [(c2, .int), (c3, .int), (c4, .int), (c5, .int), (c6, .int), (c7, .int), (c15, .boolean)]) [0, 1, 2, 3, 4, 5, 6] rfl
                        refine W.widen (k := 0) (n := 0) (Nat.le_of_ble_eq_true rfl) (Nat.le_of_ble_eq_true rfl) ?_
                        exact W.vret hx hb hr (fun t ht hW => ⟨⟨(ur_93.1, (upd (upd g6 r (nI (2 * t9))) r (nI (2 * (2 * t9)))), ur_93.2), rfl, ⟨qo, qw, (2 * (2 * t9)), q6_, u1_, u2_, u3_, by omega⟩, by rw [ht]; exact hP9, va_K.moved hW.alike hK9, hD9⟩, hS.F ht⟩) hS.2.2 dX8_hashed_214
                ·
                  have ic_74 : ((b9 : Nat) : Int) < r_73.toInt := tx_nle rfl (nI_toInt (by omega)) c_74
                  refine lv_iinc (v := nI (i3 - 1)) (lv' := [(6, .int (nI (i3 - 1))), (5, .int r_50), (4, .int (nI b9)), (0, .ref h0), (1, .int (nI r)), (2, .int p1), (3, .int p2)]) hx hb dX8_hashed_131 hl (k := 0) rfl (by rw [show Int32.ofInt (-1) = -1 from rfl]; exact sb_m1 (by omega)) (by decide) rfl (fun ls hl => ?_)
                  refine lv_goto (tgt := 107) hx hb dX8_hashed_134 (by decide) ?_
                  exact ihC (i3 := i3 - 1) (x3 := nI (i3 - 1)) (ex3 := rfl) (ls := ls) (H := H) (locs := locs) (hP := hP.sub (ws' := [(q4, .inl (c4, 16, .inl a4)), (q7, .inl (c7, 16, .inl a7)), (q15, .inl (c15, 4096, .inl a15)), (h0, .inr (8, [.int th, v1, .ref q2, .ref q3, .ref q4, .ref q5, .ref q6, .ref q7, v8, v9, v10, v11, v12, v13, v14, .ref q15, v16])), (q2, .inl (c2, 67200, .inl f1)), (q3, .inl (c3, 16, .inl a3)), (q5, .inl (c5, 16, .inl a5)), (q6, .inl (c6, 16, .inl g6))]) [0, 1, 2, 5, 4, 3, 6, 7] rfl) (hS := hS) (hi3 := by omega) (hn3 := by omega) (hl := lv_sub hl [0, 1, 2, 3, 4, 5, 6] rfl)
          ·
            have ic_48 : ((i2 : Nat) : Int) < ((t9 : Nat) : Int) := tx_nle (nI_toInt (by omega)) (nI_toInt (by omega)) c_48
            refine lv_aload_n hx hb dX8_hashed_58 rfl (lv_at hl 1 rfl) ?_
            refine va_get (D := (dC, dI)) (ci := 8) (v := .ref q2) (C := RX8) (T := TX8) (N := 17) hx hb hts hi0_ hown hK hP 0 rfl rfl 2 (by decide) hw2_ (fun _ h9 => h9) rfl dX8_hashed_59 ?_
            refine lv_sipush (v := 4200) hx hb dX8_hashed_62 (by decide) ?_
            refine lv_iload_n hx hb dX8_hashed_65 rfl (lv_at hl 2 rfl) ?_
            refine lv_imul hx hb dX8_hashed_66 ?_
            refine lv_topi (fun z_94 ez_94 => ?_)
            obtain rfl : z_94 = nI (4200 * r) := ez_94.trans (by rw [show (4200 : Int32) = nI 4200 from rfl, pk_mul])
            refine lv_sipush (v := 2000) hx hb dX8_hashed_67 (by decide) ?_
            refine lv_iadd hx hb dX8_hashed_70 ?_
            refine lv_topi (fun z_95 ez_95 => ?_)
            obtain rfl : z_95 = nI ((4200 * r) + 2000) := ez_95.trans (by rw [show (2000 : Int32) = nI 2000 from rfl, nI_add])
            refine lv_iload hx hb dX8_hashed_71 (lv_at hl 0 rfl) ?_
            refine lv_iadd hx hb dX8_hashed_73 ?_
            refine lv_topi (fun z_96 ez_96 => ?_)
            obtain rfl : z_96 = nI (((4200 * r) + 2000) + i2) := ez_96.trans (by rw [nI_add])
            refine lv_iconst (v := 0) hx hb dX8_hashed_74 (by decide) ?_
            refine va_iast (i := nI (((4200 * r) + 2000) + i2)) hx hb hK hP hD hS 1 0 rfl rfl (vp_in_nI (by omega) (by omega)) dX8_hashed_75 (fun H locs hP hD hS => ?_)
            rw [nI_clamp (by omega)] at hP hD
            replace hP : va_P (dC, dI) vwCl [(h0, .inr (8, [.int th, v1, .ref q2, .ref q3, .ref q4, .ref q5, .ref q6, .ref q7, v8, v9, v10, v11, v12, v13, v14, .ref q15, v16])), (q2, .inl (c2, 67200, .inl (upd f1 (((4200 * r) + 2000) + i2) 0))), (q3, .inl (c3, 16, .inl a3)), (q4, .inl (c4, 16, .inl a4)), (q5, .inl (c5, 16, .inl a5)), (q6, .inl (c6, 16, .inl g6)), (q7, .inl (c7, 16, .inl a7)), (q15, .inl (c15, 4096, .inl a15))] H := hP
            replace hD : va_D A [(h0, .inr (8, [.int th, v1, .ref q2, .ref q3, .ref q4, .ref q5, .ref q6, .ref q7, v8, v9, v10, v11, v12, v13, v14, .ref q15, v16])), (q2, .inl (c2, 67200, .inl (upd f1 (((4200 * r) + 2000) + i2) 0))), (q3, .inl (c3, 16, .inl a3)), (q4, .inl (c4, 16, .inl a4)), (q5, .inl (c5, 16, .inl a5)), (q6, .inl (c6, 16, .inl g6)), (q7, .inl (c7, 16, .inl a7)), (q15, .inl (c15, 4096, .inl a15))] := hD
            refine lv_iinc (v := nI (i2 + 1)) (lv' := [(4, .int (nI (i2 + 1))), (0, .ref h0), (1, .int (nI r)), (2, .int p1), (3, .int p2)]) hx hb dX8_hashed_76 hl (k := 0) rfl (by rw [show Int32.ofInt 1 = nI 1 from rfl, nI_add]) (by decide) rfl (fun ls hl => ?_)
            refine lv_goto (tgt := 47) hx hb dX8_hashed_79 (by decide) ?_
            exact ihB (i2 := i2 + 1) (x2 := nI (i2 + 1)) (ex2 := rfl) (ls := ls) (f1 := (upd f1 (((4200 * r) + 2000) + i2) 0)) (H := H) (locs := locs) (hP := hP.sub (ws' := [(h0, .inr (8, [.int th, v1, .ref q2, .ref q3, .ref q4, .ref q5, .ref q6, .ref q7, v8, v9, v10, v11, v12, v13, v14, .ref q15, v16])), (q2, .inl (c2, 67200, .inl (upd f1 (((4200 * r) + 2000) + i2) 0))), (q3, .inl (c3, 16, .inl a3)), (q4, .inl (c4, 16, .inl a4)), (q5, .inl (c5, 16, .inl a5)), (q6, .inl (c6, 16, .inl g6)), (q7, .inl (c7, 16, .inl a7)), (q15, .inl (c15, 4096, .inl a15))]) [0, 1, 2, 3, 4, 5, 6, 7] rfl) (hS := hS) (hD := hD.sub (ws' := [(h0, .inr (8, [.int th, v1, .ref q2, .ref q3, .ref q4, .ref q5, .ref q6, .ref q7, v8, v9, v10, v11, v12, v13, v14, .ref q15, v16])), (q2, .inl (c2, 67200, .inl (upd f1 (((4200 * r) + 2000) + i2) 0))), (q3, .inl (c3, 16, .inl a3)), (q4, .inl (c4, 16, .inl a4)), (q5, .inl (c5, 16, .inl a5)), (q6, .inl (c6, 16, .inl g6)), (q7, .inl (c7, 16, .inl a7)), (q15, .inl (c15, 4096, .inl a15))]) [0, 1, 2, 3, 4, 5, 6, 7] (by decide) rfl) (hi2 := by omega) (hn2 := by omega) (hv2 := outR_up' hv2 (k := 2000 + i2) (by omega) (by omega)) (hl := lv_sub hl [0, 1, 2, 3, 4] rfl)
      ·
        have ic_47 : ((t9 : Nat) : Int) < ((fi : Nat) : Int) := tx_nle (nI_toInt (by omega)) (nI_toInt (by omega)) c_47
        refine lv_aload_n hx hb dX8_hashed_31 rfl (lv_at hl 0 rfl) ?_
        refine va_get (D := (dC, dI)) (ci := 8) (v := .ref q6) (C := RX8) (T := TX8) (N := 17) hx hb hts hi0_ hown hK hP 0 rfl rfl 6 (by decide) hw0_ (fun _ h9 => h9) rfl dX8_hashed_32 ?_
        refine lv_iload_n hx hb dX8_hashed_35 rfl (lv_at hl 1 rfl) ?_
        refine lv_dup2_11 hx hb dX8_hashed_36 rfl rfl ?_
        refine va_iald (i := nI r) hx hb hK hP 5 4 rfl rfl (vp_in_nI (by omega) (by omega)) dX8_hashed_37 ?_
        refine W.eq (g2 := F0 m 38 ls [.int (g6 r), .int (nI r), .ref q6]) (by rw [nI_clamp (by omega)]) ?_
        refine W.eq (g2 := F0 m 38 ls [.int (nI t9), .int (nI r), .ref q6]) (by rw [hv6]) ?_
        refine lv_iconst (v := 2) hx hb dX8_hashed_38 (by decide) ?_
        refine lv_imul hx hb dX8_hashed_39 ?_
        refine lv_topi (fun z_97 ez_97 => ?_)
        obtain rfl : z_97 = nI (t9 * 2) := ez_97.trans (by rw [show (2 : Int32) = nI 2 from rfl, pk_mul])
        refine va_iast (i := nI r) hx hb hK hP hD hS 5 4 rfl rfl (vp_in_nI (by omega) (by omega)) dX8_hashed_40 (fun H locs hP hD hS => ?_)
        rw [nI_clamp (by omega)] at hP hD
        replace hP : va_P (dC, dI) vwCl [(h0, .inr (8, [.int th, v1, .ref q2, .ref q3, .ref q4, .ref q5, .ref q6, .ref q7, v8, v9, v10, v11, v12, v13, v14, .ref q15, v16])), (q2, .inl (c2, 67200, .inl a2)), (q3, .inl (c3, 16, .inl a3)), (q4, .inl (c4, 16, .inl a4)), (q5, .inl (c5, 16, .inl a5)), (q6, .inl (c6, 16, .inl (upd g6 r (nI (t9 * 2))))), (q7, .inl (c7, 16, .inl a7)), (q15, .inl (c15, 4096, .inl a15))] H := hP
        replace hD : va_D A [(h0, .inr (8, [.int th, v1, .ref q2, .ref q3, .ref q4, .ref q5, .ref q6, .ref q7, v8, v9, v10, v11, v12, v13, v14, .ref q15, v16])), (q2, .inl (c2, 67200, .inl a2)), (q3, .inl (c3, 16, .inl a3)), (q4, .inl (c4, 16, .inl a4)), (q5, .inl (c5, 16, .inl a5)), (q6, .inl (c6, 16, .inl (upd g6 r (nI (t9 * 2))))), (q7, .inl (c7, 16, .inl a7)), (q15, .inl (c15, 4096, .inl a15))] := hD
        refine lv_goto (tgt := 16) hx hb dX8_hashed_41 (by decide) ?_
        exact ihA (t9 := t9 * 2) (ls := ls) (g6 := (upd g6 r (nI (t9 * 2)))) (H := H) (locs := locs) (hP := hP.sub (ws' := [(h0, .inr (8, [.int th, v1, .ref q2, .ref q3, .ref q4, .ref q5, .ref q6, .ref q7, v8, v9, v10, v11, v12, v13, v14, .ref q15, v16])), (q2, .inl (c2, 67200, .inl a2)), (q3, .inl (c3, 16, .inl a3)), (q4, .inl (c4, 16, .inl a4)), (q5, .inl (c5, 16, .inl a5)), (q6, .inl (c6, 16, .inl (upd g6 r (nI (t9 * 2))))), (q7, .inl (c7, 16, .inl a7)), (q15, .inl (c15, 4096, .inl a15))]) [0, 1, 2, 3, 4, 5, 6, 7] rfl) (hS := hS) (hD := hD.sub (ws' := [(h0, .inr (8, [.int th, v1, .ref q2, .ref q3, .ref q4, .ref q5, .ref q6, .ref q7, v8, v9, v10, v11, v12, v13, v14, .ref q15, v16])), (q2, .inl (c2, 67200, .inl a2)), (q3, .inl (c3, 16, .inl a3)), (q4, .inl (c4, 16, .inl a4)), (q5, .inl (c5, 16, .inl a5)), (q6, .inl (c6, 16, .inl (upd g6 r (nI (t9 * 2))))), (q7, .inl (c7, 16, .inl a7)), (q15, .inl (c15, 4096, .inl a15))]) [0, 1, 2, 3, 4, 5, 6, 7] (by decide) rfl) (hv6 := pk_us) (hw6 := fun q hq => (pk_un hq).trans (hw6 q hq)) (h16 := by omega) (h26 := by have := p2_512 h36 (by omega); omega) (h36 := p2_dbl' h36) (hn6 := by omega) (hl := lv_sub hl [0, 1, 2, 3] rfl)
