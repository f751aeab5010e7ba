theorem dX8_over_0 : decode cX8_over 0 = .ok (.aload_n 0, 1) := by decide +kernel
theorem dX8_over_1 : decode cX8_over 1 = .ok (.iload_n 1, 1) := by decide +kernel
set_option maxRecDepth 20000 in
theorem ggX8_over_X8_root : GoodIn wsX8_over wsX8_root := goodIn_r _ [7, 8, 9, 71, 72, 73, 74, 75, 76, 77, 78, 79, 80, 81, 82, 83, 84, 85, 86, 87] rfl (by decide +kernel)
set_option maxRecDepth 20000 in
theorem gX8_over_X8_root : GoodIn wsX8_over (wsV RX8 95 RX8 yX8_root wsX8_root) := goodIn_app (goodIn_of _ (by decide +kernel)) ggX8_over_X8_root
theorem dX8_over_2 : decode cX8_over 2 = .ok (.invokevirtual 95, 3) := by decide +kernel
theorem dX8_over_5 : decode cX8_over 5 = .ok (.istore 4, 2) := by decide +kernel
theorem dX8_over_7 : decode cX8_over 7 = .ok (.aload_n 0, 1) := by decide +kernel
theorem dX8_over_8 : decode cX8_over 8 = .ok (.iload_n 1, 1) := by decide +kernel
set_option maxRecDepth 20000 in
theorem ggX8_over_X8_entries : GoodIn wsX8_over wsX8_entries := goodIn_r _ [13, 14, 3, 4, 5, 6, 7, 8, 9, 15, 16, 17, 18, 2, 19, 20, 21, 22, 23, 24, 25, 26, 27, 28, 29, 30, 31, 32, 33, 34, 35, 36, 37, 38, 39, 40, 41, 42, 43, 71, 72, 73, 74, 75, 76, 77, 78, 79, 80, 81, 82, 83, 84, 85, 86, 87] rfl (by decide +kernel)
set_option maxRecDepth 20000 in
theorem gX8_over_X8_entries : GoodIn wsX8_over (wsV RX8 158 RX8 yX8_entries wsX8_entries) := goodIn_app (goodIn_of _ (by decide +kernel)) ggX8_over_X8_entries
theorem dX8_over_9 : decode cX8_over 9 = .ok (.invokevirtual 158, 3) := by decide +kernel
theorem dX8_over_12 : decode cX8_over 12 = .ok (.istore 5, 2) := by decide +kernel
theorem dX8_over_14 : decode cX8_over 14 = .ok (.iconst 0, 1) := by decide +kernel
theorem dX8_over_15 : decode cX8_over 15 = .ok (.istore 6, 2) := by decide +kernel
theorem dX8_over_17 : decode cX8_over 17 = .ok (.iconst 0, 1) := by decide +kernel
theorem dX8_over_18 : decode cX8_over 18 = .ok (.istore 7, 2) := by decide +kernel
theorem dX8_over_20 : decode cX8_over 20 = .ok (.iload_n 2, 1) := by decide +kernel
theorem dX8_over_21 : decode cX8_over 21 = .ok (.bipush 22, 2) := by decide +kernel
theorem dX8_over_23 : decode cX8_over 23 = .ok (.if_icmp .ne 49, 3) := by decide +kernel
theorem dX8_over_72 : decode cX8_over 72 = .ok (.iload 5, 2) := by decide +kernel
theorem dX8_over_74 : decode cX8_over 74 = .ok (.iconst 1, 1) := by decide +kernel
theorem dX8_over_75 : decode cX8_over 75 = .ok (.isub, 1) := by decide +kernel
theorem dX8_over_76 : decode cX8_over 76 = .ok (.istore 8, 2) := by decide +kernel
theorem dX8_over_78 : decode cX8_over 78 = .ok (.iload 8, 2) := by decide +kernel
theorem dX8_over_80 : decode cX8_over 80 = .ok (.ifCond .lt 167, 3) := by decide +kernel
theorem dX8_over_247 : decode cX8_over 247 = .ok (.iload_n 2, 1) := by decide +kernel
theorem dX8_over_248 : decode cX8_over 248 = .ok (.bipush 18, 2) := by decide +kernel
theorem dX8_over_250 : decode cX8_over 250 = .ok (.if_icmp .ne 9, 3) := by decide +kernel
theorem dX8_over_259 : decode cX8_over 259 = .ok (.iload 6, 2) := by decide +kernel
theorem dX8_over_261 : decode cX8_over 261 = .ok (.i2l, 1) := by decide +kernel
theorem dX8_over_262 : decode cX8_over 262 = .ok (.lreturn, 1) := by decide +kernel
theorem dX8_over_253 : decode cX8_over 253 = .ok (.iload 7, 2) := by decide +kernel
theorem dX8_over_255 : decode cX8_over 255 = .ok (.i2l, 1) := by decide +kernel
theorem dX8_over_256 : decode cX8_over 256 = .ok (.goto 6, 3) := by decide +kernel
theorem dX8_over_83 : decode cX8_over 83 = .ok (.aload_n 0, 1) := by decide +kernel
theorem dX8_over_84 : decode cX8_over 84 = .ok (.iload_n 1, 1) := by decide +kernel
theorem dX8_over_85 : decode cX8_over 85 = .ok (.iload 8, 2) := by decide +kernel
set_option maxRecDepth 20000 in
theorem ggX8_over_X8_nth : GoodIn wsX8_over wsX8_nth := goodIn_r _ [47, 14, 3, 4, 5, 6, 7, 8, 9, 40, 41, 42, 43, 23, 15, 16, 17, 18, 2, 19, 20, 21, 22, 24, 25, 26, 27, 28, 29, 30, 31, 32, 33, 34, 35, 36, 37, 38, 39, 71, 72, 73, 74, 75, 76, 77, 78, 79, 80, 81, 82, 83, 84, 85, 86, 87] rfl (by decide +kernel)
set_option maxRecDepth 20000 in
theorem gX8_over_X8_nth : GoodIn wsX8_over (wsV RX8 188 RX8 yX8_nth wsX8_nth) := goodIn_app (goodIn_of _ (by decide +kernel)) ggX8_over_X8_nth
theorem dX8_over_87 : decode cX8_over 87 = .ok (.invokevirtual 188, 3) := by decide +kernel
theorem dX8_over_90 : decode cX8_over 90 = .ok (.istore 9, 2) := by decide +kernel
theorem dX8_over_92 : decode cX8_over 92 = .ok (.iload_n 2, 1) := by decide +kernel
theorem dX8_over_93 : decode cX8_over 93 = .ok (.bipush 9, 2) := by decide +kernel
theorem dX8_over_95 : decode cX8_over 95 = .ok (.if_icmp .ne 25, 3) := by decide +kernel
theorem dX8_over_120 : decode cX8_over 120 = .ok (.iload_n 2, 1) := by decide +kernel
theorem dX8_over_121 : decode cX8_over 121 = .ok (.bipush 18, 2) := by decide +kernel
theorem dX8_over_123 : decode cX8_over 123 = .ok (.if_icmp .ne 25, 3) := by decide +kernel
theorem dX8_over_148 : decode cX8_over 148 = .ok (.iload_n 2, 1) := by decide +kernel
theorem dX8_over_149 : decode cX8_over 149 = .ok (.bipush 23, 2) := by decide +kernel
theorem dX8_over_151 : decode cX8_over 151 = .ok (.if_icmp .ne 30, 3) := by decide +kernel
theorem dX8_over_181 : decode cX8_over 181 = .ok (.iload_n 2, 1) := by decide +kernel
theorem dX8_over_182 : decode cX8_over 182 = .ok (.bipush 24, 2) := by decide +kernel
theorem dX8_over_184 : decode cX8_over 184 = .ok (.if_icmp .ne 28, 3) := by decide +kernel
theorem dX8_over_212 : decode cX8_over 212 = .ok (.iload_n 2, 1) := by decide +kernel
theorem dX8_over_213 : decode cX8_over 213 = .ok (.bipush 25, 2) := by decide +kernel
theorem dX8_over_215 : decode cX8_over 215 = .ok (.if_icmp .ne 26, 3) := by decide +kernel
theorem dX8_over_241 : decode cX8_over 241 = .ok (.iinc 8 (-1), 3) := by decide +kernel
theorem dX8_over_244 : decode cX8_over 244 = .ok (.goto (-166), 3) := by decide +kernel
theorem dX8_over_218 : decode cX8_over 218 = .ok (.aload_n 0, 1) := by decide +kernel
theorem dX8_over_219 : decode cX8_over 219 = .ok (.iload 4, 2) := by decide +kernel
theorem dX8_over_221 : decode cX8_over 221 = .ok (.iload 9, 2) := by decide +kernel
set_option maxRecDepth 20000 in
theorem ggX8_over_X8_value : GoodIn wsX8_over wsX8_value := goodIn_r _ [51, 2, 71, 72, 73, 74, 75, 76, 77, 78, 79, 80, 81, 82, 83, 84, 85, 86, 87] rfl (by decide +kernel)
set_option maxRecDepth 20000 in
theorem gX8_over_X8_value : GoodIn wsX8_over (wsV RX8 118 RX8 yX8_value wsX8_value) := goodIn_app (goodIn_of _ (by decide +kernel)) ggX8_over_X8_value
theorem dX8_over_223 : decode cX8_over 223 = .ok (.invokevirtual 118, 3) := by decide +kernel
theorem dX8_over_226 : decode cX8_over 226 = .ok (.iload_n 3, 1) := by decide +kernel
theorem dX8_over_227 : decode cX8_over 227 = .ok (.if_icmp .ne 14, 3) := by decide +kernel
theorem dX8_over_230 : decode cX8_over 230 = .ok (.aload_n 0, 1) := by decide +kernel
theorem dX8_over_231 : decode cX8_over 231 = .ok (.iload 4, 2) := by decide +kernel
theorem dX8_over_233 : decode cX8_over 233 = .ok (.iload 9, 2) := by decide +kernel
set_option maxRecDepth 20000 in
theorem ggX8_over_X8_goes : GoodIn wsX8_over wsX8_goes := goodIn_r _ [55, 8, 14, 56, 2, 15, 16, 17, 6, 18, 57, 58, 59, 60, 61, 62, 1, 37, 38, 39, 48, 49, 50, 51, 63, 64, 65, 66, 67, 68, 69, 70, 71, 72, 73, 74, 75, 76, 77, 78, 79, 80, 81, 82, 83, 84, 85, 86, 87] rfl (by decide +kernel)
set_option maxRecDepth 20000 in
theorem gX8_over_X8_goes : GoodIn wsX8_over (wsV RX8 128 RX8 yX8_goes wsX8_goes) := goodIn_app (goodIn_of _ (by decide +kernel)) ggX8_over_X8_goes
theorem dX8_over_235 : decode cX8_over 235 = .ok (.invokevirtual 128, 3) := by decide +kernel
theorem dX8_over_238 : decode cX8_over 238 = .ok (.iinc 6 1, 3) := by decide +kernel
theorem dX8_over_187 : decode cX8_over 187 = .ok (.aload_n 0, 1) := by decide +kernel
theorem dX8_over_188 : decode cX8_over 188 = .ok (.getfield 14, 3) := by decide +kernel
theorem dX8_over_191 : decode cX8_over 191 = .ok (.sipush 4200, 3) := by decide +kernel
theorem dX8_over_194 : decode cX8_over 194 = .ok (.iload 4, 2) := by decide +kernel
theorem dX8_over_196 : decode cX8_over 196 = .ok (.imul, 1) := by decide +kernel
theorem dX8_over_197 : decode cX8_over 197 = .ok (.sipush 1000, 3) := by decide +kernel
theorem dX8_over_200 : decode cX8_over 200 = .ok (.iadd, 1) := by decide +kernel
theorem dX8_over_201 : decode cX8_over 201 = .ok (.iload 9, 2) := by decide +kernel
theorem dX8_over_203 : decode cX8_over 203 = .ok (.iadd, 1) := by decide +kernel
theorem dX8_over_204 : decode cX8_over 204 = .ok (.dup2, 1) := by decide +kernel
theorem dX8_over_205 : decode cX8_over 205 = .ok (.iaload, 1) := by decide +kernel
theorem dX8_over_206 : decode cX8_over 206 = .ok (.iload_n 3, 1) := by decide +kernel
theorem dX8_over_207 : decode cX8_over 207 = .ok (.iadd, 1) := by decide +kernel
theorem dX8_over_208 : decode cX8_over 208 = .ok (.iastore, 1) := by decide +kernel
theorem dX8_over_209 : decode cX8_over 209 = .ok (.iinc 6 1, 3) := by decide +kernel
theorem dX8_over_154 : decode cX8_over 154 = .ok (.iload 6, 2) := by decide +kernel
theorem dX8_over_156 : decode cX8_over 156 = .ok (.aload_n 0, 1) := by decide +kernel
theorem dX8_over_157 : decode cX8_over 157 = .ok (.iload_n 1, 1) := by decide +kernel
theorem dX8_over_158 : decode cX8_over 158 = .ok (.aload_n 0, 1) := by decide +kernel
theorem dX8_over_159 : decode cX8_over 159 = .ok (.iload 4, 2) := by decide +kernel
theorem dX8_over_161 : decode cX8_over 161 = .ok (.iload 9, 2) := by decide +kernel
set_option maxRecDepth 20000 in
theorem ggX8_over_X8_key : GoodIn wsX8_over wsX8_key := goodIn_r _ [18, 2, 71, 72, 73, 74, 75, 76, 77, 78, 79, 80, 81, 82, 83, 84, 85, 86, 87] rfl (by decide +kernel)
set_option maxRecDepth 20000 in
theorem gX8_over_X8_key : GoodIn wsX8_over (wsV RX8 111 RX8 yX8_key wsX8_key) := goodIn_app (goodIn_of _ (by decide +kernel)) ggX8_over_X8_key
theorem dX8_over_163 : decode cX8_over 163 = .ok (.invokevirtual 111, 3) := by decide +kernel
theorem dX8_over_166 : decode cX8_over 166 = .ok (.iload_n 3, 1) := by decide +kernel
set_option maxRecDepth 20000 in
theorem ggX8_over_X8_ordered : GoodIn wsX8_over wsX8_ordered := goodIn_r _ [29, 30, 3, 4, 5, 6, 7, 8, 9, 31, 32, 33, 34, 35, 36, 37, 38, 39, 40, 41, 42, 43, 23, 71, 72, 73, 74, 75, 76, 77, 78, 79, 80, 81, 82, 83, 84, 85, 86, 87] rfl (by decide +kernel)
set_option maxRecDepth 20000 in
theorem gX8_over_X8_ordered : GoodIn wsX8_over (wsV RX8 105 RX8 yX8_ordered wsX8_ordered) := goodIn_app (goodIn_of _ (by decide +kernel)) ggX8_over_X8_ordered
theorem dX8_over_167 : decode cX8_over 167 = .ok (.invokevirtual 105, 3) := by decide +kernel
theorem dX8_over_170 : decode cX8_over 170 = .ok (.ifCond .ge 7, 3) := by decide +kernel
theorem dX8_over_177 : decode cX8_over 177 = .ok (.iconst 0, 1) := by decide +kernel
theorem dX8_over_178 : decode cX8_over 178 = .ok (.iadd, 1) := by decide +kernel
theorem dX8_over_179 : decode cX8_over 179 = .ok (.istore 6, 2) := by decide +kernel
theorem dX8_over_173 : decode cX8_over 173 = .ok (.iconst 1, 1) := by decide +kernel
theorem dX8_over_174 : decode cX8_over 174 = .ok (.goto 4, 3) := by decide +kernel
theorem dX8_over_126 : decode cX8_over 126 = .ok (.iload 7, 2) := by decide +kernel
theorem dX8_over_128 : decode cX8_over 128 = .ok (.aload_n 0, 1) := by decide +kernel
theorem dX8_over_129 : decode cX8_over 129 = .ok (.iload 4, 2) := by decide +kernel
theorem dX8_over_131 : decode cX8_over 131 = .ok (.iload 9, 2) := by decide +kernel
theorem dX8_over_133 : decode cX8_over 133 = .ok (.invokevirtual 111, 3) := by decide +kernel
theorem dX8_over_136 : decode cX8_over 136 = .ok (.aload_n 0, 1) := by decide +kernel
theorem dX8_over_137 : decode cX8_over 137 = .ok (.iload 4, 2) := by decide +kernel
theorem dX8_over_139 : decode cX8_over 139 = .ok (.iload 9, 2) := by decide +kernel
theorem dX8_over_141 : decode cX8_over 141 = .ok (.invokevirtual 118, 3) := by decide +kernel
theorem dX8_over_144 : decode cX8_over 144 = .ok (.ixor, 1) := by decide +kernel
theorem dX8_over_145 : decode cX8_over 145 = .ok (.iadd, 1) := by decide +kernel
theorem dX8_over_146 : decode cX8_over 146 = .ok (.istore 7, 2) := by decide +kernel
theorem dX8_over_98 : decode cX8_over 98 = .ok (.iload 6, 2) := by decide +kernel
theorem dX8_over_100 : decode cX8_over 100 = .ok (.aload_n 0, 1) := by decide +kernel
theorem dX8_over_101 : decode cX8_over 101 = .ok (.iload 4, 2) := by decide +kernel
theorem dX8_over_103 : decode cX8_over 103 = .ok (.iload 9, 2) := by decide +kernel
theorem dX8_over_105 : decode cX8_over 105 = .ok (.invokevirtual 118, 3) := by decide +kernel
theorem dX8_over_108 : decode cX8_over 108 = .ok (.iload_n 3, 1) := by decide +kernel
theorem dX8_over_109 : decode cX8_over 109 = .ok (.if_icmp .ne 7, 3) := by decide +kernel
theorem dX8_over_116 : decode cX8_over 116 = .ok (.iconst 0, 1) := by decide +kernel
theorem dX8_over_117 : decode cX8_over 117 = .ok (.iadd, 1) := by decide +kernel
theorem dX8_over_118 : decode cX8_over 118 = .ok (.istore 6, 2) := by decide +kernel
theorem dX8_over_112 : decode cX8_over 112 = .ok (.iconst 1, 1) := by decide +kernel
theorem dX8_over_113 : decode cX8_over 113 = .ok (.goto 4, 3) := by decide +kernel
theorem dX8_over_26 : decode cX8_over 26 = .ok (.iconst 0, 1) := by decide +kernel
theorem dX8_over_27 : decode cX8_over 27 = .ok (.istore 8, 2) := by decide +kernel
theorem dX8_over_29 : decode cX8_over 29 = .ok (.iload 8, 2) := by decide +kernel
theorem dX8_over_31 : decode cX8_over 31 = .ok (.aload_n 0, 1) := by decide +kernel
theorem dX8_over_32 : decode cX8_over 32 = .ok (.getfield 26, 3) := by decide +kernel
theorem dX8_over_35 : decode cX8_over 35 = .ok (.iload_n 1, 1) := by decide +kernel
theorem dX8_over_36 : decode cX8_over 36 = .ok (.iaload, 1) := by decide +kernel
theorem dX8_over_37 : decode cX8_over 37 = .ok (.if_icmp .ge 31, 3) := by decide +kernel
theorem dX8_over_68 : decode cX8_over 68 = .ok (.iload 6, 2) := by decide +kernel
theorem dX8_over_70 : decode cX8_over 70 = .ok (.i2l, 1) := by decide +kernel
theorem dX8_over_71 : decode cX8_over 71 = .ok (.lreturn, 1) := by decide +kernel
theorem dX8_over_40 : decode cX8_over 40 = .ok (.iload 6, 2) := by decide +kernel
theorem dX8_over_42 : decode cX8_over 42 = .ok (.aload_n 0, 1) := by decide +kernel
theorem dX8_over_43 : decode cX8_over 43 = .ok (.getfield 14, 3) := by decide +kernel
theorem dX8_over_46 : decode cX8_over 46 = .ok (.sipush 4200, 3) := by decide +kernel
theorem dX8_over_49 : decode cX8_over 49 = .ok (.iload_n 1, 1) := by decide +kernel
theorem dX8_over_50 : decode cX8_over 50 = .ok (.imul, 1) := by decide +kernel
theorem dX8_over_51 : decode cX8_over 51 = .ok (.sipush 2000, 3) := by decide +kernel
theorem dX8_over_54 : decode cX8_over 54 = .ok (.iadd, 1) := by decide +kernel
theorem dX8_over_55 : decode cX8_over 55 = .ok (.iload 8, 2) := by decide +kernel
theorem dX8_over_57 : decode cX8_over 57 = .ok (.iadd, 1) := by decide +kernel
theorem dX8_over_58 : decode cX8_over 58 = .ok (.iaload, 1) := by decide +kernel
theorem dX8_over_59 : decode cX8_over 59 = .ok (.iadd, 1) := by decide +kernel
theorem dX8_over_60 : decode cX8_over 60 = .ok (.istore 6, 2) := by decide +kernel
theorem dX8_over_62 : decode cX8_over 62 = .ok (.iinc 8 1, 3) := by decide +kernel
theorem dX8_over_65 : decode cX8_over 65 = .ok (.goto (-36), 3) := by decide +kernel
set_option maxHeartbeats 4000000 in
set_option maxRecDepth 100000 in
/-- over -/
theorem c_X8_over (l : Launch) (dC : Nat → ClassId) (dI : Nat → Nat → Nat) (sz : Nat) (h0 : Nat) (th : Int32) (q1 : Nat) (q2 : Nat) (q3 : Nat) (q4 : Nat) (q5 : Nat) (q6 : Nat) (q7 : Nat) (q8 : Nat) (q9 : Nat) (q10 : Nat) (q11 : Nat) (c1 : ClassId) (c2 : ClassId) (c3 : ClassId) (c4 : ClassId) (c5 : ClassId) (c6 : ClassId) (c7 : ClassId) (c8 : ClassId) (c9 : ClassId) (c10 : ClassId) (c11 : ClassId) (a1 : Nat → Int32) (a2 : Nat → Int32) (a3 : Nat → Int32) (a4 : Nat → Int32) (a5 : Nat → Int32) (a6 : Nat → Int32) (a7 : Nat → Int32) (a8 : Nat → Int32) (a9 : Nat → Int32) (a10 : Nat → Int32) (a11 : Nat → Int32) (v12 : Value) (v13 : Value) (v14 : Value) (v15 : Value) (v16 : Value) (o : Nat) (dep : Nat → Nat) (r : Nat) (p1 : Int32) (p2 : Int32) (ho9 : o < 16) (hF9 : rF a1 a8 dep) (hd9 : dep o < 17) (hrt9 : rtN a1 a8 17 o = r) (hM9 : mOK (a1 r) (a4 r) (a3 r) (a6 r)) (hh9 : p1 = 22 → (a1 o).toInt = 1) : Met l yX8_over wsX8_over ({ frames := 5, cells := 0, slots := 0, locals := 200 }) (va_Pc [.ref h0, .int (nI o), .int p1, .int p2] (pk_Pre (dC, dI) [(h0, .inr (8, [.int th, .ref q1, .ref q2, .ref q3, .ref q4, .ref q5, .ref q6, .ref q7, .ref q8, .ref q9, .ref q10, .ref q11, v12, v13, v14, v15, v16])), (q1, .inl (c1, 16, .inl a1)), (q2, .inl (c2, 67200, .inl a2)), (q3, .inl (c3, 16, .inl a3)), (q4, .inl (c4, 16, .inl a4)), (q5, .inl (c5, 16, .inl a5)), (q6, .inl (c6, 16, .inl a6)), (q7, .inl (c7, 16, .inl a7)), (q8, .inl (c8, 16, .inl a8)), (q9, .inl (c9, 16, .inl a9)), (q10, .inl (c10, 16, .inl a10)), (q11, .inl (c11, 16, .inl a11))] [(c1, .int), (c2, .int), (c3, .int), (c4, .int), (c5, .int), (c6, .int), (c7, .int), (c8, .int), (c9, .int), (c10, .int), (c11, .int)] sz)) (va_Ql (fun (x : Int64) (u : (Nat → Int32) × (Nat → Int32) × (Nat → Int32)) => (∃ d : Nat, d ≤ 1000 ∧ rsR r d a2 a3 a6 a7 u.1 u.2.1 a6 u.2.2) ∧ mOK (a1 r) (a4 r) (u.2.1 r) (a6 r)) (fun (u : (Nat → Int32) × (Nat → Int32) × (Nat → Int32)) (t : State) => va_P (dC, dI) vwCl [(h0, .inr (8, [.int th, .ref q1, .ref q2, .ref q3, .ref q4, .ref q5, .ref q6, .ref q7, .ref q8, .ref q9, .ref q10, .ref q11, v12, v13, v14, v15, v16])), (q1, .inl (c1, 16, .inl a1)), (q2, .inl (c2, 67200, .inl u.1)), (q3, .inl (c3, 16, .inl u.2.1)), (q4, .inl (c4, 16, .inl a4)), (q5, .inl (c5, 16, .inl a5)), (q6, .inl (c6, 16, .inl a6)), (q7, .inl (c7, 16, .inl u.2.2)), (q8, .inl (c8, 16, .inl a8)), (q9, .inl (c9, 16, .inl a9)), (q10, .inl (c10, 16, .inl a10)), (q11, .inl (c11, 16, .inl a11))] t.heap ∧ va_K (dC, dI) vwCl [(c1, .int), (c2, .int), (c3, .int), (c4, .int), (c5, .int), (c6, .int), (c7, .int), (c8, .int), (c9, .int), (c10, .int), (c11, .int)] t ∧ va_D (va_A [(h0, .inr (8, [.int th, .ref q1, .ref q2, .ref q3, .ref q4, .ref q5, .ref q6, .ref q7, .ref q8, .ref q9, .ref q10, .ref q11, v12, v13, v14, v15, v16])), (q1, .inl (c1, 16, .inl a1)), (q2, .inl (c2, 67200, .inl a2)), (q3, .inl (c3, 16, .inl a3)), (q4, .inl (c4, 16, .inl a4)), (q5, .inl (c5, 16, .inl a5)), (q6, .inl (c6, 16, .inl a6)), (q7, .inl (c7, 16, .inl a7)), (q8, .inl (c8, 16, .inl a8)), (q9, .inl (c9, 16, .inl a9)), (q10, .inl (c10, 16, .inl a10)), (q11, .inl (c11, 16, .inl a11))] sz) [(h0, .inr (8, [.int th, .ref q1, .ref q2, .ref q3, .ref q4, .ref q5, .ref q6, .ref q7, .ref q8, .ref q9, .ref q10, .ref q11, v12, v13, v14, v15, v16])), (q1, .inl (c1, 16, .inl a1)), (q2, .inl (c2, 67200, .inl u.1)), (q3, .inl (c3, 16, .inl u.2.1)), (q4, .inl (c4, 16, .inl a4)), (q5, .inl (c5, 16, .inl a5)), (q6, .inl (c6, 16, .inl a6)), (q7, .inl (c7, 16, .inl u.2.2)), (q8, .inl (c8, 16, .inl a8)), (q9, .inl (c9, 16, .inl a9)), (q10, .inl (c10, 16, .inl a10)), (q11, .inl (c11, 16, .inl a11))]) (va_A [(h0, .inr (8, [.int th, .ref q1, .ref q2, .ref q3, .ref q4, .ref q5, .ref q6, .ref q7, .ref q8, .ref q9, .ref q10, .ref q11, v12, v13, v14, v15, v16])), (q1, .inl (c1, 16, .inl a1)), (q2, .inl (c2, 67200, .inl a2)), (q3, .inl (c3, 16, .inl a3)), (q4, .inl (c4, 16, .inl a4)), (q5, .inl (c5, 16, .inl a5)), (q6, .inl (c6, 16, .inl a6)), (q7, .inl (c7, 16, .inl a7)), (q8, .inl (c8, 16, .inl a8)), (q9, .inl (c9, 16, .inl a9)), (q10, .inl (c10, 16, .inl a10)), (q11, .inl (c11, 16, .inl a11))] sz)) 0 0 (va_A [(h0, .inr (8, [.int th, .ref q1, .ref q2, .ref q3, .ref q4, .ref q5, .ref q6, .ref q7, .ref q8, .ref q9, .ref q10, .ref q11, v12, v13, v14, v15, v16])), (q1, .inl (c1, 16, .inl a1)), (q2, .inl (c2, 67200, .inl a2)), (q3, .inl (c3, 16, .inl a3)), (q4, .inl (c4, 16, .inl a4)), (q5, .inl (c5, 16, .inl a5)), (q6, .inl (c6, 16, .inl a6)), (q7, .inl (c7, 16, .inl a7)), (q8, .inl (c8, 16, .inl a8)), (q9, .inl (c9, 16, .inl a9)), (q10, .inl (c10, 16, .inl a10)), (q11, .inl (c11, 16, .inl a11))] sz) := by
  refine Met.ofW (cc := cX8_over) (maxL := 10) (ret := (some .long)) (by decide) rfl ?_
  intro p e s m args below meth c s₁ B hml hv
  obtain ⟨rfl, hsz, hP, hK, hD0⟩ := hv
  have hx := B.exec
  have hb := B.bytes
  have hr := B.returns
  have hts := atoms_spec (ws := wsX8_over) B.pre
  have hown : s.vm.findClass RX8 = some m.cls := findClass_of_methodNamed B.named
  have hlocks := B.notSynchronized
  subst hsz
  have hD := hD0.self (sz := s.heap.size)
  generalize hAe : va_A [(h0, .inr (8, [.int th, .ref q1, .ref q2, .ref q3, .ref q4, .ref q5, .ref q6, .ref q7, .ref q8, .ref q9, .ref q10, .ref q11, v12, v13, v14, v15, v16])), (q1, .inl (c1, 16, .inl a1)), (q2, .inl (c2, 67200, .inl a2)), (q3, .inl (c3, 16, .inl a3)), (q4, .inl (c4, 16, .inl a4)), (q5, .inl (c5, 16, .inl a5)), (q6, .inl (c6, 16, .inl a6)), (q7, .inl (c7, 16, .inl a7)), (q8, .inl (c8, 16, .inl a8)), (q9, .inl (c9, 16, .inl a9)), (q10, .inl (c10, 16, .inl a10)), (q11, .inl (c11, 16, .inl a11))] s.heap.size = A at hD ⊢
  have hA : ∀ q : Nat, s.heap.size ≤ q → A q := fun q h => by rw [← hAe]; exact Or.inr h
  have hS : va_S A s.heap s.heap [] := va_S.rf
  have hP : va_P (dC, dI) vwCl [(h0, .inr (8, [.int th, .ref q1, .ref q2, .ref q3, .ref q4, .ref q5, .ref q6, .ref q7, .ref q8, .ref q9, .ref q10, .ref q11, v12, v13, v14, v15, v16])), (q1, .inl (c1, 16, .inl a1)), (q2, .inl (c2, 67200, .inl a2)), (q3, .inl (c3, 16, .inl a3)), (q4, .inl (c4, 16, .inl a4)), (q5, .inl (c5, 16, .inl a5)), (q6, .inl (c6, 16, .inl a6)), (q7, .inl (c7, 16, .inl a7)), (q8, .inl (c8, 16, .inl a8)), (q9, .inl (c9, 16, .inl a9)), (q10, .inl (c10, 16, .inl a10)), (q11, .inl (c11, 16, .inl a11))] s.heap := hP
  have hl := lv_entry ([.ref h0, .int (nI o), .int p1, .int p2]) (n := 10) (Nat.le_of_ble_eq_true rfl)
  rw [lg_entry_eq]
  generalize (lg_sl ([.ref h0, .int (nI o), .int p1, .int p2]) ++ List.replicate (10 - (lg_sl ([.ref h0, .int (nI o), .int p1, .int p2])).length) Slot.unset).toArray = ls at hl ⊢
  have hl : lv_has ls 10 [(0, .ref h0), (1, .int (nI o)), (2, .int p1), (3, .int p2)] := hl
  have hw0_ := hts (.fieldLink RX8 14 "KeyAtlasModel" "cell" "[I") (List.mem_of_getElem? (l := wsX8_over) (i := 2) rfl)
  have hw1_ := hts (.fieldLink RX8 26 "KeyAtlasModel" "table" "[I") (List.mem_of_getElem? (l := wsX8_over) (i := 1) rfl)
  have hi0_ : ∀ w ∈ u_ws RX8 TX8 17, w ∈ wsX8_over := fun w h => List.mem_cons_of_mem _ (List.mem_append_right _ h)
  obtain ⟨nz, tb, hs9, hz9, hT9, hM8⟩ := mo_go hM9
  have hn8 : (a3 r).toInt = (nz : Int) := by rw [hs9]; exact nI_toInt (by omega)
  refine lv_aload_n hx hb dX8_over_0 rfl (lv_at hl 0 rfl) ?_
  refine lv_iload_n hx hb dX8_over_1 rfl (lv_at hl 1 rfl) ?_
  have hPc := hP.sub (ws' := [(h0, .inr (8, [.int th, .ref q1, .ref q2, .ref q3, .ref q4, .ref q5, .ref q6, .ref q7, .ref q8, .ref q9, .ref q10, .ref q11, v12, v13, v14, v15, v16])), (q1, .inl (c1, 16, .inl a1)), (q8, .inl (c8, 16, .inl a8))]) [0, 1, 8] rfl
  have hDc := hD.sub (ws' := [(h0, .inr (8, [.int th, .ref q1, .ref q2, .ref q3, .ref q4, .ref q5, .ref q6, .ref q7, .ref q8, .ref q9, .ref q10, .ref q11, v12, v13, v14, v15, v16])), (q1, .inl (c1, 16, .inl a1)), (q8, .inl (c8, 16, .inl a8))]) [0, 1, 8] (by decide) rfl
  have hKc := hK.sub (tys' := [(c1, .int), (c8, .int)]) [0, 7] rfl
  have hFc := va_free (wc := [(h0, .inr (8, [.int th, .ref q1, .ref q2, .ref q3, .ref q4, .ref q5, .ref q6, .ref q7, .ref q8, .ref q9, .ref q10, .ref q11, v12, v13, v14, v15, v16])), (q1, .inl (c1, 16, .inl a1)), (q8, .inl (c8, 16, .inl a8))]) hD hS hA [0, 1, 8] rfl
  refine va_calli (va_runV (As := [.int (nI o)]) (rest := []) ⟨hx, hb, hml, hown, hts⟩ (c_X8_root l  dC dI s.heap.size h0 th q1 q8 c1 c8 a1 a8 (.ref q2) (.ref q3) (.ref q4) (.ref q5) (.ref q6) (.ref q7) (.ref q9) (.ref q10) (.ref q11) v12 v13 v14 v15 v16 o dep ho9 hF9 hd9) (cwV 1 hts gX8_over_X8_root rfl rfl rfl (by decide +kernel) ⟨(Nat.le_of_ble_eq_true rfl), (Nat.le_of_ble_eq_true rfl)⟩) ⟨pk_blind, va_recv hKc hPc (ci := 8) (q0 := 0) rfl rfl, pk_call hPc hKc hDc⟩ rfl rfl hl.1 rfl (lv_room (Nat.le_of_ble_eq_true rfl)) dX8_over_2 ⟨(Nat.le_of_ble_eq_true rfl), (Nat.le_of_ble_eq_true rfl)⟩) hS (fun q _ h => hFc q h) hFc (fun r_1 ur_1 t H1 locs ht hvm hw hB hz1 hk1 hS => ?_)
  try dsimp only at hw
  obtain ⟨er_1, hr9, hr8⟩ := hw
  rw [hrt9] at er_1 hr9 hr8
  obtain ⟨hP1, hK1, hD1⟩ := hB
  rw [ht] at hP1
  have hK1 := va_K.moved hvm.symm hK1
  obtain ⟨hP, hD⟩ := va_join (wr := [(q2, .inl (c2, 67200, .inl a2)), (q3, .inl (c3, 16, .inl a3)), (q4, .inl (c4, 16, .inl a4)), (q5, .inl (c5, 16, .inl a5)), (q6, .inl (c6, 16, .inl a6)), (q7, .inl (c7, 16, .inl a7)), (q9, .inl (c9, 16, .inl a9)), (q10, .inl (c10, 16, .inl a10)), (q11, .inl (c11, 16, .inl a11))]) (w1 := [(h0, .inr (8, [.int th, .ref q1, .ref q2, .ref q3, .ref q4, .ref q5, .ref q6, .ref q7, .ref q8, .ref q9, .ref q10, .ref q11, v12, v13, v14, v15, v16])), (q1, .inl (c1, 16, .inl a1)), (q8, .inl (c8, 16, .inl a8))]) hP hD [0, 1, 8] [2, 3, 4, 5, 6, 7, 9, 10, 11] rfl rfl (by decide) (by decide) hk1 hFc hP1 hD1
  clear hk1 hz1 ht hPc hDc hKc hFc
  generalize H1 = H at hP hS ⊢
  replace hP : va_P (dC, dI) vwCl [(q2, .inl (c2, 67200, .inl a2)), (q3, .inl (c3, 16, .inl a3)), (q4, .inl (c4, 16, .inl a4)), (q5, .inl (c5, 16, .inl a5)), (q6, .inl (c6, 16, .inl a6)), (q7, .inl (c7, 16, .inl a7)), (q9, .inl (c9, 16, .inl a9)), (q10, .inl (c10, 16, .inl a10)), (q11, .inl (c11, 16, .inl a11)), (h0, .inr (8, [.int th, .ref q1, .ref q2, .ref q3, .ref q4, .ref q5, .ref q6, .ref q7, .ref q8, .ref q9, .ref q10, .ref q11, v12, v13, v14, v15, v16])), (q1, .inl (c1, 16, .inl a1)), (q8, .inl (c8, 16, .inl a8))] H := hP
  replace hD : va_D A [(q2, .inl (c2, 67200, .inl a2)), (q3, .inl (c3, 16, .inl a3)), (q4, .inl (c4, 16, .inl a4)), (q5, .inl (c5, 16, .inl a5)), (q6, .inl (c6, 16, .inl a6)), (q7, .inl (c7, 16, .inl a7)), (q9, .inl (c9, 16, .inl a9)), (q10, .inl (c10, 16, .inl a10)), (q11, .inl (c11, 16, .inl a11)), (h0, .inr (8, [.int th, .ref q1, .ref q2, .ref q3, .ref q4, .ref q5, .ref q6, .ref q7, .ref q8, .ref q9, .ref q10, .ref q11, v12, v13, v14, v15, v16])), (q1, .inl (c1, 16, .inl a1)), (q8, .inl (c8, 16, .inl a8))] := hD
  refine W.widen (k := 0) (n := 0) (Nat.le_of_ble_eq_true rfl) (Nat.le_of_ble_eq_true rfl) ?_
  subst er_1
  refine W.eq (g2 := F0 m 5 ls [.int (nI r)]) rfl ?_
  refine lv_istore (lv' := [(4, .int (nI r)), (0, .ref h0), (1, .int (nI o)), (2, .int p1), (3, .int p2)]) hx hb dX8_over_5 hl (by decide) rfl (fun ls hl => ?_)
  refine lv_aload_n hx hb dX8_over_7 rfl (lv_at hl 1 rfl) ?_
  refine lv_iload_n hx hb dX8_over_8 rfl (lv_at hl 2 rfl) ?_
  have hPc := hP.sub (ws' := [(h0, .inr (8, [.int th, .ref q1, .ref q2, .ref q3, .ref q4, .ref q5, .ref q6, .ref q7, .ref q8, .ref q9, .ref q10, .ref q11, v12, v13, v14, v15, v16])), (q1, .inl (c1, 16, .inl a1)), (q2, .inl (c2, 67200, .inl a2)), (q3, .inl (c3, 16, .inl a3)), (q4, .inl (c4, 16, .inl a4)), (q8, .inl (c8, 16, .inl a8)), (q9, .inl (c9, 16, .inl a9)), (q10, .inl (c10, 16, .inl a10)), (q11, .inl (c11, 16, .inl a11))]) [9, 10, 0, 1, 2, 11, 6, 7, 8] rfl
  have hDc := hD.sub (ws' := [(h0, .inr (8, [.int th, .ref q1, .ref q2, .ref q3, .ref q4, .ref q5, .ref q6, .ref q7, .ref q8, .ref q9, .ref q10, .ref q11, v12, v13, v14, v15, v16])), (q1, .inl (c1, 16, .inl a1)), (q2, .inl (c2, 67200, .inl a2)), (q3, .inl (c3, 16, .inl a3)), (q4, .inl (c4, 16, .inl a4)), (q8, .inl (c8, 16, .inl a8)), (q9, .inl (c9, 16, .inl a9)), (q10, .inl (c10, 16, .inl a10)), (q11, .inl (c11, 16, .inl a11))]) [9, 10, 0, 1, 2, 11, 6, 7, 8] (by decide) rfl
  have hKc := hK.sub (tys' := [(c1, .int), (c2, .int), (c3, .int), (c4, .int), (c8, .int), (c9, .int), (c10, .int), (c11, .int)]) [0, 1, 2, 3, 7, 8, 9, 10] rfl
  have hFc := va_free (wc := [(h0, .inr (8, [.int th, .ref q1, .ref q2, .ref q3, .ref q4, .ref q5, .ref q6, .ref q7, .ref q8, .ref q9, .ref q10, .ref q11, v12, v13, v14, v15, v16])), (q1, .inl (c1, 16, .inl a1)), (q2, .inl (c2, 67200, .inl a2)), (q3, .inl (c3, 16, .inl a3)), (q4, .inl (c4, 16, .inl a4)), (q8, .inl (c8, 16, .inl a8)), (q9, .inl (c9, 16, .inl a9)), (q10, .inl (c10, 16, .inl a10)), (q11, .inl (c11, 16, .inl a11))]) hD hS hA [9, 10, 0, 1, 2, 11, 6, 7, 8] rfl
  refine va_calli (va_runV (As := [.int (nI o)]) (rest := []) ⟨hx, hb, hml, hown, hts⟩ (c_X8_entries l  dC dI H.size h0 th q1 q2 q3 q4 q8 q9 q10 q11 c1 c2 c3 c4 c8 c9 c10 c11 a1 a2 a3 a4 a8 a9 a10 a11 (.ref q5) (.ref q6) (.ref q7) v12 v13 v14 v15 v16 o dep nz ho9 hF9 hd9 (by rw [hrt9]; exact hs9) hz9) (cwV 1 hts gX8_over_X8_entries rfl rfl rfl (by decide +kernel) ⟨(Nat.le_of_ble_eq_true rfl), (Nat.le_of_ble_eq_true rfl)⟩) ⟨pk_blind, va_recv hKc hPc (ci := 8) (q0 := 0) rfl rfl, pk_call hPc hKc hDc⟩ rfl rfl hl.1 rfl (lv_room (Nat.le_of_ble_eq_true rfl)) dX8_over_9 ⟨(Nat.le_of_ble_eq_true rfl), (Nat.le_of_ble_eq_true rfl)⟩) hS (fun q _ h => hFc q h) hFc (fun r_2 ur_2 t H1 locs ht hvm hw hB hz1 hk1 hS => ?_)
  try dsimp only at hw
  obtain ⟨ne, hne⟩ : ∃ n9 : Nat, n9 = cntN (inO a1 a2 a4 a8 a9 a10 a11 o) nz := ⟨_, rfl⟩
  have hne2 : ne ≤ nz := by rw [hne]; exact cnt_le _ _
  obtain ⟨hP1, hK1, hD1⟩ := hB
  rw [ht] at hP1
  have hK1 := va_K.moved hvm.symm hK1
  obtain ⟨hP, hD⟩ := va_join (wr := [(q5, .inl (c5, 16, .inl a5)), (q6, .inl (c6, 16, .inl a6)), (q7, .inl (c7, 16, .inl a7))]) (w1 := [(h0, .inr (8, [.int th, .ref q1, .ref q2, .ref q3, .ref q4, .ref q5, .ref q6, .ref q7, .ref q8, .ref q9, .ref q10, .ref q11, v12, v13, v14, v15, v16])), (q1, .inl (c1, 16, .inl a1)), (q2, .inl (c2, 67200, .inl a2)), (q3, .inl (c3, 16, .inl a3)), (q4, .inl (c4, 16, .inl a4)), (q8, .inl (c8, 16, .inl a8)), (q9, .inl (c9, 16, .inl a9)), (q10, .inl (c10, 16, .inl a10)), (q11, .inl (c11, 16, .inl a11))]) hP hD [9, 10, 0, 1, 2, 11, 6, 7, 8] [3, 4, 5] rfl rfl (by decide) (by decide) hk1 hFc hP1 hD1
  clear hk1 hz1 ht hPc hDc hKc hFc
  generalize H1 = H at hP hS ⊢
  replace hP : va_P (dC, dI) vwCl [(q5, .inl (c5, 16, .inl a5)), (q6, .inl (c6, 16, .inl a6)), (q7, .inl (c7, 16, .inl a7)), (h0, .inr (8, [.int th, .ref q1, .ref q2, .ref q3, .ref q4, .ref q5, .ref q6, .ref q7, .ref q8, .ref q9, .ref q10, .ref q11, v12, v13, v14, v15, v16])), (q1, .inl (c1, 16, .inl a1)), (q2, .inl (c2, 67200, .inl a2)), (q3, .inl (c3, 16, .inl a3)), (q4, .inl (c4, 16, .inl a4)), (q8, .inl (c8, 16, .inl a8)), (q9, .inl (c9, 16, .inl a9)), (q10, .inl (c10, 16, .inl a10)), (q11, .inl (c11, 16, .inl a11))] H := hP
  replace hD : va_D A [(q5, .inl (c5, 16, .inl a5)), (q6, .inl (c6, 16, .inl a6)), (q7, .inl (c7, 16, .inl a7)), (h0, .inr (8, [.int th, .ref q1, .ref q2, .ref q3, .ref q4, .ref q5, .ref q6, .ref q7, .ref q8, .ref q9, .ref q10, .ref q11, v12, v13, v14, v15, v16])), (q1, .inl (c1, 16, .inl a1)), (q2, .inl (c2, 67200, .inl a2)), (q3, .inl (c3, 16, .inl a3)), (q4, .inl (c4, 16, .inl a4)), (q8, .inl (c8, 16, .inl a8)), (q9, .inl (c9, 16, .inl a9)), (q10, .inl (c10, 16, .inl a10)), (q11, .inl (c11, 16, .inl a11))] := hD
  refine W.widen (k := 0) (n := 0) (Nat.le_of_ble_eq_true rfl) (Nat.le_of_ble_eq_true rfl) ?_
  obtain rfl : r_2 = nI ne := by rw [hne]; exact hw
  refine W.eq (g2 := F0 m 12 ls [.int (nI ne)]) rfl ?_
  refine lv_istore (lv' := [(5, .int (nI ne)), (4, .int (nI r)), (0, .ref h0), (1, .int (nI o)), (2, .int p1), (3, .int p2)]) hx hb dX8_over_12 hl (by decide) rfl (fun ls hl => ?_)
  refine lv_iconst (v := 0) hx hb dX8_over_14 (by decide) ?_
  refine lv_istore (lv' := [(6, .int 0), (5, .int (nI ne)), (4, .int (nI r)), (0, .ref h0), (1, .int (nI o)), (2, .int p1), (3, .int p2)]) hx hb dX8_over_15 hl (by decide) rfl (fun ls hl => ?_)
  refine lv_iconst (v := 0) hx hb dX8_over_17 (by decide) ?_
  refine lv_istore (lv' := [(7, .int 0), (6, .int 0), (5, .int (nI ne)), (4, .int (nI r)), (0, .ref h0), (1, .int (nI o)), (2, .int p1), (3, .int p2)]) hx hb dX8_over_18 hl (by decide) rfl (fun ls hl => ?_)
  refine lv_iload_n hx hb dX8_over_20 rfl (lv_at hl 6 rfl) ?_
  refine lv_bipush (v := 22) hx hb dX8_over_21 (by decide) ?_
  refine lv_icmp_ne (tgt := 72) hx hb dX8_over_23 (by decide) (fun c_3 => ?_) (fun c_3 => ?_)
  ·
    have ic_3 : ¬ p1.toInt = 22 := tx_ne rfl (by decide) c_3
    refine lv_iload hx hb dX8_over_72 (lv_at hl 2 rfl) ?_
    refine lv_iconst (v := 1) hx hb dX8_over_74 (by decide) ?_
    refine lv_isub hx hb dX8_over_75 ?_
    refine lv_topi (fun z_ ez_ => ?_)
    obtain rfl : z_ = nI ne - 1 := ez_.trans (rfl)
    refine lv_istore (lv' := [(8, .int (nI ne - 1)), (7, .int 0), (6, .int 0), (5, .int (nI ne)), (4, .int (nI r)), (0, .ref h0), (1, .int (nI o)), (2, .int p1), (3, .int p2)]) hx hb dX8_over_76 hl (by decide) rfl (fun ls hl => ?_)
    obtain ⟨z8, es_z8⟩ : ∃ z : Int32, z = nI ne - 1 := ⟨_, rfl⟩
    obtain ⟨g6, es_g6⟩ : ∃ z : Int32, z = 0 := ⟨_, rfl⟩
    obtain ⟨g5, es_g5⟩ : ∃ z : Int32, z = 0 := ⟨_, rfl⟩
    obtain ⟨k2_, ef_k2_⟩ : ∃ z : Nat → Int32, z = a2 := ⟨_, rfl⟩
    obtain ⟨k3_, ef_k3_⟩ : ∃ z : Nat → Int32, z = a3 := ⟨_, rfl⟩
    obtain ⟨k7_, ef_k7_⟩ : ∃ z : Nat → Int32, z = a7 := ⟨_, rfl⟩
    obtain ⟨n9B, en9⟩ : ∃ n : Nat, n = ne + 1 := ⟨_, rfl⟩
    replace hl : lv_has ls 10 [(8, .int z8), (7, .int g5), (6, .int g6), (5, .int (nI ne)), (4, .int (nI r)), (0, .ref h0), (1, .int (nI o)), (2, .int p1), (3, .int p2)] := by subst es_z8; subst es_g6; subst es_g5; exact hl
    replace hP : va_P (dC, dI) vwCl [(q5, .inl (c5, 16, .inl a5)), (q6, .inl (c6, 16, .inl a6)), (q7, .inl (c7, 16, .inl k7_)), (h0, .inr (8, [.int th, .ref q1, .ref q2, .ref q3, .ref q4, .ref q5, .ref q6, .ref q7, .ref q8, .ref q9, .ref q10, .ref q11, v12, v13, v14, v15, v16])), (q1, .inl (c1, 16, .inl a1)), (q2, .inl (c2, 67200, .inl k2_)), (q3, .inl (c3, 16, .inl k3_)), (q4, .inl (c4, 16, .inl a4)), (q8, .inl (c8, 16, .inl a8)), (q9, .inl (c9, 16, .inl a9)), (q10, .inl (c10, 16, .inl a10)), (q11, .inl (c11, 16, .inl a11))] H := by subst ef_k2_; subst ef_k3_; subst ef_k7_; exact hP
    replace hD : va_D A [(q5, .inl (c5, 16, .inl a5)), (q6, .inl (c6, 16, .inl a6)), (q7, .inl (c7, 16, .inl k7_)), (h0, .inr (8, [.int th, .ref q1, .ref q2, .ref q3, .ref q4, .ref q5, .ref q6, .ref q7, .ref q8, .ref q9, .ref q10, .ref q11, v12, v13, v14, v15, v16])), (q1, .inl (c1, 16, .inl a1)), (q2, .inl (c2, 67200, .inl k2_)), (q3, .inl (c3, 16, .inl k3_)), (q4, .inl (c4, 16, .inl a4)), (q8, .inl (c8, 16, .inl a8)), (q9, .inl (c9, 16, .inl a9)), (q10, .inl (c10, 16, .inl a10)), (q11, .inl (c11, 16, .inl a11))] := by subst ef_k2_; subst ef_k3_; subst ef_k7_; exact hD
    have hlo : -1 ≤ z8.toInt := by subst es_z8; subst es_g6; subst es_g5; subst ef_k2_; subst ef_k3_; subst ef_k7_; subst en9; exact by rw [nI_s1 (by omega)]; omega
    have hn8c : z8.toInt + 1 < (n9B : Int) := by subst es_z8; subst es_g6; subst es_g5; subst ef_k2_; subst ef_k3_; subst ef_k7_; subst en9; exact by rw [nI_s1 (by omega)]; omega
    have hc8 : ∀ n : Nat, k3_ r = nI n → n ≤ 1000 → z8.toInt < (cntN (inO a1 k2_ a4 a8 a9 a10 a11 o) n : Nat) := by subst es_z8; subst es_g6; subst es_g5; subst ef_k2_; subst ef_k3_; subst ef_k7_; subst en9; exact fun n e hn => by rw [nI_s1 (by omega)]; rw [hs9] at e; rw [← (nI_eq (by omega) (by omega)).mp e, ← hne]; omega
    have hv6 : ∃ d : Nat, (d : Int) + z8.toInt + 1 ≤ ne ∧ rsR r d a2 a3 a6 a7 k2_ k3_ a6 k7_ := by subst es_z8; subst es_g6; subst es_g5; subst ef_k2_; subst ef_k3_; subst ef_k7_; subst en9; exact ⟨0, by rw [nI_s1 (by omega)]; omega, rs_rf⟩
    have hM6 : mOK (a1 r) (a4 r) (k3_ r) (a6 r) := by subst es_z8; subst es_g6; subst es_g5; subst ef_k2_; subst ef_k3_; subst ef_k7_; subst en9; exact hM9
    clear en9 es_z8 es_g6 es_g5 ef_k2_ ef_k3_ ef_k7_
    induction n9B generalizing z8 g6 g5 ls H locs k2_ k3_ k7_ with
    | zero => exact absurd hn8c (by omega)
    | succ n9B ihB =>
      refine lv_iload hx hb dX8_over_78 (lv_at hl 0 rfl) ?_
      refine lv_if_lt (tgt := 247) hx hb dX8_over_80 (by decide) (fun c_4 => ?_) (fun c_4 => ?_)
      ·
        have ic_4 : z8.toInt < 0 := tx_lt rfl (by decide) c_4
        refine lv_iload_n hx hb dX8_over_247 rfl (lv_at hl 7 rfl) ?_
        refine lv_bipush (v := 18) hx hb dX8_over_248 (by decide) ?_
        refine lv_icmp_ne (tgt := 259) hx hb dX8_over_250 (by decide) (fun c_5 => ?_) (fun c_5 => ?_)
        ·
          have ic_5 : ¬ p1.toInt = 18 := tx_ne rfl (by decide) c_5
          refine lv_iload hx hb dX8_over_259 (lv_at hl 2 rfl) ?_
          refine lv_i2l (v := g6.toInt64) hx hb dX8_over_261 rfl ?_
          have hP9 := hP.sub (ws' := [(h0, .inr (8, [.int th, .ref q1, .ref q2, .ref q3, .ref q4, .ref q5, .ref q6, .ref q7, .ref q8, .ref q9, .ref q10, .ref q11, v12, v13, v14, v15, v16])), (q1, .inl (c1, 16, .inl a1)), (q2, .inl (c2, 67200, .inl k2_)), (q3, .inl (c3, 16, .inl k3_)), (q4, .inl (c4, 16, .inl a4)), (q5, .inl (c5, 16, .inl a5)), (q6, .inl (c6, 16, .inl a6)), (q7, .inl (c7, 16, .inl k7_)), (q8, .inl (c8, 16, .inl a8)), (q9, .inl (c9, 16, .inl a9)), (q10, .inl (c10, 16, .inl a10)), (q11, .inl (c11, 16, .inl a11))]) [3, 4, 5, 6, 7, 0, 1, 2, 8, 9, 10, 11] rfl
          have hD9 := hD.sub (ws' := [(h0, .inr (8, [.int th, .ref q1, .ref q2, .ref q3, .ref q4, .ref q5, .ref q6, .ref q7, .ref q8, .ref q9, .ref q10, .ref q11, v12, v13, v14, v15, v16])), (q1, .inl (c1, 16, .inl a1)), (q2, .inl (c2, 67200, .inl k2_)), (q3, .inl (c3, 16, .inl k3_)), (q4, .inl (c4, 16, .inl a4)), (q5, .inl (c5, 16, .inl a5)), (q6, .inl (c6, 16, .inl a6)), (q7, .inl (c7, 16, .inl k7_)), (q8, .inl (c8, 16, .inl a8)), (q9, .inl (c9, 16, .inl a9)), (q10, .inl (c10, 16, .inl a10)), (q11, .inl (c11, 16, .inl a11))]) [3, 4, 5, 6, 7, 0, 1, 2, 8, 9, 10, 11] (by decide) rfl
          have hK9 := hK.sub (tys' := [(c1, .int), (c2, .int), (c3, .int), (c4, .int), (c5, .int), (c6, .int), (c7, .int), (c8, .int), (c9, .int), (c10, .int), (c11, .int)]) [0, 1, 2, 3, 4, 5, 6, 7, 8, 9, 10] rfl
          refine W.widen (k := 0) (n := 0) (Nat.le_of_ble_eq_true rfl) (Nat.le_of_ble_eq_true rfl) ?_
          exact W.lret (v := g6.toInt64) hx hb hr (fun t ht hW => ⟨⟨g6.toInt64, (k2_, k3_, k7_), rfl, ⟨by obtain ⟨d9, y1_, y2_⟩ := hv6; exact ⟨d9, by omega, y2_⟩, hM6⟩, by rw [ht]; exact hP9, va_K.moved hW.alike hK9, hD9⟩, hS.F ht⟩) hS.2.2 dX8_over_262
        ·
          have ic_5 : p1.toInt = 18 := tx_eq rfl (by decide) c_5
          refine lv_iload hx hb dX8_over_253 (lv_at hl 1 rfl) ?_
          refine lv_i2l (v := g5.toInt64) hx hb dX8_over_255 rfl ?_
          refine lv_goto (tgt := 262) hx hb dX8_over_256 (by decide) ?_
          have hP9 := hP.sub (ws' := [(h0, .inr (8, [.int th, .ref q1, .ref q2, .ref q3, .ref q4, .ref q5, .ref q6, .ref q7, .ref q8, .ref q9, .ref q10, .ref q11, v12, v13, v14, v15, v16])), (q1, .inl (c1, 16, .inl a1)), (q2, .inl (c2, 67200, .inl k2_)), (q3, .inl (c3, 16, .inl k3_)), (q4, .inl (c4, 16, .inl a4)), (q5, .inl (c5, 16, .inl a5)), (q6, .inl (c6, 16, .inl a6)), (q7, .inl (c7, 16, .inl k7_)), (q8, .inl (c8, 16, .inl a8)), (q9, .inl (c9, 16, .inl a9)), (q10, .inl (c10, 16, .inl a10)), (q11, .inl (c11, 16, .inl a11))]) [3, 4, 5, 6, 7, 0, 1, 2, 8, 9, 10, 11] rfl
          have hD9 := hD.sub (ws' := [(h0, .inr (8, [.int th, .ref q1, .ref q2, .ref q3, .ref q4, .ref q5, .ref q6, .ref q7, .ref q8, .ref q9, .ref q10, .ref q11, v12, v13, v14, v15, v16])), (q1, .inl (c1, 16, .inl a1)), (q2, .inl (c2, 67200, .inl k2_)), (q3, .inl (c3, 16, .inl k3_)), (q4, .inl (c4, 16, .inl a4)), (q5, .inl (c5, 16, .inl a5)), (q6, .inl (c6, 16, .inl a6)), (q7, .inl (c7, 16, .inl k7_)), (q8, .inl (c8, 16, .inl a8)), (q9, .inl (c9, 16, .inl a9)), (q10, .inl (c10, 16, .inl a10)), (q11, .inl (c11, 16, .inl a11))]) [3, 4, 5, 6, 7, 0, 1, 2, 8, 9, 10, 11] (by decide) rfl
          have hK9 := hK.sub (tys' := [(c1, .int), (c2, .int), (c3, .int), (c4, .int), (c5, .int), (c6, .int), (c7, .int), (c8, .int), (c9, .int), (c10, .int), (c11, .int)]) [0, 1, 2, 3, 4, 5, 6, 7, 8, 9, 10] rfl
          refine W.widen (k := 0) (n := 0) (Nat.le_of_ble_eq_true rfl) (Nat.le_of_ble_eq_true rfl) ?_
          exact W.lret (v := g5.toInt64) hx hb hr (fun t ht hW => ⟨⟨g5.toInt64, (k2_, k3_, k7_), rfl, ⟨by obtain ⟨d9, y1_, y2_⟩ := hv6; exact ⟨d9, by omega, y2_⟩, hM6⟩, by rw [ht]; exact hP9, va_K.moved hW.alike hK9, hD9⟩, hS.F ht⟩) hS.2.2 dX8_over_262
      ·
        have ic_4 : 0 ≤ z8.toInt := tx_nlt rfl (by decide) c_4
        obtain ⟨nz5, tb5, hs5, hz5, hT5, hM5⟩ := mo_go hM6
        have hc5 := hc8 nz5 hs5 hz5
        have hc4 := cnt_le (inO a1 k2_ a4 a8 a9 a10 a11 o) nz5
        obtain ⟨k7, hk7, rfl⟩ := nI_nat (n := 1000) ic_4 (by omega) (by omega)
        have hk6 : (nI k7).toInt = (k7 : Int) := nI_toInt (by omega)
        refine lv_aload_n hx hb dX8_over_83 rfl (lv_at hl 5 rfl) ?_
        refine lv_iload_n hx hb dX8_over_84 rfl (lv_at hl 6 rfl) ?_
        refine lv_iload hx hb dX8_over_85 (lv_at hl 0 rfl) ?_
        have hPc := hP.sub (ws' := [(h0, .inr (8, [.int th, .ref q1, .ref q2, .ref q3, .ref q4, .ref q5, .ref q6, .ref q7, .ref q8, .ref q9, .ref q10, .ref q11, v12, v13, v14, v15, v16])), (q1, .inl (c1, 16, .inl a1)), (q2, .inl (c2, 67200, .inl k2_)), (q3, .inl (c3, 16, .inl k3_)), (q4, .inl (c4, 16, .inl a4)), (q8, .inl (c8, 16, .inl a8)), (q9, .inl (c9, 16, .inl a9)), (q10, .inl (c10, 16, .inl a10)), (q11, .inl (c11, 16, .inl a11))]) [3, 4, 5, 6, 7, 8, 9, 10, 11] rfl
        have hDc := hD.sub (ws' := [(h0, .inr (8, [.int th, .ref q1, .ref q2, .ref q3, .ref q4, .ref q5, .ref q6, .ref q7, .ref q8, .ref q9, .ref q10, .ref q11, v12, v13, v14, v15, v16])), (q1, .inl (c1, 16, .inl a1)), (q2, .inl (c2, 67200, .inl k2_)), (q3, .inl (c3, 16, .inl k3_)), (q4, .inl (c4, 16, .inl a4)), (q8, .inl (c8, 16, .inl a8)), (q9, .inl (c9, 16, .inl a9)), (q10, .inl (c10, 16, .inl a10)), (q11, .inl (c11, 16, .inl a11))]) [3, 4, 5, 6, 7, 8, 9, 10, 11] (by decide) rfl
        have hKc := hK.sub (tys' := [(c1, .int), (c2, .int), (c3, .int), (c4, .int), (c8, .int), (c9, .int), (c10, .int), (c11, .int)]) [0, 1, 2, 3, 7, 8, 9, 10] rfl
        have hFc := va_free (wc := [(h0, .inr (8, [.int th, .ref q1, .ref q2, .ref q3, .ref q4, .ref q5, .ref q6, .ref q7, .ref q8, .ref q9, .ref q10, .ref q11, v12, v13, v14, v15, v16])), (q1, .inl (c1, 16, .inl a1)), (q2, .inl (c2, 67200, .inl k2_)), (q3, .inl (c3, 16, .inl k3_)), (q4, .inl (c4, 16, .inl a4)), (q8, .inl (c8, 16, .inl a8)), (q9, .inl (c9, 16, .inl a9)), (q10, .inl (c10, 16, .inl a10)), (q11, .inl (c11, 16, .inl a11))]) hD hS hA [3, 4, 5, 6, 7, 8, 9, 10, 11] rfl
        refine va_calli (va_runV (As := [.int (nI o), .int (nI k7)]) (rest := []) ⟨hx, hb, hml, hown, hts⟩ (c_X8_nth l  dC dI H.size h0 th q1 q2 q3 q4 q8 q9 q10 q11 c1 c2 c3 c4 c8 c9 c10 c11 a1 k2_ k3_ a4 a8 a9 a10 a11 (.ref q5) (.ref q6) (.ref q7) v12 v13 v14 v15 v16 o dep nz5 k7 ho9 hF9 hd9 (by rw [hrt9]; exact hs5) hz5 (by omega)) (cwV 2 hts gX8_over_X8_nth rfl rfl rfl (by decide +kernel) ⟨(Nat.le_of_ble_eq_true rfl), (Nat.le_of_ble_eq_true rfl)⟩) ⟨pk_blind, va_recv hKc hPc (ci := 8) (q0 := 0) rfl rfl, pk_call hPc hKc hDc⟩ rfl rfl hl.1 rfl (lv_room (Nat.le_of_ble_eq_true rfl)) dX8_over_87 ⟨(Nat.le_of_ble_eq_true rfl), (Nat.le_of_ble_eq_true rfl)⟩) hS (fun q _ h => hFc q h) hFc (fun r_6 ur_6 t H1 locs ht hvm hw hB hz1 hk1 hS => ?_)
        try dsimp only at hw
        have jr_6 := hw
        obtain ⟨hP1, hK1, hD1⟩ := hB
        rw [ht] at hP1
        have hK1 := va_K.moved hvm.symm hK1
        obtain ⟨hP, hD⟩ := va_join (wr := [(q5, .inl (c5, 16, .inl a5)), (q6, .inl (c6, 16, .inl a6)), (q7, .inl (c7, 16, .inl k7_))]) (w1 := [(h0, .inr (8, [.int th, .ref q1, .ref q2, .ref q3, .ref q4, .ref q5, .ref q6, .ref q7, .ref q8, .ref q9, .ref q10, .ref q11, v12, v13, v14, v15, v16])), (q1, .inl (c1, 16, .inl a1)), (q2, .inl (c2, 67200, .inl k2_)), (q3, .inl (c3, 16, .inl k3_)), (q4, .inl (c4, 16, .inl a4)), (q8, .inl (c8, 16, .inl a8)), (q9, .inl (c9, 16, .inl a9)), (q10, .inl (c10, 16, .inl a10)), (q11, .inl (c11, 16, .inl a11))]) hP hD [3, 4, 5, 6, 7, 8, 9, 10, 11] [0, 1, 2] rfl rfl (by decide) (by decide) hk1 hFc hP1 hD1
        clear hk1 hz1 ht hPc hDc hKc hFc
        generalize H1 = H at hP hS ⊢
        replace hP : va_P (dC, dI) vwCl [(q5, .inl (c5, 16, .inl a5)), (q6, .inl (c6, 16, .inl a6)), (q7, .inl (c7, 16, .inl k7_)), (h0, .inr (8, [.int th, .ref q1, .ref q2, .ref q3, .ref q4, .ref q5, .ref q6, .ref q7, .ref q8, .ref q9, .ref q10, .ref q11, v12, v13, v14, v15, v16])), (q1, .inl (c1, 16, .inl a1)), (q2, .inl (c2, 67200, .inl k2_)), (q3, .inl (c3, 16, .inl k3_)), (q4, .inl (c4, 16, .inl a4)), (q8, .inl (c8, 16, .inl a8)), (q9, .inl (c9, 16, .inl a9)), (q10, .inl (c10, 16, .inl a10)), (q11, .inl (c11, 16, .inl a11))] H := hP
        replace hD : va_D A [(q5, .inl (c5, 16, .inl a5)), (q6, .inl (c6, 16, .inl a6)), (q7, .inl (c7, 16, .inl k7_)), (h0, .inr (8, [.int th, .ref q1, .ref q2, .ref q3, .ref q4, .ref q5, .ref q6, .ref q7, .ref q8, .ref q9, .ref q10, .ref q11, v12, v13, v14, v15, v16])), (q1, .inl (c1, 16, .inl a1)), (q2, .inl (c2, 67200, .inl k2_)), (q3, .inl (c3, 16, .inl k3_)), (q4, .inl (c4, 16, .inl a4)), (q8, .inl (c8, 16, .inl a8)), (q9, .inl (c9, 16, .inl a9)), (q10, .inl (c10, 16, .inl a10)), (q11, .inl (c11, 16, .inl a11))] := hD
        refine W.widen (k := 0) (n := 0) (Nat.le_of_ble_eq_true rfl) (Nat.le_of_ble_eq_true rfl) ?_
        obtain ⟨k8, hk8, rfl, hk8b⟩ := jr_6
        refine W.eq (g2 := F0 m 90 ls [.int (nI k8)]) rfl ?_
        refine lv_istore (lv' := [(9, .int (nI k8)), (8, .int (nI k7)), (7, .int g5), (6, .int g6), (5, .int (nI ne)), (4, .int (nI r)), (0, .ref h0), (1, .int (nI o)), (2, .int p1), (3, .int p2)]) hx hb dX8_over_90 hl (by decide) rfl (fun ls hl => ?_)
        refine lv_iload_n hx hb dX8_over_92 rfl (lv_at hl 8 rfl) ?_
        refine lv_bipush (v := 9) hx hb dX8_over_93 (by decide) ?_
        refine lv_icmp_ne (tgt := 120) hx hb dX8_over_95 (by decide) (fun c_7 => ?_) (fun c_7 => ?_)
        ·
          have ic_7 : ¬ p1.toInt = 9 := tx_ne rfl (by decide) c_7
          refine lv_iload_n hx hb dX8_over_120 rfl (lv_at hl 8 rfl) ?_
          refine lv_bipush (v := 18) hx hb dX8_over_121 (by decide) ?_
          refine lv_icmp_ne (tgt := 148) hx hb dX8_over_123 (by decide) (fun c_8 => ?_) (fun c_8 => ?_)
          ·
            have ic_8 : ¬ p1.toInt = 18 := tx_ne rfl (by decide) c_8
            refine lv_iload_n hx hb dX8_over_148 rfl (lv_at hl 8 rfl) ?_
            refine lv_bipush (v := 23) hx hb dX8_over_149 (by decide) ?_
            refine lv_icmp_ne (tgt := 181) hx hb dX8_over_151 (by decide) (fun c_9 => ?_) (fun c_9 => ?_)
            ·
              have ic_9 : ¬ p1.toInt = 23 := tx_ne rfl (by decide) c_9
              refine lv_iload_n hx hb dX8_over_181 rfl (lv_at hl 8 rfl) ?_
              refine lv_bipush (v := 24) hx hb dX8_over_182 (by decide) ?_
              refine lv_icmp_ne (tgt := 212) hx hb dX8_over_184 (by decide) (fun c_10 => ?_) (fun c_10 => ?_)
              ·
                have ic_10 : ¬ p1.toInt = 24 := tx_ne rfl (by decide) c_10
                refine lv_iload_n hx hb dX8_over_212 rfl (lv_at hl 8 rfl) ?_
                refine lv_bipush (v := 25) hx hb dX8_over_213 (by decide) ?_
                refine lv_icmp_ne (tgt := 241) hx hb dX8_over_215 (by decide) (fun c_11 => ?_) (fun c_11 => ?_)
                ·
                  have ic_11 : ¬ p1.toInt = 25 := tx_ne rfl (by decide) c_11
                  refine lv_iinc (v := (nI k7) + -1) (lv' := [(8, .int ((nI k7) + -1)), (9, .int (nI k8)), (7, .int g5), (6, .int g6), (5, .int (nI ne)), (4, .int (nI r)), (0, .ref h0), (1, .int (nI o)), (2, .int p1), (3, .int p2)]) hx hb dX8_over_241 hl (k := 1) rfl rfl (by decide) rfl (fun ls hl => ?_)
                  refine lv_goto (tgt := 78) hx hb dX8_over_244 (by decide) ?_
                  exact ihB (z8 := (nI k7) + -1) (g6 := g6) (g5 := g5) (ls := ls) (k7_ := k7_) (k2_ := k2_) (k3_ := k3_) (H := H) (locs := locs) (hP := hP.sub (ws' := [(q5, .inl (c5, 16, .inl a5)), (q6, .inl (c6, 16, .inl a6)), (q7, .inl (c7, 16, .inl k7_)), (h0, .inr (8, [.int th, .ref q1, .ref q2, .ref q3, .ref q4, .ref q5, .ref q6, .ref q7, .ref q8, .ref q9, .ref q10, .ref q11, v12, v13, v14, v15, v16])), (q1, .inl (c1, 16, .inl a1)), (q2, .inl (c2, 67200, .inl k2_)), (q3, .inl (c3, 16, .inl k3_)), (q4, .inl (c4, 16, .inl a4)), (q8, .inl (c8, 16, .inl a8)), (q9, .inl (c9, 16, .inl a9)), (q10, .inl (c10, 16, .inl a10)), (q11, .inl (c11, 16, .inl a11))]) [0, 1, 2, 3, 4, 5, 6, 7, 8, 9, 10, 11] rfl) (hS := hS) (hD := hD.sub (ws' := [(q5, .inl (c5, 16, .inl a5)), (q6, .inl (c6, 16, .inl a6)), (q7, .inl (c7, 16, .inl k7_)), (h0, .inr (8, [.int th, .ref q1, .ref q2, .ref q3, .ref q4, .ref q5, .ref q6, .ref q7, .ref q8, .ref q9, .ref q10, .ref q11, v12, v13, v14, v15, v16])), (q1, .inl (c1, 16, .inl a1)), (q2, .inl (c2, 67200, .inl k2_)), (q3, .inl (c3, 16, .inl k3_)), (q4, .inl (c4, 16, .inl a4)), (q8, .inl (c8, 16, .inl a8)), (q9, .inl (c9, 16, .inl a9)), (q10, .inl (c10, 16, .inl a10)), (q11, .inl (c11, 16, .inl a11))]) [0, 1, 2, 3, 4, 5, 6, 7, 8, 9, 10, 11] (by decide) rfl) (hlo := by rw [nI_m1 (by omega)]; omega) (hn8c := by rw [nI_m1 (by omega)]; omega) (hc8 := fun n e hn => by have h9 := hc8 n e hn; rw [nI_m1 (by omega)]; omega) (hv6 := by obtain ⟨d9, y1_, y2_⟩ := hv6; exact ⟨d9, by rw [nI_m1 (by omega)]; omega, y2_⟩) (hM6 := hM6) (hl := lv_sub hl [0, 2, 3, 4, 5, 6, 7, 8, 9] rfl)
                ·
                  have ic_11 : p1.toInt = 25 := tx_eq rfl (by decide) c_11
                  refine lv_aload_n hx hb dX8_over_218 rfl (lv_at hl 6 rfl) ?_
                  refine lv_iload hx hb dX8_over_219 (lv_at hl 5 rfl) ?_
                  refine lv_iload hx hb dX8_over_221 (lv_at hl 0 rfl) ?_
                  have hPc := hP.sub (ws' := [(h0, .inr (8, [.int th, .ref q1, .ref q2, .ref q3, .ref q4, .ref q5, .ref q6, .ref q7, .ref q8, .ref q9, .ref q10, .ref q11, v12, v13, v14, v15, v16])), (q2, .inl (c2, 67200, .inl k2_))]) [3, 5] rfl
                  have hDc := hD.sub (ws' := [(h0, .inr (8, [.int th, .ref q1, .ref q2, .ref q3, .ref q4, .ref q5, .ref q6, .ref q7, .ref q8, .ref q9, .ref q10, .ref q11, v12, v13, v14, v15, v16])), (q2, .inl (c2, 67200, .inl k2_))]) [3, 5] (by decide) rfl
                  have hKc := hK.sub (tys' := [(c2, .int)]) [1] rfl
                  have hFc := va_free (wc := [(h0, .inr (8, [.int th, .ref q1, .ref q2, .ref q3, .ref q4, .ref q5, .ref q6, .ref q7, .ref q8, .ref q9, .ref q10, .ref q11, v12, v13, v14, v15, v16])), (q2, .inl (c2, 67200, .inl k2_))]) hD hS hA [3, 5] rfl
                  refine va_calli (va_runV (As := [.int (nI r), .int (nI k8)]) (rest := []) ⟨hx, hb, hml, hown, hts⟩ (c_X8_value l  dC dI H.size h0 th q2 c2 k2_ (.ref q1) (.ref q3) (.ref q4) (.ref q5) (.ref q6) (.ref q7) (.ref q8) (.ref q9) (.ref q10) (.ref q11) v12 v13 v14 v15 v16 r k8 hr9 (by omega)) (cwV 2 hts gX8_over_X8_value rfl rfl rfl (by decide +kernel) ⟨(Nat.le_of_ble_eq_true rfl), (Nat.le_of_ble_eq_true rfl)⟩) ⟨pk_blind, va_recv hKc hPc (ci := 8) (q0 := 0) rfl rfl, pk_call hPc hKc hDc⟩ rfl rfl hl.1 rfl (lv_room (Nat.le_of_ble_eq_true rfl)) dX8_over_223 ⟨(Nat.le_of_ble_eq_true rfl), (Nat.le_of_ble_eq_true rfl)⟩) hS (fun q _ h => hFc q h) hFc (fun r_12 ur_12 t H1 locs ht hvm hw hB hz1 hk1 hS => ?_)
                  try dsimp only at hw
                  obtain ⟨hP1, hK1, hD1⟩ := hB
                  rw [ht] at hP1
                  have hK1 := va_K.moved hvm.symm hK1
                  obtain ⟨hP, hD⟩ := va_join (wr := [(q5, .inl (c5, 16, .inl a5)), (q6, .inl (c6, 16, .inl a6)), (q7, .inl (c7, 16, .inl k7_)), (q1, .inl (c1, 16, .inl a1)), (q3, .inl (c3, 16, .inl k3_)), (q4, .inl (c4, 16, .inl a4)), (q8, .inl (c8, 16, .inl a8)), (q9, .inl (c9, 16, .inl a9)), (q10, .inl (c10, 16, .inl a10)), (q11, .inl (c11, 16, .inl a11))]) (w1 := [(h0, .inr (8, [.int th, .ref q1, .ref q2, .ref q3, .ref q4, .ref q5, .ref q6, .ref q7, .ref q8, .ref q9, .ref q10, .ref q11, v12, v13, v14, v15, v16])), (q2, .inl (c2, 67200, .inl k2_))]) hP hD [3, 5] [0, 1, 2, 4, 6, 7, 8, 9, 10, 11] rfl rfl (by decide) (by decide) hk1 hFc hP1 hD1
                  clear hk1 hz1 ht hPc hDc hKc hFc
                  generalize H1 = H at hP hS ⊢
                  replace hP : va_P (dC, dI) vwCl [(q5, .inl (c5, 16, .inl a5)), (q6, .inl (c6, 16, .inl a6)), (q7, .inl (c7, 16, .inl k7_)), (q1, .inl (c1, 16, .inl a1)), (q3, .inl (c3, 16, .inl k3_)), (q4, .inl (c4, 16, .inl a4)), (q8, .inl (c8, 16, .inl a8)), (q9, .inl (c9, 16, .inl a9)), (q10, .inl (c10, 16, .inl a10)), (q11, .inl (c11, 16, .inl a11)), (h0, .inr (8, [.int th, .ref q1, .ref q2, .ref q3, .ref q4, .ref q5, .ref q6, .ref q7, .ref q8, .ref q9, .ref q10, .ref q11, v12, v13, v14, v15, v16])), (q2, .inl (c2, 67200, .inl k2_))] H := hP
                  replace hD : va_D A [(q5, .inl (c5, 16, .inl a5)), (q6, .inl (c6, 16, .inl a6)), (q7, .inl (c7, 16, .inl k7_)), (q1, .inl (c1, 16, .inl a1)), (q3, .inl (c3, 16, .inl k3_)), (q4, .inl (c4, 16, .inl a4)), (q8, .inl (c8, 16, .inl a8)), (q9, .inl (c9, 16, .inl a9)), (q10, .inl (c10, 16, .inl a10)), (q11, .inl (c11, 16, .inl a11)), (h0, .inr (8, [.int th, .ref q1, .ref q2, .ref q3, .ref q4, .ref q5, .ref q6, .ref q7, .ref q8, .ref q9, .ref q10, .ref q11, v12, v13, v14, v15, v16])), (q2, .inl (c2, 67200, .inl k2_))] := hD
                  refine W.widen (k := 0) (n := 0) (Nat.le_of_ble_eq_true rfl) (Nat.le_of_ble_eq_true rfl) ?_
                  obtain rfl : r_12 = k2_ (4200 * r + 1000 + k8) := hw
                  refine W.eq (g2 := F0 m 226 ls [.int (k2_ (4200 * r + 1000 + k8))]) rfl ?_
                  refine lv_iload_n hx hb dX8_over_226 rfl (lv_at hl 9 rfl) ?_
                  refine lv_icmp_ne (tgt := 241) hx hb dX8_over_227 (by decide) (fun c_13 => ?_) (fun c_13 => ?_)
                  ·
                    have ic_13 : ¬ (k2_ (4200 * r + 1000 + k8)).toInt = p2.toInt := tx_ne rfl rfl c_13
                    refine lv_iinc (v := (nI k7) + -1) (lv' := [(8, .int ((nI k7) + -1)), (9, .int (nI k8)), (7, .int g5), (6, .int g6), (5, .int (nI ne)), (4, .int (nI r)), (0, .ref h0), (1, .int (nI o)), (2, .int p1), (3, .int p2)]) hx hb dX8_over_241 hl (k := 1) rfl rfl (by decide) rfl (fun ls hl => ?_)
                    refine lv_goto (tgt := 78) hx hb dX8_over_244 (by decide) ?_
                    exact ihB (z8 := (nI k7) + -1) (g6 := g6) (g5 := g5) (ls := ls) (k7_ := k7_) (k2_ := k2_) (k3_ := k3_) (H := H) (locs := locs) (hP := hP.sub (ws' := [(q5, .inl (c5, 16, .inl a5)), (q6, .inl (c6, 16, .inl a6)), (q7, .inl (c7, 16, .inl k7_)), (h0, .inr (8, [.int th, .ref q1, .ref q2, .ref q3, .ref q4, .ref q5, .ref q6, .ref q7, .ref q8, .ref q9, .ref q10, .ref q11, v12, v13, v14, v15, v16])), (q1, .inl (c1, 16, .inl a1)), (q2, .inl (c2, 67200, .inl k2_)), (q3, .inl (c3, 16, .inl k3_)), (q4, .inl (c4, 16, .inl a4)), (q8, .inl (c8, 16, .inl a8)), (q9, .inl (c9, 16, .inl a9)), (q10, .inl (c10, 16, .inl a10)), (q11, .inl (c11, 16, .inl a11))]) [0, 1, 2, 10, 3, 11, 4, 5, 6, 7, 8, 9] rfl) (hS := hS) (hD := hD.sub (ws' := [(q5, .inl (c5, 16, .inl a5)), (q6, .inl (c6, 16, .inl a6)), (q7, .inl (c7, 16, .inl k7_)), (h0, .inr (8, [.int th, .ref q1, .ref q2, .ref q3, .ref q4, .ref q5, .ref q6, .ref q7, .ref q8, .ref q9, .ref q10, .ref q11, v12, v13, v14, v15, v16])), (q1, .inl (c1, 16, .inl a1)), (q2, .inl (c2, 67200, .inl k2_)), (q3, .inl (c3, 16, .inl k3_)), (q4, .inl (c4, 16, .inl a4)), (q8, .inl (c8, 16, .inl a8)), (q9, .inl (c9, 16, .inl a9)), (q10, .inl (c10, 16, .inl a10)), (q11, .inl (c11, 16, .inl a11))]) [0, 1, 2, 10, 3, 11, 4, 5, 6, 7, 8, 9] (by decide) rfl) (hlo := by rw [nI_m1 (by omega)]; omega) (hn8c := by rw [nI_m1 (by omega)]; omega) (hc8 := fun n e hn => by have h9 := hc8 n e hn; rw [nI_m1 (by omega)]; omega) (hv6 := by obtain ⟨d9, y1_, y2_⟩ := hv6; exact ⟨d9, by rw [nI_m1 (by omega)]; omega, y2_⟩) (hM6 := hM6) (hl := lv_sub hl [0, 2, 3, 4, 5, 6, 7, 8, 9] rfl)
                  ·
                    have ic_13 : (k2_ (4200 * r + 1000 + k8)).toInt = p2.toInt := tx_eq rfl rfl c_13
                    refine lv_aload_n hx hb dX8_over_230 rfl (lv_at hl 6 rfl) ?_
                    refine lv_iload hx hb dX8_over_231 (lv_at hl 5 rfl) ?_
                    refine lv_iload hx hb dX8_over_233 (lv_at hl 0 rfl) ?_
                    have hPc := hP.sub (ws' := [(h0, .inr (8, [.int th, .ref q1, .ref q2, .ref q3, .ref q4, .ref q5, .ref q6, .ref q7, .ref q8, .ref q9, .ref q10, .ref q11, v12, v13, v14, v15, v16])), (q1, .inl (c1, 16, .inl a1)), (q2, .inl (c2, 67200, .inl k2_)), (q3, .inl (c3, 16, .inl k3_)), (q5, .inl (c5, 16, .inl a5)), (q6, .inl (c6, 16, .inl a6)), (q7, .inl (c7, 16, .inl k7_))]) [10, 3, 11, 4, 0, 1, 2] rfl
                    have hDc := hD.sub (ws' := [(h0, .inr (8, [.int th, .ref q1, .ref q2, .ref q3, .ref q4, .ref q5, .ref q6, .ref q7, .ref q8, .ref q9, .ref q10, .ref q11, v12, v13, v14, v15, v16])), (q1, .inl (c1, 16, .inl a1)), (q2, .inl (c2, 67200, .inl k2_)), (q3, .inl (c3, 16, .inl k3_)), (q5, .inl (c5, 16, .inl a5)), (q6, .inl (c6, 16, .inl a6)), (q7, .inl (c7, 16, .inl k7_))]) [10, 3, 11, 4, 0, 1, 2] (by decide) rfl
                    have hKc := hK.sub (tys' := [(c1, .int), (c2, .int), (c3, .int), (c5, .int), (c6, .int), (c7, .int)]) [0, 1, 2, 4, 5, 6] rfl
                    have hFc := va_free (wc := [(h0, .inr (8, [.int th, .ref q1, .ref q2, .ref q3, .ref q4, .ref q5, .ref q6, .ref q7, .ref q8, .ref q9, .ref q10, .ref q11, v12, v13, v14, v15, v16])), (q1, .inl (c1, 16, .inl a1)), (q2, .inl (c2, 67200, .inl k2_)), (q3, .inl (c3, 16, .inl k3_)), (q5, .inl (c5, 16, .inl a5)), (q6, .inl (c6, 16, .inl a6)), (q7, .inl (c7, 16, .inl k7_))]) hD hS hA [10, 3, 11, 4, 0, 1, 2] rfl
                    refine va_callv (va_runV (As := [.int (nI r), .int (nI k8)]) (rest := []) ⟨hx, hb, hml, hown, hts⟩ (c_X8_goes l  dC dI H.size h0 th q1 q2 q3 q5 q6 q7 c1 c2 c3 c5 c6 c7 a1 k2_ k3_ a5 a6 k7_ (.ref q4) (.ref q8) (.ref q9) (.ref q10) (.ref q11) v12 v13 v14 v15 v16 r k8 tb5 nz5 hr9 (by omega) hs5 hz5 (hT5 (by omega))) (cwV 2 hts gX8_over_X8_goes rfl rfl rfl (by decide +kernel) ⟨(Nat.le_of_ble_eq_true rfl), (Nat.le_of_ble_eq_true rfl)⟩) ⟨pk_blind, va_recv hKc hPc (ci := 8) (q0 := 0) rfl rfl, pk_call hPc hKc hDc⟩ rfl rfl hl.1 rfl (lv_room (Nat.le_of_ble_eq_true rfl)) dX8_over_235 ⟨(Nat.le_of_ble_eq_true rfl), (Nat.le_of_ble_eq_true rfl)⟩) hS (fun q _ h => hFc q h) hFc (fun ur_14 t H1 locs ht hvm hw hB hz1 hk1 hS => ?_)
                    try dsimp only at hw
                    have jr_14 := hw
                    obtain ⟨hP1, hK1, hD1⟩ := hB
                    rw [ht] at hP1
                    have hK1 := va_K.moved hvm.symm hK1
                    obtain ⟨hP, hD⟩ := va_join (wr := [(q4, .inl (c4, 16, .inl a4)), (q8, .inl (c8, 16, .inl a8)), (q9, .inl (c9, 16, .inl a9)), (q10, .inl (c10, 16, .inl a10)), (q11, .inl (c11, 16, .inl a11))]) (w1 := [(h0, .inr (8, [.int th, .ref q1, .ref q2, .ref q3, .ref q4, .ref q5, .ref q6, .ref q7, .ref q8, .ref q9, .ref q10, .ref q11, v12, v13, v14, v15, v16])), (q1, .inl (c1, 16, .inl a1)), (q2, .inl (c2, 67200, .inl ur_14)), (q3, .inl (c3, 16, .inl (upd k3_ r (nI (nz5 - 1))))), (q5, .inl (c5, 16, .inl a5)), (q6, .inl (c6, 16, .inl a6)), (q7, .inl (c7, 16, .inl (upd k7_ r (k7_ r + 1))))]) hP hD [10, 3, 11, 4, 0, 1, 2] [5, 6, 7, 8, 9] rfl rfl (by decide) (by decide) hk1 hFc hP1 hD1
                    clear hk1 hz1 ht hPc hDc hKc hFc
                    generalize H1 = H at hP hS ⊢
                    replace hP : va_P (dC, dI) vwCl [(q4, .inl (c4, 16, .inl a4)), (q8, .inl (c8, 16, .inl a8)), (q9, .inl (c9, 16, .inl a9)), (q10, .inl (c10, 16, .inl a10)), (q11, .inl (c11, 16, .inl a11)), (h0, .inr (8, [.int th, .ref q1, .ref q2, .ref q3, .ref q4, .ref q5, .ref q6, .ref q7, .ref q8, .ref q9, .ref q10, .ref q11, v12, v13, v14, v15, v16])), (q1, .inl (c1, 16, .inl a1)), (q2, .inl (c2, 67200, .inl ur_14)), (q3, .inl (c3, 16, .inl (upd k3_ r (nI (nz5 - 1))))), (q5, .inl (c5, 16, .inl a5)), (q6, .inl (c6, 16, .inl a6)), (q7, .inl (c7, 16, .inl (upd k7_ r (k7_ r + 1))))] H := hP
                    replace hD : va_D A [(q4, .inl (c4, 16, .inl a4)), (q8, .inl (c8, 16, .inl a8)), (q9, .inl (c9, 16, .inl a9)), (q10, .inl (c10, 16, .inl a10)), (q11, .inl (c11, 16, .inl a11)), (h0, .inr (8, [.int th, .ref q1, .ref q2, .ref q3, .ref q4, .ref q5, .ref q6, .ref q7, .ref q8, .ref q9, .ref q10, .ref q11, v12, v13, v14, v15, v16])), (q1, .inl (c1, 16, .inl a1)), (q2, .inl (c2, 67200, .inl ur_14)), (q3, .inl (c3, 16, .inl (upd k3_ r (nI (nz5 - 1))))), (q5, .inl (c5, 16, .inl a5)), (q6, .inl (c6, 16, .inl a6)), (q7, .inl (c7, 16, .inl (upd k7_ r (k7_ r + 1))))] := hD
                    refine W.widen (k := 0) (n := 0) (Nat.le_of_ble_eq_true rfl) (Nat.le_of_ble_eq_true rfl) ?_
                    refine W.eq (g2 := F0 m 238 ls []) rfl ?_
                    have jg := jr_14
                    refine lv_iinc (v := g6 + 1) (lv' := [(6, .int (g6 + 1)), (9, .int (nI k8)), (8, .int (nI k7)), (7, .int g5), (5, .int (nI ne)), (4, .int (nI r)), (0, .ref h0), (1, .int (nI o)), (2, .int p1), (3, .int p2)]) hx hb dX8_over_238 hl (k := 3) rfl rfl (by decide) rfl (fun ls hl => ?_)
                    refine lv_iinc (v := (nI k7) + -1) (lv' := [(8, .int ((nI k7) + -1)), (6, .int (g6 + 1)), (9, .int (nI k8)), (7, .int g5), (5, .int (nI ne)), (4, .int (nI r)), (0, .ref h0), (1, .int (nI o)), (2, .int p1), (3, .int p2)]) hx hb dX8_over_241 hl (k := 2) rfl rfl (by decide) rfl (fun ls hl => ?_)
                    refine lv_goto (tgt := 78) hx hb dX8_over_244 (by decide) ?_
                    exact ihB (z8 := (nI k7) + -1) (g6 := g6 + 1) (g5 := g5) (ls := ls) (k7_ := (upd k7_ r (k7_ r + 1))) (k2_ := ur_14) (k3_ := (upd k3_ r (nI (nz5 - 1)))) (H := H) (locs := locs) (hP := hP.sub (ws' := [(q5, .inl (c5, 16, .inl a5)), (q6, .inl (c6, 16, .inl a6)), (q7, .inl (c7, 16, .inl (upd k7_ r (k7_ r + 1)))), (h0, .inr (8, [.int th, .ref q1, .ref q2, .ref q3, .ref q4, .ref q5, .ref q6, .ref q7, .ref q8, .ref q9, .ref q10, .ref q11, v12, v13, v14, v15, v16])), (q1, .inl (c1, 16, .inl a1)), (q2, .inl (c2, 67200, .inl ur_14)), (q3, .inl (c3, 16, .inl (upd k3_ r (nI (nz5 - 1))))), (q4, .inl (c4, 16, .inl a4)), (q8, .inl (c8, 16, .inl a8)), (q9, .inl (c9, 16, .inl a9)), (q10, .inl (c10, 16, .inl a10)), (q11, .inl (c11, 16, .inl a11))]) [9, 10, 11, 5, 6, 7, 8, 0, 1, 2, 3, 4] rfl) (hS := hS) (hD := hD.sub (ws' := [(q5, .inl (c5, 16, .inl a5)), (q6, .inl (c6, 16, .inl a6)), (q7, .inl (c7, 16, .inl (upd k7_ r (k7_ r + 1)))), (h0, .inr (8, [.int th, .ref q1, .ref q2, .ref q3, .ref q4, .ref q5, .ref q6, .ref q7, .ref q8, .ref q9, .ref q10, .ref q11, v12, v13, v14, v15, v16])), (q1, .inl (c1, 16, .inl a1)), (q2, .inl (c2, 67200, .inl ur_14)), (q3, .inl (c3, 16, .inl (upd k3_ r (nI (nz5 - 1))))), (q4, .inl (c4, 16, .inl a4)), (q8, .inl (c8, 16, .inl a8)), (q9, .inl (c9, 16, .inl a9)), (q10, .inl (c10, 16, .inl a10)), (q11, .inl (c11, 16, .inl a11))]) [9, 10, 11, 5, 6, 7, 8, 0, 1, 2, 3, 4] (by decide) rfl) (hlo := by rw [nI_m1 (by omega)]; omega) (hn8c := by rw [nI_m1 (by omega)]; omega) (hc8 := fun n e hn => by rw [pk_us] at e; rw [← (nI_eq (by omega) (by omega)).mp e, nI_m1 (by omega)]; have h9 := cnt_go (a1 := a1) (a4 := a4) (a8 := a8) (a9 := a9) (a10 := a10) (a11 := a11) hrt9 hz5 hk8 jg.2; omega) (hv6 := by obtain ⟨d9, y1_, y2_⟩ := hv6; exact ⟨d9 + 1, by rw [nI_m1 (by omega)]; omega, rs_tr y2_ (rs_1 jg.1 (fun _ _ => rfl))⟩) (hM6 := mo_us (hM5 _ (by omega))) (hl := lv_sub hl [0, 3, 1, 4, 5, 6, 7, 8, 9] rfl)
              ·
                have ic_10 : p1.toInt = 24 := tx_eq rfl (by decide) c_10
                refine lv_aload_n hx hb dX8_over_187 rfl (lv_at hl 6 rfl) ?_
                refine va_get (D := (dC, dI)) (ci := 8) (v := .ref q2) (C := RX8) (T := TX8) (N := 17) hx hb hts hi0_ hown hK hP 3 rfl rfl 2 (by decide) hw0_ (fun _ h9 => h9) rfl dX8_over_188 ?_
                refine lv_sipush (v := 4200) hx hb dX8_over_191 (by decide) ?_
                refine lv_iload hx hb dX8_over_194 (lv_at hl 5 rfl) ?_
                refine lv_imul hx hb dX8_over_196 ?_
                refine lv_topi (fun z_15 ez_15 => ?_)
                obtain rfl : z_15 = nI (4200 * r) := ez_15.trans (by rw [show (4200 : Int32) = nI 4200 from rfl, pk_mul])
                refine lv_sipush (v := 1000) hx hb dX8_over_197 (by decide) ?_
                refine lv_iadd hx hb dX8_over_200 ?_
                refine lv_topi (fun z_16 ez_16 => ?_)
                obtain rfl : z_16 = nI ((4200 * r) + 1000) := ez_16.trans (by rw [show (1000 : Int32) = nI 1000 from rfl, nI_add])
                refine lv_iload hx hb dX8_over_201 (lv_at hl 0 rfl) ?_
                refine lv_iadd hx hb dX8_over_203 ?_
                refine lv_topi (fun z_17 ez_17 => ?_)
                obtain rfl : z_17 = nI (((4200 * r) + 1000) + k8) := ez_17.trans (by rw [nI_add])
                refine lv_dup2_11 hx hb dX8_over_204 rfl rfl ?_
                refine va_iald (i := nI (((4200 * r) + 1000) + k8)) hx hb hK hP 5 1 rfl rfl (vp_in_nI (by omega) (by omega)) dX8_over_205 ?_
                refine W.eq (g2 := F0 m 206 ls [.int (k2_ (((4200 * r) + 1000) + k8)), .int (nI (((4200 * r) + 1000) + k8)), .ref q2]) (by rw [nI_clamp (by omega)]) ?_
                refine lv_iload_n hx hb dX8_over_206 rfl (lv_at hl 9 rfl) ?_
                refine lv_iadd hx hb dX8_over_207 ?_
                refine va_iast (i := nI (((4200 * r) + 1000) + k8)) hx hb hK hP hD hS 5 1 rfl rfl (vp_in_nI (by omega) (by omega)) dX8_over_208 (fun H locs hP hD hS => ?_)
                rw [nI_clamp (by omega)] at hP hD
                replace hP : va_P (dC, dI) vwCl [(q5, .inl (c5, 16, .inl a5)), (q6, .inl (c6, 16, .inl a6)), (q7, .inl (c7, 16, .inl k7_)), (h0, .inr (8, [.int th, .ref q1, .ref q2, .ref q3, .ref q4, .ref q5, .ref q6, .ref q7, .ref q8, .ref q9, .ref q10, .ref q11, v12, v13, v14, v15, v16])), (q1, .inl (c1, 16, .inl a1)), (q2, .inl (c2, 67200, .inl (upd k2_ (((4200 * r) + 1000) + k8) ((k2_ (((4200 * r) + 1000) + k8)) + p2)))), (q3, .inl (c3, 16, .inl k3_)), (q4, .inl (c4, 16, .inl a4)), (q8, .inl (c8, 16, .inl a8)), (q9, .inl (c9, 16, .inl a9)), (q10, .inl (c10, 16, .inl a10)), (q11, .inl (c11, 16, .inl a11))] H := hP
                replace hD : va_D A [(q5, .inl (c5, 16, .inl a5)), (q6, .inl (c6, 16, .inl a6)), (q7, .inl (c7, 16, .inl k7_)), (h0, .inr (8, [.int th, .ref q1, .ref q2, .ref q3, .ref q4, .ref q5, .ref q6, .ref q7, .ref q8, .ref q9, .ref q10, .ref q11, v12, v13, v14, v15, v16])), (q1, .inl (c1, 16, .inl a1)), (q2, .inl (c2, 67200, .inl (upd k2_ (((4200 * r) + 1000) + k8) ((k2_ (((4200 * r) + 1000) + k8)) + p2)))), (q3, .inl (c3, 16, .inl k3_)), (q4, .inl (c4, 16, .inl a4)), (q8, .inl (c8, 16, .inl a8)), (q9, .inl (c9, 16, .inl a9)), (q10, .inl (c10, 16, .inl a10)), (q11, .inl (c11, 16, .inl a11))] := hD
                refine lv_iinc (v := g6 + 1) (lv' := [(6, .int (g6 + 1)), (9, .int (nI k8)), (8, .int (nI k7)), (7, .int g5), (5, .int (nI ne)), (4, .int (nI r)), (0, .ref h0), (1, .int (nI o)), (2, .int p1), (3, .int p2)]) hx hb dX8_over_209 hl (k := 3) rfl rfl (by decide) rfl (fun ls hl => ?_)
                refine lv_iload_n hx hb dX8_over_212 rfl (lv_at hl 8 rfl) ?_
                refine lv_bipush (v := 25) hx hb dX8_over_213 (by decide) ?_
                refine lv_icmp_ne (tgt := 241) hx hb dX8_over_215 (by decide) (fun c_18 => ?_) (fun c_18 => absurd c_18 (fun h9 => absurd (c_10.symm.trans h9) (by decide)))
                refine lv_iinc (v := (nI k7) + -1) (lv' := [(8, .int ((nI k7) + -1)), (6, .int (g6 + 1)), (9, .int (nI k8)), (7, .int g5), (5, .int (nI ne)), (4, .int (nI r)), (0, .ref h0), (1, .int (nI o)), (2, .int p1), (3, .int p2)]) hx hb dX8_over_241 hl (k := 2) rfl rfl (by decide) rfl (fun ls hl => ?_)
                refine lv_goto (tgt := 78) hx hb dX8_over_244 (by decide) ?_
                exact ihB (z8 := (nI k7) + -1) (g6 := g6 + 1) (g5 := g5) (ls := ls) (k7_ := k7_) (k2_ := (upd k2_ (((4200 * r) + 1000) + k8) ((k2_ (((4200 * r) + 1000) + k8)) + p2))) (k3_ := k3_) (H := H) (locs := locs) (hP := hP.sub (ws' := [(q5, .inl (c5, 16, .inl a5)), (q6, .inl (c6, 16, .inl a6)), (q7, .inl (c7, 16, .inl k7_)), (h0, .inr (8, [.int th, .ref q1, .ref q2, .ref q3, .ref q4, .ref q5, .ref q6, .ref q7, .ref q8, .ref q9, .ref q10, .ref q11, v12, v13, v14, v15, v16])), (q1, .inl (c1, 16, .inl a1)), (q2, .inl (c2, 67200, .inl (upd k2_ (((4200 * r) + 1000) + k8) ((k2_ (((4200 * r) + 1000) + k8)) + p2)))), (q3, .inl (c3, 16, .inl k3_)), (q4, .inl (c4, 16, .inl a4)), (q8, .inl (c8, 16, .inl a8)), (q9, .inl (c9, 16, .inl a9)), (q10, .inl (c10, 16, .inl a10)), (q11, .inl (c11, 16, .inl a11))]) [0, 1, 2, 3, 4, 5, 6, 7, 8, 9, 10, 11] rfl) (hS := hS) (hD := hD.sub (ws' := [(q5, .inl (c5, 16, .inl a5)), (q6, .inl (c6, 16, .inl a6)), (q7, .inl (c7, 16, .inl k7_)), (h0, .inr (8, [.int th, .ref q1, .ref q2, .ref q3, .ref q4, .ref q5, .ref q6, .ref q7, .ref q8, .ref q9, .ref q10, .ref q11, v12, v13, v14, v15, v16])), (q1, .inl (c1, 16, .inl a1)), (q2, .inl (c2, 67200, .inl (upd k2_ (((4200 * r) + 1000) + k8) ((k2_ (((4200 * r) + 1000) + k8)) + p2)))), (q3, .inl (c3, 16, .inl k3_)), (q4, .inl (c4, 16, .inl a4)), (q8, .inl (c8, 16, .inl a8)), (q9, .inl (c9, 16, .inl a9)), (q10, .inl (c10, 16, .inl a10)), (q11, .inl (c11, 16, .inl a11))]) [0, 1, 2, 3, 4, 5, 6, 7, 8, 9, 10, 11] (by decide) rfl) (hlo := by rw [nI_m1 (by omega)]; omega) (hn8c := by rw [nI_m1 (by omega)]; omega) (hc8 := fun n e hn => by rw [cnt_io hrt9 hn (fun i hi => pk_un (by omega)), nI_m1 (by omega)]; have h9 := hc8 n e hn; omega) (hv6 := by obtain ⟨d9, y1_, y2_⟩ := hv6; exact ⟨d9, by rw [nI_m1 (by omega)]; omega, rs_v y2_ (m := 1000 + k8) (by omega) (by omega) (by omega)⟩) (hM6 := hM6) (hl := lv_sub hl [0, 3, 1, 4, 5, 6, 7, 8, 9] rfl)
            ·
              have ic_9 : p1.toInt = 23 := tx_eq rfl (by decide) c_9
              refine lv_iload hx hb dX8_over_154 (lv_at hl 3 rfl) ?_
              refine lv_aload_n hx hb dX8_over_156 rfl (lv_at hl 6 rfl) ?_
              refine lv_iload_n hx hb dX8_over_157 rfl (lv_at hl 7 rfl) ?_
              refine lv_aload_n hx hb dX8_over_158 rfl (lv_at hl 6 rfl) ?_
              refine lv_iload hx hb dX8_over_159 (lv_at hl 5 rfl) ?_
              refine lv_iload hx hb dX8_over_161 (lv_at hl 0 rfl) ?_
              have hPc := hP.sub (ws' := [(h0, .inr (8, [.int th, .ref q1, .ref q2, .ref q3, .ref q4, .ref q5, .ref q6, .ref q7, .ref q8, .ref q9, .ref q10, .ref q11, v12, v13, v14, v15, v16])), (q2, .inl (c2, 67200, .inl k2_))]) [3, 5] rfl
              have hDc := hD.sub (ws' := [(h0, .inr (8, [.int th, .ref q1, .ref q2, .ref q3, .ref q4, .ref q5, .ref q6, .ref q7, .ref q8, .ref q9, .ref q10, .ref q11, v12, v13, v14, v15, v16])), (q2, .inl (c2, 67200, .inl k2_))]) [3, 5] (by decide) rfl
              have hKc := hK.sub (tys' := [(c2, .int)]) [1] rfl
              have hFc := va_free (wc := [(h0, .inr (8, [.int th, .ref q1, .ref q2, .ref q3, .ref q4, .ref q5, .ref q6, .ref q7, .ref q8, .ref q9, .ref q10, .ref q11, v12, v13, v14, v15, v16])), (q2, .inl (c2, 67200, .inl k2_))]) hD hS hA [3, 5] rfl
              refine va_calli (va_runV (As := [.int (nI r), .int (nI k8)]) (rest := [.int (nI o), .ref h0, .int g6]) ⟨hx, hb, hml, hown, hts⟩ (c_X8_key l  dC dI H.size h0 th q2 c2 k2_ (.ref q1) (.ref q3) (.ref q4) (.ref q5) (.ref q6) (.ref q7) (.ref q8) (.ref q9) (.ref q10) (.ref q11) v12 v13 v14 v15 v16 r k8 hr9 (by omega)) (cwV 2 hts gX8_over_X8_key rfl rfl rfl (by decide +kernel) ⟨(Nat.le_of_ble_eq_true rfl), (Nat.le_of_ble_eq_true rfl)⟩) ⟨pk_blind, va_recv hKc hPc (ci := 8) (q0 := 0) rfl rfl, pk_call hPc hKc hDc⟩ rfl rfl hl.1 rfl (lv_room (Nat.le_of_ble_eq_true rfl)) dX8_over_163 ⟨(Nat.le_of_ble_eq_true rfl), (Nat.le_of_ble_eq_true rfl)⟩) hS (fun q _ h => hFc q h) hFc (fun r_19 ur_19 t H1 locs ht hvm hw hB hz1 hk1 hS => ?_)
              try dsimp only at hw
              obtain ⟨hP1, hK1, hD1⟩ := hB
              rw [ht] at hP1
              have hK1 := va_K.moved hvm.symm hK1
              obtain ⟨hP, hD⟩ := va_join (wr := [(q5, .inl (c5, 16, .inl a5)), (q6, .inl (c6, 16, .inl a6)), (q7, .inl (c7, 16, .inl k7_)), (q1, .inl (c1, 16, .inl a1)), (q3, .inl (c3, 16, .inl k3_)), (q4, .inl (c4, 16, .inl a4)), (q8, .inl (c8, 16, .inl a8)), (q9, .inl (c9, 16, .inl a9)), (q10, .inl (c10, 16, .inl a10)), (q11, .inl (c11, 16, .inl a11))]) (w1 := [(h0, .inr (8, [.int th, .ref q1, .ref q2, .ref q3, .ref q4, .ref q5, .ref q6, .ref q7, .ref q8, .ref q9, .ref q10, .ref q11, v12, v13, v14, v15, v16])), (q2, .inl (c2, 67200, .inl k2_))]) hP hD [3, 5] [0, 1, 2, 4, 6, 7, 8, 9, 10, 11] rfl rfl (by decide) (by decide) hk1 hFc hP1 hD1
              clear hk1 hz1 ht hPc hDc hKc hFc
              generalize H1 = H at hP hS ⊢
              replace hP : va_P (dC, dI) vwCl [(q5, .inl (c5, 16, .inl a5)), (q6, .inl (c6, 16, .inl a6)), (q7, .inl (c7, 16, .inl k7_)), (q1, .inl (c1, 16, .inl a1)), (q3, .inl (c3, 16, .inl k3_)), (q4, .inl (c4, 16, .inl a4)), (q8, .inl (c8, 16, .inl a8)), (q9, .inl (c9, 16, .inl a9)), (q10, .inl (c10, 16, .inl a10)), (q11, .inl (c11, 16, .inl a11)), (h0, .inr (8, [.int th, .ref q1, .ref q2, .ref q3, .ref q4, .ref q5, .ref q6, .ref q7, .ref q8, .ref q9, .ref q10, .ref q11, v12, v13, v14, v15, v16])), (q2, .inl (c2, 67200, .inl k2_))] H := hP
              replace hD : va_D A [(q5, .inl (c5, 16, .inl a5)), (q6, .inl (c6, 16, .inl a6)), (q7, .inl (c7, 16, .inl k7_)), (q1, .inl (c1, 16, .inl a1)), (q3, .inl (c3, 16, .inl k3_)), (q4, .inl (c4, 16, .inl a4)), (q8, .inl (c8, 16, .inl a8)), (q9, .inl (c9, 16, .inl a9)), (q10, .inl (c10, 16, .inl a10)), (q11, .inl (c11, 16, .inl a11)), (h0, .inr (8, [.int th, .ref q1, .ref q2, .ref q3, .ref q4, .ref q5, .ref q6, .ref q7, .ref q8, .ref q9, .ref q10, .ref q11, v12, v13, v14, v15, v16])), (q2, .inl (c2, 67200, .inl k2_))] := hD
              refine W.widen (k := 0) (n := 0) (Nat.le_of_ble_eq_true rfl) (Nat.le_of_ble_eq_true rfl) ?_
              obtain rfl : r_19 = k2_ (4200 * r + k8) := hw
              refine W.eq (g2 := F0 m 166 ls [.int (k2_ (4200 * r + k8)), .int (nI o), .ref h0, .int g6]) rfl ?_
              refine lv_iload_n hx hb dX8_over_166 rfl (lv_at hl 9 rfl) ?_
              have hPc := hP.sub (ws' := [(h0, .inr (8, [.int th, .ref q1, .ref q2, .ref q3, .ref q4, .ref q5, .ref q6, .ref q7, .ref q8, .ref q9, .ref q10, .ref q11, v12, v13, v14, v15, v16])), (q1, .inl (c1, 16, .inl a1)), (q4, .inl (c4, 16, .inl a4)), (q8, .inl (c8, 16, .inl a8)), (q11, .inl (c11, 16, .inl a11))]) [10, 3, 5, 6, 9] rfl
              have hDc := hD.sub (ws' := [(h0, .inr (8, [.int th, .ref q1, .ref q2, .ref q3, .ref q4, .ref q5, .ref q6, .ref q7, .ref q8, .ref q9, .ref q10, .ref q11, v12, v13, v14, v15, v16])), (q1, .inl (c1, 16, .inl a1)), (q4, .inl (c4, 16, .inl a4)), (q8, .inl (c8, 16, .inl a8)), (q11, .inl (c11, 16, .inl a11))]) [10, 3, 5, 6, 9] (by decide) rfl
              have hKc := hK.sub (tys' := [(c1, .int), (c4, .int), (c8, .int), (c11, .int)]) [0, 3, 7, 10] rfl
              have hFc := va_free (wc := [(h0, .inr (8, [.int th, .ref q1, .ref q2, .ref q3, .ref q4, .ref q5, .ref q6, .ref q7, .ref q8, .ref q9, .ref q10, .ref q11, v12, v13, v14, v15, v16])), (q1, .inl (c1, 16, .inl a1)), (q4, .inl (c4, 16, .inl a4)), (q8, .inl (c8, 16, .inl a8)), (q11, .inl (c11, 16, .inl a11))]) hD hS hA [10, 3, 5, 6, 9] rfl
              refine va_calli (va_runV (As := [.int (nI o), .int (k2_ (4200 * r + k8)), .int p2]) (rest := [.int g6]) ⟨hx, hb, hml, hown, hts⟩ (c_X8_ordered l  dC dI H.size h0 th q1 q4 q8 q11 c1 c4 c8 c11 a1 a4 a8 a11 (.ref q2) (.ref q3) (.ref q5) (.ref q6) (.ref q7) (.ref q9) (.ref q10) v12 v13 v14 v15 v16 o dep (k2_ (4200 * r + k8)) p2 ho9 hF9 hd9) (cwV 3 hts gX8_over_X8_ordered rfl rfl rfl (by decide +kernel) ⟨(Nat.le_of_ble_eq_true rfl), (Nat.le_of_ble_eq_true rfl)⟩) ⟨pk_blind, va_recv hKc hPc (ci := 8) (q0 := 0) rfl rfl, pk_call hPc hKc hDc⟩ rfl rfl hl.1 rfl (lv_room (Nat.le_of_ble_eq_true rfl)) dX8_over_167 ⟨(Nat.le_of_ble_eq_true rfl), (Nat.le_of_ble_eq_true rfl)⟩) hS (fun q _ h => hFc q h) hFc (fun r_20 ur_20 t H1 locs ht hvm hw hB hz1 hk1 hS => ?_)
              try dsimp only at hw
              have jr_20 := hw
              obtain ⟨hP1, hK1, hD1⟩ := hB
              rw [ht] at hP1
              have hK1 := va_K.moved hvm.symm hK1
              obtain ⟨hP, hD⟩ := va_join (wr := [(q5, .inl (c5, 16, .inl a5)), (q6, .inl (c6, 16, .inl a6)), (q7, .inl (c7, 16, .inl k7_)), (q3, .inl (c3, 16, .inl k3_)), (q9, .inl (c9, 16, .inl a9)), (q10, .inl (c10, 16, .inl a10)), (q2, .inl (c2, 67200, .inl k2_))]) (w1 := [(h0, .inr (8, [.int th, .ref q1, .ref q2, .ref q3, .ref q4, .ref q5, .ref q6, .ref q7, .ref q8, .ref q9, .ref q10, .ref q11, v12, v13, v14, v15, v16])), (q1, .inl (c1, 16, .inl a1)), (q4, .inl (c4, 16, .inl a4)), (q8, .inl (c8, 16, .inl a8)), (q11, .inl (c11, 16, .inl a11))]) hP hD [10, 3, 5, 6, 9] [0, 1, 2, 4, 7, 8, 11] rfl rfl (by decide) (by decide) hk1 hFc hP1 hD1
              clear hk1 hz1 ht hPc hDc hKc hFc
              generalize H1 = H at hP hS ⊢
              replace hP : va_P (dC, dI) vwCl [(q5, .inl (c5, 16, .inl a5)), (q6, .inl (c6, 16, .inl a6)), (q7, .inl (c7, 16, .inl k7_)), (q3, .inl (c3, 16, .inl k3_)), (q9, .inl (c9, 16, .inl a9)), (q10, .inl (c10, 16, .inl a10)), (q2, .inl (c2, 67200, .inl k2_)), (h0, .inr (8, [.int th, .ref q1, .ref q2, .ref q3, .ref q4, .ref q5, .ref q6, .ref q7, .ref q8, .ref q9, .ref q10, .ref q11, v12, v13, v14, v15, v16])), (q1, .inl (c1, 16, .inl a1)), (q4, .inl (c4, 16, .inl a4)), (q8, .inl (c8, 16, .inl a8)), (q11, .inl (c11, 16, .inl a11))] H := hP
              replace hD : va_D A [(q5, .inl (c5, 16, .inl a5)), (q6, .inl (c6, 16, .inl a6)), (q7, .inl (c7, 16, .inl k7_)), (q3, .inl (c3, 16, .inl k3_)), (q9, .inl (c9, 16, .inl a9)), (q10, .inl (c10, 16, .inl a10)), (q2, .inl (c2, 67200, .inl k2_)), (h0, .inr (8, [.int th, .ref q1, .ref q2, .ref q3, .ref q4, .ref q5, .ref q6, .ref q7, .ref q8, .ref q9, .ref q10, .ref q11, v12, v13, v14, v15, v16])), (q1, .inl (c1, 16, .inl a1)), (q4, .inl (c4, 16, .inl a4)), (q8, .inl (c8, 16, .inl a8)), (q11, .inl (c11, 16, .inl a11))] := hD
              refine W.widen (k := 0) (n := 0) (Nat.le_of_ble_eq_true rfl) (Nat.le_of_ble_eq_true rfl) ?_
              refine W.eq (g2 := F0 m 170 ls [.int r_20, .int g6]) rfl ?_
              refine lv_if_ge (tgt := 177) hx hb dX8_over_170 (by decide) (fun c_21 => ?_) (fun c_21 => ?_)
              ·
                have ic_21 : 0 ≤ r_20.toInt := tx_le (by decide) rfl c_21
                refine lv_iconst (v := 0) hx hb dX8_over_177 (by decide) ?_
                refine lv_iadd hx hb dX8_over_178 ?_
                refine lv_istore (lv' := [(6, .int (g6 + 0)), (9, .int (nI k8)), (8, .int (nI k7)), (7, .int g5), (5, .int (nI ne)), (4, .int (nI r)), (0, .ref h0), (1, .int (nI o)), (2, .int p1), (3, .int p2)]) hx hb dX8_over_179 hl (by decide) rfl (fun ls hl => ?_)
                refine lv_iload_n hx hb dX8_over_181 rfl (lv_at hl 8 rfl) ?_
                refine lv_bipush (v := 24) hx hb dX8_over_182 (by decide) ?_
                refine lv_icmp_ne (tgt := 212) hx hb dX8_over_184 (by decide) (fun c_22 => ?_) (fun c_22 => absurd c_22 (fun h9 => absurd (c_9.symm.trans h9) (by decide)))
                refine lv_iload_n hx hb dX8_over_212 rfl (lv_at hl 8 rfl) ?_
                refine lv_bipush (v := 25) hx hb dX8_over_213 (by decide) ?_
                refine lv_icmp_ne (tgt := 241) hx hb dX8_over_215 (by decide) (fun c_23 => ?_) (fun c_23 => absurd c_23 (fun h9 => absurd (c_9.symm.trans h9) (by decide)))
                refine lv_iinc (v := (nI k7) + -1) (lv' := [(8, .int ((nI k7) + -1)), (6, .int (g6 + 0)), (9, .int (nI k8)), (7, .int g5), (5, .int (nI ne)), (4, .int (nI r)), (0, .ref h0), (1, .int (nI o)), (2, .int p1), (3, .int p2)]) hx hb dX8_over_241 hl (k := 2) rfl rfl (by decide) rfl (fun ls hl => ?_)
                refine lv_goto (tgt := 78) hx hb dX8_over_244 (by decide) ?_
                exact ihB (z8 := (nI k7) + -1) (g6 := g6 + 0) (g5 := g5) (ls := ls) (k7_ := k7_) (k2_ := k2_) (k3_ := k3_) (H := H) (locs := locs) (hP := hP.sub (ws' := [(q5, .inl (c5, 16, .inl a5)), (q6, .inl (c6, 16, .inl a6)), (q7, .inl (c7, 16, .inl k7_)), (h0, .inr (8, [.int th, .ref q1, .ref q2, .ref q3, .ref q4, .ref q5, .ref q6, .ref q7, .ref q8, .ref q9, .ref q10, .ref q11, v12, v13, v14, v15, v16])), (q1, .inl (c1, 16, .inl a1)), (q2, .inl (c2, 67200, .inl k2_)), (q3, .inl (c3, 16, .inl k3_)), (q4, .inl (c4, 16, .inl a4)), (q8, .inl (c8, 16, .inl a8)), (q9, .inl (c9, 16, .inl a9)), (q10, .inl (c10, 16, .inl a10)), (q11, .inl (c11, 16, .inl a11))]) [0, 1, 2, 7, 8, 6, 3, 9, 10, 4, 5, 11] rfl) (hS := hS) (hD := hD.sub (ws' := [(q5, .inl (c5, 16, .inl a5)), (q6, .inl (c6, 16, .inl a6)), (q7, .inl (c7, 16, .inl k7_)), (h0, .inr (8, [.int th, .ref q1, .ref q2, .ref q3, .ref q4, .ref q5, .ref q6, .ref q7, .ref q8, .ref q9, .ref q10, .ref q11, v12, v13, v14, v15, v16])), (q1, .inl (c1, 16, .inl a1)), (q2, .inl (c2, 67200, .inl k2_)), (q3, .inl (c3, 16, .inl k3_)), (q4, .inl (c4, 16, .inl a4)), (q8, .inl (c8, 16, .inl a8)), (q9, .inl (c9, 16, .inl a9)), (q10, .inl (c10, 16, .inl a10)), (q11, .inl (c11, 16, .inl a11))]) [0, 1, 2, 7, 8, 6, 3, 9, 10, 4, 5, 11] (by decide) rfl) (hlo := by rw [nI_m1 (by omega)]; omega) (hn8c := by rw [nI_m1 (by omega)]; omega) (hc8 := fun n e hn => by have h9 := hc8 n e hn; rw [nI_m1 (by omega)]; omega) (hv6 := by obtain ⟨d9, y1_, y2_⟩ := hv6; exact ⟨d9, by rw [nI_m1 (by omega)]; omega, y2_⟩) (hM6 := hM6) (hl := lv_sub hl [0, 3, 1, 4, 5, 6, 7, 8, 9] rfl)
              ·
                have ic_21 : r_20.toInt < 0 := tx_nle (by decide) rfl c_21
                refine lv_iconst (v := 1) hx hb dX8_over_173 (by decide) ?_
                refine lv_goto (tgt := 178) hx hb dX8_over_174 (by decide) ?_
                refine lv_iadd hx hb dX8_over_178 ?_
                refine lv_istore (lv' := [(6, .int (g6 + 1)), (9, .int (nI k8)), (8, .int (nI k7)), (7, .int g5), (5, .int (nI ne)), (4, .int (nI r)), (0, .ref h0), (1, .int (nI o)), (2, .int p1), (3, .int p2)]) hx hb dX8_over_179 hl (by decide) rfl (fun ls hl => ?_)
                refine lv_iload_n hx hb dX8_over_181 rfl (lv_at hl 8 rfl) ?_
                refine lv_bipush (v := 24) hx hb dX8_over_182 (by decide) ?_
                refine lv_icmp_ne (tgt := 212) hx hb dX8_over_184 (by decide) (fun c_24 => ?_) (fun c_24 => absurd c_24 (fun h9 => absurd (c_9.symm.trans h9) (by decide)))
                refine lv_iload_n hx hb dX8_over_212 rfl (lv_at hl 8 rfl) ?_
                refine lv_bipush (v := 25) hx hb dX8_over_213 (by decide) ?_
                refine lv_icmp_ne (tgt := 241) hx hb dX8_over_215 (by decide) (fun c_25 => ?_) (fun c_25 => absurd c_25 (fun h9 => absurd (c_9.symm.trans h9) (by decide)))
                refine lv_iinc (v := (nI k7) + -1) (lv' := [(8, .int ((nI k7) + -1)), (6, .int (g6 + 1)), (9, .int (nI k8)), (7, .int g5), (5, .int (nI ne)), (4, .int (nI r)), (0, .ref h0), (1, .int (nI o)), (2, .int p1), (3, .int p2)]) hx hb dX8_over_241 hl (k := 2) rfl rfl (by decide) rfl (fun ls hl => ?_)
                refine lv_goto (tgt := 78) hx hb dX8_over_244 (by decide) ?_
                exact ihB (z8 := (nI k7) + -1) (g6 := g6 + 1) (g5 := g5) (ls := ls) (k7_ := k7_) (k2_ := k2_) (k3_ := k3_) (H := H) (locs := locs) (hP := hP.sub (ws' := [(q5, .inl (c5, 16, .inl a5)), (q6, .inl (c6, 16, .inl a6)), (q7, .inl (c7, 16, .inl k7_)), (h0, .inr (8, [.int th, .ref q1, .ref q2, .ref q3, .ref q4, .ref q5, .ref q6, .ref q7, .ref q8, .ref q9, .ref q10, .ref q11, v12, v13, v14, v15, v16])), (q1, .inl (c1, 16, .inl a1)), (q2, .inl (c2, 67200, .inl k2_)), (q3, .inl (c3, 16, .inl k3_)), (q4, .inl (c4, 16, .inl a4)), (q8, .inl (c8, 16, .inl a8)), (q9, .inl (c9, 16, .inl a9)), (q10, .inl (c10, 16, .inl a10)), (q11, .inl (c11, 16, .inl a11))]) [0, 1, 2, 7, 8, 6, 3, 9, 10, 4, 5, 11] rfl) (hS := hS) (hD := hD.sub (ws' := [(q5, .inl (c5, 16, .inl a5)), (q6, .inl (c6, 16, .inl a6)), (q7, .inl (c7, 16, .inl k7_)), (h0, .inr (8, [.int th, .ref q1, .ref q2, .ref q3, .ref q4, .ref q5, .ref q6, .ref q7, .ref q8, .ref q9, .ref q10, .ref q11, v12, v13, v14, v15, v16])), (q1, .inl (c1, 16, .inl a1)), (q2, .inl (c2, 67200, .inl k2_)), (q3, .inl (c3, 16, .inl k3_)), (q4, .inl (c4, 16, .inl a4)), (q8, .inl (c8, 16, .inl a8)), (q9, .inl (c9, 16, .inl a9)), (q10, .inl (c10, 16, .inl a10)), (q11, .inl (c11, 16, .inl a11))]) [0, 1, 2, 7, 8, 6, 3, 9, 10, 4, 5, 11] (by decide) rfl) (hlo := by rw [nI_m1 (by omega)]; omega) (hn8c := by rw [nI_m1 (by omega)]; omega) (hc8 := fun n e hn => by have h9 := hc8 n e hn; rw [nI_m1 (by omega)]; omega) (hv6 := by obtain ⟨d9, y1_, y2_⟩ := hv6; exact ⟨d9, by rw [nI_m1 (by omega)]; omega, y2_⟩) (hM6 := hM6) (hl := lv_sub hl [0, 3, 1, 4, 5, 6, 7, 8, 9] rfl)
          ·
            have ic_8 : p1.toInt = 18 := tx_eq rfl (by decide) c_8
            refine lv_iload hx hb dX8_over_126 (lv_at hl 2 rfl) ?_
            refine lv_aload_n hx hb dX8_over_128 rfl (lv_at hl 6 rfl) ?_
            refine lv_iload hx hb dX8_over_129 (lv_at hl 5 rfl) ?_
            refine lv_iload hx hb dX8_over_131 (lv_at hl 0 rfl) ?_
            have hPc := hP.sub (ws' := [(h0, .inr (8, [.int th, .ref q1, .ref q2, .ref q3, .ref q4, .ref q5, .ref q6, .ref q7, .ref q8, .ref q9, .ref q10, .ref q11, v12, v13, v14, v15, v16])), (q2, .inl (c2, 67200, .inl k2_))]) [3, 5] rfl
            have hDc := hD.sub (ws' := [(h0, .inr (8, [.int th, .ref q1, .ref q2, .ref q3, .ref q4, .ref q5, .ref q6, .ref q7, .ref q8, .ref q9, .ref q10, .ref q11, v12, v13, v14, v15, v16])), (q2, .inl (c2, 67200, .inl k2_))]) [3, 5] (by decide) rfl
            have hKc := hK.sub (tys' := [(c2, .int)]) [1] rfl
            have hFc := va_free (wc := [(h0, .inr (8, [.int th, .ref q1, .ref q2, .ref q3, .ref q4, .ref q5, .ref q6, .ref q7, .ref q8, .ref q9, .ref q10, .ref q11, v12, v13, v14, v15, v16])), (q2, .inl (c2, 67200, .inl k2_))]) hD hS hA [3, 5] rfl
            refine va_calli (va_runV (As := [.int (nI r), .int (nI k8)]) (rest := [.int g5]) ⟨hx, hb, hml, hown, hts⟩ (c_X8_key l  dC dI H.size h0 th q2 c2 k2_ (.ref q1) (.ref q3) (.ref q4) (.ref q5) (.ref q6) (.ref q7) (.ref q8) (.ref q9) (.ref q10) (.ref q11) v12 v13 v14 v15 v16 r k8 hr9 (by omega)) (cwV 2 hts gX8_over_X8_key rfl rfl rfl (by decide +kernel) ⟨(Nat.le_of_ble_eq_true rfl), (Nat.le_of_ble_eq_true rfl)⟩) ⟨pk_blind, va_recv hKc hPc (ci := 8) (q0 := 0) rfl rfl, pk_call hPc hKc hDc⟩ rfl rfl hl.1 rfl (lv_room (Nat.le_of_ble_eq_true rfl)) dX8_over_133 ⟨(Nat.le_of_ble_eq_true rfl), (Nat.le_of_ble_eq_true rfl)⟩) hS (fun q _ h => hFc q h) hFc (fun r_26 ur_26 t H1 locs ht hvm hw hB hz1 hk1 hS => ?_)
            try dsimp only at hw
            obtain ⟨hP1, hK1, hD1⟩ := hB
            rw [ht] at hP1
            have hK1 := va_K.moved hvm.symm hK1
            obtain ⟨hP, hD⟩ := va_join (wr := [(q5, .inl (c5, 16, .inl a5)), (q6, .inl (c6, 16, .inl a6)), (q7, .inl (c7, 16, .inl k7_)), (q1, .inl (c1, 16, .inl a1)), (q3, .inl (c3, 16, .inl k3_)), (q4, .inl (c4, 16, .inl a4)), (q8, .inl (c8, 16, .inl a8)), (q9, .inl (c9, 16, .inl a9)), (q10, .inl (c10, 16, .inl a10)), (q11, .inl (c11, 16, .inl a11))]) (w1 := [(h0, .inr (8, [.int th, .ref q1, .ref q2, .ref q3, .ref q4, .ref q5, .ref q6, .ref q7, .ref q8, .ref q9, .ref q10, .ref q11, v12, v13, v14, v15, v16])), (q2, .inl (c2, 67200, .inl k2_))]) hP hD [3, 5] [0, 1, 2, 4, 6, 7, 8, 9, 10, 11] rfl rfl (by decide) (by decide) hk1 hFc hP1 hD1
            clear hk1 hz1 ht hPc hDc hKc hFc
            generalize H1 = H at hP hS ⊢
            replace hP : va_P (dC, dI) vwCl [(q5, .inl (c5, 16, .inl a5)), (q6, .inl (c6, 16, .inl a6)), (q7, .inl (c7, 16, .inl k7_)), (q1, .inl (c1, 16, .inl a1)), (q3, .inl (c3, 16, .inl k3_)), (q4, .inl (c4, 16, .inl a4)), (q8, .inl (c8, 16, .inl a8)), (q9, .inl (c9, 16, .inl a9)), (q10, .inl (c10, 16, .inl a10)), (q11, .inl (c11, 16, .inl a11)), (h0, .inr (8, [.int th, .ref q1, .ref q2, .ref q3, .ref q4, .ref q5, .ref q6, .ref q7, .ref q8, .ref q9, .ref q10, .ref q11, v12, v13, v14, v15, v16])), (q2, .inl (c2, 67200, .inl k2_))] H := hP
            replace hD : va_D A [(q5, .inl (c5, 16, .inl a5)), (q6, .inl (c6, 16, .inl a6)), (q7, .inl (c7, 16, .inl k7_)), (q1, .inl (c1, 16, .inl a1)), (q3, .inl (c3, 16, .inl k3_)), (q4, .inl (c4, 16, .inl a4)), (q8, .inl (c8, 16, .inl a8)), (q9, .inl (c9, 16, .inl a9)), (q10, .inl (c10, 16, .inl a10)), (q11, .inl (c11, 16, .inl a11)), (h0, .inr (8, [.int th, .ref q1, .ref q2, .ref q3, .ref q4, .ref q5, .ref q6, .ref q7, .ref q8, .ref q9, .ref q10, .ref q11, v12, v13, v14, v15, v16])), (q2, .inl (c2, 67200, .inl k2_))] := hD
            refine W.widen (k := 0) (n := 0) (Nat.le_of_ble_eq_true rfl) (Nat.le_of_ble_eq_true rfl) ?_
            obtain rfl : r_26 = k2_ (4200 * r + k8) := hw
            refine W.eq (g2 := F0 m 136 ls [.int (k2_ (4200 * r + k8)), .int g5]) rfl ?_
            refine lv_aload_n hx hb dX8_over_136 rfl (lv_at hl 6 rfl) ?_
            refine lv_iload hx hb dX8_over_137 (lv_at hl 5 rfl) ?_
            refine lv_iload hx hb dX8_over_139 (lv_at hl 0 rfl) ?_
            have hPc := hP.sub (ws' := [(h0, .inr (8, [.int th, .ref q1, .ref q2, .ref q3, .ref q4, .ref q5, .ref q6, .ref q7, .ref q8, .ref q9, .ref q10, .ref q11, v12, v13, v14, v15, v16])), (q2, .inl (c2, 67200, .inl k2_))]) [10, 11] rfl
            have hDc := hD.sub (ws' := [(h0, .inr (8, [.int th, .ref q1, .ref q2, .ref q3, .ref q4, .ref q5, .ref q6, .ref q7, .ref q8, .ref q9, .ref q10, .ref q11, v12, v13, v14, v15, v16])), (q2, .inl (c2, 67200, .inl k2_))]) [10, 11] (by decide) rfl
            have hKc := hK.sub (tys' := [(c2, .int)]) [1] rfl
            have hFc := va_free (wc := [(h0, .inr (8, [.int th, .ref q1, .ref q2, .ref q3, .ref q4, .ref q5, .ref q6, .ref q7, .ref q8, .ref q9, .ref q10, .ref q11, v12, v13, v14, v15, v16])), (q2, .inl (c2, 67200, .inl k2_))]) hD hS hA [10, 11] rfl
            refine va_calli (va_runV (As := [.int (nI r), .int (nI k8)]) (rest := [.int (k2_ (4200 * r + k8)), .int g5]) ⟨hx, hb, hml, hown, hts⟩ (c_X8_value l  dC dI H.size h0 th q2 c2 k2_ (.ref q1) (.ref q3) (.ref q4) (.ref q5) (.ref q6) (.ref q7) (.ref q8) (.ref q9) (.ref q10) (.ref q11) v12 v13 v14 v15 v16 r k8 hr9 (by omega)) (cwV 2 hts gX8_over_X8_value rfl rfl rfl (by decide +kernel) ⟨(Nat.le_of_ble_eq_true rfl), (Nat.le_of_ble_eq_true rfl)⟩) ⟨pk_blind, va_recv hKc hPc (ci := 8) (q0 := 0) rfl rfl, pk_call hPc hKc hDc⟩ rfl rfl hl.1 rfl (lv_room (Nat.le_of_ble_eq_true rfl)) dX8_over_141 ⟨(Nat.le_of_ble_eq_true rfl), (Nat.le_of_ble_eq_true rfl)⟩) hS (fun q _ h => hFc q h) hFc (fun r_27 ur_27 t H1 locs ht hvm hw hB hz1 hk1 hS => ?_)
            try dsimp only at hw
            obtain ⟨hP1, hK1, hD1⟩ := hB
            rw [ht] at hP1
            have hK1 := va_K.moved hvm.symm hK1
            obtain ⟨hP, hD⟩ := va_join (wr := [(q5, .inl (c5, 16, .inl a5)), (q6, .inl (c6, 16, .inl a6)), (q7, .inl (c7, 16, .inl k7_)), (q1, .inl (c1, 16, .inl a1)), (q3, .inl (c3, 16, .inl k3_)), (q4, .inl (c4, 16, .inl a4)), (q8, .inl (c8, 16, .inl a8)), (q9, .inl (c9, 16, .inl a9)), (q10, .inl (c10, 16, .inl a10)), (q11, .inl (c11, 16, .inl a11))]) (w1 := [(h0, .inr (8, [.int th, .ref q1, .ref q2, .ref q3, .ref q4, .ref q5, .ref q6, .ref q7, .ref q8, .ref q9, .ref q10, .ref q11, v12, v13, v14, v15, v16])), (q2, .inl (c2, 67200, .inl k2_))]) hP hD [10, 11] [0, 1, 2, 3, 4, 5, 6, 7, 8, 9] rfl rfl (by decide) (by decide) hk1 hFc hP1 hD1
            clear hk1 hz1 ht hPc hDc hKc hFc
            generalize H1 = H at hP hS ⊢
            replace hP : va_P (dC, dI) vwCl [(q5, .inl (c5, 16, .inl a5)), (q6, .inl (c6, 16, .inl a6)), (q7, .inl (c7, 16, .inl k7_)), (q1, .inl (c1, 16, .inl a1)), (q3, .inl (c3, 16, .inl k3_)), (q4, .inl (c4, 16, .inl a4)), (q8, .inl (c8, 16, .inl a8)), (q9, .inl (c9, 16, .inl a9)), (q10, .inl (c10, 16, .inl a10)), (q11, .inl (c11, 16, .inl a11)), (h0, .inr (8, [.int th, .ref q1, .ref q2, .ref q3, .ref q4, .ref q5, .ref q6, .ref q7, .ref q8, .ref q9, .ref q10, .ref q11, v12, v13, v14, v15, v16])), (q2, .inl (c2, 67200, .inl k2_))] H := hP
            replace hD : va_D A [(q5, .inl (c5, 16, .inl a5)), (q6, .inl (c6, 16, .inl a6)), (q7, .inl (c7, 16, .inl k7_)), (q1, .inl (c1, 16, .inl a1)), (q3, .inl (c3, 16, .inl k3_)), (q4, .inl (c4, 16, .inl a4)), (q8, .inl (c8, 16, .inl a8)), (q9, .inl (c9, 16, .inl a9)), (q10, .inl (c10, 16, .inl a10)), (q11, .inl (c11, 16, .inl a11)), (h0, .inr (8, [.int th, .ref q1, .ref q2, .ref q3, .ref q4, .ref q5, .ref q6, .ref q7, .ref q8, .ref q9, .ref q10, .ref q11, v12, v13, v14, v15, v16])), (q2, .inl (c2, 67200, .inl k2_))] := hD
            refine W.widen (k := 0) (n := 0) (Nat.le_of_ble_eq_true rfl) (Nat.le_of_ble_eq_true rfl) ?_
            obtain rfl : r_27 = k2_ (4200 * r + 1000 + k8) := hw
            refine W.eq (g2 := F0 m 144 ls [.int (k2_ (4200 * r + 1000 + k8)), .int (k2_ (4200 * r + k8)), .int g5]) rfl ?_
            refine lv_ixor hx hb dX8_over_144 ?_
            refine lv_iadd hx hb dX8_over_145 ?_
            refine lv_istore (lv' := [(7, .int (g5 + ((k2_ (4200 * r + k8)) ^^^ (k2_ (4200 * r + 1000 + k8))))), (9, .int (nI k8)), (8, .int (nI k7)), (6, .int g6), (5, .int (nI ne)), (4, .int (nI r)), (0, .ref h0), (1, .int (nI o)), (2, .int p1), (3, .int p2)]) hx hb dX8_over_146 hl (by decide) rfl (fun ls hl => ?_)
            refine lv_iload_n hx hb dX8_over_148 rfl (lv_at hl 8 rfl) ?_
            refine lv_bipush (v := 23) hx hb dX8_over_149 (by decide) ?_
            refine lv_icmp_ne (tgt := 181) hx hb dX8_over_151 (by decide) (fun c_28 => ?_) (fun c_28 => absurd c_28 (fun h9 => absurd (c_8.symm.trans h9) (by decide)))
            refine lv_iload_n hx hb dX8_over_181 rfl (lv_at hl 8 rfl) ?_
            refine lv_bipush (v := 24) hx hb dX8_over_182 (by decide) ?_
            refine lv_icmp_ne (tgt := 212) hx hb dX8_over_184 (by decide) (fun c_29 => ?_) (fun c_29 => absurd c_29 (fun h9 => absurd (c_8.symm.trans h9) (by decide)))
            refine lv_iload_n hx hb dX8_over_212 rfl (lv_at hl 8 rfl) ?_
            refine lv_bipush (v := 25) hx hb dX8_over_213 (by decide) ?_
            refine lv_icmp_ne (tgt := 241) hx hb dX8_over_215 (by decide) (fun c_30 => ?_) (fun c_30 => absurd c_30 (fun h9 => absurd (c_8.symm.trans h9) (by decide)))
            refine lv_iinc (v := (nI k7) + -1) (lv' := [(8, .int ((nI k7) + -1)), (7, .int (g5 + ((k2_ (4200 * r + k8)) ^^^ (k2_ (4200 * r + 1000 + k8))))), (9, .int (nI k8)), (6, .int g6), (5, .int (nI ne)), (4, .int (nI r)), (0, .ref h0), (1, .int (nI o)), (2, .int p1), (3, .int p2)]) hx hb dX8_over_241 hl (k := 2) rfl rfl (by decide) rfl (fun ls hl => ?_)
            refine lv_goto (tgt := 78) hx hb dX8_over_244 (by decide) ?_
            exact ihB (z8 := (nI k7) + -1) (g6 := g6) (g5 := g5 + ((k2_ (4200 * r + k8)) ^^^ (k2_ (4200 * r + 1000 + k8)))) (ls := ls) (k7_ := k7_) (k2_ := k2_) (k3_ := k3_) (H := H) (locs := locs) (hP := hP.sub (ws' := [(q5, .inl (c5, 16, .inl a5)), (q6, .inl (c6, 16, .inl a6)), (q7, .inl (c7, 16, .inl k7_)), (h0, .inr (8, [.int th, .ref q1, .ref q2, .ref q3, .ref q4, .ref q5, .ref q6, .ref q7, .ref q8, .ref q9, .ref q10, .ref q11, v12, v13, v14, v15, v16])), (q1, .inl (c1, 16, .inl a1)), (q2, .inl (c2, 67200, .inl k2_)), (q3, .inl (c3, 16, .inl k3_)), (q4, .inl (c4, 16, .inl a4)), (q8, .inl (c8, 16, .inl a8)), (q9, .inl (c9, 16, .inl a9)), (q10, .inl (c10, 16, .inl a10)), (q11, .inl (c11, 16, .inl a11))]) [0, 1, 2, 10, 3, 11, 4, 5, 6, 7, 8, 9] rfl) (hS := hS) (hD := hD.sub (ws' := [(q5, .inl (c5, 16, .inl a5)), (q6, .inl (c6, 16, .inl a6)), (q7, .inl (c7, 16, .inl k7_)), (h0, .inr (8, [.int th, .ref q1, .ref q2, .ref q3, .ref q4, .ref q5, .ref q6, .ref q7, .ref q8, .ref q9, .ref q10, .ref q11, v12, v13, v14, v15, v16])), (q1, .inl (c1, 16, .inl a1)), (q2, .inl (c2, 67200, .inl k2_)), (q3, .inl (c3, 16, .inl k3_)), (q4, .inl (c4, 16, .inl a4)), (q8, .inl (c8, 16, .inl a8)), (q9, .inl (c9, 16, .inl a9)), (q10, .inl (c10, 16, .inl a10)), (q11, .inl (c11, 16, .inl a11))]) [0, 1, 2, 10, 3, 11, 4, 5, 6, 7, 8, 9] (by decide) rfl) (hlo := by rw [nI_m1 (by omega)]; omega) (hn8c := by rw [nI_m1 (by omega)]; omega) (hc8 := fun n e hn => by have h9 := hc8 n e hn; rw [nI_m1 (by omega)]; omega) (hv6 := by obtain ⟨d9, y1_, y2_⟩ := hv6; exact ⟨d9, by rw [nI_m1 (by omega)]; omega, y2_⟩) (hM6 := hM6) (hl := lv_sub hl [0, 1, 3, 4, 5, 6, 7, 8, 9] rfl)
        ·
          have ic_7 : p1.toInt = 9 := tx_eq rfl (by decide) c_7
          refine lv_iload hx hb dX8_over_98 (lv_at hl 3 rfl) ?_
          refine lv_aload_n hx hb dX8_over_100 rfl (lv_at hl 6 rfl) ?_
          refine lv_iload hx hb dX8_over_101 (lv_at hl 5 rfl) ?_
          refine lv_iload hx hb dX8_over_103 (lv_at hl 0 rfl) ?_
          have hPc := hP.sub (ws' := [(h0, .inr (8, [.int th, .ref q1, .ref q2, .ref q3, .ref q4, .ref q5, .ref q6, .ref q7, .ref q8, .ref q9, .ref q10, .ref q11, v12, v13, v14, v15, v16])), (q2, .inl (c2, 67200, .inl k2_))]) [3, 5] rfl
          have hDc := hD.sub (ws' := [(h0, .inr (8, [.int th, .ref q1, .ref q2, .ref q3, .ref q4, .ref q5, .ref q6, .ref q7, .ref q8, .ref q9, .ref q10, .ref q11, v12, v13, v14, v15, v16])), (q2, .inl (c2, 67200, .inl k2_))]) [3, 5] (by decide) rfl
          have hKc := hK.sub (tys' := [(c2, .int)]) [1] rfl
          have hFc := va_free (wc := [(h0, .inr (8, [.int th, .ref q1, .ref q2, .ref q3, .ref q4, .ref q5, .ref q6, .ref q7, .ref q8, .ref q9, .ref q10, .ref q11, v12, v13, v14, v15, v16])), (q2, .inl (c2, 67200, .inl k2_))]) hD hS hA [3, 5] rfl
          refine va_calli (va_runV (As := [.int (nI r), .int (nI k8)]) (rest := [.int g6]) ⟨hx, hb, hml, hown, hts⟩ (c_X8_value l  dC dI H.size h0 th q2 c2 k2_ (.ref q1) (.ref q3) (.ref q4) (.ref q5) (.ref q6) (.ref q7) (.ref q8) (.ref q9) (.ref q10) (.ref q11) v12 v13 v14 v15 v16 r k8 hr9 (by omega)) (cwV 2 hts gX8_over_X8_value rfl rfl rfl (by decide +kernel) ⟨(Nat.le_of_ble_eq_true rfl), (Nat.le_of_ble_eq_true rfl)⟩) ⟨pk_blind, va_recv hKc hPc (ci := 8) (q0 := 0) rfl rfl, pk_call hPc hKc hDc⟩ rfl rfl hl.1 rfl (lv_room (Nat.le_of_ble_eq_true rfl)) dX8_over_105 ⟨(Nat.le_of_ble_eq_true rfl), (Nat.le_of_ble_eq_true rfl)⟩) hS (fun q _ h => hFc q h) hFc (fun r_31 ur_31 t H1 locs ht hvm hw hB hz1 hk1 hS => ?_)
          try dsimp only at hw
          obtain ⟨hP1, hK1, hD1⟩ := hB
          rw [ht] at hP1
          have hK1 := va_K.moved hvm.symm hK1
          obtain ⟨hP, hD⟩ := va_join (wr := [(q5, .inl (c5, 16, .inl a5)), (q6, .inl (c6, 16, .inl a6)), (q7, .inl (c7, 16, .inl k7_)), (q1, .inl (c1, 16, .inl a1)), (q3, .inl (c3, 16, .inl k3_)), (q4, .inl (c4, 16, .inl a4)), (q8, .inl (c8, 16, .inl a8)), (q9, .inl (c9, 16, .inl a9)), (q10, .inl (c10, 16, .inl a10)), (q11, .inl (c11, 16, .inl a11))]) (w1 := [(h0, .inr (8, [.int th, .ref q1, .ref q2, .ref q3, .ref q4, .ref q5, .ref q6, .ref q7, .ref q8, .ref q9, .ref q10, .ref q11, v12, v13, v14, v15, v16])), (q2, .inl (c2, 67200, .inl k2_))]) hP hD [3, 5] [0, 1, 2, 4, 6, 7, 8, 9, 10, 11] rfl rfl (by decide) (by decide) hk1 hFc hP1 hD1
          clear hk1 hz1 ht hPc hDc hKc hFc
          generalize H1 = H at hP hS ⊢
          replace hP : va_P (dC, dI) vwCl [(q5, .inl (c5, 16, .inl a5)), (q6, .inl (c6, 16, .inl a6)), (q7, .inl (c7, 16, .inl k7_)), (q1, .inl (c1, 16, .inl a1)), (q3, .inl (c3, 16, .inl k3_)), (q4, .inl (c4, 16, .inl a4)), (q8, .inl (c8, 16, .inl a8)), (q9, .inl (c9, 16, .inl a9)), (q10, .inl (c10, 16, .inl a10)), (q11, .inl (c11, 16, .inl a11)), (h0, .inr (8, [.int th, .ref q1, .ref q2, .ref q3, .ref q4, .ref q5, .ref q6, .ref q7, .ref q8, .ref q9, .ref q10, .ref q11, v12, v13, v14, v15, v16])), (q2, .inl (c2, 67200, .inl k2_))] H := hP
          replace hD : va_D A [(q5, .inl (c5, 16, .inl a5)), (q6, .inl (c6, 16, .inl a6)), (q7, .inl (c7, 16, .inl k7_)), (q1, .inl (c1, 16, .inl a1)), (q3, .inl (c3, 16, .inl k3_)), (q4, .inl (c4, 16, .inl a4)), (q8, .inl (c8, 16, .inl a8)), (q9, .inl (c9, 16, .inl a9)), (q10, .inl (c10, 16, .inl a10)), (q11, .inl (c11, 16, .inl a11)), (h0, .inr (8, [.int th, .ref q1, .ref q2, .ref q3, .ref q4, .ref q5, .ref q6, .ref q7, .ref q8, .ref q9, .ref q10, .ref q11, v12, v13, v14, v15, v16])), (q2, .inl (c2, 67200, .inl k2_))] := hD
          refine W.widen (k := 0) (n := 0) (Nat.le_of_ble_eq_true rfl) (Nat.le_of_ble_eq_true rfl) ?_
          obtain rfl : r_31 = k2_ (4200 * r + 1000 + k8) := hw
          refine W.eq (g2 := F0 m 108 ls [.int (k2_ (4200 * r + 1000 + k8)), .int g6]) rfl ?_
          refine lv_iload_n hx hb dX8_over_108 rfl (lv_at hl 9 rfl) ?_
          refine lv_icmp_ne (tgt := 116) hx hb dX8_over_109 (by decide) (fun c_32 => ?_) (fun c_32 => ?_)
          ·
            have ic_32 : ¬ (k2_ (4200 * r + 1000 + k8)).toInt = p2.toInt := tx_ne rfl rfl c_32
            refine lv_iconst (v := 0) hx hb dX8_over_116 (by decide) ?_
            refine lv_iadd hx hb dX8_over_117 ?_
            refine lv_istore (lv' := [(6, .int (g6 + 0)), (9, .int (nI k8)), (8, .int (nI k7)), (7, .int g5), (5, .int (nI ne)), (4, .int (nI r)), (0, .ref h0), (1, .int (nI o)), (2, .int p1), (3, .int p2)]) hx hb dX8_over_118 hl (by decide) rfl (fun ls hl => ?_)
            refine lv_iload_n hx hb dX8_over_120 rfl (lv_at hl 8 rfl) ?_
            refine lv_bipush (v := 18) hx hb dX8_over_121 (by decide) ?_
            refine lv_icmp_ne (tgt := 148) hx hb dX8_over_123 (by decide) (fun c_33 => ?_) (fun c_33 => absurd c_33 (fun h9 => absurd (c_7.symm.trans h9) (by decide)))
            refine lv_iload_n hx hb dX8_over_148 rfl (lv_at hl 8 rfl) ?_
            refine lv_bipush (v := 23) hx hb dX8_over_149 (by decide) ?_
            refine lv_icmp_ne (tgt := 181) hx hb dX8_over_151 (by decide) (fun c_34 => ?_) (fun c_34 => absurd c_34 (fun h9 => absurd (c_7.symm.trans h9) (by decide)))
            refine lv_iload_n hx hb dX8_over_181 rfl (lv_at hl 8 rfl) ?_
            refine lv_bipush (v := 24) hx hb dX8_over_182 (by decide) ?_
            refine lv_icmp_ne (tgt := 212) hx hb dX8_over_184 (by decide) (fun c_35 => ?_) (fun c_35 => absurd c_35 (fun h9 => absurd (c_7.symm.trans h9) (by decide)))
            refine lv_iload_n hx hb dX8_over_212 rfl (lv_at hl 8 rfl) ?_
            refine lv_bipush (v := 25) hx hb dX8_over_213 (by decide) ?_
            refine lv_icmp_ne (tgt := 241) hx hb dX8_over_215 (by decide) (fun c_36 => ?_) (fun c_36 => absurd c_36 (fun h9 => absurd (c_7.symm.trans h9) (by decide)))
            refine lv_iinc (v := (nI k7) + -1) (lv' := [(8, .int ((nI k7) + -1)), (6, .int (g6 + 0)), (9, .int (nI k8)), (7, .int g5), (5, .int (nI ne)), (4, .int (nI r)), (0, .ref h0), (1, .int (nI o)), (2, .int p1), (3, .int p2)]) hx hb dX8_over_241 hl (k := 2) rfl rfl (by decide) rfl (fun ls hl => ?_)
            refine lv_goto (tgt := 78) hx hb dX8_over_244 (by decide) ?_
            exact ihB (z8 := (nI k7) + -1) (g6 := g6 + 0) (g5 := g5) (ls := ls) (k7_ := k7_) (k2_ := k2_) (k3_ := k3_) (H := H) (locs := locs) (hP := hP.sub (ws' := [(q5, .inl (c5, 16, .inl a5)), (q6, .inl (c6, 16, .inl a6)), (q7, .inl (c7, 16, .inl k7_)), (h0, .inr (8, [.int th, .ref q1, .ref q2, .ref q3, .ref q4, .ref q5, .ref q6, .ref q7, .ref q8, .ref q9, .ref q10, .ref q11, v12, v13, v14, v15, v16])), (q1, .inl (c1, 16, .inl a1)), (q2, .inl (c2, 67200, .inl k2_)), (q3, .inl (c3, 16, .inl k3_)), (q4, .inl (c4, 16, .inl a4)), (q8, .inl (c8, 16, .inl a8)), (q9, .inl (c9, 16, .inl a9)), (q10, .inl (c10, 16, .inl a10)), (q11, .inl (c11, 16, .inl a11))]) [0, 1, 2, 10, 3, 11, 4, 5, 6, 7, 8, 9] rfl) (hS := hS) (hD := hD.sub (ws' := [(q5, .inl (c5, 16, .inl a5)), (q6, .inl (c6, 16, .inl a6)), (q7, .inl (c7, 16, .inl k7_)), (h0, .inr (8, [.int th, .ref q1, .ref q2, .ref q3, .ref q4, .ref q5, .ref q6, .ref q7, .ref q8, .ref q9, .ref q10, .ref q11, v12, v13, v14, v15, v16])), (q1, .inl (c1, 16, .inl a1)), (q2, .inl (c2, 67200, .inl k2_)), (q3, .inl (c3, 16, .inl k3_)), (q4, .inl (c4, 16, .inl a4)), (q8, .inl (c8, 16, .inl a8)), (q9, .inl (c9, 16, .inl a9)), (q10, .inl (c10, 16, .inl a10)), (q11, .inl (c11, 16, .inl a11))]) [0, 1, 2, 10, 3, 11, 4, 5, 6, 7, 8, 9] (by decide) rfl) (hlo := by rw [nI_m1 (by omega)]; omega) (hn8c := by rw [nI_m1 (by omega)]; omega) (hc8 := fun n e hn => by have h9 := hc8 n e hn; rw [nI_m1 (by omega)]; omega) (hv6 := by obtain ⟨d9, y1_, y2_⟩ := hv6; exact ⟨d9, by rw [nI_m1 (by omega)]; omega, y2_⟩) (hM6 := hM6) (hl := lv_sub hl [0, 3, 1, 4, 5, 6, 7, 8, 9] rfl)
          ·
            have ic_32 : (k2_ (4200 * r + 1000 + k8)).toInt = p2.toInt := tx_eq rfl rfl c_32
            refine lv_iconst (v := 1) hx hb dX8_over_112 (by decide) ?_
            refine lv_goto (tgt := 117) hx hb dX8_over_113 (by decide) ?_
            refine lv_iadd hx hb dX8_over_117 ?_
            refine lv_istore (lv' := [(6, .int (g6 + 1)), (9, .int (nI k8)), (8, .int (nI k7)), (7, .int g5), (5, .int (nI ne)), (4, .int (nI r)), (0, .ref h0), (1, .int (nI o)), (2, .int p1), (3, .int p2)]) hx hb dX8_over_118 hl (by decide) rfl (fun ls hl => ?_)
            refine lv_iload_n hx hb dX8_over_120 rfl (lv_at hl 8 rfl) ?_
            refine lv_bipush (v := 18) hx hb dX8_over_121 (by decide) ?_
            refine lv_icmp_ne (tgt := 148) hx hb dX8_over_123 (by decide) (fun c_37 => ?_) (fun c_37 => absurd c_37 (fun h9 => absurd (c_7.symm.trans h9) (by decide)))
            refine lv_iload_n hx hb dX8_over_148 rfl (lv_at hl 8 rfl) ?_
            refine lv_bipush (v := 23) hx hb dX8_over_149 (by decide) ?_
            refine lv_icmp_ne (tgt := 181) hx hb dX8_over_151 (by decide) (fun c_38 => ?_) (fun c_38 => absurd c_38 (fun h9 => absurd (c_7.symm.trans h9) (by decide)))
            refine lv_iload_n hx hb dX8_over_181 rfl (lv_at hl 8 rfl) ?_
            refine lv_bipush (v := 24) hx hb dX8_over_182 (by decide) ?_
            refine lv_icmp_ne (tgt := 212) hx hb dX8_over_184 (by decide) (fun c_39 => ?_) (fun c_39 => absurd c_39 (fun h9 => absurd (c_7.symm.trans h9) (by decide)))
            refine lv_iload_n hx hb dX8_over_212 rfl (lv_at hl 8 rfl) ?_
            refine lv_bipush (v := 25) hx hb dX8_over_213 (by decide) ?_
            refine lv_icmp_ne (tgt := 241) hx hb dX8_over_215 (by decide) (fun c_40 => ?_) (fun c_40 => absurd c_40 (fun h9 => absurd (c_7.symm.trans h9) (by decide)))
            refine lv_iinc (v := (nI k7) + -1) (lv' := [(8, .int ((nI k7) + -1)), (6, .int (g6 + 1)), (9, .int (nI k8)), (7, .int g5), (5, .int (nI ne)), (4, .int (nI r)), (0, .ref h0), (1, .int (nI o)), (2, .int p1), (3, .int p2)]) hx hb dX8_over_241 hl (k := 2) rfl rfl (by decide) rfl (fun ls hl => ?_)
            refine lv_goto (tgt := 78) hx hb dX8_over_244 (by decide) ?_
            exact ihB (z8 := (nI k7) + -1) (g6 := g6 + 1) (g5 := g5) (ls := ls) (k7_ := k7_) (k2_ := k2_) (k3_ := k3_) (H := H) (locs := locs) (hP := hP.sub (ws' := [(q5, .inl (c5, 16, .inl a5)), (q6, .inl (c6, 16, .inl a6)), (q7, .inl (c7, 16, .inl k7_)), (h0, .inr (8, [.int th, .ref q1, .ref q2, .ref q3, .ref q4, .ref q5, .ref q6, .ref q7, .ref q8, .ref q9, .ref q10, .ref q11, v12, v13, v14, v15, v16])), (q1, .inl (c1, 16, .inl a1)), (q2, .inl (c2, 67200, .inl k2_)), (q3, .inl (c3, 16, .inl k3_)), (q4, .inl (c4, 16, .inl a4)), (q8, .inl (c8, 16, .inl a8)), (q9, .inl (c9, 16, .inl a9)), (q10, .inl (c10, 16, .inl a10)), (q11, .inl (c11, 16, .inl a11))]) [0, 1, 2, 10, 3, 11, 4, 5, 6, 7, 8, 9] rfl) (hS := hS) (hD := hD.sub (ws' := [(q5, .inl (c5, 16, .inl a5)), (q6, .inl (c6, 16, .inl a6)), (q7, .inl (c7, 16, .inl k7_)), (h0, .inr (8, [.int th, .ref q1, .ref q2, .ref q3, .ref q4, .ref q5, .ref q6, .ref q7, .ref q8, .ref q9, .ref q10, .ref q11, v12, v13, v14, v15, v16])), (q1, .inl (c1, 16, .inl a1)), (q2, .inl (c2, 67200, .inl k2_)), (q3, .inl (c3, 16, .inl k3_)), (q4, .inl (c4, 16, .inl a4)), (q8, .inl (c8, 16, .inl a8)), (q9, .inl (c9, 16, .inl a9)), (q10, .inl (c10, 16, .inl a10)), (q11, .inl (c11, 16, .inl a11))]) [0, 1, 2, 10, 3, 11, 4, 5, 6, 7, 8, 9] (by decide) rfl) (hlo := by rw [nI_m1 (by omega)]; omega) (hn8c := by rw [nI_m1 (by omega)]; omega) (hc8 := fun n e hn => by have h9 := hc8 n e hn; rw [nI_m1 (by omega)]; omega) (hv6 := by obtain ⟨d9, y1_, y2_⟩ := hv6; exact ⟨d9, by rw [nI_m1 (by omega)]; omega, y2_⟩) (hM6 := hM6) (hl := lv_sub hl [0, 3, 1, 4, 5, 6, 7, 8, 9] rfl)
  ·
    have ic_3 : p1.toInt = 22 := tx_eq rfl (by decide) c_3
    have hk1o := hh9 c_3
    have hro : r = o := hrt9.symm.trans (rtN_top (n := 16) (by omega))
    have hM7 := hM9
    obtain ⟨nz4, tb4, fi4, -, hb4, -, e4_, -⟩ := hM7
    have ht4 : tb4 ≤ 2048 := by rcases (e4_ (by rw [hro]; exact hk1o)).2.2 with h | h; omega; exact h.2.1
    rw [hro] at hb4
    refine lv_iconst (v := 0) hx hb dX8_over_26 (by decide) ?_
    refine lv_istore (lv' := [(8, .int 0), (7, .int 0), (6, .int 0), (5, .int (nI ne)), (4, .int (nI r)), (0, .ref h0), (1, .int (nI o)), (2, .int p1), (3, .int p2)]) hx hb dX8_over_27 hl (by decide) rfl (fun ls hl => ?_)
    obtain ⟨i7, es_i7⟩ : ∃ z : Nat, z = 0 := ⟨_, rfl⟩
    obtain ⟨x7, ex7⟩ : ∃ y : Int32, y = nI i7 := ⟨_, rfl⟩
    obtain ⟨g7, es_g7⟩ : ∃ z : Int32, z = 0 := ⟨_, rfl⟩
    obtain ⟨n9A, en9⟩ : ∃ n : Nat, n = tb4 + 1 := ⟨_, rfl⟩
    replace hl : lv_has ls 10 [(8, .int x7), (7, .int 0), (6, .int g7), (5, .int (nI ne)), (4, .int (nI r)), (0, .ref h0), (1, .int (nI o)), (2, .int p1), (3, .int p2)] := by subst ex7; subst es_i7; subst es_g7; exact hl
    have hi7 : i7 ≤ tb4 := by subst ex7; subst es_i7; subst es_g7; subst en9; exact Nat.zero_le _
    have hn7 : tb4 + 1 ≤ i7 + n9A := by subst ex7; subst es_i7; subst es_g7; subst en9; exact by omega
    clear en9 es_i7 es_g7
    induction n9A generalizing i7 x7 g7 ls H locs with
    | zero => exact absurd hn7 (by omega)
    | succ n9A ihA =>
      subst ex7
      refine lv_iload hx hb dX8_over_29 (lv_at hl 0 rfl) ?_
      refine lv_aload_n hx hb dX8_over_31 rfl (lv_at hl 5 rfl) ?_
      refine va_get (D := (dC, dI)) (ci := 8) (v := .ref q6) (C := RX8) (T := TX8) (N := 17) hx hb hts hi0_ hown hK hP 3 rfl rfl 6 (by decide) hw1_ (fun _ h9 => h9) rfl dX8_over_32 ?_
      refine lv_iload_n hx hb dX8_over_35 rfl (lv_at hl 6 rfl) ?_
      refine va_iald (i := nI o) hx hb hK hP 1 5 rfl rfl (vp_in_nI (by omega) (by omega)) dX8_over_36 ?_
      refine W.eq (g2 := F0 m 37 ls [.int (a6 o), .int (nI i7)]) (by rw [nI_clamp (by omega)]) ?_
      refine W.eq (g2 := F0 m 37 ls [.int (nI tb4), .int (nI i7)]) (by rw [hb4]) ?_
      refine lv_icmp_ge (tgt := 68) hx hb dX8_over_37 (by decide) (fun c_41 => ?_) (fun c_41 => ?_)
      ·
        have ic_41 : ((tb4 : Nat) : Int) ≤ ((i7 : Nat) : Int) := tx_le (nI_toInt (by omega)) (nI_toInt (by omega)) c_41
        refine lv_iload hx hb dX8_over_68 (lv_at hl 2 rfl) ?_
        refine lv_i2l (v := g7.toInt64) hx hb dX8_over_70 rfl ?_
        have hP9 := hP.sub (ws' := [(h0, .inr (8, [.int th, .ref q1, .ref q2, .ref q3, .ref q4, .ref q5, .ref q6, .ref q7, .ref q8, .ref q9, .ref q10, .ref q11, v12, v13, v14, v15, v16])), (q1, .inl (c1, 16, .inl a1)), (q2, .inl (c2, 67200, .inl a2)), (q3, .inl (c3, 16, .inl a3)), (q4, .inl (c4, 16, .inl a4)), (q5, .inl (c5, 16, .inl a5)), (q6, .inl (c6, 16, .inl a6)), (q7, .inl (c7, 16, .inl a7)), (q8, .inl (c8, 16, .inl a8)), (q9, .inl (c9, 16, .inl a9)), (q10, .inl (c10, 16, .inl a10)), (q11, .inl (c11, 16, .inl a11))]) [3, 4, 5, 6, 7, 0, 1, 2, 8, 9, 10, 11] rfl
        have hD9 := hD.sub (ws' := [(h0, .inr (8, [.int th, .ref q1, .ref q2, .ref q3, .ref q4, .ref q5, .ref q6, .ref q7, .ref q8, .ref q9, .ref q10, .ref q11, v12, v13, v14, v15, v16])), (q1, .inl (c1, 16, .inl a1)), (q2, .inl (c2, 67200, .inl a2)), (q3, .inl (c3, 16, .inl a3)), (q4, .inl (c4, 16, .inl a4)), (q5, .inl (c5, 16, .inl a5)), (q6, .inl (c6, 16, .inl a6)), (q7, .inl (c7, 16, .inl a7)), (q8, .inl (c8, 16, .inl a8)), (q9, .inl (c9, 16, .inl a9)), (q10, .inl (c10, 16, .inl a10)), (q11, .inl (c11, 16, .inl a11))]) [3, 4, 5, 6, 7, 0, 1, 2, 8, 9, 10, 11] (by decide) rfl
        have hK9 := hK.sub (tys' := [(c1, .int), (c2, .int), (c3, .int), (c4, .int), (c5, .int), (c6, .int), (c7, .int), (c8, .int), (c9, .int), (c10, .int), (c11, .int)]) [0, 1, 2, 3, 4, 5, 6, 7, 8, 9, 10] rfl
        refine W.widen (k := 0) (n := 0) (Nat.le_of_ble_eq_true rfl) (Nat.le_of_ble_eq_true rfl) ?_
        exact W.lret (v := g7.toInt64) hx hb hr (fun t ht hW => ⟨⟨g7.toInt64, (a2, a3, a7), rfl, ⟨⟨0, by omega, rs_rf⟩, hM9⟩, by rw [ht]; exact hP9, va_K.moved hW.alike hK9, hD9⟩, hS.F ht⟩) hS.2.2 dX8_over_71
      ·
        have ic_41 : ((i7 : Nat) : Int) < ((tb4 : Nat) : Int) := tx_nle (nI_toInt (by omega)) (nI_toInt (by omega)) c_41
        refine lv_iload hx hb dX8_over_40 (lv_at hl 2 rfl) ?_
        refine lv_aload_n hx hb dX8_over_42 rfl (lv_at hl 5 rfl) ?_
        refine va_get (D := (dC, dI)) (ci := 8) (v := .ref q2) (C := RX8) (T := TX8) (N := 17) hx hb hts hi0_ hown hK hP 3 rfl rfl 2 (by decide) hw0_ (fun _ h9 => h9) rfl dX8_over_43 ?_
        refine lv_sipush (v := 4200) hx hb dX8_over_46 (by decide) ?_
        refine lv_iload_n hx hb dX8_over_49 rfl (lv_at hl 6 rfl) ?_
        refine lv_imul hx hb dX8_over_50 ?_
        refine lv_topi (fun z_42 ez_42 => ?_)
        obtain rfl : z_42 = nI (4200 * o) := ez_42.trans (by rw [show (4200 : Int32) = nI 4200 from rfl, pk_mul])
        refine lv_sipush (v := 2000) hx hb dX8_over_51 (by decide) ?_
        refine lv_iadd hx hb dX8_over_54 ?_
        refine lv_topi (fun z_43 ez_43 => ?_)
        obtain rfl : z_43 = nI ((4200 * o) + 2000) := ez_43.trans (by rw [show (2000 : Int32) = nI 2000 from rfl, nI_add])
        refine lv_iload hx hb dX8_over_55 (lv_at hl 0 rfl) ?_
        refine lv_iadd hx hb dX8_over_57 ?_
        refine lv_topi (fun z_44 ez_44 => ?_)
        obtain rfl : z_44 = nI (((4200 * o) + 2000) + i7) := ez_44.trans (by rw [nI_add])
        refine va_iald (i := nI (((4200 * o) + 2000) + i7)) hx hb hK hP 5 1 rfl rfl (vp_in_nI (by omega) (by omega)) dX8_over_58 ?_
        refine W.eq (g2 := F0 m 59 ls [.int (a2 (((4200 * o) + 2000) + i7)), .int g7]) (by rw [nI_clamp (by omega)]) ?_
        refine lv_iadd hx hb dX8_over_59 ?_
        refine lv_istore (lv' := [(6, .int (g7 + (a2 (((4200 * o) + 2000) + i7)))), (8, .int (nI i7)), (7, .int 0), (5, .int (nI ne)), (4, .int (nI r)), (0, .ref h0), (1, .int (nI o)), (2, .int p1), (3, .int p2)]) hx hb dX8_over_60 hl (by decide) rfl (fun ls hl => ?_)
        refine lv_iinc (v := nI (i7 + 1)) (lv' := [(8, .int (nI (i7 + 1))), (6, .int (g7 + (a2 (((4200 * o) + 2000) + i7)))), (7, .int 0), (5, .int (nI ne)), (4, .int (nI r)), (0, .ref h0), (1, .int (nI o)), (2, .int p1), (3, .int p2)]) hx hb dX8_over_62 hl (k := 1) rfl (by rw [show Int32.ofInt 1 = nI 1 from rfl, nI_add]) (by decide) rfl (fun ls hl => ?_)
        refine lv_goto (tgt := 29) hx hb dX8_over_65 (by decide) ?_
        exact ihA (i7 := i7 + 1) (x7 := nI (i7 + 1)) (ex7 := rfl) (g7 := g7 + (a2 (((4200 * o) + 2000) + i7))) (ls := ls) (H := H) (locs := locs) (hP := hP.sub (ws' := [(q5, .inl (c5, 16, .inl a5)), (q6, .inl (c6, 16, .inl a6)), (q7, .inl (c7, 16, .inl a7)), (h0, .inr (8, [.int th, .ref q1, .ref q2, .ref q3, .ref q4, .ref q5, .ref q6, .ref q7, .ref q8, .ref q9, .ref q10, .ref q11, v12, v13, v14, v15, v16])), (q1, .inl (c1, 16, .inl a1)), (q2, .inl (c2, 67200, .inl a2)), (q3, .inl (c3, 16, .inl a3)), (q4, .inl (c4, 16, .inl a4)), (q8, .inl (c8, 16, .inl a8)), (q9, .inl (c9, 16, .inl a9)), (q10, .inl (c10, 16, .inl a10)), (q11, .inl (c11, 16, .inl a11))]) [0, 1, 2, 3, 4, 5, 6, 7, 8, 9, 10, 11] rfl) (hS := hS) (hi7 := by omega) (hn7 := by omega) (hl := lv_sub hl [0, 2, 1, 3, 4, 5, 6, 7, 8] rfl)
