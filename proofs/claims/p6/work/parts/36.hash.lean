theorem dX2_layFirstTable_0 : decode cX2_layFirstTable 0 = .ok (.aload_n 0, 1) := by decide +kernel
theorem dX2_layFirstTable_1 : decode cX2_layFirstTable 1 = .ok (.iconst 1, 1) := by decide +kernel
theorem dX2_layFirstTable_2 : decode cX2_layFirstTable 2 = .ok (.putfield 28, 3) := by decide +kernel
theorem dX2_layFirstTable_5 : decode cX2_layFirstTable 5 = .ok (.iconst 0, 1) := by decide +kernel
theorem dX2_layFirstTable_6 : decode cX2_layFirstTable 6 = .ok (.istore_n 1, 1) := by decide +kernel
theorem dX2_layFirstTable_7 : decode cX2_layFirstTable 7 = .ok (.iload_n 1, 1) := by decide +kernel
theorem dX2_layFirstTable_8 : decode cX2_layFirstTable 8 = .ok (.bipush 32, 2) := by decide +kernel
theorem dX2_layFirstTable_10 : decode cX2_layFirstTable 10 = .ok (.if_icmp .ge 30, 3) := by decide +kernel
theorem dX2_layFirstTable_40 : decode cX2_layFirstTable 40 = .ok (.aload_n 0, 1) := by decide +kernel
theorem dX2_layFirstTable_41 : decode cX2_layFirstTable 41 = .ok (.aload_n 0, 1) := by decide +kernel
theorem dX2_layFirstTable_42 : decode cX2_layFirstTable 42 = .ok (.getfield 28, 3) := by decide +kernel
theorem dX2_layFirstTable_45 : decode cX2_layFirstTable 45 = .ok (.newarray .boolean, 2) := by decide +kernel
theorem dX2_layFirstTable_47 : decode cX2_layFirstTable 47 = .ok (.putfield 14, 3) := by decide +kernel
theorem dX2_layFirstTable_50 : decode cX2_layFirstTable 50 = .ok (.return_, 1) := by decide +kernel
theorem dX2_layFirstTable_13 : decode cX2_layFirstTable 13 = .ok (.aload_n 0, 1) := by decide +kernel
theorem dX2_layFirstTable_14 : decode cX2_layFirstTable 14 = .ok (.getfield 28, 3) := by decide +kernel
theorem dX2_layFirstTable_17 : decode cX2_layFirstTable 17 = .ok (.aload_n 0, 1) := by decide +kernel
theorem dX2_layFirstTable_18 : decode cX2_layFirstTable 18 = .ok (.getfield 20, 3) := by decide +kernel
theorem dX2_layFirstTable_21 : decode cX2_layFirstTable 21 = .ok (.if_icmp .ge 19, 3) := by decide +kernel
theorem dX2_layFirstTable_24 : decode cX2_layFirstTable 24 = .ok (.aload_n 0, 1) := by decide +kernel
theorem dX2_layFirstTable_25 : decode cX2_layFirstTable 25 = .ok (.dup, 1) := by decide +kernel
theorem dX2_layFirstTable_26 : decode cX2_layFirstTable 26 = .ok (.getfield 28, 3) := by decide +kernel
theorem dX2_layFirstTable_29 : decode cX2_layFirstTable 29 = .ok (.iconst 2, 1) := by decide +kernel
theorem dX2_layFirstTable_30 : decode cX2_layFirstTable 30 = .ok (.imul, 1) := by decide +kernel
theorem dX2_layFirstTable_31 : decode cX2_layFirstTable 31 = .ok (.putfield 28, 3) := by decide +kernel
theorem dX2_layFirstTable_34 : decode cX2_layFirstTable 34 = .ok (.iinc 1 1, 3) := by decide +kernel
theorem dX2_layFirstTable_37 : decode cX2_layFirstTable 37 = .ok (.goto (-30), 3) := by decide +kernel
theorem dX2_doubleTable_0 : decode cX2_doubleTable 0 = .ok (.aload_n 0, 1) := by decide +kernel
theorem dX2_doubleTable_1 : decode cX2_doubleTable 1 = .ok (.getfield 28, 3) := by decide +kernel
theorem dX2_doubleTable_4 : decode cX2_doubleTable 4 = .ok (.istore_n 1, 1) := by decide +kernel
theorem dX2_doubleTable_5 : decode cX2_doubleTable 5 = .ok (.iload_n 1, 1) := by decide +kernel
theorem dX2_doubleTable_6 : decode cX2_doubleTable 6 = .ok (.iconst 1, 1) := by decide +kernel
theorem dX2_doubleTable_7 : decode cX2_doubleTable 7 = .ok (.if_icmp .lt 9, 3) := by decide +kernel
theorem dX2_doubleTable_10 : decode cX2_doubleTable 10 = .ok (.iload_n 1, 1) := by decide +kernel
theorem dX2_doubleTable_11 : decode cX2_doubleTable 11 = .ok (.ldc 66, 2) := by decide +kernel
theorem dX2_doubleTable_13 : decode cX2_doubleTable 13 = .ok (.if_icmp .lt 4, 3) := by decide +kernel
theorem dX2_doubleTable_17 : decode cX2_doubleTable 17 = .ok (.aload_n 0, 1) := by decide +kernel
theorem dX2_doubleTable_18 : decode cX2_doubleTable 18 = .ok (.getfield 14, 3) := by decide +kernel
theorem dX2_doubleTable_21 : decode cX2_doubleTable 21 = .ok (.astore_n 2, 1) := by decide +kernel
theorem dX2_doubleTable_22 : decode cX2_doubleTable 22 = .ok (.aload_n 0, 1) := by decide +kernel
theorem dX2_doubleTable_23 : decode cX2_doubleTable 23 = .ok (.iload_n 1, 1) := by decide +kernel
theorem dX2_doubleTable_24 : decode cX2_doubleTable 24 = .ok (.iconst 2, 1) := by decide +kernel
theorem dX2_doubleTable_25 : decode cX2_doubleTable 25 = .ok (.imul, 1) := by decide +kernel
theorem dX2_doubleTable_26 : decode cX2_doubleTable 26 = .ok (.putfield 28, 3) := by decide +kernel
theorem dX2_doubleTable_29 : decode cX2_doubleTable 29 = .ok (.aload_n 0, 1) := by decide +kernel
theorem dX2_doubleTable_30 : decode cX2_doubleTable 30 = .ok (.aload_n 0, 1) := by decide +kernel
theorem dX2_doubleTable_31 : decode cX2_doubleTable 31 = .ok (.getfield 28, 3) := by decide +kernel
theorem dX2_doubleTable_34 : decode cX2_doubleTable 34 = .ok (.newarray .boolean, 2) := by decide +kernel
theorem dX2_doubleTable_36 : decode cX2_doubleTable 36 = .ok (.putfield 14, 3) := by decide +kernel
theorem dX2_doubleTable_39 : decode cX2_doubleTable 39 = .ok (.aload_n 0, 1) := by decide +kernel
theorem dX2_doubleTable_40 : decode cX2_doubleTable 40 = .ok (.getfield 28, 3) := by decide +kernel
theorem dX2_doubleTable_43 : decode cX2_doubleTable 43 = .ok (.newarray .int, 2) := by decide +kernel
theorem dX2_doubleTable_45 : decode cX2_doubleTable 45 = .ok (.astore_n 3, 1) := by decide +kernel
theorem dX2_doubleTable_46 : decode cX2_doubleTable 46 = .ok (.aload_n 0, 1) := by decide +kernel
theorem dX2_doubleTable_47 : decode cX2_doubleTable 47 = .ok (.getfield 31, 3) := by decide +kernel
set_option maxRecDepth 20000 in
theorem ggX2_doubleTable_X5_size : GoodIn wsX2_doubleTable wsX5_size := goodIn_r _ [12, 13, 50, 51, 52, 53] rfl (by decide +kernel)
set_option maxRecDepth 20000 in
theorem gX2_doubleTable_X5_size : GoodIn wsX2_doubleTable (wsV RX2 35 RX5 yX5_size wsX5_size) := goodIn_app (goodIn_of _ (by decide +kernel)) ggX2_doubleTable_X5_size
theorem dX2_doubleTable_50 : decode cX2_doubleTable 50 = .ok (.invokevirtual 35, 3) := by decide +kernel
theorem dX2_doubleTable_53 : decode cX2_doubleTable 53 = .ok (.newarray .boolean, 2) := by decide +kernel
theorem dX2_doubleTable_55 : decode cX2_doubleTable 55 = .ok (.astore 4, 2) := by decide +kernel
theorem dX2_doubleTable_57 : decode cX2_doubleTable 57 = .ok (.iconst 0, 1) := by decide +kernel
theorem dX2_doubleTable_58 : decode cX2_doubleTable 58 = .ok (.istore 5, 2) := by decide +kernel
theorem dX2_doubleTable_60 : decode cX2_doubleTable 60 = .ok (.iload 5, 2) := by decide +kernel
theorem dX2_doubleTable_62 : decode cX2_doubleTable 62 = .ok (.aload 4, 2) := by decide +kernel
theorem dX2_doubleTable_64 : decode cX2_doubleTable 64 = .ok (.arraylength, 1) := by decide +kernel
theorem dX2_doubleTable_65 : decode cX2_doubleTable 65 = .ok (.if_icmp .ge 60, 3) := by decide +kernel
theorem dX2_doubleTable_125 : decode cX2_doubleTable 125 = .ok (.aload_n 0, 1) := by decide +kernel
theorem dX2_doubleTable_126 : decode cX2_doubleTable 126 = .ok (.getfield 31, 3) := by decide +kernel
theorem dX2_doubleTable_129 : decode cX2_doubleTable 129 = .ok (.aload 4, 2) := by decide +kernel
set_option maxRecDepth 20000 in
theorem ggX2_doubleTable_X5_moveBehind : GoodIn wsX2_doubleTable wsX5_moveBehind := goodIn_r _ [29, 18, 5, 13, 30, 50, 51, 52, 53] rfl (by decide +kernel)
set_option maxRecDepth 20000 in
theorem gX2_doubleTable_X5_moveBehind : GoodIn wsX2_doubleTable (wsV RX2 67 RX5 yX5_moveBehind wsX5_moveBehind) := goodIn_app (goodIn_of _ (by decide +kernel)) ggX2_doubleTable_X5_moveBehind
theorem dX2_doubleTable_131 : decode cX2_doubleTable 131 = .ok (.invokevirtual 67, 3) := by decide +kernel
theorem dX2_doubleTable_134 : decode cX2_doubleTable 134 = .ok (.iconst 0, 1) := by decide +kernel
theorem dX2_doubleTable_135 : decode cX2_doubleTable 135 = .ok (.istore 5, 2) := by decide +kernel
theorem dX2_doubleTable_137 : decode cX2_doubleTable 137 = .ok (.iload 5, 2) := by decide +kernel
theorem dX2_doubleTable_139 : decode cX2_doubleTable 139 = .ok (.iload_n 1, 1) := by decide +kernel
theorem dX2_doubleTable_140 : decode cX2_doubleTable 140 = .ok (.if_icmp .ge 76, 3) := by decide +kernel
theorem dX2_doubleTable_216 : decode cX2_doubleTable 216 = .ok (.return_, 1) := by decide +kernel
theorem dX2_doubleTable_143 : decode cX2_doubleTable 143 = .ok (.iload 5, 2) := by decide +kernel
theorem dX2_doubleTable_145 : decode cX2_doubleTable 145 = .ok (.aload_n 2, 1) := by decide +kernel
theorem dX2_doubleTable_146 : decode cX2_doubleTable 146 = .ok (.arraylength, 1) := by decide +kernel
theorem dX2_doubleTable_147 : decode cX2_doubleTable 147 = .ok (.if_icmp .ge 69, 3) := by decide +kernel
theorem dX2_doubleTable_150 : decode cX2_doubleTable 150 = .ok (.aload_n 0, 1) := by decide +kernel
theorem dX2_doubleTable_151 : decode cX2_doubleTable 151 = .ok (.getfield 14, 3) := by decide +kernel
theorem dX2_doubleTable_154 : decode cX2_doubleTable 154 = .ok (.iload 5, 2) := by decide +kernel
theorem dX2_doubleTable_156 : decode cX2_doubleTable 156 = .ok (.aload_n 2, 1) := by decide +kernel
theorem dX2_doubleTable_157 : decode cX2_doubleTable 157 = .ok (.iload 5, 2) := by decide +kernel
theorem dX2_doubleTable_159 : decode cX2_doubleTable 159 = .ok (.baload, 1) := by decide +kernel
theorem dX2_doubleTable_160 : decode cX2_doubleTable 160 = .ok (.ifCond .eq 16, 3) := by decide +kernel
theorem dX2_doubleTable_176 : decode cX2_doubleTable 176 = .ok (.iconst 0, 1) := by decide +kernel
theorem dX2_doubleTable_177 : decode cX2_doubleTable 177 = .ok (.bastore, 1) := by decide +kernel
theorem dX2_doubleTable_178 : decode cX2_doubleTable 178 = .ok (.aload_n 0, 1) := by decide +kernel
theorem dX2_doubleTable_179 : decode cX2_doubleTable 179 = .ok (.getfield 14, 3) := by decide +kernel
theorem dX2_doubleTable_182 : decode cX2_doubleTable 182 = .ok (.iload 5, 2) := by decide +kernel
theorem dX2_doubleTable_184 : decode cX2_doubleTable 184 = .ok (.iload_n 1, 1) := by decide +kernel
theorem dX2_doubleTable_185 : decode cX2_doubleTable 185 = .ok (.iadd, 1) := by decide +kernel
theorem dX2_doubleTable_186 : decode cX2_doubleTable 186 = .ok (.aload_n 2, 1) := by decide +kernel
theorem dX2_doubleTable_187 : decode cX2_doubleTable 187 = .ok (.iload 5, 2) := by decide +kernel
theorem dX2_doubleTable_189 : decode cX2_doubleTable 189 = .ok (.baload, 1) := by decide +kernel
theorem dX2_doubleTable_190 : decode cX2_doubleTable 190 = .ok (.ifCond .eq 18, 3) := by decide +kernel
theorem dX2_doubleTable_208 : decode cX2_doubleTable 208 = .ok (.iconst 0, 1) := by decide +kernel
theorem dX2_doubleTable_209 : decode cX2_doubleTable 209 = .ok (.bastore, 1) := by decide +kernel
theorem dX2_doubleTable_210 : decode cX2_doubleTable 210 = .ok (.iinc 5 1, 3) := by decide +kernel
theorem dX2_doubleTable_213 : decode cX2_doubleTable 213 = .ok (.goto (-76), 3) := by decide +kernel
theorem dX2_doubleTable_193 : decode cX2_doubleTable 193 = .ok (.aload_n 3, 1) := by decide +kernel
theorem dX2_doubleTable_194 : decode cX2_doubleTable 194 = .ok (.iload 5, 2) := by decide +kernel
theorem dX2_doubleTable_196 : decode cX2_doubleTable 196 = .ok (.iload_n 1, 1) := by decide +kernel
theorem dX2_doubleTable_197 : decode cX2_doubleTable 197 = .ok (.iadd, 1) := by decide +kernel
theorem dX2_doubleTable_198 : decode cX2_doubleTable 198 = .ok (.iaload, 1) := by decide +kernel
theorem dX2_doubleTable_199 : decode cX2_doubleTable 199 = .ok (.bipush 6, 2) := by decide +kernel
theorem dX2_doubleTable_201 : decode cX2_doubleTable 201 = .ok (.if_icmp .le 7, 3) := by decide +kernel
theorem dX2_doubleTable_204 : decode cX2_doubleTable 204 = .ok (.iconst 1, 1) := by decide +kernel
theorem dX2_doubleTable_205 : decode cX2_doubleTable 205 = .ok (.goto 4, 3) := by decide +kernel
theorem dX2_doubleTable_163 : decode cX2_doubleTable 163 = .ok (.aload_n 3, 1) := by decide +kernel
theorem dX2_doubleTable_164 : decode cX2_doubleTable 164 = .ok (.iload 5, 2) := by decide +kernel
theorem dX2_doubleTable_166 : decode cX2_doubleTable 166 = .ok (.iaload, 1) := by decide +kernel
theorem dX2_doubleTable_167 : decode cX2_doubleTable 167 = .ok (.bipush 6, 2) := by decide +kernel
theorem dX2_doubleTable_169 : decode cX2_doubleTable 169 = .ok (.if_icmp .le 7, 3) := by decide +kernel
theorem dX2_doubleTable_172 : decode cX2_doubleTable 172 = .ok (.iconst 1, 1) := by decide +kernel
theorem dX2_doubleTable_173 : decode cX2_doubleTable 173 = .ok (.goto 4, 3) := by decide +kernel
theorem dX2_doubleTable_68 : decode cX2_doubleTable 68 = .ok (.aload_n 0, 1) := by decide +kernel
theorem dX2_doubleTable_69 : decode cX2_doubleTable 69 = .ok (.aload_n 0, 1) := by decide +kernel
theorem dX2_doubleTable_70 : decode cX2_doubleTable 70 = .ok (.getfield 31, 3) := by decide +kernel
theorem dX2_doubleTable_73 : decode cX2_doubleTable 73 = .ok (.iload 5, 2) := by decide +kernel
set_option maxRecDepth 20000 in
theorem ggX2_doubleTable_X5_key : GoodIn wsX2_doubleTable wsX5_key := goodIn_r _ [17, 13, 18, 50, 51, 52, 53] rfl (by decide +kernel)
set_option maxRecDepth 20000 in
theorem gX2_doubleTable_X5_key : GoodIn wsX2_doubleTable (wsV RX2 39 RX5 yX5_key wsX5_key) := goodIn_app (goodIn_of _ (by decide +kernel)) ggX2_doubleTable_X5_key
theorem dX2_doubleTable_75 : decode cX2_doubleTable 75 = .ok (.invokevirtual 39, 3) := by decide +kernel
set_option maxRecDepth 20000 in
theorem ggX2_doubleTable_X2_binOf : GoodIn wsX2_doubleTable wsX2_binOf := goodIn_r _ [23, 24, 25, 1, 31, 32, 33, 34, 35, 36, 37] rfl (by decide +kernel)
set_option maxRecDepth 20000 in
theorem gX2_doubleTable_X2_binOf : GoodIn wsX2_doubleTable (wsV RX2 43 RX2 yX2_binOf wsX2_binOf) := goodIn_app (goodIn_of _ (by decide +kernel)) ggX2_doubleTable_X2_binOf
theorem dX2_doubleTable_78 : decode cX2_doubleTable 78 = .ok (.invokevirtual 43, 3) := by decide +kernel
theorem dX2_doubleTable_81 : decode cX2_doubleTable 81 = .ok (.istore 6, 2) := by decide +kernel
theorem dX2_doubleTable_83 : decode cX2_doubleTable 83 = .ok (.iload 6, 2) := by decide +kernel
theorem dX2_doubleTable_85 : decode cX2_doubleTable 85 = .ok (.ifCond .lt 18, 3) := by decide +kernel
theorem dX2_doubleTable_103 : decode cX2_doubleTable 103 = .ok (.aload 4, 2) := by decide +kernel
theorem dX2_doubleTable_105 : decode cX2_doubleTable 105 = .ok (.iload 5, 2) := by decide +kernel
theorem dX2_doubleTable_107 : decode cX2_doubleTable 107 = .ok (.iload 6, 2) := by decide +kernel
theorem dX2_doubleTable_109 : decode cX2_doubleTable 109 = .ok (.iload_n 1, 1) := by decide +kernel
theorem dX2_doubleTable_110 : decode cX2_doubleTable 110 = .ok (.if_icmp .lt 7, 3) := by decide +kernel
theorem dX2_doubleTable_117 : decode cX2_doubleTable 117 = .ok (.iconst 0, 1) := by decide +kernel
theorem dX2_doubleTable_118 : decode cX2_doubleTable 118 = .ok (.bastore, 1) := by decide +kernel
theorem dX2_doubleTable_119 : decode cX2_doubleTable 119 = .ok (.iinc 5 1, 3) := by decide +kernel
theorem dX2_doubleTable_122 : decode cX2_doubleTable 122 = .ok (.goto (-62), 3) := by decide +kernel
theorem dX2_doubleTable_113 : decode cX2_doubleTable 113 = .ok (.iconst 1, 1) := by decide +kernel
theorem dX2_doubleTable_114 : decode cX2_doubleTable 114 = .ok (.goto 4, 3) := by decide +kernel
theorem dX2_doubleTable_88 : decode cX2_doubleTable 88 = .ok (.iload 6, 2) := by decide +kernel
theorem dX2_doubleTable_90 : decode cX2_doubleTable 90 = .ok (.aload_n 3, 1) := by decide +kernel
theorem dX2_doubleTable_91 : decode cX2_doubleTable 91 = .ok (.arraylength, 1) := by decide +kernel
theorem dX2_doubleTable_92 : decode cX2_doubleTable 92 = .ok (.if_icmp .ge 11, 3) := by decide +kernel
theorem dX2_doubleTable_95 : decode cX2_doubleTable 95 = .ok (.aload_n 3, 1) := by decide +kernel
theorem dX2_doubleTable_96 : decode cX2_doubleTable 96 = .ok (.iload 6, 2) := by decide +kernel
theorem dX2_doubleTable_98 : decode cX2_doubleTable 98 = .ok (.dup2, 1) := by decide +kernel
theorem dX2_doubleTable_99 : decode cX2_doubleTable 99 = .ok (.iaload, 1) := by decide +kernel
theorem dX2_doubleTable_100 : decode cX2_doubleTable 100 = .ok (.iconst 1, 1) := by decide +kernel
theorem dX2_doubleTable_101 : decode cX2_doubleTable 101 = .ok (.iadd, 1) := by decide +kernel
theorem dX2_doubleTable_102 : decode cX2_doubleTable 102 = .ok (.iastore, 1) := by decide +kernel
set_option maxHeartbeats 4000000 in
set_option maxRecDepth 100000 in
/-- Hash.layFirstTable -/
theorem c_X2_layFirstTable (l : Launch) (dC : Nat → ClassId) (dI : Nat → Nat → Nat) (sz : Nat) (y0 : Nat) (kd : Int32) (wh : Int32) (cap : Nat) (ru : Int32) (tb : Nat) (b0 : Nat) (cb : ClassId) (bf : Nat → Int32) (x0 : Nat) (k0 : Nat) (w0 : Nat) (ck : ClassId) (cw : ClassId) (L : Nat) (f : Nat → Int32) (g : Nat → Int32) (nz : Nat) (ch : Int32) (hcap : cap ≤ 1000) : Met l yX2_layFirstTable wsX2_layFirstTable ({ frames := 0, cells := 1, slots := 1024, locals := 0 }) (va_Pc [.ref y0] (pk_Pre (dC, dI) [(y0, .inr (3, [.ref x0, .int kd, .int wh, .int (nI cap), .int ru, .int (nI tb), .ref b0])), (x0, .inr (5, [.ref k0, .ref w0, .int (nI nz), .int ch])), (k0, .inl (ck, L, .inl f)), (w0, .inl (cw, L, .inl g)), (b0, .inl (cb, tb, .inl bf))] [(ck, .int), (cw, .int), (cb, .boolean)] sz)) (va_Qv (fun (u : Nat × Nat × ClassId × (Nat → Int32)) => 1 ≤ u.1 ∧ u.1 ≤ 1024 ∧ p2N u.1) (fun (u : Nat × Nat × ClassId × (Nat → Int32)) (t : State) => va_P (dC, dI) vwCl [(y0, .inr (3, [.ref x0, .int kd, .int wh, .int (nI cap), .int ru, .int (nI (u.1)), .ref u.2.1])), (x0, .inr (5, [.ref k0, .ref w0, .int (nI nz), .int ch])), (k0, .inl (ck, L, .inl f)), (w0, .inl (cw, L, .inl g)), (u.2.1, .inl (u.2.2.1, u.1, .inl u.2.2.2))] t.heap ∧ va_K (dC, dI) vwCl [(ck, .int), (cw, .int), (u.2.2.1, .boolean)] t ∧ va_D (va_A [(y0, .inr (3, [.ref x0, .int kd, .int wh, .int (nI cap), .int ru, .int (nI tb), .ref b0])), (x0, .inr (5, [.ref k0, .ref w0, .int (nI nz), .int ch])), (k0, .inl (ck, L, .inl f)), (w0, .inl (cw, L, .inl g)), (b0, .inl (cb, tb, .inl bf))] sz) [(y0, .inr (3, [.ref x0, .int kd, .int wh, .int (nI cap), .int ru, .int (nI (u.1)), .ref u.2.1])), (x0, .inr (5, [.ref k0, .ref w0, .int (nI nz), .int ch])), (k0, .inl (ck, L, .inl f)), (w0, .inl (cw, L, .inl g)), (u.2.1, .inl (u.2.2.1, u.1, .inl u.2.2.2))]) (va_A [(y0, .inr (3, [.ref x0, .int kd, .int wh, .int (nI cap), .int ru, .int (nI tb), .ref b0])), (x0, .inr (5, [.ref k0, .ref w0, .int (nI nz), .int ch])), (k0, .inl (ck, L, .inl f)), (w0, .inl (cw, L, .inl g)), (b0, .inl (cb, tb, .inl bf))] sz)) 1 1024 (va_A [(y0, .inr (3, [.ref x0, .int kd, .int wh, .int (nI cap), .int ru, .int (nI tb), .ref b0])), (x0, .inr (5, [.ref k0, .ref w0, .int (nI nz), .int ch])), (k0, .inl (ck, L, .inl f)), (w0, .inl (cw, L, .inl g)), (b0, .inl (cb, tb, .inl bf))] sz) := by
  refine Met.ofW (cc := cX2_layFirstTable) (maxL := 2) (ret := none) (by decide) rfl ?_
  intro p e s m args below meth c s₁ B hml hv
  obtain ⟨rfl, hsz, hP, hK, hD0⟩ := hv
  have hx := B.exec
  have hb := B.bytes
  have hr := B.returns
  have hts := atoms_spec (ws := wsX2_layFirstTable) B.pre
  have hown : s.vm.findClass RX2 = some m.cls := findClass_of_methodNamed B.named
  have hlocks := B.notSynchronized
  subst hsz
  have hD := hD0.self (sz := s.heap.size)
  generalize hAe : va_A [(y0, .inr (3, [.ref x0, .int kd, .int wh, .int (nI cap), .int ru, .int (nI tb), .ref b0])), (x0, .inr (5, [.ref k0, .ref w0, .int (nI nz), .int ch])), (k0, .inl (ck, L, .inl f)), (w0, .inl (cw, L, .inl g)), (b0, .inl (cb, tb, .inl bf))] s.heap.size = A at hD ⊢
  have hA : ∀ q : Nat, s.heap.size ≤ q → A q := fun q h => by rw [← hAe]; exact Or.inr h
  have hS : va_S A s.heap s.heap [] := va_S.rf
  have hP : va_P (dC, dI) vwCl [(y0, .inr (3, [.ref x0, .int kd, .int wh, .int (nI cap), .int ru, .int (nI tb), .ref b0])), (x0, .inr (5, [.ref k0, .ref w0, .int (nI nz), .int ch])), (k0, .inl (ck, L, .inl f)), (w0, .inl (cw, L, .inl g)), (b0, .inl (cb, tb, .inl bf))] s.heap := hP
  have hl := lv_entry ([.ref y0]) (n := 2) (Nat.le_of_ble_eq_true rfl)
  rw [lg_entry_eq]
  generalize (lg_sl ([.ref y0]) ++ List.replicate (2 - (lg_sl ([.ref y0])).length) Slot.unset).toArray = ls at hl ⊢
  have hl : lv_has ls 2 [(0, .ref y0)] := hl
  have hw0_ := hts (.fieldLink RX2 28 "KeyAtlas$Hash" "table" "I") (List.mem_of_getElem? (l := wsX2_layFirstTable) (i := 1) rfl)
  have hw1_ := hts (.arrayClass .boolean) (List.mem_of_getElem? (l := wsX2_layFirstTable) (i := 3) rfl)
  have hw2_ := hts (.fieldLink RX2 14 "KeyAtlas$Hash" "bushy" "[Z") (List.mem_of_getElem? (l := wsX2_layFirstTable) (i := 4) rfl)
  have hw3_ := hts (.fieldLink RX2 20 "KeyAtlas$Hash" "capacity" "I") (List.mem_of_getElem? (l := wsX2_layFirstTable) (i := 2) rfl)
  have hi0_ : ∀ w ∈ u_ws RX2 TX2 7, w ∈ wsX2_layFirstTable := fun w h => List.mem_cons_of_mem _ (List.mem_append_right _ h)
  refine lv_aload_n hx hb dX2_layFirstTable_0 rfl (lv_at hl 0 rfl) ?_
  refine lv_iconst (v := 1) hx hb dX2_layFirstTable_1 (by decide) ?_
  refine va_put (D := (dC, dI)) (ci := 3) (v := .int 1) (ty := .int) (C := RX2) (T := TX2) (N := 7) hx hb hts hi0_ tyX2 tyX2_ok nmX2 hown hK hP hD hS 0 rfl rfl 5 (by decide) hw0_ (fun _ h9 => h9) rfl (by decide +kernel) rfl rfl (Nat.le_of_ble_eq_true rfl) dX2_layFirstTable_2 (fun H locs hP hD hS => ?_)
  replace hP : va_P (dC, dI) vwCl [(y0, .inr (3, [.ref x0, .int kd, .int wh, .int (nI cap), .int ru, .int 1, .ref b0])), (x0, .inr (5, [.ref k0, .ref w0, .int (nI nz), .int ch])), (k0, .inl (ck, L, .inl f)), (w0, .inl (cw, L, .inl g)), (b0, .inl (cb, tb, .inl bf))] H := hP
  replace hD : va_D A [(y0, .inr (3, [.ref x0, .int kd, .int wh, .int (nI cap), .int ru, .int 1, .ref b0])), (x0, .inr (5, [.ref k0, .ref w0, .int (nI nz), .int ch])), (k0, .inl (ck, L, .inl f)), (w0, .inl (cw, L, .inl g)), (b0, .inl (cb, tb, .inl bf))] := hD
  refine lv_iconst (v := 0) hx hb dX2_layFirstTable_5 (by decide) ?_
  refine lv_istore_n (lv' := [(1, .int 0), (0, .ref y0)]) hx hb dX2_layFirstTable_6 rfl hl (by decide) rfl (fun ls hl => ?_)
  obtain ⟨i1, es_i1⟩ : ∃ z : Nat, z = 0 := ⟨_, rfl⟩
  obtain ⟨x1, ex1⟩ : ∃ y : Int32, y = nI i1 := ⟨_, rfl⟩
  obtain ⟨t9, es_t9⟩ : ∃ z : Nat, z = 1 := ⟨_, rfl⟩
  obtain ⟨tf, ef_tf⟩ : ∃ z : Int32, z = 1 := ⟨_, rfl⟩
  obtain ⟨n9, en9⟩ : ∃ n : Nat, n = 33 := ⟨_, rfl⟩
  replace hl : lv_has ls 2 [(1, .int x1), (0, .ref y0)] := by subst ex1; subst es_i1; subst es_t9; exact hl
  replace hP : va_P (dC, dI) vwCl [(y0, .inr (3, [.ref x0, .int kd, .int wh, .int (nI cap), .int ru, .int tf, .ref b0])), (x0, .inr (5, [.ref k0, .ref w0, .int (nI nz), .int ch])), (k0, .inl (ck, L, .inl f)), (w0, .inl (cw, L, .inl g)), (b0, .inl (cb, tb, .inl bf))] H := by subst ef_tf; exact hP
  replace hD : va_D A [(y0, .inr (3, [.ref x0, .int kd, .int wh, .int (nI cap), .int ru, .int tf, .ref b0])), (x0, .inr (5, [.ref k0, .ref w0, .int (nI nz), .int ch])), (k0, .inl (ck, L, .inl f)), (w0, .inl (cw, L, .inl g)), (b0, .inl (cb, tb, .inl bf))] := by subst ef_tf; exact hD
  have hv6 : tf = nI t9 := by subst ex1; subst es_i1; subst es_t9; subst ef_tf; subst en9; exact rfl
  have h16 : 1 ≤ t9 := by subst ex1; subst es_i1; subst es_t9; subst ef_tf; subst en9; exact Nat.le_refl _
  have h26 : t9 ≤ 1024 := by subst ex1; subst es_i1; subst es_t9; subst ef_tf; subst en9; exact by omega
  have h36 : p2N t9 := by subst ex1; subst es_i1; subst es_t9; subst ef_tf; subst en9; exact p2_one
  have hi1 : i1 ≤ 32 := by subst ex1; subst es_i1; subst es_t9; subst ef_tf; subst en9; exact by omega
  have hn1 : 33 ≤ i1 + n9 := by subst ex1; subst es_i1; subst es_t9; subst ef_tf; subst en9; exact by omega
  clear en9 es_i1 es_t9 ef_tf
  induction n9 generalizing i1 x1 t9 ls H locs tf with
  | zero => exact absurd hn1 (by omega)
  | succ n9 ih =>
    subst ex1
    refine lv_iload_n hx hb dX2_layFirstTable_7 rfl (lv_at hl 0 rfl) ?_
    refine lv_bipush (v := 32) hx hb dX2_layFirstTable_8 (by decide) ?_
    refine lv_icmp_ge (tgt := 40) hx hb dX2_layFirstTable_10 (by decide) (fun c_1 => ?_) (fun c_1 => ?_)
    ·
      have ic_1 : 32 ≤ ((i1 : Nat) : Int) := tx_le (by decide) (nI_toInt (by omega)) c_1
      subst hv6
      refine lv_aload_n hx hb dX2_layFirstTable_40 rfl (lv_at hl 1 rfl) ?_
      refine lv_aload_n hx hb dX2_layFirstTable_41 rfl (lv_at hl 1 rfl) ?_
      refine va_get (D := (dC, dI)) (ci := 3) (v := .int (nI t9)) (C := RX2) (T := TX2) (N := 7) hx hb hts hi0_ hown hK hP 0 rfl rfl 5 (by decide) hw0_ (fun _ h9 => h9) rfl dX2_layFirstTable_42 ?_
      have hS0_ := hS
      clear hS
      refine va_newa (atype := .boolean) (ty := .boolean) (n := nI t9) (N' := t9) (a0 := (t9, .inl (fun _ => (0 : Int32)))) hx hb hw1_ rfl hK hP hD hS0_ hA (fun _ => rfl) (Int32.not_lt.mpr (Int32.le_iff_toInt_le.mpr (by rw [nI_toInt (by omega)]; exact Int.ofNat_nonneg _))) (nI_clamp (by omega)) (by show t9 * 1 ≤ 536870912; omega) (Nat.le_of_ble_eq_true rfl) (show 0 + t9 ≤ 1024 by omega) dX2_layFirstTable_45 (fun q_2 cA_3 H hK hP hD hS => ?_)
      clear hS0_
      have hK : va_K (dC, dI) vwCl [(ck, .int), (cw, .int), (cb, .boolean), (cA_3, .boolean)] s := hK
      replace hP : va_P (dC, dI) vwCl [(y0, .inr (3, [.ref x0, .int kd, .int wh, .int (nI cap), .int ru, .int (nI t9), .ref b0])), (x0, .inr (5, [.ref k0, .ref w0, .int (nI nz), .int ch])), (k0, .inl (ck, L, .inl f)), (w0, .inl (cw, L, .inl g)), (b0, .inl (cb, tb, .inl bf)), (q_2, .inl (cA_3, t9, .inl (fun _ => (0 : Int32))))] H := hP
      replace hD : va_D A [(y0, .inr (3, [.ref x0, .int kd, .int wh, .int (nI cap), .int ru, .int (nI t9), .ref b0])), (x0, .inr (5, [.ref k0, .ref w0, .int (nI nz), .int ch])), (k0, .inl (ck, L, .inl f)), (w0, .inl (cw, L, .inl g)), (b0, .inl (cb, tb, .inl bf)), (q_2, .inl (cA_3, t9, .inl (fun _ => (0 : Int32))))] := hD
      refine W.widen (k := 1) (n := t9) (by omega) (by omega) ?_
      refine va_put (D := (dC, dI)) (ci := 3) (v := .ref q_2) (ty := .array .boolean) (C := RX2) (T := TX2) (N := 7) hx hb hts hi0_ tyX2 tyX2_ok nmX2 hown hK hP hD hS 0 rfl rfl 6 (by decide) hw2_ (fun _ h9 => h9) rfl (by decide +kernel) rfl rfl (Nat.le_of_ble_eq_true rfl) dX2_layFirstTable_47 (fun H locs hP hD hS => ?_)
      replace hP : va_P (dC, dI) vwCl [(y0, .inr (3, [.ref x0, .int kd, .int wh, .int (nI cap), .int ru, .int (nI t9), .ref q_2])), (x0, .inr (5, [.ref k0, .ref w0, .int (nI nz), .int ch])), (k0, .inl (ck, L, .inl f)), (w0, .inl (cw, L, .inl g)), (b0, .inl (cb, tb, .inl bf)), (q_2, .inl (cA_3, t9, .inl (fun _ => (0 : Int32))))] H := hP
      replace hD : va_D A [(y0, .inr (3, [.ref x0, .int kd, .int wh, .int (nI cap), .int ru, .int (nI t9), .ref q_2])), (x0, .inr (5, [.ref k0, .ref w0, .int (nI nz), .int ch])), (k0, .inl (ck, L, .inl f)), (w0, .inl (cw, L, .inl g)), (b0, .inl (cb, tb, .inl bf)), (q_2, .inl (cA_3, t9, .inl (fun _ => (0 : Int32))))] := hD
      have hP9 := hP.sub (ws' := [(y0, .inr (3, [.ref x0, .int kd, .int wh, .int (nI cap), .int ru, .int (nI t9), .ref q_2])), (x0, .inr (5, [.ref k0, .ref w0, .int (nI nz), .int ch])), (k0, .inl (ck, L, .inl f)), (w0, .inl (cw, L, .inl g)), (q_2, .inl (cA_3, t9, .inl (fun _ => (0 : Int32))))]) [0, 1, 2, 3, 5] rfl
      have hD9 := hD.sub (ws' := [(y0, .inr (3, [.ref x0, .int kd, .int wh, .int (nI cap), .int ru, .int (nI t9), .ref q_2])), (x0, .inr (5, [.ref k0, .ref w0, .int (nI nz), .int ch])), (k0, .inl (ck, L, .inl f)), (w0, .inl (cw, L, .inl g)), (q_2, .inl (cA_3, t9, .inl (fun _ => (0 : Int32))))]) [0, 1, 2, 3, 5] (by decide) rfl
      have hK9 := hK.sub (tys' := [(ck, .int), (cw, .int), (cA_3, .boolean)]) [0, 1, 3] rfl
      refine W.widen (k := 1) (n := 1024) (by omega) (by omega) ?_
      exact W.vret hx hb hr (fun t ht hW => ⟨⟨(t9, q_2, cA_3, (fun _ => (0 : Int32))), rfl, ⟨h16, h26, h36⟩, by rw [ht]; exact hP9, va_K.moved hW.alike hK9, hD9⟩, hS.F ht⟩) hS.2.2 dX2_layFirstTable_50
    ·
      have ic_1 : ((i1 : Nat) : Int) < 32 := tx_nle (by decide) (nI_toInt (by omega)) c_1
      refine lv_aload_n hx hb dX2_layFirstTable_13 rfl (lv_at hl 1 rfl) ?_
      refine va_get (D := (dC, dI)) (ci := 3) (v := .int tf) (C := RX2) (T := TX2) (N := 7) hx hb hts hi0_ hown hK hP 0 rfl rfl 5 (by decide) hw0_ (fun _ h9 => h9) rfl dX2_layFirstTable_14 ?_
      refine W.eq (g2 := F0 m 17 ls [.int (nI t9)]) (by rw [hv6]) ?_
      refine lv_aload_n hx hb dX2_layFirstTable_17 rfl (lv_at hl 1 rfl) ?_
      refine va_get (D := (dC, dI)) (ci := 3) (v := .int (nI cap)) (C := RX2) (T := TX2) (N := 7) hx hb hts hi0_ hown hK hP 0 rfl rfl 3 (by decide) hw3_ (fun _ h9 => h9) rfl dX2_layFirstTable_18 ?_
      refine lv_icmp_ge (tgt := 40) hx hb dX2_layFirstTable_21 (by decide) (fun c_4 => ?_) (fun c_4 => ?_)
      ·
        have ic_4 : ((cap : Nat) : Int) ≤ ((t9 : Nat) : Int) := tx_le (nI_toInt (by omega)) (nI_toInt (by omega)) c_4
        subst hv6
        refine lv_aload_n hx hb dX2_layFirstTable_40 rfl (lv_at hl 1 rfl) ?_
        refine lv_aload_n hx hb dX2_layFirstTable_41 rfl (lv_at hl 1 rfl) ?_
        refine va_get (D := (dC, dI)) (ci := 3) (v := .int (nI t9)) (C := RX2) (T := TX2) (N := 7) hx hb hts hi0_ hown hK hP 0 rfl rfl 5 (by decide) hw0_ (fun _ h9 => h9) rfl dX2_layFirstTable_42 ?_
        have hS0_ := hS
        clear hS
        refine va_newa (atype := .boolean) (ty := .boolean) (n := nI t9) (N' := t9) (a0 := (t9, .inl (fun _ => (0 : Int32)))) hx hb hw1_ rfl hK hP hD hS0_ hA (fun _ => rfl) (Int32.not_lt.mpr (Int32.le_iff_toInt_le.mpr (by rw [nI_toInt (by omega)]; exact Int.ofNat_nonneg _))) (nI_clamp (by omega)) (by show t9 * 1 ≤ 536870912; omega) (Nat.le_of_ble_eq_true rfl) (show 0 + t9 ≤ 1024 by omega) dX2_layFirstTable_45 (fun q_5 cA_6 H hK hP hD hS => ?_)
        clear hS0_
        have hK : va_K (dC, dI) vwCl [(ck, .int), (cw, .int), (cb, .boolean), (cA_6, .boolean)] s := hK
        replace hP : va_P (dC, dI) vwCl [(y0, .inr (3, [.ref x0, .int kd, .int wh, .int (nI cap), .int ru, .int (nI t9), .ref b0])), (x0, .inr (5, [.ref k0, .ref w0, .int (nI nz), .int ch])), (k0, .inl (ck, L, .inl f)), (w0, .inl (cw, L, .inl g)), (b0, .inl (cb, tb, .inl bf)), (q_5, .inl (cA_6, t9, .inl (fun _ => (0 : Int32))))] H := hP
        replace hD : va_D A [(y0, .inr (3, [.ref x0, .int kd, .int wh, .int (nI cap), .int ru, .int (nI t9), .ref b0])), (x0, .inr (5, [.ref k0, .ref w0, .int (nI nz), .int ch])), (k0, .inl (ck, L, .inl f)), (w0, .inl (cw, L, .inl g)), (b0, .inl (cb, tb, .inl bf)), (q_5, .inl (cA_6, t9, .inl (fun _ => (0 : Int32))))] := hD
        refine W.widen (k := 1) (n := t9) (by omega) (by omega) ?_
        refine va_put (D := (dC, dI)) (ci := 3) (v := .ref q_5) (ty := .array .boolean) (C := RX2) (T := TX2) (N := 7) hx hb hts hi0_ tyX2 tyX2_ok nmX2 hown hK hP hD hS 0 rfl rfl 6 (by decide) hw2_ (fun _ h9 => h9) rfl (by decide +kernel) rfl rfl (Nat.le_of_ble_eq_true rfl) dX2_layFirstTable_47 (fun H locs hP hD hS => ?_)
        replace hP : va_P (dC, dI) vwCl [(y0, .inr (3, [.ref x0, .int kd, .int wh, .int (nI cap), .int ru, .int (nI t9), .ref q_5])), (x0, .inr (5, [.ref k0, .ref w0, .int (nI nz), .int ch])), (k0, .inl (ck, L, .inl f)), (w0, .inl (cw, L, .inl g)), (b0, .inl (cb, tb, .inl bf)), (q_5, .inl (cA_6, t9, .inl (fun _ => (0 : Int32))))] H := hP
        replace hD : va_D A [(y0, .inr (3, [.ref x0, .int kd, .int wh, .int (nI cap), .int ru, .int (nI t9), .ref q_5])), (x0, .inr (5, [.ref k0, .ref w0, .int (nI nz), .int ch])), (k0, .inl (ck, L, .inl f)), (w0, .inl (cw, L, .inl g)), (b0, .inl (cb, tb, .inl bf)), (q_5, .inl (cA_6, t9, .inl (fun _ => (0 : Int32))))] := hD
        have hP9 := hP.sub (ws' := [(y0, .inr (3, [.ref x0, .int kd, .int wh, .int (nI cap), .int ru, .int (nI t9), .ref q_5])), (x0, .inr (5, [.ref k0, .ref w0, .int (nI nz), .int ch])), (k0, .inl (ck, L, .inl f)), (w0, .inl (cw, L, .inl g)), (q_5, .inl (cA_6, t9, .inl (fun _ => (0 : Int32))))]) [0, 1, 2, 3, 5] rfl
        have hD9 := hD.sub (ws' := [(y0, .inr (3, [.ref x0, .int kd, .int wh, .int (nI cap), .int ru, .int (nI t9), .ref q_5])), (x0, .inr (5, [.ref k0, .ref w0, .int (nI nz), .int ch])), (k0, .inl (ck, L, .inl f)), (w0, .inl (cw, L, .inl g)), (q_5, .inl (cA_6, t9, .inl (fun _ => (0 : Int32))))]) [0, 1, 2, 3, 5] (by decide) rfl
        have hK9 := hK.sub (tys' := [(ck, .int), (cw, .int), (cA_6, .boolean)]) [0, 1, 3] rfl
        refine W.widen (k := 1) (n := 1024) (by omega) (by omega) ?_
        exact W.vret hx hb hr (fun t ht hW => ⟨⟨(t9, q_5, cA_6, (fun _ => (0 : Int32))), rfl, ⟨h16, h26, h36⟩, by rw [ht]; exact hP9, va_K.moved hW.alike hK9, hD9⟩, hS.F ht⟩) hS.2.2 dX2_layFirstTable_50
      ·
        have ic_4 : ((t9 : Nat) : Int) < ((cap : Nat) : Int) := tx_nle (nI_toInt (by omega)) (nI_toInt (by omega)) c_4
        refine lv_aload_n hx hb dX2_layFirstTable_24 rfl (lv_at hl 1 rfl) ?_
        refine lv_dup hx hb dX2_layFirstTable_25 rfl ?_
        refine va_get (D := (dC, dI)) (ci := 3) (v := .int tf) (C := RX2) (T := TX2) (N := 7) hx hb hts hi0_ hown hK hP 0 rfl rfl 5 (by decide) hw0_ (fun _ h9 => h9) rfl dX2_layFirstTable_26 ?_
        refine W.eq (g2 := F0 m 29 ls [.int (nI t9), .ref y0]) (by rw [hv6]) ?_
        refine lv_iconst (v := 2) hx hb dX2_layFirstTable_29 (by decide) ?_
        refine lv_imul hx hb dX2_layFirstTable_30 ?_
        refine lv_topi (fun z_7 ez_7 => ?_)
        obtain rfl : z_7 = nI (t9 * 2) := ez_7.trans (by rw [show (2 : Int32) = nI 2 from rfl, pk_mul])
        refine va_put (D := (dC, dI)) (ci := 3) (v := .int (nI (t9 * 2))) (ty := .int) (C := RX2) (T := TX2) (N := 7) hx hb hts hi0_ tyX2 tyX2_ok nmX2 hown hK hP hD hS 0 rfl rfl 5 (by decide) hw0_ (fun _ h9 => h9) rfl (by decide +kernel) rfl rfl (Nat.le_of_ble_eq_true rfl) dX2_layFirstTable_31 (fun H locs hP hD hS => ?_)
        replace hP : va_P (dC, dI) vwCl [(y0, .inr (3, [.ref x0, .int kd, .int wh, .int (nI cap), .int ru, .int (nI (t9 * 2)), .ref b0])), (x0, .inr (5, [.ref k0, .ref w0, .int (nI nz), .int ch])), (k0, .inl (ck, L, .inl f)), (w0, .inl (cw, L, .inl g)), (b0, .inl (cb, tb, .inl bf))] H := hP
        replace hD : va_D A [(y0, .inr (3, [.ref x0, .int kd, .int wh, .int (nI cap), .int ru, .int (nI (t9 * 2)), .ref b0])), (x0, .inr (5, [.ref k0, .ref w0, .int (nI nz), .int ch])), (k0, .inl (ck, L, .inl f)), (w0, .inl (cw, L, .inl g)), (b0, .inl (cb, tb, .inl bf))] := hD
        refine lv_iinc (v := nI (i1 + 1)) (lv' := [(1, .int (nI (i1 + 1))), (0, .ref y0)]) hx hb dX2_layFirstTable_34 hl (k := 0) rfl (by rw [show Int32.ofInt 1 = nI 1 from rfl, nI_add]) (by decide) rfl (fun ls hl => ?_)
        refine lv_goto (tgt := 7) hx hb dX2_layFirstTable_37 (by decide) ?_
        exact ih (i1 := i1 + 1) (x1 := nI (i1 + 1)) (ex1 := rfl) (t9 := t9 * 2) (ls := ls) (tf := nI (t9 * 2)) (H := H) (locs := locs) (hP := hP.sub (ws' := [(y0, .inr (3, [.ref x0, .int kd, .int wh, .int (nI cap), .int ru, .int (nI (t9 * 2)), .ref b0])), (x0, .inr (5, [.ref k0, .ref w0, .int (nI nz), .int ch])), (k0, .inl (ck, L, .inl f)), (w0, .inl (cw, L, .inl g)), (b0, .inl (cb, tb, .inl bf))]) [0, 1, 2, 3, 4] rfl) (hS := hS) (hD := hD.sub (ws' := [(y0, .inr (3, [.ref x0, .int kd, .int wh, .int (nI cap), .int ru, .int (nI (t9 * 2)), .ref b0])), (x0, .inr (5, [.ref k0, .ref w0, .int (nI nz), .int ch])), (k0, .inl (ck, L, .inl f)), (w0, .inl (cw, L, .inl g)), (b0, .inl (cb, tb, .inl bf))]) [0, 1, 2, 3, 4] (by decide) rfl) (hv6 := rfl) (h16 := by omega) (h26 := by have := p2_512 h36 (by omega); omega) (h36 := p2_dbl' h36) (hi1 := by omega) (hn1 := by omega) (hl := lv_sub hl [0, 1] rfl)
set_option maxHeartbeats 4000000 in
set_option maxRecDepth 100000 in
/-- Hash.doubleTable -/
theorem c_X2_doubleTable (l : Launch) (dC : Nat → ClassId) (dI : Nat → Nat → Nat) (sz : Nat) (y0 : Nat) (kd : Int32) (wh : Int32) (cap : Nat) (ru : Int32) (tb : Nat) (b0 : Nat) (cb : ClassId) (bf : Nat → Int32) (x0 : Nat) (k0 : Nat) (w0 : Nat) (ck : ClassId) (cw : ClassId) (L : Nat) (f : Nat → Int32) (g : Nat → Int32) (nz : Nat) (ch : Int32) (hR9 : rOK L nz) (h1tb : 1 ≤ tb) (h2tb : tb ≤ 1024) : Met l yX2_doubleTable wsX2_doubleTable ({ frames := 2, cells := 5, slots := 4 * tb + nz + 2 * L, locals := 100 }) (va_Pc [.ref y0] (pk_Pre (dC, dI) [(y0, .inr (3, [.ref x0, .int kd, .int wh, .int (nI cap), .int ru, .int (nI tb), .ref b0])), (x0, .inr (5, [.ref k0, .ref w0, .int (nI nz), .int ch])), (k0, .inl (ck, L, .inl f)), (w0, .inl (cw, L, .inl g)), (b0, .inl (cb, tb, .inl bf))] [(ck, .int), (cw, .int), (cb, .boolean)] sz)) (va_Qv (fun (u : Nat × ClassId × (Nat → Int32) × Nat × Nat × ClassId × ClassId × (Nat → Int32) × (Nat → Int32)) => True) (fun (u : Nat × ClassId × (Nat → Int32) × Nat × Nat × ClassId × ClassId × (Nat → Int32) × (Nat → Int32)) (t : State) => va_P (dC, dI) vwCl [(y0, .inr (3, [.ref x0, .int kd, .int wh, .int (nI cap), .int ru, .int (nI (tb * 2)), .ref u.1])), (x0, .inr (5, [.ref u.2.2.2.1, .ref u.2.2.2.2.1, .int (nI nz), .int ch])), (u.2.2.2.1, .inl (u.2.2.2.2.2.1, L, .inl u.2.2.2.2.2.2.2.1)), (u.2.2.2.2.1, .inl (u.2.2.2.2.2.2.1, L, .inl u.2.2.2.2.2.2.2.2)), (u.1, .inl (u.2.1, tb * 2, .inl u.2.2.1))] t.heap ∧ va_K (dC, dI) vwCl [(u.2.2.2.2.2.1, .int), (u.2.2.2.2.2.2.1, .int), (u.2.1, .boolean)] t ∧ va_D (va_A [(y0, .inr (3, [.ref x0, .int kd, .int wh, .int (nI cap), .int ru, .int (nI tb), .ref b0])), (x0, .inr (5, [.ref k0, .ref w0, .int (nI nz), .int ch])), (k0, .inl (ck, L, .inl f)), (w0, .inl (cw, L, .inl g)), (b0, .inl (cb, tb, .inl bf))] sz) [(y0, .inr (3, [.ref x0, .int kd, .int wh, .int (nI cap), .int ru, .int (nI (tb * 2)), .ref u.1])), (x0, .inr (5, [.ref u.2.2.2.1, .ref u.2.2.2.2.1, .int (nI nz), .int ch])), (u.2.2.2.1, .inl (u.2.2.2.2.2.1, L, .inl u.2.2.2.2.2.2.2.1)), (u.2.2.2.2.1, .inl (u.2.2.2.2.2.2.1, L, .inl u.2.2.2.2.2.2.2.2)), (u.1, .inl (u.2.1, tb * 2, .inl u.2.2.1))]) (va_A [(y0, .inr (3, [.ref x0, .int kd, .int wh, .int (nI cap), .int ru, .int (nI tb), .ref b0])), (x0, .inr (5, [.ref k0, .ref w0, .int (nI nz), .int ch])), (k0, .inl (ck, L, .inl f)), (w0, .inl (cw, L, .inl g)), (b0, .inl (cb, tb, .inl bf))] sz)) 5 (4 * tb + nz + 2 * L) (va_A [(y0, .inr (3, [.ref x0, .int kd, .int wh, .int (nI cap), .int ru, .int (nI tb), .ref b0])), (x0, .inr (5, [.ref k0, .ref w0, .int (nI nz), .int ch])), (k0, .inl (ck, L, .inl f)), (w0, .inl (cw, L, .inl g)), (b0, .inl (cb, tb, .inl bf))] sz) := by
  refine Met.ofW (cc := cX2_doubleTable) (maxL := 7) (ret := none) (by decide) rfl ?_
  intro p e s m args below meth c s₁ B hml hv
  obtain ⟨rfl, hsz, hP, hK, hD0⟩ := hv
  have hx := B.exec
  have hb := B.bytes
  have hr := B.returns
  have hts := atoms_spec (ws := wsX2_doubleTable) B.pre
  have hown : s.vm.findClass RX2 = some m.cls := findClass_of_methodNamed B.named
  have hlocks := B.notSynchronized
  subst hsz
  have hD := hD0.self (sz := s.heap.size)
  generalize hAe : va_A [(y0, .inr (3, [.ref x0, .int kd, .int wh, .int (nI cap), .int ru, .int (nI tb), .ref b0])), (x0, .inr (5, [.ref k0, .ref w0, .int (nI nz), .int ch])), (k0, .inl (ck, L, .inl f)), (w0, .inl (cw, L, .inl g)), (b0, .inl (cb, tb, .inl bf))] s.heap.size = A at hD ⊢
  have hA : ∀ q : Nat, s.heap.size ≤ q → A q := fun q h => by rw [← hAe]; exact Or.inr h
  have hS : va_S A s.heap s.heap [] := va_S.rf
  have hP : va_P (dC, dI) vwCl [(y0, .inr (3, [.ref x0, .int kd, .int wh, .int (nI cap), .int ru, .int (nI tb), .ref b0])), (x0, .inr (5, [.ref k0, .ref w0, .int (nI nz), .int ch])), (k0, .inl (ck, L, .inl f)), (w0, .inl (cw, L, .inl g)), (b0, .inl (cb, tb, .inl bf))] s.heap := hP
  have hl := lv_entry ([.ref y0]) (n := 7) (Nat.le_of_ble_eq_true rfl)
  rw [lg_entry_eq]
  generalize (lg_sl ([.ref y0]) ++ List.replicate (7 - (lg_sl ([.ref y0])).length) Slot.unset).toArray = ls at hl ⊢
  have hl : lv_has ls 7 [(0, .ref y0)] := hl
  have hw0_ := hts (.fieldLink RX2 28 "KeyAtlas$Hash" "table" "I") (List.mem_of_getElem? (l := wsX2_doubleTable) (i := 1) rfl)
  have hw1_ := hts (.constant RX2 66 (1048576)) (List.mem_of_getElem? (l := wsX2_doubleTable) (i := 2) rfl)
  have hw2_ := hts (.fieldLink RX2 14 "KeyAtlas$Hash" "bushy" "[Z") (List.mem_of_getElem? (l := wsX2_doubleTable) (i := 3) rfl)
  have hw3_ := hts (.arrayClass .boolean) (List.mem_of_getElem? (l := wsX2_doubleTable) (i := 4) rfl)
  have hw4_ := hts (.arrayClass .int) (List.mem_of_getElem? (l := wsX2_doubleTable) (i := 5) rfl)
  have hw5_ := hts (.fieldLink RX2 31 "KeyAtlas$Hash" "rows" "LKeyAtlas$Rows;") (List.mem_of_getElem? (l := wsX2_doubleTable) (i := 6) rfl)
  have hw6_ := hts (.sameField "KeyAtlas$Hash" "KeyAtlas$Keyed" "rows" "LKeyAtlas$Rows;") (List.mem_of_getElem? (l := wsX2_doubleTable) (i := 7) rfl)
  have hi0_ : ∀ w ∈ u_ws RX2 TX2 7, w ∈ wsX2_doubleTable := fun w h => List.mem_cons_of_mem _ (List.mem_append_left _ (List.mem_append_left _ (List.mem_append_left _ (List.mem_append_right _ h))))
  obtain ⟨hL1, hL2, hz1, hz2⟩ := id hR9
  refine lv_aload_n hx hb dX2_doubleTable_0 rfl (lv_at hl 0 rfl) ?_
  refine va_get (D := (dC, dI)) (ci := 3) (v := .int (nI tb)) (C := RX2) (T := TX2) (N := 7) hx hb hts hi0_ hown hK hP 0 rfl rfl 5 (by decide) hw0_ (fun _ h9 => h9) rfl dX2_doubleTable_1 ?_
  refine lv_istore_n (lv' := [(1, .int (nI tb)), (0, .ref y0)]) hx hb dX2_doubleTable_4 rfl hl (by decide) rfl (fun ls hl => ?_)
  refine lv_iload_n hx hb dX2_doubleTable_5 rfl (lv_at hl 0 rfl) ?_
  refine lv_iconst (v := 1) hx hb dX2_doubleTable_6 (by decide) ?_
  refine lv_icmp_lt (tgt := 16) hx hb dX2_doubleTable_7 (by decide) (fun c_1 => absurd c_1 (nI_nlt1 (by omega) (by omega))) (fun c_1 => ?_)
  refine lv_iload_n hx hb dX2_doubleTable_10 rfl (lv_at hl 0 rfl) ?_
  refine lv_ldc (v := 1048576) hx hb hown hw1_ dX2_doubleTable_11 ?_
  refine lv_icmp_lt (tgt := 17) hx hb dX2_doubleTable_13 (by decide) (fun c_2 => ?_) (fun c_2 => absurd (nI_ltm (by omega)) c_2)
  refine lv_aload_n hx hb dX2_doubleTable_17 rfl (lv_at hl 1 rfl) ?_
  refine va_get (D := (dC, dI)) (ci := 3) (v := .ref b0) (C := RX2) (T := TX2) (N := 7) hx hb hts hi0_ hown hK hP 0 rfl rfl 6 (by decide) hw2_ (fun _ h9 => h9) rfl dX2_doubleTable_18 ?_
  refine lv_astore_n (lv' := [(2, .ref b0), (1, .int (nI tb)), (0, .ref y0)]) hx hb dX2_doubleTable_21 rfl hl (by decide) rfl (fun ls hl => ?_)
  refine lv_aload_n hx hb dX2_doubleTable_22 rfl (lv_at hl 2 rfl) ?_
  refine lv_iload_n hx hb dX2_doubleTable_23 rfl (lv_at hl 1 rfl) ?_
  refine lv_iconst (v := 2) hx hb dX2_doubleTable_24 (by decide) ?_
  refine lv_imul hx hb dX2_doubleTable_25 ?_
  refine lv_topi (fun z_3 ez_3 => ?_)
  obtain rfl : z_3 = nI (tb * 2) := ez_3.trans (by rw [show (2 : Int32) = nI 2 from rfl, pk_mul])
  refine va_put (D := (dC, dI)) (ci := 3) (v := .int (nI (tb * 2))) (ty := .int) (C := RX2) (T := TX2) (N := 7) hx hb hts hi0_ tyX2 tyX2_ok nmX2 hown hK hP hD hS 0 rfl rfl 5 (by decide) hw0_ (fun _ h9 => h9) rfl (by decide +kernel) rfl rfl (Nat.le_of_ble_eq_true rfl) dX2_doubleTable_26 (fun H locs hP hD hS => ?_)
  replace hP : va_P (dC, dI) vwCl [(y0, .inr (3, [.ref x0, .int kd, .int wh, .int (nI cap), .int ru, .int (nI (tb * 2)), .ref b0])), (x0, .inr (5, [.ref k0, .ref w0, .int (nI nz), .int ch])), (k0, .inl (ck, L, .inl f)), (w0, .inl (cw, L, .inl g)), (b0, .inl (cb, tb, .inl bf))] H := hP
  replace hD : va_D A [(y0, .inr (3, [.ref x0, .int kd, .int wh, .int (nI cap), .int ru, .int (nI (tb * 2)), .ref b0])), (x0, .inr (5, [.ref k0, .ref w0, .int (nI nz), .int ch])), (k0, .inl (ck, L, .inl f)), (w0, .inl (cw, L, .inl g)), (b0, .inl (cb, tb, .inl bf))] := hD
  refine lv_aload_n hx hb dX2_doubleTable_29 rfl (lv_at hl 2 rfl) ?_
  refine lv_aload_n hx hb dX2_doubleTable_30 rfl (lv_at hl 2 rfl) ?_
  refine va_get (D := (dC, dI)) (ci := 3) (v := .int (nI (tb * 2))) (C := RX2) (T := TX2) (N := 7) hx hb hts hi0_ hown hK hP 0 rfl rfl 5 (by decide) hw0_ (fun _ h9 => h9) rfl dX2_doubleTable_31 ?_
  have hS0_ := hS
  clear hS
  refine va_newa (atype := .boolean) (ty := .boolean) (n := nI (tb * 2)) (N' := tb * 2) (a0 := (tb * 2, .inl (fun _ => (0 : Int32)))) hx hb hw3_ rfl hK hP hD hS0_ hA (fun _ => rfl) (Int32.not_lt.mpr (Int32.le_iff_toInt_le.mpr (by rw [nI_toInt (by omega)]; exact Int.ofNat_nonneg _))) (nI_clamp (by omega)) (by show (tb * 2) * 1 ≤ 536870912; omega) (Nat.le_of_ble_eq_true rfl) (show 0 + (tb * 2) ≤ 4 * tb + nz + 2 * L by omega) dX2_doubleTable_34 (fun q_4 cA_5 H hK hP hD hS => ?_)
  clear hS0_
  have hK : va_K (dC, dI) vwCl [(ck, .int), (cw, .int), (cb, .boolean), (cA_5, .boolean)] s := hK
  replace hP : va_P (dC, dI) vwCl [(y0, .inr (3, [.ref x0, .int kd, .int wh, .int (nI cap), .int ru, .int (nI (tb * 2)), .ref b0])), (x0, .inr (5, [.ref k0, .ref w0, .int (nI nz), .int ch])), (k0, .inl (ck, L, .inl f)), (w0, .inl (cw, L, .inl g)), (b0, .inl (cb, tb, .inl bf)), (q_4, .inl (cA_5, tb * 2, .inl (fun _ => (0 : Int32))))] H := hP
  replace hD : va_D A [(y0, .inr (3, [.ref x0, .int kd, .int wh, .int (nI cap), .int ru, .int (nI (tb * 2)), .ref b0])), (x0, .inr (5, [.ref k0, .ref w0, .int (nI nz), .int ch])), (k0, .inl (ck, L, .inl f)), (w0, .inl (cw, L, .inl g)), (b0, .inl (cb, tb, .inl bf)), (q_4, .inl (cA_5, tb * 2, .inl (fun _ => (0 : Int32))))] := hD
  refine W.widen (k := 1) (n := tb * 2) (by omega) (by omega) ?_
  refine va_put (D := (dC, dI)) (ci := 3) (v := .ref q_4) (ty := .array .boolean) (C := RX2) (T := TX2) (N := 7) hx hb hts hi0_ tyX2 tyX2_ok nmX2 hown hK hP hD hS 0 rfl rfl 6 (by decide) hw2_ (fun _ h9 => h9) rfl (by decide +kernel) rfl rfl (Nat.le_of_ble_eq_true rfl) dX2_doubleTable_36 (fun H locs hP hD hS => ?_)
  replace hP : va_P (dC, dI) vwCl [(y0, .inr (3, [.ref x0, .int kd, .int wh, .int (nI cap), .int ru, .int (nI (tb * 2)), .ref q_4])), (x0, .inr (5, [.ref k0, .ref w0, .int (nI nz), .int ch])), (k0, .inl (ck, L, .inl f)), (w0, .inl (cw, L, .inl g)), (b0, .inl (cb, tb, .inl bf)), (q_4, .inl (cA_5, tb * 2, .inl (fun _ => (0 : Int32))))] H := hP
  replace hD : va_D A [(y0, .inr (3, [.ref x0, .int kd, .int wh, .int (nI cap), .int ru, .int (nI (tb * 2)), .ref q_4])), (x0, .inr (5, [.ref k0, .ref w0, .int (nI nz), .int ch])), (k0, .inl (ck, L, .inl f)), (w0, .inl (cw, L, .inl g)), (b0, .inl (cb, tb, .inl bf)), (q_4, .inl (cA_5, tb * 2, .inl (fun _ => (0 : Int32))))] := hD
  refine lv_aload_n hx hb dX2_doubleTable_39 rfl (lv_at hl 2 rfl) ?_
  refine va_get (D := (dC, dI)) (ci := 3) (v := .int (nI (tb * 2))) (C := RX2) (T := TX2) (N := 7) hx hb hts hi0_ hown hK hP 0 rfl rfl 5 (by decide) hw0_ (fun _ h9 => h9) rfl dX2_doubleTable_40 ?_
  have hS0_ := hS
  clear hS
  refine va_newa (atype := .int) (ty := .int) (n := nI (tb * 2)) (N' := tb * 2) (a0 := (tb * 2, .inl (fun _ => (0 : Int32)))) hx hb hw4_ rfl hK hP hD hS0_ hA (fun _ => rfl) (Int32.not_lt.mpr (Int32.le_iff_toInt_le.mpr (by rw [nI_toInt (by omega)]; exact Int.ofNat_nonneg _))) (nI_clamp (by omega)) (by show (tb * 2) * 4 ≤ 536870912; omega) (Nat.le_of_ble_eq_true rfl) (show tb * 2 + (tb * 2) ≤ 4 * tb + nz + 2 * L by omega) dX2_doubleTable_43 (fun q_6 cA_7 H hK hP hD hS => ?_)
  clear hS0_
  have hK : va_K (dC, dI) vwCl [(ck, .int), (cw, .int), (cb, .boolean), (cA_5, .boolean), (cA_7, .int)] s := hK
  replace hP : va_P (dC, dI) vwCl [(y0, .inr (3, [.ref x0, .int kd, .int wh, .int (nI cap), .int ru, .int (nI (tb * 2)), .ref q_4])), (x0, .inr (5, [.ref k0, .ref w0, .int (nI nz), .int ch])), (k0, .inl (ck, L, .inl f)), (w0, .inl (cw, L, .inl g)), (b0, .inl (cb, tb, .inl bf)), (q_4, .inl (cA_5, tb * 2, .inl (fun _ => (0 : Int32)))), (q_6, .inl (cA_7, tb * 2, .inl (fun _ => (0 : Int32))))] H := hP
  replace hD : va_D A [(y0, .inr (3, [.ref x0, .int kd, .int wh, .int (nI cap), .int ru, .int (nI (tb * 2)), .ref q_4])), (x0, .inr (5, [.ref k0, .ref w0, .int (nI nz), .int ch])), (k0, .inl (ck, L, .inl f)), (w0, .inl (cw, L, .inl g)), (b0, .inl (cb, tb, .inl bf)), (q_4, .inl (cA_5, tb * 2, .inl (fun _ => (0 : Int32)))), (q_6, .inl (cA_7, tb * 2, .inl (fun _ => (0 : Int32))))] := hD
  refine W.widen (k := 2) (n := tb * 2 + (tb * 2)) (by omega) (by omega) ?_
  refine lv_astore_n (lv' := [(3, .ref q_6), (2, .ref b0), (1, .int (nI tb)), (0, .ref y0)]) hx hb dX2_doubleTable_45 rfl hl (by decide) rfl (fun ls hl => ?_)
  refine lv_aload_n hx hb dX2_doubleTable_46 rfl (lv_at hl 3 rfl) ?_
  refine va_get (D := (dC, dI)) (ci := 3) (v := .ref x0) (C := RX2) (T := TX2) (N := 7) hx hb hts hi0_ hown hK hP 0 rfl rfl 0 (by decide) hw5_ (u_same hw6_) rfl dX2_doubleTable_47 ?_
  have hPc := hP.sub (ws' := [(x0, .inr (5, [.ref k0, .ref w0, .int (nI nz), .int ch]))]) [1] rfl
  have hKc := hK.sub (tys' := []) [] rfl
  refine ro_calli (va_runV (As := []) (rest := []) ⟨hx, hb, hml, hown, hts⟩ (c_X5_size l  dC dI H.size x0 (nI nz) (.ref k0) (.ref w0) (.int ch)) (cwV 0 hts gX2_doubleTable_X5_size rfl rfl rfl (by decide +kernel) ⟨(Nat.le_of_ble_eq_true rfl), (Nat.le_of_ble_eq_true rfl)⟩) ⟨pk_blindR, va_recv hKc hPc (ci := 5) (q0 := 0) rfl rfl, pk_callR hPc hKc⟩ rfl rfl hl.1 rfl (lv_room (Nat.le_of_ble_eq_true rfl)) dX2_doubleTable_50 ⟨(Nat.le_of_ble_eq_true rfl), (show tb * 2 + (tb * 2) + 0 ≤ 4 * tb + nz + 2 * L by omega)⟩) (fun r_8 ur_8 hw => ?_)
  clear hPc hKc
  try dsimp only at hw
  obtain rfl : r_8 = nI nz := hw
  refine W.eq (g2 := F0 m 53 ls [.int (nI nz)]) rfl ?_
  have hS0_ := hS
  clear hS
  refine va_newa (atype := .boolean) (ty := .boolean) (n := nI nz) (N' := nz) (a0 := (nz, .inl (fun _ => (0 : Int32)))) hx hb hw3_ rfl hK hP hD hS0_ hA (fun _ => rfl) (Int32.not_lt.mpr (Int32.le_iff_toInt_le.mpr (by rw [nI_toInt (by omega)]; exact Int.ofNat_nonneg _))) (nI_clamp (by omega)) (by show nz * 1 ≤ 536870912; omega) (Nat.le_of_ble_eq_true rfl) (show tb * 2 + (tb * 2) + nz ≤ 4 * tb + nz + 2 * L by omega) dX2_doubleTable_53 (fun q_9 cA_10 H hK hP hD hS => ?_)
  clear hS0_
  have hK : va_K (dC, dI) vwCl [(ck, .int), (cw, .int), (cb, .boolean), (cA_5, .boolean), (cA_7, .int), (cA_10, .boolean)] s := hK
  replace hP : va_P (dC, dI) vwCl [(y0, .inr (3, [.ref x0, .int kd, .int wh, .int (nI cap), .int ru, .int (nI (tb * 2)), .ref q_4])), (x0, .inr (5, [.ref k0, .ref w0, .int (nI nz), .int ch])), (k0, .inl (ck, L, .inl f)), (w0, .inl (cw, L, .inl g)), (b0, .inl (cb, tb, .inl bf)), (q_4, .inl (cA_5, tb * 2, .inl (fun _ => (0 : Int32)))), (q_6, .inl (cA_7, tb * 2, .inl (fun _ => (0 : Int32)))), (q_9, .inl (cA_10, nz, .inl (fun _ => (0 : Int32))))] H := hP
  replace hD : va_D A [(y0, .inr (3, [.ref x0, .int kd, .int wh, .int (nI cap), .int ru, .int (nI (tb * 2)), .ref q_4])), (x0, .inr (5, [.ref k0, .ref w0, .int (nI nz), .int ch])), (k0, .inl (ck, L, .inl f)), (w0, .inl (cw, L, .inl g)), (b0, .inl (cb, tb, .inl bf)), (q_4, .inl (cA_5, tb * 2, .inl (fun _ => (0 : Int32)))), (q_6, .inl (cA_7, tb * 2, .inl (fun _ => (0 : Int32)))), (q_9, .inl (cA_10, nz, .inl (fun _ => (0 : Int32))))] := hD
  refine W.widen (k := 3) (n := tb * 2 + (tb * 2) + nz) (by omega) (by omega) ?_
  refine lv_astore (lv' := [(4, .ref q_9), (3, .ref q_6), (2, .ref b0), (1, .int (nI tb)), (0, .ref y0)]) hx hb dX2_doubleTable_55 hl (by decide) rfl (fun ls hl => ?_)
  refine lv_iconst (v := 0) hx hb dX2_doubleTable_57 (by decide) ?_
  refine lv_istore (lv' := [(5, .int 0), (4, .ref q_9), (3, .ref q_6), (2, .ref b0), (1, .int (nI tb)), (0, .ref y0)]) hx hb dX2_doubleTable_58 hl (by decide) rfl (fun ls hl => ?_)
  obtain ⟨i5, es_i5⟩ : ∃ z : Nat, z = 0 := ⟨_, rfl⟩
  obtain ⟨x5, ex5⟩ : ∃ y : Int32, y = nI i5 := ⟨_, rfl⟩
  obtain ⟨fh, ef_fh⟩ : ∃ z : Nat → Int32, z = (fun _ => (0 : Int32)) := ⟨_, rfl⟩
  obtain ⟨fu, ef_fu⟩ : ∃ z : Nat → Int32, z = (fun _ => (0 : Int32)) := ⟨_, rfl⟩
  obtain ⟨n9A, en9⟩ : ∃ n : Nat, n = nz + 1 := ⟨_, rfl⟩
  replace hl : lv_has ls 7 [(5, .int x5), (4, .ref q_9), (3, .ref q_6), (2, .ref b0), (1, .int (nI tb)), (0, .ref y0)] := by subst ex5; subst es_i5; exact hl
  replace hP : va_P (dC, dI) vwCl [(y0, .inr (3, [.ref x0, .int kd, .int wh, .int (nI cap), .int ru, .int (nI (tb * 2)), .ref q_4])), (x0, .inr (5, [.ref k0, .ref w0, .int (nI nz), .int ch])), (k0, .inl (ck, L, .inl f)), (w0, .inl (cw, L, .inl g)), (b0, .inl (cb, tb, .inl bf)), (q_4, .inl (cA_5, tb * 2, .inl (fun _ => (0 : Int32)))), (q_6, .inl (cA_7, tb * 2, .inl fh)), (q_9, .inl (cA_10, nz, .inl fu))] H := by subst ef_fh; subst ef_fu; exact hP
  replace hD : va_D A [(y0, .inr (3, [.ref x0, .int kd, .int wh, .int (nI cap), .int ru, .int (nI (tb * 2)), .ref q_4])), (x0, .inr (5, [.ref k0, .ref w0, .int (nI nz), .int ch])), (k0, .inl (ck, L, .inl f)), (w0, .inl (cw, L, .inl g)), (b0, .inl (cb, tb, .inl bf)), (q_4, .inl (cA_5, tb * 2, .inl (fun _ => (0 : Int32)))), (q_6, .inl (cA_7, tb * 2, .inl fh)), (q_9, .inl (cA_10, nz, .inl fu))] := by subst ef_fh; subst ef_fu; exact hD
  have hi5 : i5 ≤ nz := by subst ex5; subst es_i5; subst ef_fh; subst ef_fu; subst en9; exact Nat.zero_le _
  have hn5 : nz + 1 ≤ i5 + n9A := by subst ex5; subst es_i5; subst ef_fh; subst ef_fu; subst en9; exact by omega
  clear en9 es_i5 ef_fh ef_fu
  induction n9A generalizing i5 x5 ls H locs fh fu with
  | zero => exact absurd hn5 (by omega)
  | succ n9A ihA =>
    subst ex5
    refine lv_iload hx hb dX2_doubleTable_60 (lv_at hl 0 rfl) ?_
    refine lv_aload hx hb dX2_doubleTable_62 (lv_at hl 1 rfl) ?_
    refine va_alen (v := nI nz) hx hb hK hP 7 5 rfl rfl rfl dX2_doubleTable_64 ?_
    refine lv_icmp_ge (tgt := 125) hx hb dX2_doubleTable_65 (by decide) (fun c_11 => ?_) (fun c_11 => ?_)
    ·
      have ic_11 : ((nz : Nat) : Int) ≤ ((i5 : Nat) : Int) := tx_le (nI_toInt (by omega)) (nI_toInt (by omega)) c_11
      refine lv_aload_n hx hb dX2_doubleTable_125 rfl (lv_at hl 5 rfl) ?_
      refine va_get (D := (dC, dI)) (ci := 3) (v := .ref x0) (C := RX2) (T := TX2) (N := 7) hx hb hts hi0_ hown hK hP 0 rfl rfl 0 (by decide) hw5_ (u_same hw6_) rfl dX2_doubleTable_126 ?_
      refine lv_aload hx hb dX2_doubleTable_129 (lv_at hl 1 rfl) ?_
      have hPc := hP.sub (ws' := [(x0, .inr (5, [.ref k0, .ref w0, .int (nI nz), .int ch])), (k0, .inl (ck, L, .inl f)), (w0, .inl (cw, L, .inl g)), (q_9, .inl (cA_10, nz, .inl fu))]) [1, 2, 3, 7] rfl
      have hDc := hD.sub (ws' := [(x0, .inr (5, [.ref k0, .ref w0, .int (nI nz), .int ch])), (k0, .inl (ck, L, .inl f)), (w0, .inl (cw, L, .inl g)), (q_9, .inl (cA_10, nz, .inl fu))]) [1, 2, 3, 7] (by decide) rfl
      have hKc := hK.sub (tys' := [(ck, .int), (cw, .int), (cA_10, .boolean)]) [0, 1, 5] rfl
      have hFc := va_free (wc := [(x0, .inr (5, [.ref k0, .ref w0, .int (nI nz), .int ch])), (k0, .inl (ck, L, .inl f)), (w0, .inl (cw, L, .inl g)), (q_9, .inl (cA_10, nz, .inl fu))]) hD hS hA [1, 2, 3, 7] rfl
      refine va_callv (va_runV (As := [.ref q_9]) (rest := []) ⟨hx, hb, hml, hown, hts⟩ (c_X5_moveBehind l  dC dI H.size x0 k0 w0 ck cw L f g nz ch q_9 cA_10 nz fu hR9 (by omega)) (cwV 1 hts gX2_doubleTable_X5_moveBehind rfl rfl rfl (by decide +kernel) ⟨(Nat.le_of_ble_eq_true rfl), (Nat.le_of_ble_eq_true rfl)⟩) ⟨pk_blind, va_recv hKc hPc (ci := 5) (q0 := 0) rfl rfl, pk_call hPc hKc hDc⟩ rfl rfl hl.1 rfl (lv_room (Nat.le_of_ble_eq_true rfl)) dX2_doubleTable_131 ⟨(Nat.le_of_ble_eq_true rfl), (show tb * 2 + (tb * 2) + nz + (2 * L) ≤ 4 * tb + nz + 2 * L by omega)⟩) hS (fun q _ h => hFc q h) hFc (fun ur_12 t H1 locs ht hvm hw hB hz1 hk1 hS => ?_)
      try dsimp only at hw
      have jr_12 := hw
      obtain ⟨hP1, hK1, hD1⟩ := hB
      rw [ht] at hP1
      have hK1 := va_K.moved hvm.symm hK1
      obtain ⟨hP, hD⟩ := va_join (wr := [(y0, .inr (3, [.ref x0, .int kd, .int wh, .int (nI cap), .int ru, .int (nI (tb * 2)), .ref q_4])), (b0, .inl (cb, tb, .inl bf)), (q_4, .inl (cA_5, tb * 2, .inl (fun _ => (0 : Int32)))), (q_6, .inl (cA_7, tb * 2, .inl fh))]) (w1 := [(x0, .inr (5, [.ref ur_12.1, .ref ur_12.2.1, .int (nI nz), .int ch])), (ur_12.1, .inl (ur_12.2.2.1, L, .inl ur_12.2.2.2.2.1)), (ur_12.2.1, .inl (ur_12.2.2.2.1, L, .inl ur_12.2.2.2.2.2)), (q_9, .inl (cA_10, nz, .inl fu))]) hP hD [1, 2, 3, 7] [0, 4, 5, 6] rfl rfl (by decide) (by decide) hk1 hFc hP1 hD1
      have hK := hK.app hK1
      have hK : va_K (dC, dI) vwCl [(ck, .int), (cw, .int), (cb, .boolean), (cA_5, .boolean), (cA_7, .int), (cA_10, .boolean), (ur_12.2.2.1, .int), (ur_12.2.2.2.1, .int), (cA_10, .boolean)] s := hK
      clear hk1 hz1 ht hPc hDc hKc hFc
      generalize H1 = H at hP hS ⊢
      replace hP : va_P (dC, dI) vwCl [(y0, .inr (3, [.ref x0, .int kd, .int wh, .int (nI cap), .int ru, .int (nI (tb * 2)), .ref q_4])), (b0, .inl (cb, tb, .inl bf)), (q_4, .inl (cA_5, tb * 2, .inl (fun _ => (0 : Int32)))), (q_6, .inl (cA_7, tb * 2, .inl fh)), (x0, .inr (5, [.ref ur_12.1, .ref ur_12.2.1, .int (nI nz), .int ch])), (ur_12.1, .inl (ur_12.2.2.1, L, .inl ur_12.2.2.2.2.1)), (ur_12.2.1, .inl (ur_12.2.2.2.1, L, .inl ur_12.2.2.2.2.2)), (q_9, .inl (cA_10, nz, .inl fu))] H := hP
      replace hD : va_D A [(y0, .inr (3, [.ref x0, .int kd, .int wh, .int (nI cap), .int ru, .int (nI (tb * 2)), .ref q_4])), (b0, .inl (cb, tb, .inl bf)), (q_4, .inl (cA_5, tb * 2, .inl (fun _ => (0 : Int32)))), (q_6, .inl (cA_7, tb * 2, .inl fh)), (x0, .inr (5, [.ref ur_12.1, .ref ur_12.2.1, .int (nI nz), .int ch])), (ur_12.1, .inl (ur_12.2.2.1, L, .inl ur_12.2.2.2.2.1)), (ur_12.2.1, .inl (ur_12.2.2.2.1, L, .inl ur_12.2.2.2.2.2)), (q_9, .inl (cA_10, nz, .inl fu))] := hD
      refine W.widen (k := 5) (n := tb * 2 + (tb * 2) + nz + (2 * L)) (by omega) (by omega) ?_
      refine W.eq (g2 := F0 m 134 ls []) rfl ?_
      refine lv_iconst (v := 0) hx hb dX2_doubleTable_134 (by decide) ?_
      refine lv_istore (lv' := [(5, .int 0), (4, .ref q_9), (3, .ref q_6), (2, .ref b0), (1, .int (nI tb)), (0, .ref y0)]) hx hb dX2_doubleTable_135 hl (by decide) rfl (fun ls hl => ?_)
      obtain ⟨i7, es_i7⟩ : ∃ z : Nat, z = 0 := ⟨_, rfl⟩
      obtain ⟨x7, ex7⟩ : ∃ y : Int32, y = nI i7 := ⟨_, rfl⟩
      obtain ⟨fn, ef_fn⟩ : ∃ z : Nat → Int32, z = (fun _ => (0 : Int32)) := ⟨_, rfl⟩
      obtain ⟨n9B, en9⟩ : ∃ n : Nat, n = tb + 1 := ⟨_, rfl⟩
      replace hl : lv_has ls 7 [(5, .int x7), (4, .ref q_9), (3, .ref q_6), (2, .ref b0), (1, .int (nI tb)), (0, .ref y0)] := by subst ex7; subst es_i7; exact hl
      replace hP : va_P (dC, dI) vwCl [(y0, .inr (3, [.ref x0, .int kd, .int wh, .int (nI cap), .int ru, .int (nI (tb * 2)), .ref q_4])), (b0, .inl (cb, tb, .inl bf)), (q_4, .inl (cA_5, tb * 2, .inl fn)), (q_6, .inl (cA_7, tb * 2, .inl fh)), (x0, .inr (5, [.ref ur_12.1, .ref ur_12.2.1, .int (nI nz), .int ch])), (ur_12.1, .inl (ur_12.2.2.1, L, .inl ur_12.2.2.2.2.1)), (ur_12.2.1, .inl (ur_12.2.2.2.1, L, .inl ur_12.2.2.2.2.2)), (q_9, .inl (cA_10, nz, .inl fu))] H := by subst ef_fn; exact hP
      replace hD : va_D A [(y0, .inr (3, [.ref x0, .int kd, .int wh, .int (nI cap), .int ru, .int (nI (tb * 2)), .ref q_4])), (b0, .inl (cb, tb, .inl bf)), (q_4, .inl (cA_5, tb * 2, .inl fn)), (q_6, .inl (cA_7, tb * 2, .inl fh)), (x0, .inr (5, [.ref ur_12.1, .ref ur_12.2.1, .int (nI nz), .int ch])), (ur_12.1, .inl (ur_12.2.2.1, L, .inl ur_12.2.2.2.2.1)), (ur_12.2.1, .inl (ur_12.2.2.2.1, L, .inl ur_12.2.2.2.2.2)), (q_9, .inl (cA_10, nz, .inl fu))] := by subst ef_fn; exact hD
      have hi7 : i7 ≤ tb := by subst ex7; subst es_i7; subst ef_fn; subst en9; exact Nat.zero_le _
      have hn7 : tb + 1 ≤ i7 + n9B := by subst ex7; subst es_i7; subst ef_fn; subst en9; exact by omega
      clear en9 es_i7 ef_fn
      induction n9B generalizing i7 x7 ls H locs fn with
      | zero => exact absurd hn7 (by omega)
      | succ n9B ihB =>
        subst ex7
        refine lv_iload hx hb dX2_doubleTable_137 (lv_at hl 0 rfl) ?_
        refine lv_iload_n hx hb dX2_doubleTable_139 rfl (lv_at hl 4 rfl) ?_
        refine lv_icmp_ge (tgt := 216) hx hb dX2_doubleTable_140 (by decide) (fun c_13 => ?_) (fun c_13 => ?_)
        ·
          have ic_13 : ((tb : Nat) : Int) ≤ ((i7 : Nat) : Int) := tx_le (nI_toInt (by omega)) (nI_toInt (by omega)) c_13
          have hP9 := hP.sub (ws' := [(y0, .inr (3, [.ref x0, .int kd, .int wh, .int (nI cap), .int ru, .int (nI (tb * 2)), .ref q_4])), (x0, .inr (5, [.ref ur_12.1, .ref ur_12.2.1, .int (nI nz), .int ch])), (ur_12.1, .inl (ur_12.2.2.1, L, .inl ur_12.2.2.2.2.1)), (ur_12.2.1, .inl (ur_12.2.2.2.1, L, .inl ur_12.2.2.2.2.2)), (q_4, .inl (cA_5, tb * 2, .inl fn))]) [0, 4, 5, 6, 2] rfl
          have hD9 := hD.sub (ws' := [(y0, .inr (3, [.ref x0, .int kd, .int wh, .int (nI cap), .int ru, .int (nI (tb * 2)), .ref q_4])), (x0, .inr (5, [.ref ur_12.1, .ref ur_12.2.1, .int (nI nz), .int ch])), (ur_12.1, .inl (ur_12.2.2.1, L, .inl ur_12.2.2.2.2.1)), (ur_12.2.1, .inl (ur_12.2.2.2.1, L, .inl ur_12.2.2.2.2.2)), (q_4, .inl (cA_5, tb * 2, .inl fn))]) [0, 4, 5, 6, 2] (by decide) rfl
          have hK9 := hK.sub (tys' := [(ur_12.2.2.1, .int), (ur_12.2.2.2.1, .int), (cA_5, .boolean)]) [6, 7, 3] rfl
          refine W.widen (k := 5) (n := 4 * tb + nz + 2 * L) (by omega) (by omega) ?_
          exact W.vret hx hb hr (fun t ht hW => ⟨⟨(q_4, cA_5, fn, ur_12.1, ur_12.2.1, ur_12.2.2.1, ur_12.2.2.2.1, ur_12.2.2.2.2.1, ur_12.2.2.2.2.2), rfl, trivial, by rw [ht]; exact hP9, va_K.moved hW.alike hK9, hD9⟩, hS.F ht⟩) hS.2.2 dX2_doubleTable_216
        ·
          have ic_13 : ((i7 : Nat) : Int) < ((tb : Nat) : Int) := tx_nle (nI_toInt (by omega)) (nI_toInt (by omega)) c_13
          refine lv_iload hx hb dX2_doubleTable_143 (lv_at hl 0 rfl) ?_
          refine lv_aload_n hx hb dX2_doubleTable_145 rfl (lv_at hl 3 rfl) ?_
          refine va_alen (v := nI tb) hx hb hK hP 1 2 rfl rfl rfl dX2_doubleTable_146 ?_
          refine lv_icmp_ge (tgt := 216) hx hb dX2_doubleTable_147 (by decide) (fun c_14 => ?_) (fun c_14 => ?_)
          ·
            have ic_14 : ((tb : Nat) : Int) ≤ ((i7 : Nat) : Int) := tx_le (nI_toInt (by omega)) (nI_toInt (by omega)) c_14
            have hP9 := hP.sub (ws' := [(y0, .inr (3, [.ref x0, .int kd, .int wh, .int (nI cap), .int ru, .int (nI (tb * 2)), .ref q_4])), (x0, .inr (5, [.ref ur_12.1, .ref ur_12.2.1, .int (nI nz), .int ch])), (ur_12.1, .inl (ur_12.2.2.1, L, .inl ur_12.2.2.2.2.1)), (ur_12.2.1, .inl (ur_12.2.2.2.1, L, .inl ur_12.2.2.2.2.2)), (q_4, .inl (cA_5, tb * 2, .inl fn))]) [0, 4, 5, 6, 2] rfl
            have hD9 := hD.sub (ws' := [(y0, .inr (3, [.ref x0, .int kd, .int wh, .int (nI cap), .int ru, .int (nI (tb * 2)), .ref q_4])), (x0, .inr (5, [.ref ur_12.1, .ref ur_12.2.1, .int (nI nz), .int ch])), (ur_12.1, .inl (ur_12.2.2.1, L, .inl ur_12.2.2.2.2.1)), (ur_12.2.1, .inl (ur_12.2.2.2.1, L, .inl ur_12.2.2.2.2.2)), (q_4, .inl (cA_5, tb * 2, .inl fn))]) [0, 4, 5, 6, 2] (by decide) rfl
            have hK9 := hK.sub (tys' := [(ur_12.2.2.1, .int), (ur_12.2.2.2.1, .int), (cA_5, .boolean)]) [6, 7, 3] rfl
            refine W.widen (k := 5) (n := 4 * tb + nz + 2 * L) (by omega) (by omega) ?_
            exact W.vret hx hb hr (fun t ht hW => ⟨⟨(q_4, cA_5, fn, ur_12.1, ur_12.2.1, ur_12.2.2.1, ur_12.2.2.2.1, ur_12.2.2.2.2.1, ur_12.2.2.2.2.2), rfl, trivial, by rw [ht]; exact hP9, va_K.moved hW.alike hK9, hD9⟩, hS.F ht⟩) hS.2.2 dX2_doubleTable_216
          ·
            have ic_14 : ((i7 : Nat) : Int) < ((tb : Nat) : Int) := tx_nle (nI_toInt (by omega)) (nI_toInt (by omega)) c_14
            refine lv_aload_n hx hb dX2_doubleTable_150 rfl (lv_at hl 5 rfl) ?_
            refine va_get (D := (dC, dI)) (ci := 3) (v := .ref q_4) (C := RX2) (T := TX2) (N := 7) hx hb hts hi0_ hown hK hP 0 rfl rfl 6 (by decide) hw2_ (fun _ h9 => h9) rfl dX2_doubleTable_151 ?_
            refine lv_iload hx hb dX2_doubleTable_154 (lv_at hl 0 rfl) ?_
            refine lv_aload_n hx hb dX2_doubleTable_156 rfl (lv_at hl 3 rfl) ?_
            refine lv_iload hx hb dX2_doubleTable_157 (lv_at hl 0 rfl) ?_
            refine va_zald (i := nI i7) hx hb hK hP 1 2 rfl rfl (vp_in_nI (by omega) (by omega)) dX2_doubleTable_159 ?_
            refine W.eq (g2 := F0 m 160 ls [.int (bf i7), .int (nI i7), .ref q_4]) (by rw [nI_clamp (by omega)]) ?_
            refine lv_if_eq (tgt := 176) hx hb dX2_doubleTable_160 (by decide) (fun c_15 => ?_) (fun c_15 => ?_)
            ·
              have ic_15 : (bf i7).toInt = 0 := tx_eq rfl (by decide) c_15
              refine lv_iconst (v := 0) hx hb dX2_doubleTable_176 (by decide) ?_
              refine va_zast (i := nI i7) hx hb hK hP hD hS 2 3 rfl rfl (vp_in_nI (by omega) (by omega)) dX2_doubleTable_177 (fun H locs hP hD hS => ?_)
              rw [nI_clamp (by omega)] at hP hD
              replace hP : va_P (dC, dI) vwCl [(y0, .inr (3, [.ref x0, .int kd, .int wh, .int (nI cap), .int ru, .int (nI (tb * 2)), .ref q_4])), (b0, .inl (cb, tb, .inl bf)), (q_4, .inl (cA_5, tb * 2, .inl (upd fn i7 0))), (q_6, .inl (cA_7, tb * 2, .inl fh)), (x0, .inr (5, [.ref ur_12.1, .ref ur_12.2.1, .int (nI nz), .int ch])), (ur_12.1, .inl (ur_12.2.2.1, L, .inl ur_12.2.2.2.2.1)), (ur_12.2.1, .inl (ur_12.2.2.2.1, L, .inl ur_12.2.2.2.2.2)), (q_9, .inl (cA_10, nz, .inl fu))] H := hP
              replace hD : va_D A [(y0, .inr (3, [.ref x0, .int kd, .int wh, .int (nI cap), .int ru, .int (nI (tb * 2)), .ref q_4])), (b0, .inl (cb, tb, .inl bf)), (q_4, .inl (cA_5, tb * 2, .inl (upd fn i7 0))), (q_6, .inl (cA_7, tb * 2, .inl fh)), (x0, .inr (5, [.ref ur_12.1, .ref ur_12.2.1, .int (nI nz), .int ch])), (ur_12.1, .inl (ur_12.2.2.1, L, .inl ur_12.2.2.2.2.1)), (ur_12.2.1, .inl (ur_12.2.2.2.1, L, .inl ur_12.2.2.2.2.2)), (q_9, .inl (cA_10, nz, .inl fu))] := hD
              refine lv_aload_n hx hb dX2_doubleTable_178 rfl (lv_at hl 5 rfl) ?_
              refine va_get (D := (dC, dI)) (ci := 3) (v := .ref q_4) (C := RX2) (T := TX2) (N := 7) hx hb hts hi0_ hown hK hP 0 rfl rfl 6 (by decide) hw2_ (fun _ h9 => h9) rfl dX2_doubleTable_179 ?_
              refine lv_iload hx hb dX2_doubleTable_182 (lv_at hl 0 rfl) ?_
              refine lv_iload_n hx hb dX2_doubleTable_184 rfl (lv_at hl 4 rfl) ?_
              refine lv_iadd hx hb dX2_doubleTable_185 ?_
              refine lv_topi (fun z_16 ez_16 => ?_)
              obtain rfl : z_16 = nI (i7 + tb) := ez_16.trans (by rw [nI_add])
              refine lv_aload_n hx hb dX2_doubleTable_186 rfl (lv_at hl 3 rfl) ?_
              refine lv_iload hx hb dX2_doubleTable_187 (lv_at hl 0 rfl) ?_
              refine va_zald (i := nI i7) hx hb hK hP 1 2 rfl rfl (vp_in_nI (by omega) (by omega)) dX2_doubleTable_189 ?_
              refine W.eq (g2 := F0 m 190 ls [.int (bf i7), .int (nI (i7 + tb)), .ref q_4]) (by rw [nI_clamp (by omega)]) ?_
              refine lv_if_eq (tgt := 208) hx hb dX2_doubleTable_190 (by decide) (fun c_17 => ?_) (fun c_17 => ?_)
              ·
                have ic_17 : (bf i7).toInt = 0 := tx_eq rfl (by decide) c_17
                refine lv_iconst (v := 0) hx hb dX2_doubleTable_208 (by decide) ?_
                refine va_zast (i := nI (i7 + tb)) hx hb hK hP hD hS 2 3 rfl rfl (vp_in_nI (by omega) (by omega)) dX2_doubleTable_209 (fun H locs hP hD hS => ?_)
                rw [nI_clamp (by omega)] at hP hD
                replace hP : va_P (dC, dI) vwCl [(y0, .inr (3, [.ref x0, .int kd, .int wh, .int (nI cap), .int ru, .int (nI (tb * 2)), .ref q_4])), (b0, .inl (cb, tb, .inl bf)), (q_4, .inl (cA_5, tb * 2, .inl (upd (upd fn i7 0) (i7 + tb) 0))), (q_6, .inl (cA_7, tb * 2, .inl fh)), (x0, .inr (5, [.ref ur_12.1, .ref ur_12.2.1, .int (nI nz), .int ch])), (ur_12.1, .inl (ur_12.2.2.1, L, .inl ur_12.2.2.2.2.1)), (ur_12.2.1, .inl (ur_12.2.2.2.1, L, .inl ur_12.2.2.2.2.2)), (q_9, .inl (cA_10, nz, .inl fu))] H := hP
                replace hD : va_D A [(y0, .inr (3, [.ref x0, .int kd, .int wh, .int (nI cap), .int ru, .int (nI (tb * 2)), .ref q_4])), (b0, .inl (cb, tb, .inl bf)), (q_4, .inl (cA_5, tb * 2, .inl (upd (upd fn i7 0) (i7 + tb) 0))), (q_6, .inl (cA_7, tb * 2, .inl fh)), (x0, .inr (5, [.ref ur_12.1, .ref ur_12.2.1, .int (nI nz), .int ch])), (ur_12.1, .inl (ur_12.2.2.1, L, .inl ur_12.2.2.2.2.1)), (ur_12.2.1, .inl (ur_12.2.2.2.1, L, .inl ur_12.2.2.2.2.2)), (q_9, .inl (cA_10, nz, .inl fu))] := hD
                refine lv_iinc (v := nI (i7 + 1)) (lv' := [(5, .int (nI (i7 + 1))), (4, .ref q_9), (3, .ref q_6), (2, .ref b0), (1, .int (nI tb)), (0, .ref y0)]) hx hb dX2_doubleTable_210 hl (k := 0) rfl (by rw [show Int32.ofInt 1 = nI 1 from rfl, nI_add]) (by decide) rfl (fun ls hl => ?_)
                refine lv_goto (tgt := 137) hx hb dX2_doubleTable_213 (by decide) ?_
                exact ihB (i7 := i7 + 1) (x7 := nI (i7 + 1)) (ex7 := rfl) (ls := ls) (fn := (upd (upd fn i7 0) (i7 + tb) 0)) (H := H) (locs := locs) (hP := hP.sub (ws' := [(y0, .inr (3, [.ref x0, .int kd, .int wh, .int (nI cap), .int ru, .int (nI (tb * 2)), .ref q_4])), (b0, .inl (cb, tb, .inl bf)), (q_4, .inl (cA_5, tb * 2, .inl (upd (upd fn i7 0) (i7 + tb) 0))), (q_6, .inl (cA_7, tb * 2, .inl fh)), (x0, .inr (5, [.ref ur_12.1, .ref ur_12.2.1, .int (nI nz), .int ch])), (ur_12.1, .inl (ur_12.2.2.1, L, .inl ur_12.2.2.2.2.1)), (ur_12.2.1, .inl (ur_12.2.2.2.1, L, .inl ur_12.2.2.2.2.2)), (q_9, .inl (cA_10, nz, .inl fu))]) [0, 1, 2, 3, 4, 5, 6, 7] rfl) (hS := hS) (hD := hD.sub (ws' := [(y0, .inr (3, [.ref x0, .int kd, .int wh, .int (nI cap), .int ru, .int (nI (tb * 2)), .ref q_4])), (b0, .inl (cb, tb, .inl bf)), (q_4, .inl (cA_5, tb * 2, .inl (upd (upd fn i7 0) (i7 + tb) 0))), (q_6, .inl (cA_7, tb * 2, .inl fh)), (x0, .inr (5, [.ref ur_12.1, .ref ur_12.2.1, .int (nI nz), .int ch])), (ur_12.1, .inl (ur_12.2.2.1, L, .inl ur_12.2.2.2.2.1)), (ur_12.2.1, .inl (ur_12.2.2.2.1, L, .inl ur_12.2.2.2.2.2)), (q_9, .inl (cA_10, nz, .inl fu))]) [0, 1, 2, 3, 4, 5, 6, 7] (by decide) rfl) (hi7 := by omega) (hn7 := by omega) (hl := lv_sub hl [0, 1, 2, 3, 4, 5] rfl)
              ·
                have ic_17 : ¬ (bf i7).toInt = 0 := tx_ne rfl (by decide) c_17
                refine lv_aload_n hx hb dX2_doubleTable_193 rfl (lv_at hl 2 rfl) ?_
                refine lv_iload hx hb dX2_doubleTable_194 (lv_at hl 0 rfl) ?_
                refine lv_iload_n hx hb dX2_doubleTable_196 rfl (lv_at hl 4 rfl) ?_
                refine lv_iadd hx hb dX2_doubleTable_197 ?_
                refine lv_topi (fun z_18 ez_18 => ?_)
                obtain rfl : z_18 = nI (i7 + tb) := ez_18.trans (by rw [nI_add])
                refine va_iald (i := nI (i7 + tb)) hx hb hK hP 3 4 rfl rfl (vp_in_nI (by omega) (by omega)) dX2_doubleTable_198 ?_
                refine W.eq (g2 := F0 m 199 ls [.int (fh (i7 + tb)), .int (nI (i7 + tb)), .ref q_4]) (by rw [nI_clamp (by omega)]) ?_
                refine lv_bipush (v := 6) hx hb dX2_doubleTable_199 (by decide) ?_
                refine lv_icmp_le (tgt := 208) hx hb dX2_doubleTable_201 (by decide) (fun c_19 => ?_) (fun c_19 => ?_)
                ·
                  have ic_19 : (fh (i7 + tb)).toInt ≤ 6 := tx_le rfl (by decide) c_19
                  refine lv_iconst (v := 0) hx hb dX2_doubleTable_208 (by decide) ?_
                  refine va_zast (i := nI (i7 + tb)) hx hb hK hP hD hS 2 3 rfl rfl (vp_in_nI (by omega) (by omega)) dX2_doubleTable_209 (fun H locs hP hD hS => ?_)
                  rw [nI_clamp (by omega)] at hP hD
                  replace hP : va_P (dC, dI) vwCl [(y0, .inr (3, [.ref x0, .int kd, .int wh, .int (nI cap), .int ru, .int (nI (tb * 2)), .ref q_4])), (b0, .inl (cb, tb, .inl bf)), (q_4, .inl (cA_5, tb * 2, .inl (upd (upd fn i7 0) (i7 + tb) 0))), (q_6, .inl (cA_7, tb * 2, .inl fh)), (x0, .inr (5, [.ref ur_12.1, .ref ur_12.2.1, .int (nI nz), .int ch])), (ur_12.1, .inl (ur_12.2.2.1, L, .inl ur_12.2.2.2.2.1)), (ur_12.2.1, .inl (ur_12.2.2.2.1, L, .inl ur_12.2.2.2.2.2)), (q_9, .inl (cA_10, nz, .inl fu))] H := hP
                  replace hD : va_D A [(y0, .inr (3, [.ref x0, .int kd, .int wh, .int (nI cap), .int ru, .int (nI (tb * 2)), .ref q_4])), (b0, .inl (cb, tb, .inl bf)), (q_4, .inl (cA_5, tb * 2, .inl (upd (upd fn i7 0) (i7 + tb) 0))), (q_6, .inl (cA_7, tb * 2, .inl fh)), (x0, .inr (5, [.ref ur_12.1, .ref ur_12.2.1, .int (nI nz), .int ch])), (ur_12.1, .inl (ur_12.2.2.1, L, .inl ur_12.2.2.2.2.1)), (ur_12.2.1, .inl (ur_12.2.2.2.1, L, .inl ur_12.2.2.2.2.2)), (q_9, .inl (cA_10, nz, .inl fu))] := hD
                  refine lv_iinc (v := nI (i7 + 1)) (lv' := [(5, .int (nI (i7 + 1))), (4, .ref q_9), (3, .ref q_6), (2, .ref b0), (1, .int (nI tb)), (0, .ref y0)]) hx hb dX2_doubleTable_210 hl (k := 0) rfl (by rw [show Int32.ofInt 1 = nI 1 from rfl, nI_add]) (by decide) rfl (fun ls hl => ?_)
                  refine lv_goto (tgt := 137) hx hb dX2_doubleTable_213 (by decide) ?_
                  exact ihB (i7 := i7 + 1) (x7 := nI (i7 + 1)) (ex7 := rfl) (ls := ls) (fn := (upd (upd fn i7 0) (i7 + tb) 0)) (H := H) (locs := locs) (hP := hP.sub (ws' := [(y0, .inr (3, [.ref x0, .int kd, .int wh, .int (nI cap), .int ru, .int (nI (tb * 2)), .ref q_4])), (b0, .inl (cb, tb, .inl bf)), (q_4, .inl (cA_5, tb * 2, .inl (upd (upd fn i7 0) (i7 + tb) 0))), (q_6, .inl (cA_7, tb * 2, .inl fh)), (x0, .inr (5, [.ref ur_12.1, .ref ur_12.2.1, .int (nI nz), .int ch])), (ur_12.1, .inl (ur_12.2.2.1, L, .inl ur_12.2.2.2.2.1)), (ur_12.2.1, .inl (ur_12.2.2.2.1, L, .inl ur_12.2.2.2.2.2)), (q_9, .inl (cA_10, nz, .inl fu))]) [0, 1, 2, 3, 4, 5, 6, 7] rfl) (hS := hS) (hD := hD.sub (ws' := [(y0, .inr (3, [.ref x0, .int kd, .int wh, .int (nI cap), .int ru, .int (nI (tb * 2)), .ref q_4])), (b0, .inl (cb, tb, .inl bf)), (q_4, .inl (cA_5, tb * 2, .inl (upd (upd fn i7 0) (i7 + tb) 0))), (q_6, .inl (cA_7, tb * 2, .inl fh)), (x0, .inr (5, [.ref ur_12.1, .ref ur_12.2.1, .int (nI nz), .int ch])), (ur_12.1, .inl (ur_12.2.2.1, L, .inl ur_12.2.2.2.2.1)), (ur_12.2.1, .inl (ur_12.2.2.2.1, L, .inl ur_12.2.2.2.2.2)), (q_9, .inl (cA_10, nz, .inl fu))]) [0, 1, 2, 3, 4, 5, 6, 7] (by decide) rfl) (hi7 := by omega) (hn7 := by omega) (hl := lv_sub hl [0, 1, 2, 3, 4, 5] rfl)
                ·
                  have ic_19 : 6 < (fh (i7 + tb)).toInt := tx_nle rfl (by decide) c_19
                  refine lv_iconst (v := 1) hx hb dX2_doubleTable_204 (by decide) ?_
                  refine lv_goto (tgt := 209) hx hb dX2_doubleTable_205 (by decide) ?_
                  refine va_zast (i := nI (i7 + tb)) hx hb hK hP hD hS 2 3 rfl rfl (vp_in_nI (by omega) (by omega)) dX2_doubleTable_209 (fun H locs hP hD hS => ?_)
                  rw [nI_clamp (by omega)] at hP hD
                  replace hP : va_P (dC, dI) vwCl [(y0, .inr (3, [.ref x0, .int kd, .int wh, .int (nI cap), .int ru, .int (nI (tb * 2)), .ref q_4])), (b0, .inl (cb, tb, .inl bf)), (q_4, .inl (cA_5, tb * 2, .inl (upd (upd fn i7 0) (i7 + tb) 1))), (q_6, .inl (cA_7, tb * 2, .inl fh)), (x0, .inr (5, [.ref ur_12.1, .ref ur_12.2.1, .int (nI nz), .int ch])), (ur_12.1, .inl (ur_12.2.2.1, L, .inl ur_12.2.2.2.2.1)), (ur_12.2.1, .inl (ur_12.2.2.2.1, L, .inl ur_12.2.2.2.2.2)), (q_9, .inl (cA_10, nz, .inl fu))] H := hP
                  replace hD : va_D A [(y0, .inr (3, [.ref x0, .int kd, .int wh, .int (nI cap), .int ru, .int (nI (tb * 2)), .ref q_4])), (b0, .inl (cb, tb, .inl bf)), (q_4, .inl (cA_5, tb * 2, .inl (upd (upd fn i7 0) (i7 + tb) 1))), (q_6, .inl (cA_7, tb * 2, .inl fh)), (x0, .inr (5, [.ref ur_12.1, .ref ur_12.2.1, .int (nI nz), .int ch])), (ur_12.1, .inl (ur_12.2.2.1, L, .inl ur_12.2.2.2.2.1)), (ur_12.2.1, .inl (ur_12.2.2.2.1, L, .inl ur_12.2.2.2.2.2)), (q_9, .inl (cA_10, nz, .inl fu))] := hD
                  refine lv_iinc (v := nI (i7 + 1)) (lv' := [(5, .int (nI (i7 + 1))), (4, .ref q_9), (3, .ref q_6), (2, .ref b0), (1, .int (nI tb)), (0, .ref y0)]) hx hb dX2_doubleTable_210 hl (k := 0) rfl (by rw [show Int32.ofInt 1 = nI 1 from rfl, nI_add]) (by decide) rfl (fun ls hl => ?_)
                  refine lv_goto (tgt := 137) hx hb dX2_doubleTable_213 (by decide) ?_
                  exact ihB (i7 := i7 + 1) (x7 := nI (i7 + 1)) (ex7 := rfl) (ls := ls) (fn := (upd (upd fn i7 0) (i7 + tb) 1)) (H := H) (locs := locs) (hP := hP.sub (ws' := [(y0, .inr (3, [.ref x0, .int kd, .int wh, .int (nI cap), .int ru, .int (nI (tb * 2)), .ref q_4])), (b0, .inl (cb, tb, .inl bf)), (q_4, .inl (cA_5, tb * 2, .inl (upd (upd fn i7 0) (i7 + tb) 1))), (q_6, .inl (cA_7, tb * 2, .inl fh)), (x0, .inr (5, [.ref ur_12.1, .ref ur_12.2.1, .int (nI nz), .int ch])), (ur_12.1, .inl (ur_12.2.2.1, L, .inl ur_12.2.2.2.2.1)), (ur_12.2.1, .inl (ur_12.2.2.2.1, L, .inl ur_12.2.2.2.2.2)), (q_9, .inl (cA_10, nz, .inl fu))]) [0, 1, 2, 3, 4, 5, 6, 7] rfl) (hS := hS) (hD := hD.sub (ws' := [(y0, .inr (3, [.ref x0, .int kd, .int wh, .int (nI cap), .int ru, .int (nI (tb * 2)), .ref q_4])), (b0, .inl (cb, tb, .inl bf)), (q_4, .inl (cA_5, tb * 2, .inl (upd (upd fn i7 0) (i7 + tb) 1))), (q_6, .inl (cA_7, tb * 2, .inl fh)), (x0, .inr (5, [.ref ur_12.1, .ref ur_12.2.1, .int (nI nz), .int ch])), (ur_12.1, .inl (ur_12.2.2.1, L, .inl ur_12.2.2.2.2.1)), (ur_12.2.1, .inl (ur_12.2.2.2.1, L, .inl ur_12.2.2.2.2.2)), (q_9, .inl (cA_10, nz, .inl fu))]) [0, 1, 2, 3, 4, 5, 6, 7] (by decide) rfl) (hi7 := by omega) (hn7 := by omega) (hl := lv_sub hl [0, 1, 2, 3, 4, 5] rfl)
            ·
              have ic_15 : ¬ (bf i7).toInt = 0 := tx_ne rfl (by decide) c_15
              refine lv_aload_n hx hb dX2_doubleTable_163 rfl (lv_at hl 2 rfl) ?_
              refine lv_iload hx hb dX2_doubleTable_164 (lv_at hl 0 rfl) ?_
              refine va_iald (i := nI i7) hx hb hK hP 3 4 rfl rfl (vp_in_nI (by omega) (by omega)) dX2_doubleTable_166 ?_
              refine W.eq (g2 := F0 m 167 ls [.int (fh i7), .int (nI i7), .ref q_4]) (by rw [nI_clamp (by omega)]) ?_
              refine lv_bipush (v := 6) hx hb dX2_doubleTable_167 (by decide) ?_
              refine lv_icmp_le (tgt := 176) hx hb dX2_doubleTable_169 (by decide) (fun c_20 => ?_) (fun c_20 => ?_)
              ·
                have ic_20 : (fh i7).toInt ≤ 6 := tx_le rfl (by decide) c_20
                refine lv_iconst (v := 0) hx hb dX2_doubleTable_176 (by decide) ?_
                refine va_zast (i := nI i7) hx hb hK hP hD hS 2 3 rfl rfl (vp_in_nI (by omega) (by omega)) dX2_doubleTable_177 (fun H locs hP hD hS => ?_)
                rw [nI_clamp (by omega)] at hP hD
                replace hP : va_P (dC, dI) vwCl [(y0, .inr (3, [.ref x0, .int kd, .int wh, .int (nI cap), .int ru, .int (nI (tb * 2)), .ref q_4])), (b0, .inl (cb, tb, .inl bf)), (q_4, .inl (cA_5, tb * 2, .inl (upd fn i7 0))), (q_6, .inl (cA_7, tb * 2, .inl fh)), (x0, .inr (5, [.ref ur_12.1, .ref ur_12.2.1, .int (nI nz), .int ch])), (ur_12.1, .inl (ur_12.2.2.1, L, .inl ur_12.2.2.2.2.1)), (ur_12.2.1, .inl (ur_12.2.2.2.1, L, .inl ur_12.2.2.2.2.2)), (q_9, .inl (cA_10, nz, .inl fu))] H := hP
                replace hD : va_D A [(y0, .inr (3, [.ref x0, .int kd, .int wh, .int (nI cap), .int ru, .int (nI (tb * 2)), .ref q_4])), (b0, .inl (cb, tb, .inl bf)), (q_4, .inl (cA_5, tb * 2, .inl (upd fn i7 0))), (q_6, .inl (cA_7, tb * 2, .inl fh)), (x0, .inr (5, [.ref ur_12.1, .ref ur_12.2.1, .int (nI nz), .int ch])), (ur_12.1, .inl (ur_12.2.2.1, L, .inl ur_12.2.2.2.2.1)), (ur_12.2.1, .inl (ur_12.2.2.2.1, L, .inl ur_12.2.2.2.2.2)), (q_9, .inl (cA_10, nz, .inl fu))] := hD
                refine lv_aload_n hx hb dX2_doubleTable_178 rfl (lv_at hl 5 rfl) ?_
                refine va_get (D := (dC, dI)) (ci := 3) (v := .ref q_4) (C := RX2) (T := TX2) (N := 7) hx hb hts hi0_ hown hK hP 0 rfl rfl 6 (by decide) hw2_ (fun _ h9 => h9) rfl dX2_doubleTable_179 ?_
                refine lv_iload hx hb dX2_doubleTable_182 (lv_at hl 0 rfl) ?_
                refine lv_iload_n hx hb dX2_doubleTable_184 rfl (lv_at hl 4 rfl) ?_
                refine lv_iadd hx hb dX2_doubleTable_185 ?_
                refine lv_topi (fun z_21 ez_21 => ?_)
                obtain rfl : z_21 = nI (i7 + tb) := ez_21.trans (by rw [nI_add])
                refine lv_aload_n hx hb dX2_doubleTable_186 rfl (lv_at hl 3 rfl) ?_
                refine lv_iload hx hb dX2_doubleTable_187 (lv_at hl 0 rfl) ?_
                refine va_zald (i := nI i7) hx hb hK hP 1 2 rfl rfl (vp_in_nI (by omega) (by omega)) dX2_doubleTable_189 ?_
                refine W.eq (g2 := F0 m 190 ls [.int (bf i7), .int (nI (i7 + tb)), .ref q_4]) (by rw [nI_clamp (by omega)]) ?_
                refine lv_if_eq (tgt := 208) hx hb dX2_doubleTable_190 (by decide) (fun c_22 => ?_) (fun c_22 => ?_)
                ·
                  have ic_22 : (bf i7).toInt = 0 := tx_eq rfl (by decide) c_22
                  refine lv_iconst (v := 0) hx hb dX2_doubleTable_208 (by decide) ?_
                  refine va_zast (i := nI (i7 + tb)) hx hb hK hP hD hS 2 3 rfl rfl (vp_in_nI (by omega) (by omega)) dX2_doubleTable_209 (fun H locs hP hD hS => ?_)
                  rw [nI_clamp (by omega)] at hP hD
                  replace hP : va_P (dC, dI) vwCl [(y0, .inr (3, [.ref x0, .int kd, .int wh, .int (nI cap), .int ru, .int (nI (tb * 2)), .ref q_4])), (b0, .inl (cb, tb, .inl bf)), (q_4, .inl (cA_5, tb * 2, .inl (upd (upd fn i7 0) (i7 + tb) 0))), (q_6, .inl (cA_7, tb * 2, .inl fh)), (x0, .inr (5, [.ref ur_12.1, .ref ur_12.2.1, .int (nI nz), .int ch])), (ur_12.1, .inl (ur_12.2.2.1, L, .inl ur_12.2.2.2.2.1)), (ur_12.2.1, .inl (ur_12.2.2.2.1, L, .inl ur_12.2.2.2.2.2)), (q_9, .inl (cA_10, nz, .inl fu))] H := hP
                  replace hD : va_D A [(y0, .inr (3, [.ref x0, .int kd, .int wh, .int (nI cap), .int ru, .int (nI (tb * 2)), .ref q_4])), (b0, .inl (cb, tb, .inl bf)), (q_4, .inl (cA_5, tb * 2, .inl (upd (upd fn i7 0) (i7 + tb) 0))), (q_6, .inl (cA_7, tb * 2, .inl fh)), (x0, .inr (5, [.ref ur_12.1, .ref ur_12.2.1, .int (nI nz), .int ch])), (ur_12.1, .inl (ur_12.2.2.1, L, .inl ur_12.2.2.2.2.1)), (ur_12.2.1, .inl (ur_12.2.2.2.1, L, .inl ur_12.2.2.2.2.2)), (q_9, .inl (cA_10, nz, .inl fu))] := hD
                  refine lv_iinc (v := nI (i7 + 1)) (lv' := [(5, .int (nI (i7 + 1))), (4, .ref q_9), (3, .ref q_6), (2, .ref b0), (1, .int (nI tb)), (0, .ref y0)]) hx hb dX2_doubleTable_210 hl (k := 0) rfl (by rw [show Int32.ofInt 1 = nI 1 from rfl, nI_add]) (by decide) rfl (fun ls hl => ?_)
                  refine lv_goto (tgt := 137) hx hb dX2_doubleTable_213 (by decide) ?_
                  exact ihB (i7 := i7 + 1) (x7 := nI (i7 + 1)) (ex7 := rfl) (ls := ls) (fn := (upd (upd fn i7 0) (i7 + tb) 0)) (H := H) (locs := locs) (hP := hP.sub (ws' := [(y0, .inr (3, [.ref x0, .int kd, .int wh, .int (nI cap), .int ru, .int (nI (tb * 2)), .ref q_4])), (b0, .inl (cb, tb, .inl bf)), (q_4, .inl (cA_5, tb * 2, .inl (upd (upd fn i7 0) (i7 + tb) 0))), (q_6, .inl (cA_7, tb * 2, .inl fh)), (x0, .inr (5, [.ref ur_12.1, .ref ur_12.2.1, .int (nI nz), .int ch])), (ur_12.1, .inl (ur_12.2.2.1, L, .inl ur_12.2.2.2.2.1)), (ur_12.2.1, .inl (ur_12.2.2.2.1, L, .inl ur_12.2.2.2.2.2)), (q_9, .inl (cA_10, nz, .inl fu))]) [0, 1, 2, 3, 4, 5, 6, 7] rfl) (hS := hS) (hD := hD.sub (ws' := [(y0, .inr (3, [.ref x0, .int kd, .int wh, .int (nI cap), .int ru, .int (nI (tb * 2)), .ref q_4])), (b0, .inl (cb, tb, .inl bf)), (q_4, .inl (cA_5, tb * 2, .inl (upd (upd fn i7 0) (i7 + tb) 0))), (q_6, .inl (cA_7, tb * 2, .inl fh)), (x0, .inr (5, [.ref ur_12.1, .ref ur_12.2.1, .int (nI nz), .int ch])), (ur_12.1, .inl (ur_12.2.2.1, L, .inl ur_12.2.2.2.2.1)), (ur_12.2.1, .inl (ur_12.2.2.2.1, L, .inl ur_12.2.2.2.2.2)), (q_9, .inl (cA_10, nz, .inl fu))]) [0, 1, 2, 3, 4, 5, 6, 7] (by decide) rfl) (hi7 := by omega) (hn7 := by omega) (hl := lv_sub hl [0, 1, 2, 3, 4, 5] rfl)
                ·
                  have ic_22 : ¬ (bf i7).toInt = 0 := tx_ne rfl (by decide) c_22
                  refine lv_aload_n hx hb dX2_doubleTable_193 rfl (lv_at hl 2 rfl) ?_
                  refine lv_iload hx hb dX2_doubleTable_194 (lv_at hl 0 rfl) ?_
                  refine lv_iload_n hx hb dX2_doubleTable_196 rfl (lv_at hl 4 rfl) ?_
                  refine lv_iadd hx hb dX2_doubleTable_197 ?_
                  refine lv_topi (fun z_23 ez_23 => ?_)
                  obtain rfl : z_23 = nI (i7 + tb) := ez_23.trans (by rw [nI_add])
                  refine va_iald (i := nI (i7 + tb)) hx hb hK hP 3 4 rfl rfl (vp_in_nI (by omega) (by omega)) dX2_doubleTable_198 ?_
                  refine W.eq (g2 := F0 m 199 ls [.int (fh (i7 + tb)), .int (nI (i7 + tb)), .ref q_4]) (by rw [nI_clamp (by omega)]) ?_
                  refine lv_bipush (v := 6) hx hb dX2_doubleTable_199 (by decide) ?_
                  refine lv_icmp_le (tgt := 208) hx hb dX2_doubleTable_201 (by decide) (fun c_24 => ?_) (fun c_24 => ?_)
                  ·
                    have ic_24 : (fh (i7 + tb)).toInt ≤ 6 := tx_le rfl (by decide) c_24
                    refine lv_iconst (v := 0) hx hb dX2_doubleTable_208 (by decide) ?_
                    refine va_zast (i := nI (i7 + tb)) hx hb hK hP hD hS 2 3 rfl rfl (vp_in_nI (by omega) (by omega)) dX2_doubleTable_209 (fun H locs hP hD hS => ?_)
                    rw [nI_clamp (by omega)] at hP hD
                    replace hP : va_P (dC, dI) vwCl [(y0, .inr (3, [.ref x0, .int kd, .int wh, .int (nI cap), .int ru, .int (nI (tb * 2)), .ref q_4])), (b0, .inl (cb, tb, .inl bf)), (q_4, .inl (cA_5, tb * 2, .inl (upd (upd fn i7 0) (i7 + tb) 0))), (q_6, .inl (cA_7, tb * 2, .inl fh)), (x0, .inr (5, [.ref ur_12.1, .ref ur_12.2.1, .int (nI nz), .int ch])), (ur_12.1, .inl (ur_12.2.2.1, L, .inl ur_12.2.2.2.2.1)), (ur_12.2.1, .inl (ur_12.2.2.2.1, L, .inl ur_12.2.2.2.2.2)), (q_9, .inl (cA_10, nz, .inl fu))] H := hP
                    replace hD : va_D A [(y0, .inr (3, [.ref x0, .int kd, .int wh, .int (nI cap), .int ru, .int (nI (tb * 2)), .ref q_4])), (b0, .inl (cb, tb, .inl bf)), (q_4, .inl (cA_5, tb * 2, .inl (upd (upd fn i7 0) (i7 + tb) 0))), (q_6, .inl (cA_7, tb * 2, .inl fh)), (x0, .inr (5, [.ref ur_12.1, .ref ur_12.2.1, .int (nI nz), .int ch])), (ur_12.1, .inl (ur_12.2.2.1, L, .inl ur_12.2.2.2.2.1)), (ur_12.2.1, .inl (ur_12.2.2.2.1, L, .inl ur_12.2.2.2.2.2)), (q_9, .inl (cA_10, nz, .inl fu))] := hD
                    refine lv_iinc (v := nI (i7 + 1)) (lv' := [(5, .int (nI (i7 + 1))), (4, .ref q_9), (3, .ref q_6), (2, .ref b0), (1, .int (nI tb)), (0, .ref y0)]) hx hb dX2_doubleTable_210 hl (k := 0) rfl (by rw [show Int32.ofInt 1 = nI 1 from rfl, nI_add]) (by decide) rfl (fun ls hl => ?_)
                    refine lv_goto (tgt := 137) hx hb dX2_doubleTable_213 (by decide) ?_
                    exact ihB (i7 := i7 + 1) (x7 := nI (i7 + 1)) (ex7 := rfl) (ls := ls) (fn := (upd (upd fn i7 0) (i7 + tb) 0)) (H := H) (locs := locs) (hP := hP.sub (ws' := [(y0, .inr (3, [.ref x0, .int kd, .int wh, .int (nI cap), .int ru, .int (nI (tb * 2)), .ref q_4])), (b0, .inl (cb, tb, .inl bf)), (q_4, .inl (cA_5, tb * 2, .inl (upd (upd fn i7 0) (i7 + tb) 0))), (q_6, .inl (cA_7, tb * 2, .inl fh)), (x0, .inr (5, [.ref ur_12.1, .ref ur_12.2.1, .int (nI nz), .int ch])), (ur_12.1, .inl (ur_12.2.2.1, L, .inl ur_12.2.2.2.2.1)), (ur_12.2.1, .inl (ur_12.2.2.2.1, L, .inl ur_12.2.2.2.2.2)), (q_9, .inl (cA_10, nz, .inl fu))]) [0, 1, 2, 3, 4, 5, 6, 7] rfl) (hS := hS) (hD := hD.sub (ws' := [(y0, .inr (3, [.ref x0, .int kd, .int wh, .int (nI cap), .int ru, .int (nI (tb * 2)), .ref q_4])), (b0, .inl (cb, tb, .inl bf)), (q_4, .inl (cA_5, tb * 2, .inl (upd (upd fn i7 0) (i7 + tb) 0))), (q_6, .inl (cA_7, tb * 2, .inl fh)), (x0, .inr (5, [.ref ur_12.1, .ref ur_12.2.1, .int (nI nz), .int ch])), (ur_12.1, .inl (ur_12.2.2.1, L, .inl ur_12.2.2.2.2.1)), (ur_12.2.1, .inl (ur_12.2.2.2.1, L, .inl ur_12.2.2.2.2.2)), (q_9, .inl (cA_10, nz, .inl fu))]) [0, 1, 2, 3, 4, 5, 6, 7] (by decide) rfl) (hi7 := by omega) (hn7 := by omega) (hl := lv_sub hl [0, 1, 2, 3, 4, 5] rfl)
                  ·
                    have ic_24 : 6 < (fh (i7 + tb)).toInt := tx_nle rfl (by decide) c_24
                    refine lv_iconst (v := 1) hx hb dX2_doubleTable_204 (by decide) ?_
                    refine lv_goto (tgt := 209) hx hb dX2_doubleTable_205 (by decide) ?_
                    refine va_zast (i := nI (i7 + tb)) hx hb hK hP hD hS 2 3 rfl rfl (vp_in_nI (by omega) (by omega)) dX2_doubleTable_209 (fun H locs hP hD hS => ?_)
                    rw [nI_clamp (by omega)] at hP hD
                    replace hP : va_P (dC, dI) vwCl [(y0, .inr (3, [.ref x0, .int kd, .int wh, .int (nI cap), .int ru, .int (nI (tb * 2)), .ref q_4])), (b0, .inl (cb, tb, .inl bf)), (q_4, .inl (cA_5, tb * 2, .inl (upd (upd fn i7 0) (i7 + tb) 1))), (q_6, .inl (cA_7, tb * 2, .inl fh)), (x0, .inr (5, [.ref ur_12.1, .ref ur_12.2.1, .int (nI nz), .int ch])), (ur_12.1, .inl (ur_12.2.2.1, L, .inl ur_12.2.2.2.2.1)), (ur_12.2.1, .inl (ur_12.2.2.2.1, L, .inl ur_12.2.2.2.2.2)), (q_9, .inl (cA_10, nz, .inl fu))] H := hP
                    replace hD : va_D A [(y0, .inr (3, [.ref x0, .int kd, .int wh, .int (nI cap), .int ru, .int (nI (tb * 2)), .ref q_4])), (b0, .inl (cb, tb, .inl bf)), (q_4, .inl (cA_5, tb * 2, .inl (upd (upd fn i7 0) (i7 + tb) 1))), (q_6, .inl (cA_7, tb * 2, .inl fh)), (x0, .inr (5, [.ref ur_12.1, .ref ur_12.2.1, .int (nI nz), .int ch])), (ur_12.1, .inl (ur_12.2.2.1, L, .inl ur_12.2.2.2.2.1)), (ur_12.2.1, .inl (ur_12.2.2.2.1, L, .inl ur_12.2.2.2.2.2)), (q_9, .inl (cA_10, nz, .inl fu))] := hD
                    refine lv_iinc (v := nI (i7 + 1)) (lv' := [(5, .int (nI (i7 + 1))), (4, .ref q_9), (3, .ref q_6), (2, .ref b0), (1, .int (nI tb)), (0, .ref y0)]) hx hb dX2_doubleTable_210 hl (k := 0) rfl (by rw [show Int32.ofInt 1 = nI 1 from rfl, nI_add]) (by decide) rfl (fun ls hl => ?_)
                    refine lv_goto (tgt := 137) hx hb dX2_doubleTable_213 (by decide) ?_
                    exact ihB (i7 := i7 + 1) (x7 := nI (i7 + 1)) (ex7 := rfl) (ls := ls) (fn := (upd (upd fn i7 0) (i7 + tb) 1)) (H := H) (locs := locs) (hP := hP.sub (ws' := [(y0, .inr (3, [.ref x0, .int kd, .int wh, .int (nI cap), .int ru, .int (nI (tb * 2)), .ref q_4])), (b0, .inl (cb, tb, .inl bf)), (q_4, .inl (cA_5, tb * 2, .inl (upd (upd fn i7 0) (i7 + tb) 1))), (q_6, .inl (cA_7, tb * 2, .inl fh)), (x0, .inr (5, [.ref ur_12.1, .ref ur_12.2.1, .int (nI nz), .int ch])), (ur_12.1, .inl (ur_12.2.2.1, L, .inl ur_12.2.2.2.2.1)), (ur_12.2.1, .inl (ur_12.2.2.2.1, L, .inl ur_12.2.2.2.2.2)), (q_9, .inl (cA_10, nz, .inl fu))]) [0, 1, 2, 3, 4, 5, 6, 7] rfl) (hS := hS) (hD := hD.sub (ws' := [(y0, .inr (3, [.ref x0, .int kd, .int wh, .int (nI cap), .int ru, .int (nI (tb * 2)), .ref q_4])), (b0, .inl (cb, tb, .inl bf)), (q_4, .inl (cA_5, tb * 2, .inl (upd (upd fn i7 0) (i7 + tb) 1))), (q_6, .inl (cA_7, tb * 2, .inl fh)), (x0, .inr (5, [.ref ur_12.1, .ref ur_12.2.1, .int (nI nz), .int ch])), (ur_12.1, .inl (ur_12.2.2.1, L, .inl ur_12.2.2.2.2.1)), (ur_12.2.1, .inl (ur_12.2.2.2.1, L, .inl ur_12.2.2.2.2.2)), (q_9, .inl (cA_10, nz, .inl fu))]) [0, 1, 2, 3, 4, 5, 6, 7] (by decide) rfl) (hi7 := by omega) (hn7 := by omega) (hl := lv_sub hl [0, 1, 2, 3, 4, 5] rfl)
              ·
                have ic_20 : 6 < (fh i7).toInt := tx_nle rfl (by decide) c_20
                refine lv_iconst (v := 1) hx hb dX2_doubleTable_172 (by decide) ?_
                refine lv_goto (tgt := 177) hx hb dX2_doubleTable_173 (by decide) ?_
                refine va_zast (i := nI i7) hx hb hK hP hD hS 2 3 rfl rfl (vp_in_nI (by omega) (by omega)) dX2_doubleTable_177 (fun H locs hP hD hS => ?_)
                rw [nI_clamp (by omega)] at hP hD
                replace hP : va_P (dC, dI) vwCl [(y0, .inr (3, [.ref x0, .int kd, .int wh, .int (nI cap), .int ru, .int (nI (tb * 2)), .ref q_4])), (b0, .inl (cb, tb, .inl bf)), (q_4, .inl (cA_5, tb * 2, .inl (upd fn i7 1))), (q_6, .inl (cA_7, tb * 2, .inl fh)), (x0, .inr (5, [.ref ur_12.1, .ref ur_12.2.1, .int (nI nz), .int ch])), (ur_12.1, .inl (ur_12.2.2.1, L, .inl ur_12.2.2.2.2.1)), (ur_12.2.1, .inl (ur_12.2.2.2.1, L, .inl ur_12.2.2.2.2.2)), (q_9, .inl (cA_10, nz, .inl fu))] H := hP
                replace hD : va_D A [(y0, .inr (3, [.ref x0, .int kd, .int wh, .int (nI cap), .int ru, .int (nI (tb * 2)), .ref q_4])), (b0, .inl (cb, tb, .inl bf)), (q_4, .inl (cA_5, tb * 2, .inl (upd fn i7 1))), (q_6, .inl (cA_7, tb * 2, .inl fh)), (x0, .inr (5, [.ref ur_12.1, .ref ur_12.2.1, .int (nI nz), .int ch])), (ur_12.1, .inl (ur_12.2.2.1, L, .inl ur_12.2.2.2.2.1)), (ur_12.2.1, .inl (ur_12.2.2.2.1, L, .inl ur_12.2.2.2.2.2)), (q_9, .inl (cA_10, nz, .inl fu))] := hD
                refine lv_aload_n hx hb dX2_doubleTable_178 rfl (lv_at hl 5 rfl) ?_
                refine va_get (D := (dC, dI)) (ci := 3) (v := .ref q_4) (C := RX2) (T := TX2) (N := 7) hx hb hts hi0_ hown hK hP 0 rfl rfl 6 (by decide) hw2_ (fun _ h9 => h9) rfl dX2_doubleTable_179 ?_
                refine lv_iload hx hb dX2_doubleTable_182 (lv_at hl 0 rfl) ?_
                refine lv_iload_n hx hb dX2_doubleTable_184 rfl (lv_at hl 4 rfl) ?_
                refine lv_iadd hx hb dX2_doubleTable_185 ?_
                refine lv_topi (fun z_25 ez_25 => ?_)
                obtain rfl : z_25 = nI (i7 + tb) := ez_25.trans (by rw [nI_add])
                refine lv_aload_n hx hb dX2_doubleTable_186 rfl (lv_at hl 3 rfl) ?_
                refine lv_iload hx hb dX2_doubleTable_187 (lv_at hl 0 rfl) ?_
                refine va_zald (i := nI i7) hx hb hK hP 1 2 rfl rfl (vp_in_nI (by omega) (by omega)) dX2_doubleTable_189 ?_
                refine W.eq (g2 := F0 m 190 ls [.int (bf i7), .int (nI (i7 + tb)), .ref q_4]) (by rw [nI_clamp (by omega)]) ?_
                refine lv_if_eq (tgt := 208) hx hb dX2_doubleTable_190 (by decide) (fun c_26 => ?_) (fun c_26 => ?_)
                ·
                  have ic_26 : (bf i7).toInt = 0 := tx_eq rfl (by decide) c_26
                  refine lv_iconst (v := 0) hx hb dX2_doubleTable_208 (by decide) ?_
                  refine va_zast (i := nI (i7 + tb)) hx hb hK hP hD hS 2 3 rfl rfl (vp_in_nI (by omega) (by omega)) dX2_doubleTable_209 (fun H locs hP hD hS => ?_)
                  rw [nI_clamp (by omega)] at hP hD
                  replace hP : va_P (dC, dI) vwCl [(y0, .inr (3, [.ref x0, .int kd, .int wh, .int (nI cap), .int ru, .int (nI (tb * 2)), .ref q_4])), (b0, .inl (cb, tb, .inl bf)), (q_4, .inl (cA_5, tb * 2, .inl (upd (upd fn i7 1) (i7 + tb) 0))), (q_6, .inl (cA_7, tb * 2, .inl fh)), (x0, .inr (5, [.ref ur_12.1, .ref ur_12.2.1, .int (nI nz), .int ch])), (ur_12.1, .inl (ur_12.2.2.1, L, .inl ur_12.2.2.2.2.1)), (ur_12.2.1, .inl (ur_12.2.2.2.1, L, .inl ur_12.2.2.2.2.2)), (q_9, .inl (cA_10, nz, .inl fu))] H := hP
                  replace hD : va_D A [(y0, .inr (3, [.ref x0, .int kd, .int wh, .int (nI cap), .int ru, .int (nI (tb * 2)), .ref q_4])), (b0, .inl (cb, tb, .inl bf)), (q_4, .inl (cA_5, tb * 2, .inl (upd (upd fn i7 1) (i7 + tb) 0))), (q_6, .inl (cA_7, tb * 2, .inl fh)), (x0, .inr (5, [.ref ur_12.1, .ref ur_12.2.1, .int (nI nz), .int ch])), (ur_12.1, .inl (ur_12.2.2.1, L, .inl ur_12.2.2.2.2.1)), (ur_12.2.1, .inl (ur_12.2.2.2.1, L, .inl ur_12.2.2.2.2.2)), (q_9, .inl (cA_10, nz, .inl fu))] := hD
                  refine lv_iinc (v := nI (i7 + 1)) (lv' := [(5, .int (nI (i7 + 1))), (4, .ref q_9), (3, .ref q_6), (2, .ref b0), (1, .int (nI tb)), (0, .ref y0)]) hx hb dX2_doubleTable_210 hl (k := 0) rfl (by rw [show Int32.ofInt 1 = nI 1 from rfl, nI_add]) (by decide) rfl (fun ls hl => ?_)
                  refine lv_goto (tgt := 137) hx hb dX2_doubleTable_213 (by decide) ?_
                  exact ihB (i7 := i7 + 1) (x7 := nI (i7 + 1)) (ex7 := rfl) (ls := ls) (fn := (upd (upd fn i7 1) (i7 + tb) 0)) (H := H) (locs := locs) (hP := hP.sub (ws' := [(y0, .inr (3, [.ref x0, .int kd, .int wh, .int (nI cap), .int ru, .int (nI (tb * 2)), .ref q_4])), (b0, .inl (cb, tb, .inl bf)), (q_4, .inl (cA_5, tb * 2, .inl (upd (upd fn i7 1) (i7 + tb) 0))), (q_6, .inl (cA_7, tb * 2, .inl fh)), (x0, .inr (5, [.ref ur_12.1, .ref ur_12.2.1, .int (nI nz), .int ch])), (ur_12.1, .inl (ur_12.2.2.1, L, .inl ur_12.2.2.2.2.1)), (ur_12.2.1, .inl (ur_12.2.2.2.1, L, .inl ur_12.2.2.2.2.2)), (q_9, .inl (cA_10, nz, .inl fu))]) [0, 1, 2, 3, 4, 5, 6, 7] rfl) (hS := hS) (hD := hD.sub (ws' := [(y0, .inr (3, [.ref x0, .int kd, .int wh, .int (nI cap), .int ru, .int (nI (tb * 2)), .ref q_4])), (b0, .inl (cb, tb, .inl bf)), (q_4, .inl (cA_5, tb * 2, .inl (upd (upd fn i7 1) (i7 + tb) 0))), (q_6, .inl (cA_7, tb * 2, .inl fh)), (x0, .inr (5, [.ref ur_12.1, .ref ur_12.2.1, .int (nI nz), .int ch])), (ur_12.1, .inl (ur_12.2.2.1, L, .inl ur_12.2.2.2.2.1)), (ur_12.2.1, .inl (ur_12.2.2.2.1, L, .inl ur_12.2.2.2.2.2)), (q_9, .inl (cA_10, nz, .inl fu))]) [0, 1, 2, 3, 4, 5, 6, 7] (by decide) rfl) (hi7 := by omega) (hn7 := by omega) (hl := lv_sub hl [0, 1, 2, 3, 4, 5] rfl)
                ·
                  have ic_26 : ¬ (bf i7).toInt = 0 := tx_ne rfl (by decide) c_26
                  refine lv_aload_n hx hb dX2_doubleTable_193 rfl (lv_at hl 2 rfl) ?_
                  refine lv_iload hx hb dX2_doubleTable_194 (lv_at hl 0 rfl) ?_
                  refine lv_iload_n hx hb dX2_doubleTable_196 rfl (lv_at hl 4 rfl) ?_
                  refine lv_iadd hx hb dX2_doubleTable_197 ?_
                  refine lv_topi (fun z_27 ez_27 => ?_)
                  obtain rfl : z_27 = nI (i7 + tb) := ez_27.trans (by rw [nI_add])
                  refine va_iald (i := nI (i7 + tb)) hx hb hK hP 3 4 rfl rfl (vp_in_nI (by omega) (by omega)) dX2_doubleTable_198 ?_
                  refine W.eq (g2 := F0 m 199 ls [.int (fh (i7 + tb)), .int (nI (i7 + tb)), .ref q_4]) (by rw [nI_clamp (by omega)]) ?_
                  refine lv_bipush (v := 6) hx hb dX2_doubleTable_199 (by decide) ?_
                  refine lv_icmp_le (tgt := 208) hx hb dX2_doubleTable_201 (by decide) (fun c_28 => ?_) (fun c_28 => ?_)
                  ·
                    have ic_28 : (fh (i7 + tb)).toInt ≤ 6 := tx_le rfl (by decide) c_28
                    refine lv_iconst (v := 0) hx hb dX2_doubleTable_208 (by decide) ?_
                    refine va_zast (i := nI (i7 + tb)) hx hb hK hP hD hS 2 3 rfl rfl (vp_in_nI (by omega) (by omega)) dX2_doubleTable_209 (fun H locs hP hD hS => ?_)
                    rw [nI_clamp (by omega)] at hP hD
                    replace hP : va_P (dC, dI) vwCl [(y0, .inr (3, [.ref x0, .int kd, .int wh, .int (nI cap), .int ru, .int (nI (tb * 2)), .ref q_4])), (b0, .inl (cb, tb, .inl bf)), (q_4, .inl (cA_5, tb * 2, .inl (upd (upd fn i7 1) (i7 + tb) 0))), (q_6, .inl (cA_7, tb * 2, .inl fh)), (x0, .inr (5, [.ref ur_12.1, .ref ur_12.2.1, .int (nI nz), .int ch])), (ur_12.1, .inl (ur_12.2.2.1, L, .inl ur_12.2.2.2.2.1)), (ur_12.2.1, .inl (ur_12.2.2.2.1, L, .inl ur_12.2.2.2.2.2)), (q_9, .inl (cA_10, nz, .inl fu))] H := hP
                    replace hD : va_D A [(y0, .inr (3, [.ref x0, .int kd, .int wh, .int (nI cap), .int ru, .int (nI (tb * 2)), .ref q_4])), (b0, .inl (cb, tb, .inl bf)), (q_4, .inl (cA_5, tb * 2, .inl (upd (upd fn i7 1) (i7 + tb) 0))), (q_6, .inl (cA_7, tb * 2, .inl fh)), (x0, .inr (5, [.ref ur_12.1, .ref ur_12.2.1, .int (nI nz), .int ch])), (ur_12.1, .inl (ur_12.2.2.1, L, .inl ur_12.2.2.2.2.1)), (ur_12.2.1, .inl (ur_12.2.2.2.1, L, .inl ur_12.2.2.2.2.2)), (q_9, .inl (cA_10, nz, .inl fu))] := hD
                    refine lv_iinc (v := nI (i7 + 1)) (lv' := [(5, .int (nI (i7 + 1))), (4, .ref q_9), (3, .ref q_6), (2, .ref b0), (1, .int (nI tb)), (0, .ref y0)]) hx hb dX2_doubleTable_210 hl (k := 0) rfl (by rw [show Int32.ofInt 1 = nI 1 from rfl, nI_add]) (by decide) rfl (fun ls hl => ?_)
                    refine lv_goto (tgt := 137) hx hb dX2_doubleTable_213 (by decide) ?_
                    exact ihB (i7 := i7 + 1) (x7 := nI (i7 + 1)) (ex7 := rfl) (ls := ls) (fn := (upd (upd fn i7 1) (i7 + tb) 0)) (H := H) (locs := locs) (hP := hP.sub (ws' := [(y0, .inr (3, [.ref x0, .int kd, .int wh, .int (nI cap), .int ru, .int (nI (tb * 2)), .ref q_4])), (b0, .inl (cb, tb, .inl bf)), (q_4, .inl (cA_5, tb * 2, .inl (upd (upd fn i7 1) (i7 + tb) 0))), (q_6, .inl (cA_7, tb * 2, .inl fh)), (x0, .inr (5, [.ref ur_12.1, .ref ur_12.2.1, .int (nI nz), .int ch])), (ur_12.1, .inl (ur_12.2.2.1, L, .inl ur_12.2.2.2.2.1)), (ur_12.2.1, .inl (ur_12.2.2.2.1, L, .inl ur_12.2.2.2.2.2)), (q_9, .inl (cA_10, nz, .inl fu))]) [0, 1, 2, 3, 4, 5, 6, 7] rfl) (hS := hS) (hD := hD.sub (ws' := [(y0, .inr (3, [.ref x0, .int kd, .int wh, .int (nI cap), .int ru, .int (nI (tb * 2)), .ref q_4])), (b0, .inl (cb, tb, .inl bf)), (q_4, .inl (cA_5, tb * 2, .inl (upd (upd fn i7 1) (i7 + tb) 0))), (q_6, .inl (cA_7, tb * 2, .inl fh)), (x0, .inr (5, [.ref ur_12.1, .ref ur_12.2.1, .int (nI nz), .int ch])), (ur_12.1, .inl (ur_12.2.2.1, L, .inl ur_12.2.2.2.2.1)), (ur_12.2.1, .inl (ur_12.2.2.2.1, L, .inl ur_12.2.2.2.2.2)), (q_9, .inl (cA_10, nz, .inl fu))]) [0, 1, 2, 3, 4, 5, 6, 7] (by decide) rfl) (hi7 := by omega) (hn7 := by omega) (hl := lv_sub hl [0, 1, 2, 3, 4, 5] rfl)
                  ·
                    have ic_28 : 6 < (fh (i7 + tb)).toInt := tx_nle rfl (by decide) c_28
                    refine lv_iconst (v := 1) hx hb dX2_doubleTable_204 (by decide) ?_
                    refine lv_goto (tgt := 209) hx hb dX2_doubleTable_205 (by decide) ?_
                    refine va_zast (i := nI (i7 + tb)) hx hb hK hP hD hS 2 3 rfl rfl (vp_in_nI (by omega) (by omega)) dX2_doubleTable_209 (fun H locs hP hD hS => ?_)
                    rw [nI_clamp (by omega)] at hP hD
                    replace hP : va_P (dC, dI) vwCl [(y0, .inr (3, [.ref x0, .int kd, .int wh, .int (nI cap), .int ru, .int (nI (tb * 2)), .ref q_4])), (b0, .inl (cb, tb, .inl bf)), (q_4, .inl (cA_5, tb * 2, .inl (upd (upd fn i7 1) (i7 + tb) 1))), (q_6, .inl (cA_7, tb * 2, .inl fh)), (x0, .inr (5, [.ref ur_12.1, .ref ur_12.2.1, .int (nI nz), .int ch])), (ur_12.1, .inl (ur_12.2.2.1, L, .inl ur_12.2.2.2.2.1)), (ur_12.2.1, .inl (ur_12.2.2.2.1, L, .inl ur_12.2.2.2.2.2)), (q_9, .inl (cA_10, nz, .inl fu))] H := hP
                    replace hD : va_D A [(y0, .inr (3, [.ref x0, .int kd, .int wh, .int (nI cap), .int ru, .int (nI (tb * 2)), .ref q_4])), (b0, .inl (cb, tb, .inl bf)), (q_4, .inl (cA_5, tb * 2, .inl (upd (upd fn i7 1) (i7 + tb) 1))), (q_6, .inl (cA_7, tb * 2, .inl fh)), (x0, .inr (5, [.ref ur_12.1, .ref ur_12.2.1, .int (nI nz), .int ch])), (ur_12.1, .inl (ur_12.2.2.1, L, .inl ur_12.2.2.2.2.1)), (ur_12.2.1, .inl (ur_12.2.2.2.1, L, .inl ur_12.2.2.2.2.2)), (q_9, .inl (cA_10, nz, .inl fu))] := hD
                    refine lv_iinc (v := nI (i7 + 1)) (lv' := [(5, .int (nI (i7 + 1))), (4, .ref q_9), (3, .ref q_6), (2, .ref b0), (1, .int (nI tb)), (0, .ref y0)]) hx hb dX2_doubleTable_210 hl (k := 0) rfl (by rw [show Int32.ofInt 1 = nI 1 from rfl, nI_add]) (by decide) rfl (fun ls hl => ?_)
                    refine lv_goto (tgt := 137) hx hb dX2_doubleTable_213 (by decide) ?_
                    exact ihB (i7 := i7 + 1) (x7 := nI (i7 + 1)) (ex7 := rfl) (ls := ls) (fn := (upd (upd fn i7 1) (i7 + tb) 1)) (H := H) (locs := locs) (hP := hP.sub (ws' := [(y0, .inr (3, [.ref x0, .int kd, .int wh, .int (nI cap), .int ru, .int (nI (tb * 2)), .ref q_4])), (b0, .inl (cb, tb, .inl bf)), (q_4, .inl (cA_5, tb * 2, .inl (upd (upd fn i7 1) (i7 + tb) 1))), (q_6, .inl (cA_7, tb * 2, .inl fh)), (x0, .inr (5, [.ref ur_12.1, .ref ur_12.2.1, .int (nI nz), .int ch])), (ur_12.1, .inl (ur_12.2.2.1, L, .inl ur_12.2.2.2.2.1)), (ur_12.2.1, .inl (ur_12.2.2.2.1, L, .inl ur_12.2.2.2.2.2)), (q_9, .inl (cA_10, nz, .inl fu))]) [0, 1, 2, 3, 4, 5, 6, 7] rfl) (hS := hS) (hD := hD.sub (ws' := [(y0, .inr (3, [.ref x0, .int kd, .int wh, .int (nI cap), .int ru, .int (nI (tb * 2)), .ref q_4])), (b0, .inl (cb, tb, .inl bf)), (q_4, .inl (cA_5, tb * 2, .inl (upd (upd fn i7 1) (i7 + tb) 1))), (q_6, .inl (cA_7, tb * 2, .inl fh)), (x0, .inr (5, [.ref ur_12.1, .ref ur_12.2.1, .int (nI nz), .int ch])), (ur_12.1, .inl (ur_12.2.2.1, L, .inl ur_12.2.2.2.2.1)), (ur_12.2.1, .inl (ur_12.2.2.2.1, L, .inl ur_12.2.2.2.2.2)), (q_9, .inl (cA_10, nz, .inl fu))]) [0, 1, 2, 3, 4, 5, 6, 7] (by decide) rfl) (hi7 := by omega) (hn7 := by omega) (hl := lv_sub hl [0, 1, 2, 3, 4, 5] rfl)
    ·
      have ic_11 : ((i5 : Nat) : Int) < ((nz : Nat) : Int) := tx_nle (nI_toInt (by omega)) (nI_toInt (by omega)) c_11
      refine lv_aload_n hx hb dX2_doubleTable_68 rfl (lv_at hl 5 rfl) ?_
      refine lv_aload_n hx hb dX2_doubleTable_69 rfl (lv_at hl 5 rfl) ?_
      refine va_get (D := (dC, dI)) (ci := 3) (v := .ref x0) (C := RX2) (T := TX2) (N := 7) hx hb hts hi0_ hown hK hP 0 rfl rfl 0 (by decide) hw5_ (u_same hw6_) rfl dX2_doubleTable_70 ?_
      refine lv_iload hx hb dX2_doubleTable_73 (lv_at hl 0 rfl) ?_
      have hPc := hP.sub (ws' := [(x0, .inr (5, [.ref k0, .ref w0, .int (nI nz), .int ch])), (k0, .inl (ck, L, .inl f)), (w0, .inl (cw, L, .inl g))]) [1, 2, 3] rfl
      have hKc := hK.sub (tys' := [(ck, .int), (cw, .int)]) [0, 1] rfl
      refine ro_calli (va_runV (As := [.int (nI i5)]) (rest := [.ref y0]) ⟨hx, hb, hml, hown, hts⟩ (c_X5_key l  dC dI H.size x0 k0 w0 ck cw L f g nz ch (nI i5) hR9) (cwV 1 hts gX2_doubleTable_X5_key rfl rfl rfl (by decide +kernel) ⟨(Nat.le_of_ble_eq_true rfl), (Nat.le_of_ble_eq_true rfl)⟩) ⟨pk_blindR, va_recv hKc hPc (ci := 5) (q0 := 0) rfl rfl, pk_callR hPc hKc⟩ rfl rfl hl.1 rfl (lv_room (Nat.le_of_ble_eq_true rfl)) dX2_doubleTable_75 ⟨(Nat.le_of_ble_eq_true rfl), (show tb * 2 + (tb * 2) + nz + 0 ≤ 4 * tb + nz + 2 * L by omega)⟩) (fun r_29 ur_29 hw => ?_)
      clear hPc hKc
      try dsimp only at hw
      have jr_29 := hw
      refine W.eq (g2 := F0 m 78 ls [.int r_29, .ref y0]) rfl ?_
      have hPc := hP.sub (ws' := [(y0, .inr (3, [.ref x0, .int kd, .int wh, .int (nI cap), .int ru, .int (nI (tb * 2)), .ref q_4]))]) [0] rfl
      have hKc := hK.sub (tys' := []) [] rfl
      refine ro_calli (va_runV (As := [.int r_29]) (rest := []) ⟨hx, hb, hml, hown, hts⟩ (c_X2_binOf l  dC dI H.size y0 ru (nI (tb * 2)) (.ref x0) (.int kd) (.int wh) (.int (nI cap)) (.ref q_4) r_29) (cwV 1 hts gX2_doubleTable_X2_binOf rfl rfl rfl (by decide +kernel) ⟨(Nat.le_of_ble_eq_true rfl), (Nat.le_of_ble_eq_true rfl)⟩) ⟨pk_blindR, va_recv hKc hPc (ci := 3) (q0 := 0) rfl rfl, pk_callR hPc hKc⟩ rfl rfl hl.1 rfl (lv_room (Nat.le_of_ble_eq_true rfl)) dX2_doubleTable_78 ⟨(Nat.le_of_ble_eq_true rfl), (show tb * 2 + (tb * 2) + nz + 0 ≤ 4 * tb + nz + 2 * L by omega)⟩) (fun r_30 ur_30 hw => ?_)
      clear hPc hKc
      try dsimp only at hw
      have jr_30 := hw
      refine W.eq (g2 := F0 m 81 ls [.int r_30]) rfl ?_
      refine lv_istore (lv' := [(6, .int r_30), (5, .int (nI i5)), (4, .ref q_9), (3, .ref q_6), (2, .ref b0), (1, .int (nI tb)), (0, .ref y0)]) hx hb dX2_doubleTable_81 hl (by decide) rfl (fun ls hl => ?_)
      refine lv_iload hx hb dX2_doubleTable_83 (lv_at hl 0 rfl) ?_
      refine lv_if_lt (tgt := 103) hx hb dX2_doubleTable_85 (by decide) (fun c_31 => ?_) (fun c_31 => ?_)
      ·
        have ic_31 : r_30.toInt < 0 := tx_lt rfl (by decide) c_31
        refine lv_aload hx hb dX2_doubleTable_103 (lv_at hl 2 rfl) ?_
        refine lv_iload hx hb dX2_doubleTable_105 (lv_at hl 1 rfl) ?_
        refine lv_iload hx hb dX2_doubleTable_107 (lv_at hl 0 rfl) ?_
        refine lv_iload_n hx hb dX2_doubleTable_109 rfl (lv_at hl 5 rfl) ?_
        refine lv_icmp_lt (tgt := 117) hx hb dX2_doubleTable_110 (by decide) (fun c_32 => ?_) (fun c_32 => ?_)
        ·
          have ic_32 : r_30.toInt < ((tb : Nat) : Int) := tx_lt rfl (nI_toInt (by omega)) c_32
          refine lv_iconst (v := 0) hx hb dX2_doubleTable_117 (by decide) ?_
          refine va_zast (i := nI i5) hx hb hK hP hD hS 7 5 rfl rfl (vp_in_nI (by omega) (by omega)) dX2_doubleTable_118 (fun H locs hP hD hS => ?_)
          rw [nI_clamp (by omega)] at hP hD
          replace hP : va_P (dC, dI) vwCl [(y0, .inr (3, [.ref x0, .int kd, .int wh, .int (nI cap), .int ru, .int (nI (tb * 2)), .ref q_4])), (x0, .inr (5, [.ref k0, .ref w0, .int (nI nz), .int ch])), (k0, .inl (ck, L, .inl f)), (w0, .inl (cw, L, .inl g)), (b0, .inl (cb, tb, .inl bf)), (q_4, .inl (cA_5, tb * 2, .inl (fun _ => (0 : Int32)))), (q_6, .inl (cA_7, tb * 2, .inl fh)), (q_9, .inl (cA_10, nz, .inl (upd fu i5 0)))] H := hP
          replace hD : va_D A [(y0, .inr (3, [.ref x0, .int kd, .int wh, .int (nI cap), .int ru, .int (nI (tb * 2)), .ref q_4])), (x0, .inr (5, [.ref k0, .ref w0, .int (nI nz), .int ch])), (k0, .inl (ck, L, .inl f)), (w0, .inl (cw, L, .inl g)), (b0, .inl (cb, tb, .inl bf)), (q_4, .inl (cA_5, tb * 2, .inl (fun _ => (0 : Int32)))), (q_6, .inl (cA_7, tb * 2, .inl fh)), (q_9, .inl (cA_10, nz, .inl (upd fu i5 0)))] := hD
          refine lv_iinc (v := nI (i5 + 1)) (lv' := [(5, .int (nI (i5 + 1))), (6, .int r_30), (4, .ref q_9), (3, .ref q_6), (2, .ref b0), (1, .int (nI tb)), (0, .ref y0)]) hx hb dX2_doubleTable_119 hl (k := 1) rfl (by rw [show Int32.ofInt 1 = nI 1 from rfl, nI_add]) (by decide) rfl (fun ls hl => ?_)
          refine lv_goto (tgt := 60) hx hb dX2_doubleTable_122 (by decide) ?_
          exact ihA (i5 := i5 + 1) (x5 := nI (i5 + 1)) (ex5 := rfl) (ls := ls) (fh := fh) (fu := (upd fu i5 0)) (H := H) (locs := locs) (hP := hP.sub (ws' := [(y0, .inr (3, [.ref x0, .int kd, .int wh, .int (nI cap), .int ru, .int (nI (tb * 2)), .ref q_4])), (x0, .inr (5, [.ref k0, .ref w0, .int (nI nz), .int ch])), (k0, .inl (ck, L, .inl f)), (w0, .inl (cw, L, .inl g)), (b0, .inl (cb, tb, .inl bf)), (q_4, .inl (cA_5, tb * 2, .inl (fun _ => (0 : Int32)))), (q_6, .inl (cA_7, tb * 2, .inl fh)), (q_9, .inl (cA_10, nz, .inl (upd fu i5 0)))]) [0, 1, 2, 3, 4, 5, 6, 7] rfl) (hS := hS) (hD := hD.sub (ws' := [(y0, .inr (3, [.ref x0, .int kd, .int wh, .int (nI cap), .int ru, .int (nI (tb * 2)), .ref q_4])), (x0, .inr (5, [.ref k0, .ref w0, .int (nI nz), .int ch])), (k0, .inl (ck, L, .inl f)), (w0, .inl (cw, L, .inl g)), (b0, .inl (cb, tb, .inl bf)), (q_4, .inl (cA_5, tb * 2, .inl (fun _ => (0 : Int32)))), (q_6, .inl (cA_7, tb * 2, .inl fh)), (q_9, .inl (cA_10, nz, .inl (upd fu i5 0)))]) [0, 1, 2, 3, 4, 5, 6, 7] (by decide) rfl) (hi5 := by omega) (hn5 := by omega) (hl := lv_sub hl [0, 2, 3, 4, 5, 6] rfl)
        ·
          have ic_32 : ((tb : Nat) : Int) ≤ r_30.toInt := tx_nlt rfl (nI_toInt (by omega)) c_32
          refine lv_iconst (v := 1) hx hb dX2_doubleTable_113 (by decide) ?_
          refine lv_goto (tgt := 118) hx hb dX2_doubleTable_114 (by decide) ?_
          refine va_zast (i := nI i5) hx hb hK hP hD hS 7 5 rfl rfl (vp_in_nI (by omega) (by omega)) dX2_doubleTable_118 (fun H locs hP hD hS => ?_)
          rw [nI_clamp (by omega)] at hP hD
          replace hP : va_P (dC, dI) vwCl [(y0, .inr (3, [.ref x0, .int kd, .int wh, .int (nI cap), .int ru, .int (nI (tb * 2)), .ref q_4])), (x0, .inr (5, [.ref k0, .ref w0, .int (nI nz), .int ch])), (k0, .inl (ck, L, .inl f)), (w0, .inl (cw, L, .inl g)), (b0, .inl (cb, tb, .inl bf)), (q_4, .inl (cA_5, tb * 2, .inl (fun _ => (0 : Int32)))), (q_6, .inl (cA_7, tb * 2, .inl fh)), (q_9, .inl (cA_10, nz, .inl (upd fu i5 1)))] H := hP
          replace hD : va_D A [(y0, .inr (3, [.ref x0, .int kd, .int wh, .int (nI cap), .int ru, .int (nI (tb * 2)), .ref q_4])), (x0, .inr (5, [.ref k0, .ref w0, .int (nI nz), .int ch])), (k0, .inl (ck, L, .inl f)), (w0, .inl (cw, L, .inl g)), (b0, .inl (cb, tb, .inl bf)), (q_4, .inl (cA_5, tb * 2, .inl (fun _ => (0 : Int32)))), (q_6, .inl (cA_7, tb * 2, .inl fh)), (q_9, .inl (cA_10, nz, .inl (upd fu i5 1)))] := hD
          refine lv_iinc (v := nI (i5 + 1)) (lv' := [(5, .int (nI (i5 + 1))), (6, .int r_30), (4, .ref q_9), (3, .ref q_6), (2, .ref b0), (1, .int (nI tb)), (0, .ref y0)]) hx hb dX2_doubleTable_119 hl (k := 1) rfl (by rw [show Int32.ofInt 1 = nI 1 from rfl, nI_add]) (by decide) rfl (fun ls hl => ?_)
          refine lv_goto (tgt := 60) hx hb dX2_doubleTable_122 (by decide) ?_
          exact ihA (i5 := i5 + 1) (x5 := nI (i5 + 1)) (ex5 := rfl) (ls := ls) (fh := fh) (fu := (upd fu i5 1)) (H := H) (locs := locs) (hP := hP.sub (ws' := [(y0, .inr (3, [.ref x0, .int kd, .int wh, .int (nI cap), .int ru, .int (nI (tb * 2)), .ref q_4])), (x0, .inr (5, [.ref k0, .ref w0, .int (nI nz), .int ch])), (k0, .inl (ck, L, .inl f)), (w0, .inl (cw, L, .inl g)), (b0, .inl (cb, tb, .inl bf)), (q_4, .inl (cA_5, tb * 2, .inl (fun _ => (0 : Int32)))), (q_6, .inl (cA_7, tb * 2, .inl fh)), (q_9, .inl (cA_10, nz, .inl (upd fu i5 1)))]) [0, 1, 2, 3, 4, 5, 6, 7] rfl) (hS := hS) (hD := hD.sub (ws' := [(y0, .inr (3, [.ref x0, .int kd, .int wh, .int (nI cap), .int ru, .int (nI (tb * 2)), .ref q_4])), (x0, .inr (5, [.ref k0, .ref w0, .int (nI nz), .int ch])), (k0, .inl (ck, L, .inl f)), (w0, .inl (cw, L, .inl g)), (b0, .inl (cb, tb, .inl bf)), (q_4, .inl (cA_5, tb * 2, .inl (fun _ => (0 : Int32)))), (q_6, .inl (cA_7, tb * 2, .inl fh)), (q_9, .inl (cA_10, nz, .inl (upd fu i5 1)))]) [0, 1, 2, 3, 4, 5, 6, 7] (by decide) rfl) (hi5 := by omega) (hn5 := by omega) (hl := lv_sub hl [0, 2, 3, 4, 5, 6] rfl)
      ·
        have ic_31 : 0 ≤ r_30.toInt := tx_nlt rfl (by decide) c_31
        refine lv_iload hx hb dX2_doubleTable_88 (lv_at hl 0 rfl) ?_
        refine lv_aload_n hx hb dX2_doubleTable_90 rfl (lv_at hl 3 rfl) ?_
        refine va_alen (v := nI (tb * 2)) hx hb hK hP 6 4 rfl rfl rfl dX2_doubleTable_91 ?_
        refine lv_icmp_ge (tgt := 103) hx hb dX2_doubleTable_92 (by decide) (fun c_33 => ?_) (fun c_33 => ?_)
        ·
          have ic_33 : ((tb * 2 : Nat) : Int) ≤ r_30.toInt := tx_le (nI_toInt (by omega)) rfl c_33
          refine lv_aload hx hb dX2_doubleTable_103 (lv_at hl 2 rfl) ?_
          refine lv_iload hx hb dX2_doubleTable_105 (lv_at hl 1 rfl) ?_
          refine lv_iload hx hb dX2_doubleTable_107 (lv_at hl 0 rfl) ?_
          refine lv_iload_n hx hb dX2_doubleTable_109 rfl (lv_at hl 5 rfl) ?_
          refine lv_icmp_lt (tgt := 117) hx hb dX2_doubleTable_110 (by decide) (fun c_34 => ?_) (fun c_34 => ?_)
          ·
            have ic_34 : r_30.toInt < ((tb : Nat) : Int) := tx_lt rfl (nI_toInt (by omega)) c_34
            refine lv_iconst (v := 0) hx hb dX2_doubleTable_117 (by decide) ?_
            refine va_zast (i := nI i5) hx hb hK hP hD hS 7 5 rfl rfl (vp_in_nI (by omega) (by omega)) dX2_doubleTable_118 (fun H locs hP hD hS => ?_)
            rw [nI_clamp (by omega)] at hP hD
            replace hP : va_P (dC, dI) vwCl [(y0, .inr (3, [.ref x0, .int kd, .int wh, .int (nI cap), .int ru, .int (nI (tb * 2)), .ref q_4])), (x0, .inr (5, [.ref k0, .ref w0, .int (nI nz), .int ch])), (k0, .inl (ck, L, .inl f)), (w0, .inl (cw, L, .inl g)), (b0, .inl (cb, tb, .inl bf)), (q_4, .inl (cA_5, tb * 2, .inl (fun _ => (0 : Int32)))), (q_6, .inl (cA_7, tb * 2, .inl fh)), (q_9, .inl (cA_10, nz, .inl (upd fu i5 0)))] H := hP
            replace hD : va_D A [(y0, .inr (3, [.ref x0, .int kd, .int wh, .int (nI cap), .int ru, .int (nI (tb * 2)), .ref q_4])), (x0, .inr (5, [.ref k0, .ref w0, .int (nI nz), .int ch])), (k0, .inl (ck, L, .inl f)), (w0, .inl (cw, L, .inl g)), (b0, .inl (cb, tb, .inl bf)), (q_4, .inl (cA_5, tb * 2, .inl (fun _ => (0 : Int32)))), (q_6, .inl (cA_7, tb * 2, .inl fh)), (q_9, .inl (cA_10, nz, .inl (upd fu i5 0)))] := hD
            refine lv_iinc (v := nI (i5 + 1)) (lv' := [(5, .int (nI (i5 + 1))), (6, .int r_30), (4, .ref q_9), (3, .ref q_6), (2, .ref b0), (1, .int (nI tb)), (0, .ref y0)]) hx hb dX2_doubleTable_119 hl (k := 1) rfl (by rw [show Int32.ofInt 1 = nI 1 from rfl, nI_add]) (by decide) rfl (fun ls hl => ?_)
            refine lv_goto (tgt := 60) hx hb dX2_doubleTable_122 (by decide) ?_
            exact ihA (i5 := i5 + 1) (x5 := nI (i5 + 1)) (ex5 := rfl) (ls := ls) (fh := fh) (fu := (upd fu i5 0)) (H := H) (locs := locs) (hP := hP.sub (ws' := [(y0, .inr (3, [.ref x0, .int kd, .int wh, .int (nI cap), .int ru, .int (nI (tb * 2)), .ref q_4])), (x0, .inr (5, [.ref k0, .ref w0, .int (nI nz), .int ch])), (k0, .inl (ck, L, .inl f)), (w0, .inl (cw, L, .inl g)), (b0, .inl (cb, tb, .inl bf)), (q_4, .inl (cA_5, tb * 2, .inl (fun _ => (0 : Int32)))), (q_6, .inl (cA_7, tb * 2, .inl fh)), (q_9, .inl (cA_10, nz, .inl (upd fu i5 0)))]) [0, 1, 2, 3, 4, 5, 6, 7] rfl) (hS := hS) (hD := hD.sub (ws' := [(y0, .inr (3, [.ref x0, .int kd, .int wh, .int (nI cap), .int ru, .int (nI (tb * 2)), .ref q_4])), (x0, .inr (5, [.ref k0, .ref w0, .int (nI nz), .int ch])), (k0, .inl (ck, L, .inl f)), (w0, .inl (cw, L, .inl g)), (b0, .inl (cb, tb, .inl bf)), (q_4, .inl (cA_5, tb * 2, .inl (fun _ => (0 : Int32)))), (q_6, .inl (cA_7, tb * 2, .inl fh)), (q_9, .inl (cA_10, nz, .inl (upd fu i5 0)))]) [0, 1, 2, 3, 4, 5, 6, 7] (by decide) rfl) (hi5 := by omega) (hn5 := by omega) (hl := lv_sub hl [0, 2, 3, 4, 5, 6] rfl)
          ·
            have ic_34 : ((tb : Nat) : Int) ≤ r_30.toInt := tx_nlt rfl (nI_toInt (by omega)) c_34
            refine lv_iconst (v := 1) hx hb dX2_doubleTable_113 (by decide) ?_
            refine lv_goto (tgt := 118) hx hb dX2_doubleTable_114 (by decide) ?_
            refine va_zast (i := nI i5) hx hb hK hP hD hS 7 5 rfl rfl (vp_in_nI (by omega) (by omega)) dX2_doubleTable_118 (fun H locs hP hD hS => ?_)
            rw [nI_clamp (by omega)] at hP hD
            replace hP : va_P (dC, dI) vwCl [(y0, .inr (3, [.ref x0, .int kd, .int wh, .int (nI cap), .int ru, .int (nI (tb * 2)), .ref q_4])), (x0, .inr (5, [.ref k0, .ref w0, .int (nI nz), .int ch])), (k0, .inl (ck, L, .inl f)), (w0, .inl (cw, L, .inl g)), (b0, .inl (cb, tb, .inl bf)), (q_4, .inl (cA_5, tb * 2, .inl (fun _ => (0 : Int32)))), (q_6, .inl (cA_7, tb * 2, .inl fh)), (q_9, .inl (cA_10, nz, .inl (upd fu i5 1)))] H := hP
            replace hD : va_D A [(y0, .inr (3, [.ref x0, .int kd, .int wh, .int (nI cap), .int ru, .int (nI (tb * 2)), .ref q_4])), (x0, .inr (5, [.ref k0, .ref w0, .int (nI nz), .int ch])), (k0, .inl (ck, L, .inl f)), (w0, .inl (cw, L, .inl g)), (b0, .inl (cb, tb, .inl bf)), (q_4, .inl (cA_5, tb * 2, .inl (fun _ => (0 : Int32)))), (q_6, .inl (cA_7, tb * 2, .inl fh)), (q_9, .inl (cA_10, nz, .inl (upd fu i5 1)))] := hD
            refine lv_iinc (v := nI (i5 + 1)) (lv' := [(5, .int (nI (i5 + 1))), (6, .int r_30), (4, .ref q_9), (3, .ref q_6), (2, .ref b0), (1, .int (nI tb)), (0, .ref y0)]) hx hb dX2_doubleTable_119 hl (k := 1) rfl (by rw [show Int32.ofInt 1 = nI 1 from rfl, nI_add]) (by decide) rfl (fun ls hl => ?_)
            refine lv_goto (tgt := 60) hx hb dX2_doubleTable_122 (by decide) ?_
            exact ihA (i5 := i5 + 1) (x5 := nI (i5 + 1)) (ex5 := rfl) (ls := ls) (fh := fh) (fu := (upd fu i5 1)) (H := H) (locs := locs) (hP := hP.sub (ws' := [(y0, .inr (3, [.ref x0, .int kd, .int wh, .int (nI cap), .int ru, .int (nI (tb * 2)), .ref q_4])), (x0, .inr (5, [.ref k0, .ref w0, .int (nI nz), .int ch])), (k0, .inl (ck, L, .inl f)), (w0, .inl (cw, L, .inl g)), (b0, .inl (cb, tb, .inl bf)), (q_4, .inl (cA_5, tb * 2, .inl (fun _ => (0 : Int32)))), (q_6, .inl (cA_7, tb * 2, .inl fh)), (q_9, .inl (cA_10, nz, .inl (upd fu i5 1)))]) [0, 1, 2, 3, 4, 5, 6, 7] rfl) (hS := hS) (hD := hD.sub (ws' := [(y0, .inr (3, [.ref x0, .int kd, .int wh, .int (nI cap), .int ru, .int (nI (tb * 2)), .ref q_4])), (x0, .inr (5, [.ref k0, .ref w0, .int (nI nz), .int ch])), (k0, .inl (ck, L, .inl f)), (w0, .inl (cw, L, .inl g)), (b0, .inl (cb, tb, .inl bf)), (q_4, .inl (cA_5, tb * 2, .inl (fun _ => (0 : Int32)))), (q_6, .inl (cA_7, tb * 2, .inl fh)), (q_9, .inl (cA_10, nz, .inl (upd fu i5 1)))]) [0, 1, 2, 3, 4, 5, 6, 7] (by decide) rfl) (hi5 := by omega) (hn5 := by omega) (hl := lv_sub hl [0, 2, 3, 4, 5, 6] rfl)
        ·
          have ic_33 : r_30.toInt < ((tb * 2 : Nat) : Int) := tx_nle (nI_toInt (by omega)) rfl c_33
          obtain ⟨k6, hk6, rfl⟩ := nI_nat (x := r_30) (n := tb * 2) (by omega) (by omega) (by omega)
          refine lv_aload_n hx hb dX2_doubleTable_95 rfl (lv_at hl 3 rfl) ?_
          refine lv_iload hx hb dX2_doubleTable_96 (lv_at hl 0 rfl) ?_
          refine lv_dup2_11 hx hb dX2_doubleTable_98 rfl rfl ?_
          refine va_iald (i := nI k6) hx hb hK hP 6 4 rfl rfl (vp_in_nI (by omega) (by omega)) dX2_doubleTable_99 ?_
          refine W.eq (g2 := F0 m 100 ls [.int (fh k6), .int (nI k6), .ref q_6]) (by rw [nI_clamp (by omega)]) ?_
          refine lv_iconst (v := 1) hx hb dX2_doubleTable_100 (by decide) ?_
          refine lv_iadd hx hb dX2_doubleTable_101 ?_
          refine va_iast (i := nI k6) hx hb hK hP hD hS 6 4 rfl rfl (vp_in_nI (by omega) (by omega)) dX2_doubleTable_102 (fun H locs hP hD hS => ?_)
          rw [nI_clamp (by omega)] at hP hD
          replace hP : va_P (dC, dI) vwCl [(y0, .inr (3, [.ref x0, .int kd, .int wh, .int (nI cap), .int ru, .int (nI (tb * 2)), .ref q_4])), (x0, .inr (5, [.ref k0, .ref w0, .int (nI nz), .int ch])), (k0, .inl (ck, L, .inl f)), (w0, .inl (cw, L, .inl g)), (b0, .inl (cb, tb, .inl bf)), (q_4, .inl (cA_5, tb * 2, .inl (fun _ => (0 : Int32)))), (q_6, .inl (cA_7, tb * 2, .inl (upd fh k6 ((fh k6) + 1)))), (q_9, .inl (cA_10, nz, .inl fu))] H := hP
          replace hD : va_D A [(y0, .inr (3, [.ref x0, .int kd, .int wh, .int (nI cap), .int ru, .int (nI (tb * 2)), .ref q_4])), (x0, .inr (5, [.ref k0, .ref w0, .int (nI nz), .int ch])), (k0, .inl (ck, L, .inl f)), (w0, .inl (cw, L, .inl g)), (b0, .inl (cb, tb, .inl bf)), (q_4, .inl (cA_5, tb * 2, .inl (fun _ => (0 : Int32)))), (q_6, .inl (cA_7, tb * 2, .inl (upd fh k6 ((fh k6) + 1)))), (q_9, .inl (cA_10, nz, .inl fu))] := hD
          refine lv_aload hx hb dX2_doubleTable_103 (lv_at hl 2 rfl) ?_
          refine lv_iload hx hb dX2_doubleTable_105 (lv_at hl 1 rfl) ?_
          refine lv_iload hx hb dX2_doubleTable_107 (lv_at hl 0 rfl) ?_
          refine lv_iload_n hx hb dX2_doubleTable_109 rfl (lv_at hl 5 rfl) ?_
          refine lv_icmp_lt (tgt := 117) hx hb dX2_doubleTable_110 (by decide) (fun c_35 => ?_) (fun c_35 => ?_)
          ·
            have ic_35 : ((k6 : Nat) : Int) < ((tb : Nat) : Int) := tx_lt (nI_toInt (by omega)) (nI_toInt (by omega)) c_35
            refine lv_iconst (v := 0) hx hb dX2_doubleTable_117 (by decide) ?_
            refine va_zast (i := nI i5) hx hb hK hP hD hS 7 5 rfl rfl (vp_in_nI (by omega) (by omega)) dX2_doubleTable_118 (fun H locs hP hD hS => ?_)
            rw [nI_clamp (by omega)] at hP hD
            replace hP : va_P (dC, dI) vwCl [(y0, .inr (3, [.ref x0, .int kd, .int wh, .int (nI cap), .int ru, .int (nI (tb * 2)), .ref q_4])), (x0, .inr (5, [.ref k0, .ref w0, .int (nI nz), .int ch])), (k0, .inl (ck, L, .inl f)), (w0, .inl (cw, L, .inl g)), (b0, .inl (cb, tb, .inl bf)), (q_4, .inl (cA_5, tb * 2, .inl (fun _ => (0 : Int32)))), (q_6, .inl (cA_7, tb * 2, .inl (upd fh k6 ((fh k6) + 1)))), (q_9, .inl (cA_10, nz, .inl (upd fu i5 0)))] H := hP
            replace hD : va_D A [(y0, .inr (3, [.ref x0, .int kd, .int wh, .int (nI cap), .int ru, .int (nI (tb * 2)), .ref q_4])), (x0, .inr (5, [.ref k0, .ref w0, .int (nI nz), .int ch])), (k0, .inl (ck, L, .inl f)), (w0, .inl (cw, L, .inl g)), (b0, .inl (cb, tb, .inl bf)), (q_4, .inl (cA_5, tb * 2, .inl (fun _ => (0 : Int32)))), (q_6, .inl (cA_7, tb * 2, .inl (upd fh k6 ((fh k6) + 1)))), (q_9, .inl (cA_10, nz, .inl (upd fu i5 0)))] := hD
            refine lv_iinc (v := nI (i5 + 1)) (lv' := [(5, .int (nI (i5 + 1))), (6, .int (nI k6)), (4, .ref q_9), (3, .ref q_6), (2, .ref b0), (1, .int (nI tb)), (0, .ref y0)]) hx hb dX2_doubleTable_119 hl (k := 1) rfl (by rw [show Int32.ofInt 1 = nI 1 from rfl, nI_add]) (by decide) rfl (fun ls hl => ?_)
            refine lv_goto (tgt := 60) hx hb dX2_doubleTable_122 (by decide) ?_
            exact ihA (i5 := i5 + 1) (x5 := nI (i5 + 1)) (ex5 := rfl) (ls := ls) (fh := (upd fh k6 ((fh k6) + 1))) (fu := (upd fu i5 0)) (H := H) (locs := locs) (hP := hP.sub (ws' := [(y0, .inr (3, [.ref x0, .int kd, .int wh, .int (nI cap), .int ru, .int (nI (tb * 2)), .ref q_4])), (x0, .inr (5, [.ref k0, .ref w0, .int (nI nz), .int ch])), (k0, .inl (ck, L, .inl f)), (w0, .inl (cw, L, .inl g)), (b0, .inl (cb, tb, .inl bf)), (q_4, .inl (cA_5, tb * 2, .inl (fun _ => (0 : Int32)))), (q_6, .inl (cA_7, tb * 2, .inl (upd fh k6 ((fh k6) + 1)))), (q_9, .inl (cA_10, nz, .inl (upd fu i5 0)))]) [0, 1, 2, 3, 4, 5, 6, 7] rfl) (hS := hS) (hD := hD.sub (ws' := [(y0, .inr (3, [.ref x0, .int kd, .int wh, .int (nI cap), .int ru, .int (nI (tb * 2)), .ref q_4])), (x0, .inr (5, [.ref k0, .ref w0, .int (nI nz), .int ch])), (k0, .inl (ck, L, .inl f)), (w0, .inl (cw, L, .inl g)), (b0, .inl (cb, tb, .inl bf)), (q_4, .inl (cA_5, tb * 2, .inl (fun _ => (0 : Int32)))), (q_6, .inl (cA_7, tb * 2, .inl (upd fh k6 ((fh k6) + 1)))), (q_9, .inl (cA_10, nz, .inl (upd fu i5 0)))]) [0, 1, 2, 3, 4, 5, 6, 7] (by decide) rfl) (hi5 := by omega) (hn5 := by omega) (hl := lv_sub hl [0, 2, 3, 4, 5, 6] rfl)
          ·
            have ic_35 : ((tb : Nat) : Int) ≤ ((k6 : Nat) : Int) := tx_nlt (nI_toInt (by omega)) (nI_toInt (by omega)) c_35
            refine lv_iconst (v := 1) hx hb dX2_doubleTable_113 (by decide) ?_
            refine lv_goto (tgt := 118) hx hb dX2_doubleTable_114 (by decide) ?_
            refine va_zast (i := nI i5) hx hb hK hP hD hS 7 5 rfl rfl (vp_in_nI (by omega) (by omega)) dX2_doubleTable_118 (fun H locs hP hD hS => ?_)
            rw [nI_clamp (by omega)] at hP hD
            replace hP : va_P (dC, dI) vwCl [(y0, .inr (3, [.ref x0, .int kd, .int wh, .int (nI cap), .int ru, .int (nI (tb * 2)), .ref q_4])), (x0, .inr (5, [.ref k0, .ref w0, .int (nI nz), .int ch])), (k0, .inl (ck, L, .inl f)), (w0, .inl (cw, L, .inl g)), (b0, .inl (cb, tb, .inl bf)), (q_4, .inl (cA_5, tb * 2, .inl (fun _ => (0 : Int32)))), (q_6, .inl (cA_7, tb * 2, .inl (upd fh k6 ((fh k6) + 1)))), (q_9, .inl (cA_10, nz, .inl (upd fu i5 1)))] H := hP
            replace hD : va_D A [(y0, .inr (3, [.ref x0, .int kd, .int wh, .int (nI cap), .int ru, .int (nI (tb * 2)), .ref q_4])), (x0, .inr (5, [.ref k0, .ref w0, .int (nI nz), .int ch])), (k0, .inl (ck, L, .inl f)), (w0, .inl (cw, L, .inl g)), (b0, .inl (cb, tb, .inl bf)), (q_4, .inl (cA_5, tb * 2, .inl (fun _ => (0 : Int32)))), (q_6, .inl (cA_7, tb * 2, .inl (upd fh k6 ((fh k6) + 1)))), (q_9, .inl (cA_10, nz, .inl (upd fu i5 1)))] := hD
            refine lv_iinc (v := nI (i5 + 1)) (lv' := [(5, .int (nI (i5 + 1))), (6, .int (nI k6)), (4, .ref q_9), (3, .ref q_6), (2, .ref b0), (1, .int (nI tb)), (0, .ref y0)]) hx hb dX2_doubleTable_119 hl (k := 1) rfl (by rw [show Int32.ofInt 1 = nI 1 from rfl, nI_add]) (by decide) rfl (fun ls hl => ?_)
            refine lv_goto (tgt := 60) hx hb dX2_doubleTable_122 (by decide) ?_
            exact ihA (i5 := i5 + 1) (x5 := nI (i5 + 1)) (ex5 := rfl) (ls := ls) (fh := (upd fh k6 ((fh k6) + 1))) (fu := (upd fu i5 1)) (H := H) (locs := locs) (hP := hP.sub (ws' := [(y0, .inr (3, [.ref x0, .int kd, .int wh, .int (nI cap), .int ru, .int (nI (tb * 2)), .ref q_4])), (x0, .inr (5, [.ref k0, .ref w0, .int (nI nz), .int ch])), (k0, .inl (ck, L, .inl f)), (w0, .inl (cw, L, .inl g)), (b0, .inl (cb, tb, .inl bf)), (q_4, .inl (cA_5, tb * 2, .inl (fun _ => (0 : Int32)))), (q_6, .inl (cA_7, tb * 2, .inl (upd fh k6 ((fh k6) + 1)))), (q_9, .inl (cA_10, nz, .inl (upd fu i5 1)))]) [0, 1, 2, 3, 4, 5, 6, 7] rfl) (hS := hS) (hD := hD.sub (ws' := [(y0, .inr (3, [.ref x0, .int kd, .int wh, .int (nI cap), .int ru, .int (nI (tb * 2)), .ref q_4])), (x0, .inr (5, [.ref k0, .ref w0, .int (nI nz), .int ch])), (k0, .inl (ck, L, .inl f)), (w0, .inl (cw, L, .inl g)), (b0, .inl (cb, tb, .inl bf)), (q_4, .inl (cA_5, tb * 2, .inl (fun _ => (0 : Int32)))), (q_6, .inl (cA_7, tb * 2, .inl (upd fh k6 ((fh k6) + 1)))), (q_9, .inl (cA_10, nz, .inl (upd fu i5 1)))]) [0, 1, 2, 3, 4, 5, 6, 7] (by decide) rfl) (hi5 := by omega) (hn5 := by omega) (hl := lv_sub hl [0, 2, 3, 4, 5, 6] rfl)
