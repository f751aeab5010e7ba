theorem dX8_doubled_0 : decode cX8_doubled 0 = .ok (.aload_n 0, 1) := by decide +kernel
theorem dX8_doubled_1 : decode cX8_doubled 1 = .ok (.getfield 26, 3) := by decide +kernel
theorem dX8_doubled_4 : decode cX8_doubled 4 = .ok (.iload_n 1, 1) := by decide +kernel
theorem dX8_doubled_5 : decode cX8_doubled 5 = .ok (.iaload, 1) := by decide +kernel
theorem dX8_doubled_6 : decode cX8_doubled 6 = .ok (.istore_n 2, 1) := by decide +kernel
theorem dX8_doubled_7 : decode cX8_doubled 7 = .ok (.iconst 0, 1) := by decide +kernel
theorem dX8_doubled_8 : decode cX8_doubled 8 = .ok (.istore_n 3, 1) := by decide +kernel
theorem dX8_doubled_9 : decode cX8_doubled 9 = .ok (.iload_n 3, 1) := by decide +kernel
theorem dX8_doubled_10 : decode cX8_doubled 10 = .ok (.iload_n 2, 1) := by decide +kernel
theorem dX8_doubled_11 : decode cX8_doubled 11 = .ok (.if_icmp .ge 40, 3) := by decide +kernel
theorem dX8_doubled_51 : decode cX8_doubled 51 = .ok (.aload_n 0, 1) := by decide +kernel
theorem dX8_doubled_52 : decode cX8_doubled 52 = .ok (.getfield 26, 3) := by decide +kernel
theorem dX8_doubled_55 : decode cX8_doubled 55 = .ok (.iload_n 1, 1) := by decide +kernel
theorem dX8_doubled_56 : decode cX8_doubled 56 = .ok (.iconst 2, 1) := by decide +kernel
theorem dX8_doubled_57 : decode cX8_doubled 57 = .ok (.iload_n 2, 1) := by decide +kernel
theorem dX8_doubled_58 : decode cX8_doubled 58 = .ok (.imul, 1) := by decide +kernel
theorem dX8_doubled_59 : decode cX8_doubled 59 = .ok (.iastore, 1) := by decide +kernel
theorem dX8_doubled_60 : decode cX8_doubled 60 = .ok (.iconst 1, 1) := by decide +kernel
theorem dX8_doubled_61 : decode cX8_doubled 61 = .ok (.istore_n 3, 1) := by decide +kernel
theorem dX8_doubled_62 : decode cX8_doubled 62 = .ok (.iload_n 3, 1) := by decide +kernel
theorem dX8_doubled_63 : decode cX8_doubled 63 = .ok (.aload_n 0, 1) := by decide +kernel
theorem dX8_doubled_64 : decode cX8_doubled 64 = .ok (.getfield 17, 3) := by decide +kernel
theorem dX8_doubled_67 : decode cX8_doubled 67 = .ok (.iload_n 1, 1) := by decide +kernel
theorem dX8_doubled_68 : decode cX8_doubled 68 = .ok (.iaload, 1) := by decide +kernel
theorem dX8_doubled_69 : decode cX8_doubled 69 = .ok (.if_icmp .ge 99, 3) := by decide +kernel
theorem dX8_doubled_168 : decode cX8_doubled 168 = .ok (.iconst 0, 1) := by decide +kernel
theorem dX8_doubled_169 : decode cX8_doubled 169 = .ok (.istore_n 3, 1) := by decide +kernel
theorem dX8_doubled_170 : decode cX8_doubled 170 = .ok (.iload_n 3, 1) := by decide +kernel
theorem dX8_doubled_171 : decode cX8_doubled 171 = .ok (.iconst 2, 1) := by decide +kernel
theorem dX8_doubled_172 : decode cX8_doubled 172 = .ok (.iload_n 2, 1) := by decide +kernel
theorem dX8_doubled_173 : decode cX8_doubled 173 = .ok (.imul, 1) := by decide +kernel
theorem dX8_doubled_174 : decode cX8_doubled 174 = .ok (.if_icmp .ge 52, 3) := by decide +kernel
theorem dX8_doubled_226 : decode cX8_doubled 226 = .ok (.return_, 1) := by decide +kernel
theorem dX8_doubled_177 : decode cX8_doubled 177 = .ok (.aload_n 0, 1) := by decide +kernel
theorem dX8_doubled_178 : decode cX8_doubled 178 = .ok (.getfield 14, 3) := by decide +kernel
theorem dX8_doubled_181 : decode cX8_doubled 181 = .ok (.sipush 4200, 3) := by decide +kernel
theorem dX8_doubled_184 : decode cX8_doubled 184 = .ok (.iload_n 1, 1) := by decide +kernel
theorem dX8_doubled_185 : decode cX8_doubled 185 = .ok (.imul, 1) := by decide +kernel
theorem dX8_doubled_186 : decode cX8_doubled 186 = .ok (.sipush 2000, 3) := by decide +kernel
theorem dX8_doubled_189 : decode cX8_doubled 189 = .ok (.iadd, 1) := by decide +kernel
theorem dX8_doubled_190 : decode cX8_doubled 190 = .ok (.iload_n 3, 1) := by decide +kernel
theorem dX8_doubled_191 : decode cX8_doubled 191 = .ok (.iadd, 1) := by decide +kernel
theorem dX8_doubled_192 : decode cX8_doubled 192 = .ok (.aload_n 0, 1) := by decide +kernel
theorem dX8_doubled_193 : decode cX8_doubled 193 = .ok (.getfield 53, 3) := by decide +kernel
theorem dX8_doubled_196 : decode cX8_doubled 196 = .ok (.iload_n 3, 1) := by decide +kernel
theorem dX8_doubled_197 : decode cX8_doubled 197 = .ok (.iload_n 2, 1) := by decide +kernel
theorem dX8_doubled_198 : decode cX8_doubled 198 = .ok (.irem, 1) := by decide +kernel
theorem dX8_doubled_199 : decode cX8_doubled 199 = .ok (.baload, 1) := by decide +kernel
theorem dX8_doubled_200 : decode cX8_doubled 200 = .ok (.ifCond .eq 18, 3) := by decide +kernel
theorem dX8_doubled_218 : decode cX8_doubled 218 = .ok (.iconst 0, 1) := by decide +kernel
theorem dX8_doubled_219 : decode cX8_doubled 219 = .ok (.iastore, 1) := by decide +kernel
theorem dX8_doubled_220 : decode cX8_doubled 220 = .ok (.iinc 3 1, 3) := by decide +kernel
theorem dX8_doubled_223 : decode cX8_doubled 223 = .ok (.goto (-53), 3) := by decide +kernel
theorem dX8_doubled_203 : decode cX8_doubled 203 = .ok (.aload_n 0, 1) := by decide +kernel
theorem dX8_doubled_204 : decode cX8_doubled 204 = .ok (.iload_n 1, 1) := by decide +kernel
theorem dX8_doubled_205 : decode cX8_doubled 205 = .ok (.iload_n 3, 1) := by decide +kernel
set_option maxRecDepth 20000 in
theorem ggX8_doubled_X8_inBin : GoodIn wsX8_doubled wsX8_inBin := goodIn_r _ [30, 4, 5, 6, 7, 8, 9, 3, 14, 15, 16, 17, 18, 19, 1, 20, 21, 22, 31, 32, 33, 34, 35, 36, 37, 38, 39, 40, 41, 42, 43, 44, 45, 46, 47] rfl (by decide +kernel)
set_option maxRecDepth 20000 in
theorem gX8_doubled_X8_inBin : GoodIn wsX8_doubled (wsV RX8 125 RX8 yX8_inBin wsX8_inBin) := goodIn_app (goodIn_of _ (by decide +kernel)) ggX8_doubled_X8_inBin
theorem dX8_doubled_206 : decode cX8_doubled 206 = .ok (.invokevirtual 125, 3) := by decide +kernel
theorem dX8_doubled_209 : decode cX8_doubled 209 = .ok (.bipush 6, 2) := by decide +kernel
theorem dX8_doubled_211 : decode cX8_doubled 211 = .ok (.if_icmp .le 7, 3) := by decide +kernel
theorem dX8_doubled_214 : decode cX8_doubled 214 = .ok (.iconst 1, 1) := by decide +kernel
theorem dX8_doubled_215 : decode cX8_doubled 215 = .ok (.goto 4, 3) := by decide +kernel
theorem dX8_doubled_72 : decode cX8_doubled 72 = .ok (.aload_n 0, 1) := by decide +kernel
theorem dX8_doubled_73 : decode cX8_doubled 73 = .ok (.iload_n 1, 1) := by decide +kernel
theorem dX8_doubled_74 : decode cX8_doubled 74 = .ok (.iload_n 3, 1) := by decide +kernel
set_option maxRecDepth 20000 in
theorem ggX8_doubled_X8_key : GoodIn wsX8_doubled wsX8_key := goodIn_r _ [9, 3, 31, 32, 33, 34, 35, 36, 37, 38, 39, 40, 41, 42, 43, 44, 45, 46, 47] rfl (by decide +kernel)
set_option maxRecDepth 20000 in
theorem gX8_doubled_X8_key : GoodIn wsX8_doubled (wsV RX8 111 RX8 yX8_key wsX8_key) := goodIn_app (goodIn_of _ (by decide +kernel)) ggX8_doubled_X8_key
theorem dX8_doubled_75 : decode cX8_doubled 75 = .ok (.invokevirtual 111, 3) := by decide +kernel
theorem dX8_doubled_78 : decode cX8_doubled 78 = .ok (.istore 4, 2) := by decide +kernel
theorem dX8_doubled_80 : decode cX8_doubled 80 = .ok (.aload_n 0, 1) := by decide +kernel
theorem dX8_doubled_81 : decode cX8_doubled 81 = .ok (.iload_n 1, 1) := by decide +kernel
theorem dX8_doubled_82 : decode cX8_doubled 82 = .ok (.iload_n 3, 1) := by decide +kernel
set_option maxRecDepth 20000 in
theorem ggX8_doubled_X8_value : GoodIn wsX8_doubled wsX8_value := goodIn_r _ [13, 3, 31, 32, 33, 34, 35, 36, 37, 38, 39, 40, 41, 42, 43, 44, 45, 46, 47] rfl (by decide +kernel)
set_option maxRecDepth 20000 in
theorem gX8_doubled_X8_value : GoodIn wsX8_doubled (wsV RX8 118 RX8 yX8_value wsX8_value) := goodIn_app (goodIn_of _ (by decide +kernel)) ggX8_doubled_X8_value
theorem dX8_doubled_83 : decode cX8_doubled 83 = .ok (.invokevirtual 118, 3) := by decide +kernel
theorem dX8_doubled_86 : decode cX8_doubled 86 = .ok (.istore 5, 2) := by decide +kernel
theorem dX8_doubled_88 : decode cX8_doubled 88 = .ok (.iload_n 3, 1) := by decide +kernel
theorem dX8_doubled_89 : decode cX8_doubled 89 = .ok (.istore 6, 2) := by decide +kernel
theorem dX8_doubled_91 : decode cX8_doubled 91 = .ok (.iload 6, 2) := by decide +kernel
theorem dX8_doubled_93 : decode cX8_doubled 93 = .ok (.ifCond .le 58, 3) := by decide +kernel
theorem dX8_doubled_151 : decode cX8_doubled 151 = .ok (.aload_n 0, 1) := by decide +kernel
theorem dX8_doubled_152 : decode cX8_doubled 152 = .ok (.iload_n 1, 1) := by decide +kernel
theorem dX8_doubled_153 : decode cX8_doubled 153 = .ok (.iload 6, 2) := by decide +kernel
theorem dX8_doubled_155 : decode cX8_doubled 155 = .ok (.iload 4, 2) := by decide +kernel
theorem dX8_doubled_157 : decode cX8_doubled 157 = .ok (.iload 5, 2) := by decide +kernel
set_option maxRecDepth 20000 in
theorem ggX8_doubled_X8_set : GoodIn wsX8_doubled wsX8_set := goodIn_r _ [26, 3, 31, 32, 33, 34, 35, 36, 37, 38, 39, 40, 41, 42, 43, 44, 45, 46, 47] rfl (by decide +kernel)
set_option maxRecDepth 20000 in
theorem gX8_doubled_X8_set : GoodIn wsX8_doubled (wsV RX8 121 RX8 yX8_set wsX8_set) := goodIn_app (goodIn_of _ (by decide +kernel)) ggX8_doubled_X8_set
theorem dX8_doubled_159 : decode cX8_doubled 159 = .ok (.invokevirtual 121, 3) := by decide +kernel
theorem dX8_doubled_162 : decode cX8_doubled 162 = .ok (.iinc 3 1, 3) := by decide +kernel
theorem dX8_doubled_165 : decode cX8_doubled 165 = .ok (.goto (-103), 3) := by decide +kernel
theorem dX8_doubled_96 : decode cX8_doubled 96 = .ok (.aload_n 0, 1) := by decide +kernel
theorem dX8_doubled_97 : decode cX8_doubled 97 = .ok (.iload_n 1, 1) := by decide +kernel
theorem dX8_doubled_98 : decode cX8_doubled 98 = .ok (.aload_n 0, 1) := by decide +kernel
theorem dX8_doubled_99 : decode cX8_doubled 99 = .ok (.iload_n 1, 1) := by decide +kernel
theorem dX8_doubled_100 : decode cX8_doubled 100 = .ok (.iload 6, 2) := by decide +kernel
theorem dX8_doubled_102 : decode cX8_doubled 102 = .ok (.iconst 1, 1) := by decide +kernel
theorem dX8_doubled_103 : decode cX8_doubled 103 = .ok (.isub, 1) := by decide +kernel
theorem dX8_doubled_104 : decode cX8_doubled 104 = .ok (.invokevirtual 111, 3) := by decide +kernel
set_option maxRecDepth 20000 in
theorem ggX8_doubled_X8_bin : GoodIn wsX8_doubled wsX8_bin := goodIn_r _ [17, 18, 19, 1, 20, 21, 8, 22, 31, 32, 33, 34, 35, 36, 37, 38, 39, 40, 41, 42, 43, 44, 45, 46, 47] rfl (by decide +kernel)
set_option maxRecDepth 20000 in
theorem gX8_doubled_X8_bin : GoodIn wsX8_doubled (wsV RX8 115 RX8 yX8_bin wsX8_bin) := goodIn_app (goodIn_of _ (by decide +kernel)) ggX8_doubled_X8_bin
theorem dX8_doubled_107 : decode cX8_doubled 107 = .ok (.invokevirtual 115, 3) := by decide +kernel
theorem dX8_doubled_110 : decode cX8_doubled 110 = .ok (.aload_n 0, 1) := by decide +kernel
theorem dX8_doubled_111 : decode cX8_doubled 111 = .ok (.iload_n 1, 1) := by decide +kernel
theorem dX8_doubled_112 : decode cX8_doubled 112 = .ok (.iload 4, 2) := by decide +kernel
theorem dX8_doubled_114 : decode cX8_doubled 114 = .ok (.invokevirtual 115, 3) := by decide +kernel
theorem dX8_doubled_117 : decode cX8_doubled 117 = .ok (.if_icmp .le 34, 3) := by decide +kernel
theorem dX8_doubled_120 : decode cX8_doubled 120 = .ok (.aload_n 0, 1) := by decide +kernel
theorem dX8_doubled_121 : decode cX8_doubled 121 = .ok (.iload_n 1, 1) := by decide +kernel
theorem dX8_doubled_122 : decode cX8_doubled 122 = .ok (.iload 6, 2) := by decide +kernel
theorem dX8_doubled_124 : decode cX8_doubled 124 = .ok (.aload_n 0, 1) := by decide +kernel
theorem dX8_doubled_125 : decode cX8_doubled 125 = .ok (.iload_n 1, 1) := by decide +kernel
theorem dX8_doubled_126 : decode cX8_doubled 126 = .ok (.iload 6, 2) := by decide +kernel
theorem dX8_doubled_128 : decode cX8_doubled 128 = .ok (.iconst 1, 1) := by decide +kernel
theorem dX8_doubled_129 : decode cX8_doubled 129 = .ok (.isub, 1) := by decide +kernel
theorem dX8_doubled_130 : decode cX8_doubled 130 = .ok (.invokevirtual 111, 3) := by decide +kernel
theorem dX8_doubled_133 : decode cX8_doubled 133 = .ok (.aload_n 0, 1) := by decide +kernel
theorem dX8_doubled_134 : decode cX8_doubled 134 = .ok (.iload_n 1, 1) := by decide +kernel
theorem dX8_doubled_135 : decode cX8_doubled 135 = .ok (.iload 6, 2) := by decide +kernel
theorem dX8_doubled_137 : decode cX8_doubled 137 = .ok (.iconst 1, 1) := by decide +kernel
theorem dX8_doubled_138 : decode cX8_doubled 138 = .ok (.isub, 1) := by decide +kernel
theorem dX8_doubled_139 : decode cX8_doubled 139 = .ok (.invokevirtual 118, 3) := by decide +kernel
theorem dX8_doubled_142 : decode cX8_doubled 142 = .ok (.invokevirtual 121, 3) := by decide +kernel
theorem dX8_doubled_145 : decode cX8_doubled 145 = .ok (.iinc 6 (-1), 3) := by decide +kernel
theorem dX8_doubled_148 : decode cX8_doubled 148 = .ok (.goto (-57), 3) := by decide +kernel
theorem dX8_doubled_14 : decode cX8_doubled 14 = .ok (.aload_n 0, 1) := by decide +kernel
theorem dX8_doubled_15 : decode cX8_doubled 15 = .ok (.getfield 53, 3) := by decide +kernel
theorem dX8_doubled_18 : decode cX8_doubled 18 = .ok (.iload_n 3, 1) := by decide +kernel
theorem dX8_doubled_19 : decode cX8_doubled 19 = .ok (.aload_n 0, 1) := by decide +kernel
theorem dX8_doubled_20 : decode cX8_doubled 20 = .ok (.getfield 14, 3) := by decide +kernel
theorem dX8_doubled_23 : decode cX8_doubled 23 = .ok (.sipush 4200, 3) := by decide +kernel
theorem dX8_doubled_26 : decode cX8_doubled 26 = .ok (.iload_n 1, 1) := by decide +kernel
theorem dX8_doubled_27 : decode cX8_doubled 27 = .ok (.imul, 1) := by decide +kernel
theorem dX8_doubled_28 : decode cX8_doubled 28 = .ok (.sipush 2000, 3) := by decide +kernel
theorem dX8_doubled_31 : decode cX8_doubled 31 = .ok (.iadd, 1) := by decide +kernel
theorem dX8_doubled_32 : decode cX8_doubled 32 = .ok (.iload_n 3, 1) := by decide +kernel
theorem dX8_doubled_33 : decode cX8_doubled 33 = .ok (.iadd, 1) := by decide +kernel
theorem dX8_doubled_34 : decode cX8_doubled 34 = .ok (.iaload, 1) := by decide +kernel
theorem dX8_doubled_35 : decode cX8_doubled 35 = .ok (.iconst 1, 1) := by decide +kernel
theorem dX8_doubled_36 : decode cX8_doubled 36 = .ok (.if_icmp .ne 7, 3) := by decide +kernel
theorem dX8_doubled_43 : decode cX8_doubled 43 = .ok (.iconst 0, 1) := by decide +kernel
theorem dX8_doubled_44 : decode cX8_doubled 44 = .ok (.bastore, 1) := by decide +kernel
theorem dX8_doubled_45 : decode cX8_doubled 45 = .ok (.iinc 3 1, 3) := by decide +kernel
theorem dX8_doubled_48 : decode cX8_doubled 48 = .ok (.goto (-39), 3) := by decide +kernel
theorem dX8_doubled_39 : decode cX8_doubled 39 = .ok (.iconst 1, 1) := by decide +kernel
theorem dX8_doubled_40 : decode cX8_doubled 40 = .ok (.goto 4, 3) := by decide +kernel
set_option maxHeartbeats 4000000 in
set_option maxRecDepth 100000 in
/-- the table is doubled -/
theorem c_X8_doubled (l : Launch) (dC : Nat → ClassId) (dI : Nat → Nat → Nat) (sz : Nat) (h0 : Nat) (th : Int32) (q2 : Nat) (q3 : Nat) (q5 : Nat) (q6 : Nat) (q15 : Nat) (c2 : ClassId) (c3 : ClassId) (c5 : ClassId) (c6 : ClassId) (c15 : ClassId) (a2 : Nat → Int32) (a3 : Nat → Int32) (a5 : Nat → Int32) (a6 : Nat → Int32) (a15 : Nat → Int32) (v1 : Value) (v4 : Value) (v7 : Value) (v8 : Value) (v9 : Value) (v10 : Value) (v11 : Value) (v12 : Value) (v13 : Value) (v14 : Value) (v16 : Value) (r : Nat) (tb : Nat) (nz : Nat) (hr9 : r < 16) (h1tb : 1 ≤ tb) (h2tb : tb ≤ 1024) (h3tb : ∃ j : Nat, tb = 2 ^ j) (htb : a6 r = nI tb) (hs9 : a3 r = nI nz) (hz9 : nz ≤ 1000) : Met l yX8_doubled wsX8_doubled ({ frames := 3, cells := 0, slots := 0, locals := 120 }) (va_Pc [.ref h0, .int (nI r)] (pk_Pre (dC, dI) [(h0, .inr (8, [.int th, v1, .ref q2, .ref q3, v4, .ref q5, .ref q6, v7, v8, v9, v10, v11, v12, v13, v14, .ref q15, v16])), (q2, .inl (c2, 67200, .inl a2)), (q3, .inl (c3, 16, .inl a3)), (q5, .inl (c5, 16, .inl a5)), (q6, .inl (c6, 16, .inl a6)), (q15, .inl (c15, 4096, .inl a15))] [(c2, .int), (c3, .int), (c5, .int), (c6, .int), (c15, .boolean)] sz)) (va_Qv (fun (u : (Nat → Int32) × (Nat → Int32)) => outR a2 u.1 r) (fun (u : (Nat → Int32) × (Nat → Int32)) (t : State) => va_P (dC, dI) vwCl [(h0, .inr (8, [.int th, v1, .ref q2, .ref q3, v4, .ref q5, .ref q6, v7, v8, v9, v10, v11, v12, v13, v14, .ref q15, v16])), (q2, .inl (c2, 67200, .inl u.1)), (q3, .inl (c3, 16, .inl a3)), (q5, .inl (c5, 16, .inl a5)), (q6, .inl (c6, 16, .inl (upd a6 r (nI (2 * tb))))), (q15, .inl (c15, 4096, .inl u.2))] t.heap ∧ va_K (dC, dI) vwCl [(c2, .int), (c3, .int), (c5, .int), (c6, .int), (c15, .boolean)] t ∧ va_D (va_A [(h0, .inr (8, [.int th, v1, .ref q2, .ref q3, v4, .ref q5, .ref q6, v7, v8, v9, v10, v11, v12, v13, v14, .ref q15, v16])), (q2, .inl (c2, 67200, .inl a2)), (q3, .inl (c3, 16, .inl a3)), (q5, .inl (c5, 16, .inl a5)), (q6, .inl (c6, 16, .inl a6)), (q15, .inl (c15, 4096, .inl a15))] sz) [(h0, .inr (8, [.int th, v1, .ref q2, .ref q3, v4, .ref q5, .ref q6, v7, v8, v9, v10, v11, v12, v13, v14, .ref q15, v16])), (q2, .inl (c2, 67200, .inl u.1)), (q3, .inl (c3, 16, .inl a3)), (q5, .inl (c5, 16, .inl a5)), (q6, .inl (c6, 16, .inl (upd a6 r (nI (2 * tb))))), (q15, .inl (c15, 4096, .inl u.2))]) (va_A [(h0, .inr (8, [.int th, v1, .ref q2, .ref q3, v4, .ref q5, .ref q6, v7, v8, v9, v10, v11, v12, v13, v14, .ref q15, v16])), (q2, .inl (c2, 67200, .inl a2)), (q3, .inl (c3, 16, .inl a3)), (q5, .inl (c5, 16, .inl a5)), (q6, .inl (c6, 16, .inl a6)), (q15, .inl (c15, 4096, .inl a15))] sz)) 0 0 (va_A [(h0, .inr (8, [.int th, v1, .ref q2, .ref q3, v4, .ref q5, .ref q6, v7, v8, v9, v10, v11, v12, v13, v14, .ref q15, v16])), (q2, .inl (c2, 67200, .inl a2)), (q3, .inl (c3, 16, .inl a3)), (q5, .inl (c5, 16, .inl a5)), (q6, .inl (c6, 16, .inl a6)), (q15, .inl (c15, 4096, .inl a15))] sz) := by
  refine Met.ofW (cc := cX8_doubled) (maxL := 7) (ret := none) (by decide) rfl ?_
  intro p e s m args below meth c s₁ B hml hv
  obtain ⟨rfl, hsz, hP, hK, hD0⟩ := hv
  have hx := B.exec
  have hb := B.bytes
  have hr := B.returns
  have hts := atoms_spec (ws := wsX8_doubled) B.pre
  have hown : s.vm.findClass RX8 = some m.cls := findClass_of_methodNamed B.named
  have hlocks := B.notSynchronized
  subst hsz
  have hD := hD0.self (sz := s.heap.size)
  generalize hAe : va_A [(h0, .inr (8, [.int th, v1, .ref q2, .ref q3, v4, .ref q5, .ref q6, v7, v8, v9, v10, v11, v12, v13, v14, .ref q15, v16])), (q2, .inl (c2, 67200, .inl a2)), (q3, .inl (c3, 16, .inl a3)), (q5, .inl (c5, 16, .inl a5)), (q6, .inl (c6, 16, .inl a6)), (q15, .inl (c15, 4096, .inl a15))] s.heap.size = A at hD ⊢
  have hA : ∀ q : Nat, s.heap.size ≤ q → A q := fun q h => by rw [← hAe]; exact Or.inr h
  have hS : va_S A s.heap s.heap [] := va_S.rf
  have hP : va_P (dC, dI) vwCl [(h0, .inr (8, [.int th, v1, .ref q2, .ref q3, v4, .ref q5, .ref q6, v7, v8, v9, v10, v11, v12, v13, v14, .ref q15, v16])), (q2, .inl (c2, 67200, .inl a2)), (q3, .inl (c3, 16, .inl a3)), (q5, .inl (c5, 16, .inl a5)), (q6, .inl (c6, 16, .inl a6)), (q15, .inl (c15, 4096, .inl a15))] s.heap := hP
  have hl := lv_entry ([.ref h0, .int (nI r)]) (n := 7) (Nat.le_of_ble_eq_true rfl)
  rw [lg_entry_eq]
  generalize (lg_sl ([.ref h0, .int (nI r)]) ++ List.replicate (7 - (lg_sl ([.ref h0, .int (nI r)])).length) Slot.unset).toArray = ls at hl ⊢
  have hl : lv_has ls 7 [(0, .ref h0), (1, .int (nI r))] := hl
  have hw0_ := hts (.fieldLink RX8 26 "KeyAtlasModel" "table" "[I") (List.mem_of_getElem? (l := wsX8_doubled) (i := 1) rfl)
  have hw1_ := hts (.fieldLink RX8 17 "KeyAtlasModel" "size" "[I") (List.mem_of_getElem? (l := wsX8_doubled) (i := 4) rfl)
  have hw2_ := hts (.fieldLink RX8 14 "KeyAtlasModel" "cell" "[I") (List.mem_of_getElem? (l := wsX8_doubled) (i := 3) rfl)
  have hw3_ := hts (.fieldLink RX8 53 "KeyAtlasModel" "bushy" "[Z") (List.mem_of_getElem? (l := wsX8_doubled) (i := 2) rfl)
  have hi0_ : ∀ w ∈ u_ws RX8 TX8 17, w ∈ wsX8_doubled := fun w h => List.mem_cons_of_mem _ (List.mem_append_right _ h)
  have hj9 : ∃ j : Nat, 2 * tb = 2 ^ j := by obtain ⟨j, hj⟩ := h3tb; exact ⟨j + 1, by rw [hj, Nat.pow_succ]; omega⟩
  refine lv_aload_n hx hb dX8_doubled_0 rfl (lv_at hl 0 rfl) ?_
  refine va_get (D := (dC, dI)) (ci := 8) (v := .ref q6) (C := RX8) (T := TX8) (N := 17) hx hb hts hi0_ hown hK hP 0 rfl rfl 6 (by decide) hw0_ (fun _ h9 => h9) rfl dX8_doubled_1 ?_
  refine lv_iload_n hx hb dX8_doubled_4 rfl (lv_at hl 1 rfl) ?_
  refine va_iald (i := nI r) hx hb hK hP 4 3 rfl rfl (vp_in_nI (by omega) (by omega)) dX8_doubled_5 ?_
  refine W.eq (g2 := F0 m 6 ls [.int (a6 r)]) (by rw [nI_clamp (by omega)]) ?_
  refine W.eq (g2 := F0 m 6 ls [.int (nI tb)]) (by rw [htb]) ?_
  refine lv_istore_n (lv' := [(2, .int (nI tb)), (0, .ref h0), (1, .int (nI r))]) hx hb dX8_doubled_6 rfl hl (by decide) rfl (fun ls hl => ?_)
  refine lv_iconst (v := 0) hx hb dX8_doubled_7 (by decide) ?_
  refine lv_istore_n (lv' := [(3, .int 0), (2, .int (nI tb)), (0, .ref h0), (1, .int (nI r))]) hx hb dX8_doubled_8 rfl hl (by decide) rfl (fun ls hl => ?_)
  obtain ⟨H, hH9⟩ : ∃ H : Heap, H = s.heap := ⟨_, rfl⟩
  obtain ⟨locs, hlo9⟩ : ∃ z : List Loc, z = [] := ⟨_, rfl⟩
  refine tx_hv hH9 hlo9 ?_
  have hP : va_P (dC, dI) vwCl [(h0, .inr (8, [.int th, v1, .ref q2, .ref q3, v4, .ref q5, .ref q6, v7, v8, v9, v10, v11, v12, v13, v14, .ref q15, v16])), (q2, .inl (c2, 67200, .inl a2)), (q3, .inl (c3, 16, .inl a3)), (q5, .inl (c5, 16, .inl a5)), (q6, .inl (c6, 16, .inl a6)), (q15, .inl (c15, 4096, .inl a15))] H := by rw [hH9]; exact hP
  have hS : va_S A s.heap H locs := by rw [hH9, hlo9]; exact hS
  clear hH9 hlo9
  obtain ⟨i, es_i⟩ : ∃ z : Nat, z = 0 := ⟨_, rfl⟩
  obtain ⟨x1, ex1⟩ : ∃ y : Int32, y = nI i := ⟨_, rfl⟩
  obtain ⟨f15, ef_f15⟩ : ∃ z : Nat → Int32, z = a15 := ⟨_, rfl⟩
  obtain ⟨n9A, en9⟩ : ∃ n : Nat, n = tb + 1 := ⟨_, rfl⟩
  replace hl : lv_has ls 7 [(3, .int x1), (2, .int (nI tb)), (0, .ref h0), (1, .int (nI r))] := by subst ex1; subst es_i; exact hl
  replace hP : va_P (dC, dI) vwCl [(h0, .inr (8, [.int th, v1, .ref q2, .ref q3, v4, .ref q5, .ref q6, v7, v8, v9, v10, v11, v12, v13, v14, .ref q15, v16])), (q2, .inl (c2, 67200, .inl a2)), (q3, .inl (c3, 16, .inl a3)), (q5, .inl (c5, 16, .inl a5)), (q6, .inl (c6, 16, .inl a6)), (q15, .inl (c15, 4096, .inl f15))] H := by subst ef_f15; exact hP
  replace hD : va_D A [(h0, .inr (8, [.int th, v1, .ref q2, .ref q3, v4, .ref q5, .ref q6, v7, v8, v9, v10, v11, v12, v13, v14, .ref q15, v16])), (q2, .inl (c2, 67200, .inl a2)), (q3, .inl (c3, 16, .inl a3)), (q5, .inl (c5, 16, .inl a5)), (q6, .inl (c6, 16, .inl a6)), (q15, .inl (c15, 4096, .inl f15))] := by subst ef_f15; exact hD
  have hi1 : i ≤ tb := by subst ex1; subst es_i; subst ef_f15; subst en9; exact Nat.zero_le _
  have hn1 : tb + 1 ≤ i + n9A := by subst ex1; subst es_i; subst ef_f15; subst en9; exact by omega
  clear en9 es_i ef_f15
  induction n9A generalizing i x1 ls H locs f15 with
  | zero => exact absurd hn1 (by omega)
  | succ n9A ihA =>
    subst ex1
    refine lv_iload_n hx hb dX8_doubled_9 rfl (lv_at hl 0 rfl) ?_
    refine lv_iload_n hx hb dX8_doubled_10 rfl (lv_at hl 1 rfl) ?_
    refine lv_icmp_ge (tgt := 51) hx hb dX8_doubled_11 (by decide) (fun c_1 => ?_) (fun c_1 => ?_)
    ·
      have ic_1 : ((tb : Nat) : Int) ≤ ((i : Nat) : Int) := tx_le (nI_toInt (by omega)) (nI_toInt (by omega)) c_1
      refine lv_aload_n hx hb dX8_doubled_51 rfl (lv_at hl 2 rfl) ?_
      refine va_get (D := (dC, dI)) (ci := 8) (v := .ref q6) (C := RX8) (T := TX8) (N := 17) hx hb hts hi0_ hown hK hP 0 rfl rfl 6 (by decide) hw0_ (fun _ h9 => h9) rfl dX8_doubled_52 ?_
      refine lv_iload_n hx hb dX8_doubled_55 rfl (lv_at hl 3 rfl) ?_
      refine lv_iconst (v := 2) hx hb dX8_doubled_56 (by decide) ?_
      refine lv_iload_n hx hb dX8_doubled_57 rfl (lv_at hl 1 rfl) ?_
      refine lv_imul hx hb dX8_doubled_58 ?_
      refine lv_topi (fun z_2 ez_2 => ?_)
      obtain rfl : z_2 = nI (2 * tb) := ez_2.trans (by rw [show (2 : Int32) = nI 2 from rfl, pk_mul])
      refine va_iast (i := nI r) hx hb hK hP hD hS 4 3 rfl rfl (vp_in_nI (by omega) (by omega)) dX8_doubled_59 (fun H locs hP hD hS => ?_)
      rw [nI_clamp (by omega)] at hP hD
      replace hP : va_P (dC, dI) vwCl [(h0, .inr (8, [.int th, v1, .ref q2, .ref q3, v4, .ref q5, .ref q6, v7, v8, v9, v10, v11, v12, v13, v14, .ref q15, v16])), (q2, .inl (c2, 67200, .inl a2)), (q3, .inl (c3, 16, .inl a3)), (q5, .inl (c5, 16, .inl a5)), (q6, .inl (c6, 16, .inl (upd a6 r (nI (2 * tb))))), (q15, .inl (c15, 4096, .inl f15))] H := hP
      replace hD : va_D A [(h0, .inr (8, [.int th, v1, .ref q2, .ref q3, v4, .ref q5, .ref q6, v7, v8, v9, v10, v11, v12, v13, v14, .ref q15, v16])), (q2, .inl (c2, 67200, .inl a2)), (q3, .inl (c3, 16, .inl a3)), (q5, .inl (c5, 16, .inl a5)), (q6, .inl (c6, 16, .inl (upd a6 r (nI (2 * tb))))), (q15, .inl (c15, 4096, .inl f15))] := hD
      refine lv_iconst (v := 1) hx hb dX8_doubled_60 (by decide) ?_
      refine lv_istore_n (lv' := [(3, .int 1), (2, .int (nI tb)), (0, .ref h0), (1, .int (nI r))]) hx hb dX8_doubled_61 rfl hl (by decide) rfl (fun ls hl => ?_)
      obtain ⟨i2, es_i2⟩ : ∃ z : Nat, z = 1 := ⟨_, rfl⟩
      obtain ⟨x2, ex2⟩ : ∃ y : Int32, y = nI i2 := ⟨_, rfl⟩
      obtain ⟨f2, ef_f2⟩ : ∃ z : Nat → Int32, z = a2 := ⟨_, rfl⟩
      obtain ⟨n9B, en9⟩ : ∃ n : Nat, n = nz + 1 := ⟨_, rfl⟩
      replace hl : lv_has ls 7 [(3, .int x2), (2, .int (nI tb)), (0, .ref h0), (1, .int (nI r))] := by subst ex2; subst es_i2; exact hl
      replace hP : va_P (dC, dI) vwCl [(h0, .inr (8, [.int th, v1, .ref q2, .ref q3, v4, .ref q5, .ref q6, v7, v8, v9, v10, v11, v12, v13, v14, .ref q15, v16])), (q2, .inl (c2, 67200, .inl f2)), (q3, .inl (c3, 16, .inl a3)), (q5, .inl (c5, 16, .inl a5)), (q6, .inl (c6, 16, .inl (upd a6 r (nI (2 * tb))))), (q15, .inl (c15, 4096, .inl f15))] H := by subst ef_f2; exact hP
      replace hD : va_D A [(h0, .inr (8, [.int th, v1, .ref q2, .ref q3, v4, .ref q5, .ref q6, v7, v8, v9, v10, v11, v12, v13, v14, .ref q15, v16])), (q2, .inl (c2, 67200, .inl f2)), (q3, .inl (c3, 16, .inl a3)), (q5, .inl (c5, 16, .inl a5)), (q6, .inl (c6, 16, .inl (upd a6 r (nI (2 * tb))))), (q15, .inl (c15, 4096, .inl f15))] := by subst ef_f2; exact hD
      have hi2 : i2 ≤ nz + 1 := by subst ex2; subst es_i2; subst ef_f2; subst en9; exact by omega
      have hn2 : nz + 2 ≤ i2 + n9B := by subst ex2; subst es_i2; subst ef_f2; subst en9; exact by omega
      have hv2 : outR a2 f2 r := by subst ex2; subst es_i2; subst ef_f2; subst en9; exact outR_rf
      clear en9 es_i2 ef_f2
      induction n9B generalizing i2 x2 ls H locs f2 with
      | zero => exact absurd hn2 (by omega)
      | succ n9B ihB =>
        subst ex2
        refine lv_iload_n hx hb dX8_doubled_62 rfl (lv_at hl 0 rfl) ?_
        refine lv_aload_n hx hb dX8_doubled_63 rfl (lv_at hl 2 rfl) ?_
        refine va_get (D := (dC, dI)) (ci := 8) (v := .ref q3) (C := RX8) (T := TX8) (N := 17) hx hb hts hi0_ hown hK hP 0 rfl rfl 3 (by decide) hw1_ (fun _ h9 => h9) rfl dX8_doubled_64 ?_
        refine lv_iload_n hx hb dX8_doubled_67 rfl (lv_at hl 3 rfl) ?_
        refine va_iald (i := nI r) hx hb hK hP 2 1 rfl rfl (vp_in_nI (by omega) (by omega)) dX8_doubled_68 ?_
        refine W.eq (g2 := F0 m 69 ls [.int (a3 r), .int (nI i2)]) (by rw [nI_clamp (by omega)]) ?_
        refine W.eq (g2 := F0 m 69 ls [.int (nI nz), .int (nI i2)]) (by rw [hs9]) ?_
        refine lv_icmp_ge (tgt := 168) hx hb dX8_doubled_69 (by decide) (fun c_3 => ?_) (fun c_3 => ?_)
        ·
          have ic_3 : ((nz : Nat) : Int) ≤ ((i2 : Nat) : Int) := tx_le (nI_toInt (by omega)) (nI_toInt (by omega)) c_3
          refine lv_iconst (v := 0) hx hb dX8_doubled_168 (by decide) ?_
          refine lv_istore_n (lv' := [(3, .int 0), (2, .int (nI tb)), (0, .ref h0), (1, .int (nI r))]) hx hb dX8_doubled_169 rfl hl (by decide) rfl (fun ls hl => ?_)
          obtain ⟨i4, es_i4⟩ : ∃ z : Nat, z = 0 := ⟨_, rfl⟩
          obtain ⟨x4, ex4⟩ : ∃ y : Int32, y = nI i4 := ⟨_, rfl⟩
          obtain ⟨f4, ef_f4⟩ : ∃ z : Nat → Int32, z = f2 := ⟨_, rfl⟩
          obtain ⟨n9D, en9⟩ : ∃ n : Nat, n = 2 * tb + 1 := ⟨_, rfl⟩
          replace hl : lv_has ls 7 [(3, .int x4), (2, .int (nI tb)), (0, .ref h0), (1, .int (nI r))] := by subst ex4; subst es_i4; exact hl
          replace hP : va_P (dC, dI) vwCl [(h0, .inr (8, [.int th, v1, .ref q2, .ref q3, v4, .ref q5, .ref q6, v7, v8, v9, v10, v11, v12, v13, v14, .ref q15, v16])), (q2, .inl (c2, 67200, .inl f4)), (q3, .inl (c3, 16, .inl a3)), (q5, .inl (c5, 16, .inl a5)), (q6, .inl (c6, 16, .inl (upd a6 r (nI (2 * tb))))), (q15, .inl (c15, 4096, .inl f15))] H := by subst ef_f4; exact hP
          replace hD : va_D A [(h0, .inr (8, [.int th, v1, .ref q2, .ref q3, v4, .ref q5, .ref q6, v7, v8, v9, v10, v11, v12, v13, v14, .ref q15, v16])), (q2, .inl (c2, 67200, .inl f4)), (q3, .inl (c3, 16, .inl a3)), (q5, .inl (c5, 16, .inl a5)), (q6, .inl (c6, 16, .inl (upd a6 r (nI (2 * tb))))), (q15, .inl (c15, 4096, .inl f15))] := by subst ef_f4; exact hD
          have hi4 : i4 ≤ 2 * tb := by subst ex4; subst es_i4; subst ef_f4; subst en9; exact Nat.zero_le _
          have hn4 : 2 * tb + 1 ≤ i4 + n9D := by subst ex4; subst es_i4; subst ef_f4; subst en9; exact by omega
          have hv4 : outR a2 f4 r := by subst ex4; subst es_i4; subst ef_f4; subst en9; exact hv2
          clear en9 es_i4 ef_f4
          induction n9D generalizing i4 x4 ls H locs f4 with
          | zero => exact absurd hn4 (by omega)
          | succ n9D ihD =>
            subst ex4
            refine lv_iload_n hx hb dX8_doubled_170 rfl (lv_at hl 0 rfl) ?_
            refine lv_iconst (v := 2) hx hb dX8_doubled_171 (by decide) ?_
            refine lv_iload_n hx hb dX8_doubled_172 rfl (lv_at hl 1 rfl) ?_
            refine lv_imul hx hb dX8_doubled_173 ?_
            refine lv_topi (fun z_4 ez_4 => ?_)
            obtain rfl : z_4 = nI (2 * tb) := ez_4.trans (by rw [show (2 : Int32) = nI 2 from rfl, pk_mul])
            refine lv_icmp_ge (tgt := 226) hx hb dX8_doubled_174 (by decide) (fun c_5 => ?_) (fun c_5 => ?_)
            ·
              have ic_5 : ((2 * tb : Nat) : Int) ≤ ((i4 : Nat) : Int) := tx_le (nI_toInt (by omega)) (nI_toInt (by omega)) c_5
              have hP9 := hP.sub (ws' := [(h0, .inr (8, [.int th, v1, .ref q2, .ref q3, v4, .ref q5, .ref q6, v7, v8, v9, v10, v11, v12, v13, v14, .ref q15, v16])), (q2, .inl (c2, 67200, .inl f4)), (q3, .inl (c3, 16, .inl a3)), (q5, .inl (c5, 16, .inl a5)), (q6, .inl (c6, 16, .inl (upd a6 r (nI (2 * tb))))), (q15, .inl (c15, 4096, .inl f15))]) [0, 1, 2, 3, 4, 5] rfl
              have hD9 := hD.sub (ws' := [(h0, .inr (8, [.int th, v1, .ref q2, .ref q3, v4, .ref q5, .ref q6, v7, v8, v9, v10, v11, v12, v13, v14, .ref q15, v16])), (q2, .inl (c2, 67200, .inl f4)), (q3, .inl (c3, 16, .inl a3)), (q5, .inl (c5, 16, .inl a5)), (q6, .inl (c6, 16, .inl (upd a6 r (nI (2 * tb))))), (q15, .inl (c15, 4096, .inl f15))]) [0, 1, 2, 3, 4, 5] (by decide) rfl
              have hK9 := hK.sub (tys' := [(c2, .int), (c3, .int), (c5, .int), (c6, .int), (c15, .boolean)]) [0, 1, 2, 3, 4] rfl
              refine W.widen (k := 0) (n := 0) (Nat.le_of_ble_eq_true rfl) (Nat.le_of_ble_eq_true rfl) ?_
              exact W.vret hx hb hr (fun t ht hW => ⟨⟨(f4, f15), rfl, hv4, by rw [ht]; exact hP9, va_K.moved hW.alike hK9, hD9⟩, hS.F ht⟩) hS.2.2 dX8_doubled_226
            ·
              have ic_5 : ((i4 : Nat) : Int) < ((2 * tb : Nat) : Int) := tx_nle (nI_toInt (by omega)) (nI_toInt (by omega)) c_5
              refine lv_aload_n hx hb dX8_doubled_177 rfl (lv_at hl 2 rfl) ?_
              refine va_get (D := (dC, dI)) (ci := 8) (v := .ref q2) (C := RX8) (T := TX8) (N := 17) hx hb hts hi0_ hown hK hP 0 rfl rfl 2 (by decide) hw2_ (fun _ h9 => h9) rfl dX8_doubled_178 ?_
              refine lv_sipush (v := 4200) hx hb dX8_doubled_181 (by decide) ?_
              refine lv_iload_n hx hb dX8_doubled_184 rfl (lv_at hl 3 rfl) ?_
              refine lv_imul hx hb dX8_doubled_185 ?_
              refine lv_topi (fun z_6 ez_6 => ?_)
              obtain rfl : z_6 = nI (4200 * r) := ez_6.trans (by rw [show (4200 : Int32) = nI 4200 from rfl, pk_mul])
              refine lv_sipush (v := 2000) hx hb dX8_doubled_186 (by decide) ?_
              refine lv_iadd hx hb dX8_doubled_189 ?_
              refine lv_topi (fun z_7 ez_7 => ?_)
              obtain rfl : z_7 = nI ((4200 * r) + 2000) := ez_7.trans (by rw [show (2000 : Int32) = nI 2000 from rfl, nI_add])
              refine lv_iload_n hx hb dX8_doubled_190 rfl (lv_at hl 0 rfl) ?_
              refine lv_iadd hx hb dX8_doubled_191 ?_
              refine lv_topi (fun z_8 ez_8 => ?_)
              obtain rfl : z_8 = nI (((4200 * r) + 2000) + i4) := ez_8.trans (by rw [nI_add])
              refine lv_aload_n hx hb dX8_doubled_192 rfl (lv_at hl 2 rfl) ?_
              refine va_get (D := (dC, dI)) (ci := 8) (v := .ref q15) (C := RX8) (T := TX8) (N := 17) hx hb hts hi0_ hown hK hP 0 rfl rfl 15 (by decide) hw3_ (fun _ h9 => h9) rfl dX8_doubled_193 ?_
              refine lv_iload_n hx hb dX8_doubled_196 rfl (lv_at hl 0 rfl) ?_
              refine lv_iload_n hx hb dX8_doubled_197 rfl (lv_at hl 1 rfl) ?_
              refine lv_irem hx hb dX8_doubled_198 (nI_ne0 (by omega) (by omega)) ?_
              refine lv_topi (fun z_9 ez_9 => ?_)
              obtain rfl : z_9 = nI (i4 % tb) := ez_9.trans (pk_rem (by omega) (by omega) (by omega))
              have hm9 : i4 % tb < tb := Nat.mod_lt i4 (by omega)
              refine va_zald (i := nI (i4 % tb)) hx hb hK hP 5 4 rfl rfl (vp_in_nI (by omega) (by omega)) dX8_doubled_199 ?_
              refine W.eq (g2 := F0 m 200 ls [.int (f15 (i4 % tb)), .int (nI (((4200 * r) + 2000) + i4)), .ref q2]) (by rw [nI_clamp (by omega)]) ?_
              refine lv_if_eq (tgt := 218) hx hb dX8_doubled_200 (by decide) (fun c_10 => ?_) (fun c_10 => ?_)
              ·
                have ic_10 : (f15 (i4 % tb)).toInt = 0 := tx_eq rfl (by decide) c_10
                refine lv_iconst (v := 0) hx hb dX8_doubled_218 (by decide) ?_
                refine va_iast (i := nI (((4200 * r) + 2000) + i4)) hx hb hK hP hD hS 1 0 rfl rfl (vp_in_nI (by omega) (by omega)) dX8_doubled_219 (fun H locs hP hD hS => ?_)
                rw [nI_clamp (by omega)] at hP hD
                replace hP : va_P (dC, dI) vwCl [(h0, .inr (8, [.int th, v1, .ref q2, .ref q3, v4, .ref q5, .ref q6, v7, v8, v9, v10, v11, v12, v13, v14, .ref q15, v16])), (q2, .inl (c2, 67200, .inl (upd f4 (((4200 * r) + 2000) + i4) 0))), (q3, .inl (c3, 16, .inl a3)), (q5, .inl (c5, 16, .inl a5)), (q6, .inl (c6, 16, .inl (upd a6 r (nI (2 * tb))))), (q15, .inl (c15, 4096, .inl f15))] H := hP
                replace hD : va_D A [(h0, .inr (8, [.int th, v1, .ref q2, .ref q3, v4, .ref q5, .ref q6, v7, v8, v9, v10, v11, v12, v13, v14, .ref q15, v16])), (q2, .inl (c2, 67200, .inl (upd f4 (((4200 * r) + 2000) + i4) 0))), (q3, .inl (c3, 16, .inl a3)), (q5, .inl (c5, 16, .inl a5)), (q6, .inl (c6, 16, .inl (upd a6 r (nI (2 * tb))))), (q15, .inl (c15, 4096, .inl f15))] := hD
                refine lv_iinc (v := nI (i4 + 1)) (lv' := [(3, .int (nI (i4 + 1))), (2, .int (nI tb)), (0, .ref h0), (1, .int (nI r))]) hx hb dX8_doubled_220 hl (k := 0) rfl (by rw [show Int32.ofInt 1 = nI 1 from rfl, nI_add]) (by decide) rfl (fun ls hl => ?_)
                refine lv_goto (tgt := 170) hx hb dX8_doubled_223 (by decide) ?_
                exact ihD (i4 := i4 + 1) (x4 := nI (i4 + 1)) (ex4 := rfl) (ls := ls) (f4 := (upd f4 (((4200 * r) + 2000) + i4) 0)) (H := H) (locs := locs) (hP := hP.sub (ws' := [(h0, .inr (8, [.int th, v1, .ref q2, .ref q3, v4, .ref q5, .ref q6, v7, v8, v9, v10, v11, v12, v13, v14, .ref q15, v16])), (q2, .inl (c2, 67200, .inl (upd f4 (((4200 * r) + 2000) + i4) 0))), (q3, .inl (c3, 16, .inl a3)), (q5, .inl (c5, 16, .inl a5)), (q6, .inl (c6, 16, .inl (upd a6 r (nI (2 * tb))))), (q15, .inl (c15, 4096, .inl f15))]) [0, 1, 2, 3, 4, 5] rfl) (hS := hS) (hD := hD.sub (ws' := [(h0, .inr (8, [.int th, v1, .ref q2, .ref q3, v4, .ref q5, .ref q6, v7, v8, v9, v10, v11, v12, v13, v14, .ref q15, v16])), (q2, .inl (c2, 67200, .inl (upd f4 (((4200 * r) + 2000) + i4) 0))), (q3, .inl (c3, 16, .inl a3)), (q5, .inl (c5, 16, .inl a5)), (q6, .inl (c6, 16, .inl (upd a6 r (nI (2 * tb))))), (q15, .inl (c15, 4096, .inl f15))]) [0, 1, 2, 3, 4, 5] (by decide) rfl) (hi4 := by omega) (hn4 := by omega) (hv4 := outR_up' hv4 (k := 2000 + i4) (by omega) (by omega)) (hl := lv_sub hl [0, 1, 2, 3] rfl)
              ·
                have ic_10 : ¬ (f15 (i4 % tb)).toInt = 0 := tx_ne rfl (by decide) c_10
                refine lv_aload_n hx hb dX8_doubled_203 rfl (lv_at hl 2 rfl) ?_
                refine lv_iload_n hx hb dX8_doubled_204 rfl (lv_at hl 3 rfl) ?_
                refine lv_iload_n hx hb dX8_doubled_205 rfl (lv_at hl 0 rfl) ?_
                have hPc := hP.sub (ws' := [(h0, .inr (8, [.int th, v1, .ref q2, .ref q3, v4, .ref q5, .ref q6, v7, v8, v9, v10, v11, v12, v13, v14, .ref q15, v16])), (q2, .inl (c2, 67200, .inl f4)), (q3, .inl (c3, 16, .inl a3)), (q5, .inl (c5, 16, .inl a5)), (q6, .inl (c6, 16, .inl (upd a6 r (nI (2 * tb)))))]) [0, 1, 2, 3, 4] rfl
                have hDc := hD.sub (ws' := [(h0, .inr (8, [.int th, v1, .ref q2, .ref q3, v4, .ref q5, .ref q6, v7, v8, v9, v10, v11, v12, v13, v14, .ref q15, v16])), (q2, .inl (c2, 67200, .inl f4)), (q3, .inl (c3, 16, .inl a3)), (q5, .inl (c5, 16, .inl a5)), (q6, .inl (c6, 16, .inl (upd a6 r (nI (2 * tb)))))]) [0, 1, 2, 3, 4] (by decide) rfl
                have hKc := hK.sub (tys' := [(c2, .int), (c3, .int), (c5, .int), (c6, .int)]) [0, 1, 2, 3] rfl
                have hFc := va_free (wc := [(h0, .inr (8, [.int th, v1, .ref q2, .ref q3, v4, .ref q5, .ref q6, v7, v8, v9, v10, v11, v12, v13, v14, .ref q15, v16])), (q2, .inl (c2, 67200, .inl f4)), (q3, .inl (c3, 16, .inl a3)), (q5, .inl (c5, 16, .inl a5)), (q6, .inl (c6, 16, .inl (upd a6 r (nI (2 * tb)))))]) hD hS hA [0, 1, 2, 3, 4] rfl
                refine va_calli (va_runV (As := [.int (nI r), .int (nI i4)]) (rest := [.int (nI (((4200 * r) + 2000) + i4)), .ref q2]) ⟨hx, hb, hml, hown, hts⟩ (c_X8_inBin l  dC dI H.size h0 th q2 q3 q5 q6 c2 c3 c5 c6 f4 a3 a5 (upd a6 r (nI (2 * tb))) v1 v4 v7 v8 v9 v10 v11 v12 v13 v14 (.ref q15) v16 r (nI i4) (2 * tb) nz hr9 (by omega) (by omega) hj9 pk_us hs9 hz9) (cwV 2 hts gX8_doubled_X8_inBin rfl rfl rfl (by decide +kernel) ⟨(Nat.le_of_ble_eq_true rfl), (Nat.le_of_ble_eq_true rfl)⟩) ⟨pk_blind, va_recv hKc hPc (ci := 8) (q0 := 0) rfl rfl, pk_call hPc hKc hDc⟩ rfl rfl hl.1 rfl (lv_room (Nat.le_of_ble_eq_true rfl)) dX8_doubled_206 ⟨(Nat.le_of_ble_eq_true rfl), (Nat.le_of_ble_eq_true rfl)⟩) hS (fun q _ h => hFc q h) hFc (fun r_11 ur_11 t H1 locs ht hvm hw hB hz1 hk1 hS => ?_)
                try dsimp only at hw
                have jr_11 := hw
                obtain ⟨hP1, hK1, hD1⟩ := hB
                rw [ht] at hP1
                have hK1 := va_K.moved hvm.symm hK1
                obtain ⟨hP, hD⟩ := va_join (wr := [(q15, .inl (c15, 4096, .inl f15))]) (w1 := [(h0, .inr (8, [.int th, v1, .ref q2, .ref q3, v4, .ref q5, .ref q6, v7, v8, v9, v10, v11, v12, v13, v14, .ref q15, v16])), (q2, .inl (c2, 67200, .inl f4)), (q3, .inl (c3, 16, .inl a3)), (q5, .inl (c5, 16, .inl a5)), (q6, .inl (c6, 16, .inl (upd a6 r (nI (2 * tb)))))]) hP hD [0, 1, 2, 3, 4] [5] rfl rfl (by decide) (by decide) hk1 hFc hP1 hD1
                clear hk1 hz1 ht hPc hDc hKc hFc
                generalize H1 = H at hP hS ⊢
                replace hP : va_P (dC, dI) vwCl [(q15, .inl (c15, 4096, .inl f15)), (h0, .inr (8, [.int th, v1, .ref q2, .ref q3, v4, .ref q5, .ref q6, v7, v8, v9, v10, v11, v12, v13, v14, .ref q15, v16])), (q2, .inl (c2, 67200, .inl f4)), (q3, .inl (c3, 16, .inl a3)), (q5, .inl (c5, 16, .inl a5)), (q6, .inl (c6, 16, .inl (upd a6 r (nI (2 * tb)))))] H := hP
                replace hD : va_D A [(q15, .inl (c15, 4096, .inl f15)), (h0, .inr (8, [.int th, v1, .ref q2, .ref q3, v4, .ref q5, .ref q6, v7, v8, v9, v10, v11, v12, v13, v14, .ref q15, v16])), (q2, .inl (c2, 67200, .inl f4)), (q3, .inl (c3, 16, .inl a3)), (q5, .inl (c5, 16, .inl a5)), (q6, .inl (c6, 16, .inl (upd a6 r (nI (2 * tb)))))] := hD
                refine W.widen (k := 0) (n := 0) (Nat.le_of_ble_eq_true rfl) (Nat.le_of_ble_eq_true rfl) ?_
                refine W.eq (g2 := F0 m 209 ls [.int r_11, .int (nI (((4200 * r) + 2000) + i4)), .ref q2]) rfl ?_
                refine lv_bipush (v := 6) hx hb dX8_doubled_209 (by decide) ?_
                refine lv_icmp_le (tgt := 218) hx hb dX8_doubled_211 (by decide) (fun c_12 => ?_) (fun c_12 => ?_)
                ·
                  have ic_12 : r_11.toInt ≤ 6 := tx_le rfl (by decide) c_12
                  refine lv_iconst (v := 0) hx hb dX8_doubled_218 (by decide) ?_
                  refine va_iast (i := nI (((4200 * r) + 2000) + i4)) hx hb hK hP hD hS 2 0 rfl rfl (vp_in_nI (by omega) (by omega)) dX8_doubled_219 (fun H locs hP hD hS => ?_)
                  rw [nI_clamp (by omega)] at hP hD
                  replace hP : va_P (dC, dI) vwCl [(q15, .inl (c15, 4096, .inl f15)), (h0, .inr (8, [.int th, v1, .ref q2, .ref q3, v4, .ref q5, .ref q6, v7, v8, v9, v10, v11, v12, v13, v14, .ref q15, v16])), (q2, .inl (c2, 67200, .inl (upd f4 (((4200 * r) + 2000) + i4) 0))), (q3, .inl (c3, 16, .inl a3)), (q5, .inl (c5, 16, .inl a5)), (q6, .inl (c6, 16, .inl (upd a6 r (nI (2 * tb)))))] H := hP
                  replace hD : va_D A [(q15, .inl (c15, 4096, .inl f15)), (h0, .inr (8, [.int th, v1, .ref q2, .ref q3, v4, .ref q5, .ref q6, v7, v8, v9, v10, v11, v12, v13, v14, .ref q15, v16])), (q2, .inl (c2, 67200, .inl (upd f4 (((4200 * r) + 2000) + i4) 0))), (q3, .inl (c3, 16, .inl a3)), (q5, .inl (c5, 16, .inl a5)), (q6, .inl (c6, 16, .inl (upd a6 r (nI (2 * tb)))))] := hD
                  refine lv_iinc (v := nI (i4 + 1)) (lv' := [(3, .int (nI (i4 + 1))), (2, .int (nI tb)), (0, .ref h0), (1, .int (nI r))]) hx hb dX8_doubled_220 hl (k := 0) rfl (by rw [show Int32.ofInt 1 = nI 1 from rfl, nI_add]) (by decide) rfl (fun ls hl => ?_)
                  refine lv_goto (tgt := 170) hx hb dX8_doubled_223 (by decide) ?_
                  exact ihD (i4 := i4 + 1) (x4 := nI (i4 + 1)) (ex4 := rfl) (ls := ls) (f4 := (upd f4 (((4200 * r) + 2000) + i4) 0)) (H := H) (locs := locs) (hP := hP.sub (ws' := [(h0, .inr (8, [.int th, v1, .ref q2, .ref q3, v4, .ref q5, .ref q6, v7, v8, v9, v10, v11, v12, v13, v14, .ref q15, v16])), (q2, .inl (c2, 67200, .inl (upd f4 (((4200 * r) + 2000) + i4) 0))), (q3, .inl (c3, 16, .inl a3)), (q5, .inl (c5, 16, .inl a5)), (q6, .inl (c6, 16, .inl (upd a6 r (nI (2 * tb))))), (q15, .inl (c15, 4096, .inl f15))]) [1, 2, 3, 4, 5, 0] rfl) (hS := hS) (hD := hD.sub (ws' := [(h0, .inr (8, [.int th, v1, .ref q2, .ref q3, v4, .ref q5, .ref q6, v7, v8, v9, v10, v11, v12, v13, v14, .ref q15, v16])), (q2, .inl (c2, 67200, .inl (upd f4 (((4200 * r) + 2000) + i4) 0))), (q3, .inl (c3, 16, .inl a3)), (q5, .inl (c5, 16, .inl a5)), (q6, .inl (c6, 16, .inl (upd a6 r (nI (2 * tb))))), (q15, .inl (c15, 4096, .inl f15))]) [1, 2, 3, 4, 5, 0] (by decide) rfl) (hi4 := by omega) (hn4 := by omega) (hv4 := outR_up' hv4 (k := 2000 + i4) (by omega) (by omega)) (hl := lv_sub hl [0, 1, 2, 3] rfl)
                ·
                  have ic_12 : 6 < r_11.toInt := tx_nle rfl (by decide) c_12
                  refine lv_iconst (v := 1) hx hb dX8_doubled_214 (by decide) ?_
                  refine lv_goto (tgt := 219) hx hb dX8_doubled_215 (by decide) ?_
                  refine va_iast (i := nI (((4200 * r) + 2000) + i4)) hx hb hK hP hD hS 2 0 rfl rfl (vp_in_nI (by omega) (by omega)) dX8_doubled_219 (fun H locs hP hD hS => ?_)
                  rw [nI_clamp (by omega)] at hP hD
                  replace hP : va_P (dC, dI) vwCl [(q15, .inl (c15, 4096, .inl f15)), (h0, .inr (8, [.int th, v1, .ref q2, .ref q3, v4, .ref q5, .ref q6, v7, v8, v9, v10, v11, v12, v13, v14, .ref q15, v16])), (q2, .inl (c2, 67200, .inl (upd f4 (((4200 * r) + 2000) + i4) 1))), (q3, .inl (c3, 16, .inl a3)), (q5, .inl (c5, 16, .inl a5)), (q6, .inl (c6, 16, .inl (upd a6 r (nI (2 * tb)))))] H := hP
                  replace hD : va_D A [(q15, .inl (c15, 4096, .inl f15)), (h0, .inr (8, [.int th, v1, .ref q2, .ref q3, v4, .ref q5, .ref q6, v7, v8, v9, v10, v11, v12, v13, v14, .ref q15, v16])), (q2, .inl (c2, 67200, .inl (upd f4 (((4200 * r) + 2000) + i4) 1))), (q3, .inl (c3, 16, .inl a3)), (q5, .inl (c5, 16, .inl a5)), (q6, .inl (c6, 16, .inl (upd a6 r (nI (2 * tb)))))] := hD
                  refine lv_iinc (v := nI (i4 + 1)) (lv' := [(3, .int (nI (i4 + 1))), (2, .int (nI tb)), (0, .ref h0), (1, .int (nI r))]) hx hb dX8_doubled_220 hl (k := 0) rfl (by rw [show Int32.ofInt 1 = nI 1 from rfl, nI_add]) (by decide) rfl (fun ls hl => ?_)
                  refine lv_goto (tgt := 170) hx hb dX8_doubled_223 (by decide) ?_
                  exact ihD (i4 := i4 + 1) (x4 := nI (i4 + 1)) (ex4 := rfl) (ls := ls) (f4 := (upd f4 (((4200 * r) + 2000) + i4) 1)) (H := H) (locs := locs) (hP := hP.sub (ws' := [(h0, .inr (8, [.int th, v1, .ref q2, .ref q3, v4, .ref q5, .ref q6, v7, v8, v9, v10, v11, v12, v13, v14, .ref q15, v16])), (q2, .inl (c2, 67200, .inl (upd f4 (((4200 * r) + 2000) + i4) 1))), (q3, .inl (c3, 16, .inl a3)), (q5, .inl (c5, 16, .inl a5)), (q6, .inl (c6, 16, .inl (upd a6 r (nI (2 * tb))))), (q15, .inl (c15, 4096, .inl f15))]) [1, 2, 3, 4, 5, 0] rfl) (hS := hS) (hD := hD.sub (ws' := [(h0, .inr (8, [.int th, v1, .ref q2, .ref q3, v4, .ref q5, .ref q6, v7, v8, v9, v10, v11, v12, v13, v14, .ref q15, v16])), (q2, .inl (c2, 67200, .inl (upd f4 (((4200 * r) + 2000) + i4) 1))), (q3, .inl (c3, 16, .inl a3)), (q5, .inl (c5, 16, .inl a5)), (q6, .inl (c6, 16, .inl (upd a6 r (nI (2 * tb))))), (q15, .inl (c15, 4096, .inl f15))]) [1, 2, 3, 4, 5, 0] (by decide) rfl) (hi4 := by omega) (hn4 := by omega) (hv4 := outR_up' hv4 (k := 2000 + i4) (by omega) (by omega)) (hl := lv_sub hl [0, 1, 2, 3] rfl)
        ·
          have ic_3 : ((i2 : Nat) : Int) < ((nz : Nat) : Int) := tx_nle (nI_toInt (by omega)) (nI_toInt (by omega)) c_3
          refine lv_aload_n hx hb dX8_doubled_72 rfl (lv_at hl 2 rfl) ?_
          refine lv_iload_n hx hb dX8_doubled_73 rfl (lv_at hl 3 rfl) ?_
          refine lv_iload_n hx hb dX8_doubled_74 rfl (lv_at hl 0 rfl) ?_
          have hPc := hP.sub (ws' := [(h0, .inr (8, [.int th, v1, .ref q2, .ref q3, v4, .ref q5, .ref q6, v7, v8, v9, v10, v11, v12, v13, v14, .ref q15, v16])), (q2, .inl (c2, 67200, .inl f2))]) [0, 1] rfl
          have hDc := hD.sub (ws' := [(h0, .inr (8, [.int th, v1, .ref q2, .ref q3, v4, .ref q5, .ref q6, v7, v8, v9, v10, v11, v12, v13, v14, .ref q15, v16])), (q2, .inl (c2, 67200, .inl f2))]) [0, 1] (by decide) rfl
          have hKc := hK.sub (tys' := [(c2, .int)]) [0] rfl
          have hFc := va_free (wc := [(h0, .inr (8, [.int th, v1, .ref q2, .ref q3, v4, .ref q5, .ref q6, v7, v8, v9, v10, v11, v12, v13, v14, .ref q15, v16])), (q2, .inl (c2, 67200, .inl f2))]) hD hS hA [0, 1] rfl
          refine va_calli (va_runV (As := [.int (nI r), .int (nI i2)]) (rest := []) ⟨hx, hb, hml, hown, hts⟩ (c_X8_key l  dC dI H.size h0 th q2 c2 f2 v1 (.ref q3) v4 (.ref q5) (.ref q6) v7 v8 v9 v10 v11 v12 v13 v14 (.ref q15) v16 r i2 hr9 (by omega)) (cwV 2 hts gX8_doubled_X8_key rfl rfl rfl (by decide +kernel) ⟨(Nat.le_of_ble_eq_true rfl), (Nat.le_of_ble_eq_true rfl)⟩) ⟨pk_blind, va_recv hKc hPc (ci := 8) (q0 := 0) rfl rfl, pk_call hPc hKc hDc⟩ rfl rfl hl.1 rfl (lv_room (Nat.le_of_ble_eq_true rfl)) dX8_doubled_75 ⟨(Nat.le_of_ble_eq_true rfl), (Nat.le_of_ble_eq_true rfl)⟩) hS (fun q _ h => hFc q h) hFc (fun r_13 ur_13 t H1 locs ht hvm hw hB hz1 hk1 hS => ?_)
          try dsimp only at hw
          obtain ⟨hP1, hK1, hD1⟩ := hB
          rw [ht] at hP1
          have hK1 := va_K.moved hvm.symm hK1
          obtain ⟨hP, hD⟩ := va_join (wr := [(q3, .inl (c3, 16, .inl a3)), (q5, .inl (c5, 16, .inl a5)), (q6, .inl (c6, 16, .inl (upd a6 r (nI (2 * tb))))), (q15, .inl (c15, 4096, .inl f15))]) (w1 := [(h0, .inr (8, [.int th, v1, .ref q2, .ref q3, v4, .ref q5, .ref q6, v7, v8, v9, v10, v11, v12, v13, v14, .ref q15, v16])), (q2, .inl (c2, 67200, .inl f2))]) hP hD [0, 1] [2, 3, 4, 5] rfl rfl (by decide) (by decide) hk1 hFc hP1 hD1
          clear hk1 hz1 ht hPc hDc hKc hFc
          generalize H1 = H at hP hS ⊢
          replace hP : va_P (dC, dI) vwCl [(q3, .inl (c3, 16, .inl a3)), (q5, .inl (c5, 16, .inl a5)), (q6, .inl (c6, 16, .inl (upd a6 r (nI (2 * tb))))), (q15, .inl (c15, 4096, .inl f15)), (h0, .inr (8, [.int th, v1, .ref q2, .ref q3, v4, .ref q5, .ref q6, v7, v8, v9, v10, v11, v12, v13, v14, .ref q15, v16])), (q2, .inl (c2, 67200, .inl f2))] H := hP
          replace hD : va_D A [(q3, .inl (c3, 16, .inl a3)), (q5, .inl (c5, 16, .inl a5)), (q6, .inl (c6, 16, .inl (upd a6 r (nI (2 * tb))))), (q15, .inl (c15, 4096, .inl f15)), (h0, .inr (8, [.int th, v1, .ref q2, .ref q3, v4, .ref q5, .ref q6, v7, v8, v9, v10, v11, v12, v13, v14, .ref q15, v16])), (q2, .inl (c2, 67200, .inl f2))] := hD
          refine W.widen (k := 0) (n := 0) (Nat.le_of_ble_eq_true rfl) (Nat.le_of_ble_eq_true rfl) ?_
          obtain rfl : r_13 = f2 (4200 * r + i2) := hw
          refine W.eq (g2 := F0 m 78 ls [.int (f2 (4200 * r + i2))]) rfl ?_
          refine lv_istore (lv' := [(4, .int (f2 (4200 * r + i2))), (3, .int (nI i2)), (2, .int (nI tb)), (0, .ref h0), (1, .int (nI r))]) hx hb dX8_doubled_78 hl (by decide) rfl (fun ls hl => ?_)
          refine lv_aload_n hx hb dX8_doubled_80 rfl (lv_at hl 3 rfl) ?_
          refine lv_iload_n hx hb dX8_doubled_81 rfl (lv_at hl 4 rfl) ?_
          refine lv_iload_n hx hb dX8_doubled_82 rfl (lv_at hl 1 rfl) ?_
          have hPc := hP.sub (ws' := [(h0, .inr (8, [.int th, v1, .ref q2, .ref q3, v4, .ref q5, .ref q6, v7, v8, v9, v10, v11, v12, v13, v14, .ref q15, v16])), (q2, .inl (c2, 67200, .inl f2))]) [4, 5] rfl
          have hDc := hD.sub (ws' := [(h0, .inr (8, [.int th, v1, .ref q2, .ref q3, v4, .ref q5, .ref q6, v7, v8, v9, v10, v11, v12, v13, v14, .ref q15, v16])), (q2, .inl (c2, 67200, .inl f2))]) [4, 5] (by decide) rfl
          have hKc := hK.sub (tys' := [(c2, .int)]) [0] rfl
          have hFc := va_free (wc := [(h0, .inr (8, [.int th, v1, .ref q2, .ref q3, v4, .ref q5, .ref q6, v7, v8, v9, v10, v11, v12, v13, v14, .ref q15, v16])), (q2, .inl (c2, 67200, .inl f2))]) hD hS hA [4, 5] rfl
          refine va_calli (va_runV (As := [.int (nI r), .int (nI i2)]) (rest := []) ⟨hx, hb, hml, hown, hts⟩ (c_X8_value l  dC dI H.size h0 th q2 c2 f2 v1 (.ref q3) v4 (.ref q5) (.ref q6) v7 v8 v9 v10 v11 v12 v13 v14 (.ref q15) v16 r i2 hr9 (by omega)) (cwV 2 hts gX8_doubled_X8_value rfl rfl rfl (by decide +kernel) ⟨(Nat.le_of_ble_eq_true rfl), (Nat.le_of_ble_eq_true rfl)⟩) ⟨pk_blind, va_recv hKc hPc (ci := 8) (q0 := 0) rfl rfl, pk_call hPc hKc hDc⟩ rfl rfl hl.1 rfl (lv_room (Nat.le_of_ble_eq_true rfl)) dX8_doubled_83 ⟨(Nat.le_of_ble_eq_true rfl), (Nat.le_of_ble_eq_true rfl)⟩) hS (fun q _ h => hFc q h) hFc (fun r_14 ur_14 t H1 locs ht hvm hw hB hz1 hk1 hS => ?_)
          try dsimp only at hw
          obtain ⟨hP1, hK1, hD1⟩ := hB
          rw [ht] at hP1
          have hK1 := va_K.moved hvm.symm hK1
          obtain ⟨hP, hD⟩ := va_join (wr := [(q3, .inl (c3, 16, .inl a3)), (q5, .inl (c5, 16, .inl a5)), (q6, .inl (c6, 16, .inl (upd a6 r (nI (2 * tb))))), (q15, .inl (c15, 4096, .inl f15))]) (w1 := [(h0, .inr (8, [.int th, v1, .ref q2, .ref q3, v4, .ref q5, .ref q6, v7, v8, v9, v10, v11, v12, v13, v14, .ref q15, v16])), (q2, .inl (c2, 67200, .inl f2))]) hP hD [4, 5] [0, 1, 2, 3] rfl rfl (by decide) (by decide) hk1 hFc hP1 hD1
          clear hk1 hz1 ht hPc hDc hKc hFc
          generalize H1 = H at hP hS ⊢
          replace hP : va_P (dC, dI) vwCl [(q3, .inl (c3, 16, .inl a3)), (q5, .inl (c5, 16, .inl a5)), (q6, .inl (c6, 16, .inl (upd a6 r (nI (2 * tb))))), (q15, .inl (c15, 4096, .inl f15)), (h0, .inr (8, [.int th, v1, .ref q2, .ref q3, v4, .ref q5, .ref q6, v7, v8, v9, v10, v11, v12, v13, v14, .ref q15, v16])), (q2, .inl (c2, 67200, .inl f2))] H := hP
          replace hD : va_D A [(q3, .inl (c3, 16, .inl a3)), (q5, .inl (c5, 16, .inl a5)), (q6, .inl (c6, 16, .inl (upd a6 r (nI (2 * tb))))), (q15, .inl (c15, 4096, .inl f15)), (h0, .inr (8, [.int th, v1, .ref q2, .ref q3, v4, .ref q5, .ref q6, v7, v8, v9, v10, v11, v12, v13, v14, .ref q15, v16])), (q2, .inl (c2, 67200, .inl f2))] := hD
          refine W.widen (k := 0) (n := 0) (Nat.le_of_ble_eq_true rfl) (Nat.le_of_ble_eq_true rfl) ?_
          obtain rfl : r_14 = f2 (4200 * r + 1000 + i2) := hw
          refine W.eq (g2 := F0 m 86 ls [.int (f2 (4200 * r + 1000 + i2))]) rfl ?_
          refine lv_istore (lv' := [(5, .int (f2 (4200 * r + 1000 + i2))), (4, .int (f2 (4200 * r + i2))), (3, .int (nI i2)), (2, .int (nI tb)), (0, .ref h0), (1, .int (nI r))]) hx hb dX8_doubled_86 hl (by decide) rfl (fun ls hl => ?_)
          refine lv_iload_n hx hb dX8_doubled_88 rfl (lv_at hl 2 rfl) ?_
          refine lv_istore (lv' := [(6, .int (nI i2)), (5, .int (f2 (4200 * r + 1000 + i2))), (4, .int (f2 (4200 * r + i2))), (3, .int (nI i2)), (2, .int (nI tb)), (0, .ref h0), (1, .int (nI r))]) hx hb dX8_doubled_89 hl (by decide) rfl (fun ls hl => ?_)
          obtain ⟨i3, es_i3⟩ : ∃ z : Nat, z = i2 := ⟨_, rfl⟩
          obtain ⟨x3, ex3⟩ : ∃ y : Int32, y = nI i3 := ⟨_, rfl⟩
          obtain ⟨f3, ef_f3⟩ : ∃ z : Nat → Int32, z = f2 := ⟨_, rfl⟩
          obtain ⟨n9C, en9⟩ : ∃ n : Nat, n = i2 + 1 := ⟨_, rfl⟩
          replace hl : lv_has ls 7 [(6, .int x3), (5, .int (f2 (4200 * r + 1000 + i2))), (4, .int (f2 (4200 * r + i2))), (3, .int (nI i2)), (2, .int (nI tb)), (0, .ref h0), (1, .int (nI r))] := by subst ex3; subst es_i3; exact hl
          replace hP : va_P (dC, dI) vwCl [(q3, .inl (c3, 16, .inl a3)), (q5, .inl (c5, 16, .inl a5)), (q6, .inl (c6, 16, .inl (upd a6 r (nI (2 * tb))))), (q15, .inl (c15, 4096, .inl f15)), (h0, .inr (8, [.int th, v1, .ref q2, .ref q3, v4, .ref q5, .ref q6, v7, v8, v9, v10, v11, v12, v13, v14, .ref q15, v16])), (q2, .inl (c2, 67200, .inl f3))] H := by subst ef_f3; exact hP
          replace hD : va_D A [(q3, .inl (c3, 16, .inl a3)), (q5, .inl (c5, 16, .inl a5)), (q6, .inl (c6, 16, .inl (upd a6 r (nI (2 * tb))))), (q15, .inl (c15, 4096, .inl f15)), (h0, .inr (8, [.int th, v1, .ref q2, .ref q3, v4, .ref q5, .ref q6, v7, v8, v9, v10, v11, v12, v13, v14, .ref q15, v16])), (q2, .inl (c2, 67200, .inl f3))] := by subst ef_f3; exact hD
          have hi3 : i3 ≤ i2 := by subst ex3; subst es_i3; subst ef_f3; subst en9; exact Nat.le_refl _
          have hn3 : i3 + 1 ≤ n9C := by subst ex3; subst es_i3; subst ef_f3; subst en9; exact Nat.le_refl _
          have hv3 : outR a2 f3 r := by subst ex3; subst es_i3; subst ef_f3; subst en9; exact hv2
          clear en9 es_i3 ef_f3
          induction n9C generalizing i3 x3 ls H locs f3 with
          | zero => exact absurd hn3 (by omega)
          | succ n9C ihC =>
            subst ex3
            refine lv_iload hx hb dX8_doubled_91 (lv_at hl 0 rfl) ?_
            refine lv_if_le (tgt := 151) hx hb dX8_doubled_93 (by decide) (fun c_15 => ?_) (fun c_15 => ?_)
            ·
              have ic_15 : ((i3 : Nat) : Int) ≤ 0 := tx_le (nI_toInt (by omega)) (by decide) c_15
              refine lv_aload_n hx hb dX8_doubled_151 rfl (lv_at hl 5 rfl) ?_
              refine lv_iload_n hx hb dX8_doubled_152 rfl (lv_at hl 6 rfl) ?_
              refine lv_iload hx hb dX8_doubled_153 (lv_at hl 0 rfl) ?_
              refine lv_iload hx hb dX8_doubled_155 (lv_at hl 2 rfl) ?_
              refine lv_iload hx hb dX8_doubled_157 (lv_at hl 1 rfl) ?_
              have hPc := hP.sub (ws' := [(h0, .inr (8, [.int th, v1, .ref q2, .ref q3, v4, .ref q5, .ref q6, v7, v8, v9, v10, v11, v12, v13, v14, .ref q15, v16])), (q2, .inl (c2, 67200, .inl f3))]) [4, 5] rfl
              have hDc := hD.sub (ws' := [(h0, .inr (8, [.int th, v1, .ref q2, .ref q3, v4, .ref q5, .ref q6, v7, v8, v9, v10, v11, v12, v13, v14, .ref q15, v16])), (q2, .inl (c2, 67200, .inl f3))]) [4, 5] (by decide) rfl
              have hKc := hK.sub (tys' := [(c2, .int)]) [0] rfl
              have hFc := va_free (wc := [(h0, .inr (8, [.int th, v1, .ref q2, .ref q3, v4, .ref q5, .ref q6, v7, v8, v9, v10, v11, v12, v13, v14, .ref q15, v16])), (q2, .inl (c2, 67200, .inl f3))]) hD hS hA [4, 5] rfl
              refine va_callv (va_runV (As := [.int (nI r), .int (nI i3), .int (f2 (4200 * r + i2)), .int (f2 (4200 * r + 1000 + i2))]) (rest := []) ⟨hx, hb, hml, hown, hts⟩ (c_X8_set l  dC dI H.size h0 th q2 c2 f3 v1 (.ref q3) v4 (.ref q5) (.ref q6) v7 v8 v9 v10 v11 v12 v13 v14 (.ref q15) v16 r i3 (f2 (4200 * r + i2)) (f2 (4200 * r + 1000 + i2)) hr9 (by omega)) (cwV 4 hts gX8_doubled_X8_set rfl rfl rfl (by decide +kernel) ⟨(Nat.le_of_ble_eq_true rfl), (Nat.le_of_ble_eq_true rfl)⟩) ⟨pk_blind, va_recv hKc hPc (ci := 8) (q0 := 0) rfl rfl, pk_call hPc hKc hDc⟩ rfl rfl hl.1 rfl (lv_room (Nat.le_of_ble_eq_true rfl)) dX8_doubled_159 ⟨(Nat.le_of_ble_eq_true rfl), (Nat.le_of_ble_eq_true rfl)⟩) hS (fun q _ h => hFc q h) hFc (fun ur_16 t H1 locs ht hvm hw hB hz1 hk1 hS => ?_)
              try dsimp only at hw
              have jr_16 := hw
              obtain ⟨hP1, hK1, hD1⟩ := hB
              rw [ht] at hP1
              have hK1 := va_K.moved hvm.symm hK1
              obtain ⟨hP, hD⟩ := va_join (wr := [(q3, .inl (c3, 16, .inl a3)), (q5, .inl (c5, 16, .inl a5)), (q6, .inl (c6, 16, .inl (upd a6 r (nI (2 * tb))))), (q15, .inl (c15, 4096, .inl f15))]) (w1 := [(h0, .inr (8, [.int th, v1, .ref q2, .ref q3, v4, .ref q5, .ref q6, v7, v8, v9, v10, v11, v12, v13, v14, .ref q15, v16])), (q2, .inl (c2, 67200, .inl (upd (upd f3 (4200 * r + i3) (f2 (4200 * r + i2))) (4200 * r + 1000 + i3) (f2 (4200 * r + 1000 + i2)))))]) hP hD [4, 5] [0, 1, 2, 3] rfl rfl (by decide) (by decide) hk1 hFc hP1 hD1
              clear hk1 hz1 ht hPc hDc hKc hFc
              generalize H1 = H at hP hS ⊢
              replace hP : va_P (dC, dI) vwCl [(q3, .inl (c3, 16, .inl a3)), (q5, .inl (c5, 16, .inl a5)), (q6, .inl (c6, 16, .inl (upd a6 r (nI (2 * tb))))), (q15, .inl (c15, 4096, .inl f15)), (h0, .inr (8, [.int th, v1, .ref q2, .ref q3, v4, .ref q5, .ref q6, v7, v8, v9, v10, v11, v12, v13, v14, .ref q15, v16])), (q2, .inl (c2, 67200, .inl (upd (upd f3 (4200 * r + i3) (f2 (4200 * r + i2))) (4200 * r + 1000 + i3) (f2 (4200 * r + 1000 + i2)))))] H := hP
              replace hD : va_D A [(q3, .inl (c3, 16, .inl a3)), (q5, .inl (c5, 16, .inl a5)), (q6, .inl (c6, 16, .inl (upd a6 r (nI (2 * tb))))), (q15, .inl (c15, 4096, .inl f15)), (h0, .inr (8, [.int th, v1, .ref q2, .ref q3, v4, .ref q5, .ref q6, v7, v8, v9, v10, v11, v12, v13, v14, .ref q15, v16])), (q2, .inl (c2, 67200, .inl (upd (upd f3 (4200 * r + i3) (f2 (4200 * r + i2))) (4200 * r + 1000 + i3) (f2 (4200 * r + 1000 + i2)))))] := hD
              refine W.widen (k := 0) (n := 0) (Nat.le_of_ble_eq_true rfl) (Nat.le_of_ble_eq_true rfl) ?_
              refine W.eq (g2 := F0 m 162 ls []) rfl ?_
              refine lv_iinc (v := nI (i2 + 1)) (lv' := [(3, .int (nI (i2 + 1))), (6, .int (nI i3)), (5, .int (f2 (4200 * r + 1000 + i2))), (4, .int (f2 (4200 * r + i2))), (2, .int (nI tb)), (0, .ref h0), (1, .int (nI r))]) hx hb dX8_doubled_162 hl (k := 3) rfl (by rw [show Int32.ofInt 1 = nI 1 from rfl, nI_add]) (by decide) rfl (fun ls hl => ?_)
              refine lv_goto (tgt := 62) hx hb dX8_doubled_165 (by decide) ?_
              exact ihB (i2 := i2 + 1) (x2 := nI (i2 + 1)) (ex2 := rfl) (ls := ls) (f2 := (upd (upd f3 (4200 * r + i3) (f2 (4200 * r + i2))) (4200 * r + 1000 + i3) (f2 (4200 * r + 1000 + i2)))) (H := H) (locs := locs) (hP := hP.sub (ws' := [(h0, .inr (8, [.int th, v1, .ref q2, .ref q3, v4, .ref q5, .ref q6, v7, v8, v9, v10, v11, v12, v13, v14, .ref q15, v16])), (q2, .inl (c2, 67200, .inl (upd (upd f3 (4200 * r + i3) (f2 (4200 * r + i2))) (4200 * r + 1000 + i3) (f2 (4200 * r + 1000 + i2))))), (q3, .inl (c3, 16, .inl a3)), (q5, .inl (c5, 16, .inl a5)), (q6, .inl (c6, 16, .inl (upd a6 r (nI (2 * tb))))), (q15, .inl (c15, 4096, .inl f15))]) [4, 5, 0, 1, 2, 3] rfl) (hS := hS) (hD := hD.sub (ws' := [(h0, .inr (8, [.int th, v1, .ref q2, .ref q3, v4, .ref q5, .ref q6, v7, v8, v9, v10, v11, v12, v13, v14, .ref q15, v16])), (q2, .inl (c2, 67200, .inl (upd (upd f3 (4200 * r + i3) (f2 (4200 * r + i2))) (4200 * r + 1000 + i3) (f2 (4200 * r + 1000 + i2))))), (q3, .inl (c3, 16, .inl a3)), (q5, .inl (c5, 16, .inl a5)), (q6, .inl (c6, 16, .inl (upd a6 r (nI (2 * tb))))), (q15, .inl (c15, 4096, .inl f15))]) [4, 5, 0, 1, 2, 3] (by decide) rfl) (hi2 := by omega) (hn2 := by omega) (hv2 := outR_up' (outR_up hv3 (by omega)) (k := 1000 + i3) (by omega) (by omega)) (hl := lv_sub hl [0, 4, 5, 6] rfl)
            ·
              have ic_15 : 0 < ((i3 : Nat) : Int) := tx_nle (nI_toInt (by omega)) (by decide) c_15
              refine lv_aload_n hx hb dX8_doubled_96 rfl (lv_at hl 5 rfl) ?_
              refine lv_iload_n hx hb dX8_doubled_97 rfl (lv_at hl 6 rfl) ?_
              refine lv_aload_n hx hb dX8_doubled_98 rfl (lv_at hl 5 rfl) ?_
              refine lv_iload_n hx hb dX8_doubled_99 rfl (lv_at hl 6 rfl) ?_
              refine lv_iload hx hb dX8_doubled_100 (lv_at hl 0 rfl) ?_
              refine lv_iconst (v := 1) hx hb dX8_doubled_102 (by decide) ?_
              refine lv_isub hx hb dX8_doubled_103 ?_
              refine lv_topi (fun z_17 ez_17 => ?_)
              obtain rfl : z_17 = nI (i3 - 1) := ez_17.trans (by rw [show (1 : Int32) = nI 1 from rfl, pk_sub (by omega)])
              have hPc := hP.sub (ws' := [(h0, .inr (8, [.int th, v1, .ref q2, .ref q3, v4, .ref q5, .ref q6, v7, v8, v9, v10, v11, v12, v13, v14, .ref q15, v16])), (q2, .inl (c2, 67200, .inl f3))]) [4, 5] rfl
              have hDc := hD.sub (ws' := [(h0, .inr (8, [.int th, v1, .ref q2, .ref q3, v4, .ref q5, .ref q6, v7, v8, v9, v10, v11, v12, v13, v14, .ref q15, v16])), (q2, .inl (c2, 67200, .inl f3))]) [4, 5] (by decide) rfl
              have hKc := hK.sub (tys' := [(c2, .int)]) [0] rfl
              have hFc := va_free (wc := [(h0, .inr (8, [.int th, v1, .ref q2, .ref q3, v4, .ref q5, .ref q6, v7, v8, v9, v10, v11, v12, v13, v14, .ref q15, v16])), (q2, .inl (c2, 67200, .inl f3))]) hD hS hA [4, 5] rfl
              refine va_calli (va_runV (As := [.int (nI r), .int (nI (i3 - 1))]) (rest := [.int (nI r), .ref h0]) ⟨hx, hb, hml, hown, hts⟩ (c_X8_key l  dC dI H.size h0 th q2 c2 f3 v1 (.ref q3) v4 (.ref q5) (.ref q6) v7 v8 v9 v10 v11 v12 v13 v14 (.ref q15) v16 r (i3 - 1) hr9 (by omega)) (cwV 2 hts gX8_doubled_X8_key rfl rfl rfl (by decide +kernel) ⟨(Nat.le_of_ble_eq_true rfl), (Nat.le_of_ble_eq_true rfl)⟩) ⟨pk_blind, va_recv hKc hPc (ci := 8) (q0 := 0) rfl rfl, pk_call hPc hKc hDc⟩ rfl rfl hl.1 rfl (lv_room (Nat.le_of_ble_eq_true rfl)) dX8_doubled_104 ⟨(Nat.le_of_ble_eq_true rfl), (Nat.le_of_ble_eq_true rfl)⟩) hS (fun q _ h => hFc q h) hFc (fun r_18 ur_18 t H1 locs ht hvm hw hB hz1 hk1 hS => ?_)
              try dsimp only at hw
              obtain ⟨hP1, hK1, hD1⟩ := hB
              rw [ht] at hP1
              have hK1 := va_K.moved hvm.symm hK1
              obtain ⟨hP, hD⟩ := va_join (wr := [(q3, .inl (c3, 16, .inl a3)), (q5, .inl (c5, 16, .inl a5)), (q6, .inl (c6, 16, .inl (upd a6 r (nI (2 * tb))))), (q15, .inl (c15, 4096, .inl f15))]) (w1 := [(h0, .inr (8, [.int th, v1, .ref q2, .ref q3, v4, .ref q5, .ref q6, v7, v8, v9, v10, v11, v12, v13, v14, .ref q15, v16])), (q2, .inl (c2, 67200, .inl f3))]) hP hD [4, 5] [0, 1, 2, 3] rfl rfl (by decide) (by decide) hk1 hFc hP1 hD1
              clear hk1 hz1 ht hPc hDc hKc hFc
              generalize H1 = H at hP hS ⊢
              replace hP : va_P (dC, dI) vwCl [(q3, .inl (c3, 16, .inl a3)), (q5, .inl (c5, 16, .inl a5)), (q6, .inl (c6, 16, .inl (upd a6 r (nI (2 * tb))))), (q15, .inl (c15, 4096, .inl f15)), (h0, .inr (8, [.int th, v1, .ref q2, .ref q3, v4, .ref q5, .ref q6, v7, v8, v9, v10, v11, v12, v13, v14, .ref q15, v16])), (q2, .inl (c2, 67200, .inl f3))] H := hP
              replace hD : va_D A [(q3, .inl (c3, 16, .inl a3)), (q5, .inl (c5, 16, .inl a5)), (q6, .inl (c6, 16, .inl (upd a6 r (nI (2 * tb))))), (q15, .inl (c15, 4096, .inl f15)), (h0, .inr (8, [.int th, v1, .ref q2, .ref q3, v4, .ref q5, .ref q6, v7, v8, v9, v10, v11, v12, v13, v14, .ref q15, v16])), (q2, .inl (c2, 67200, .inl f3))] := hD
              refine W.widen (k := 0) (n := 0) (Nat.le_of_ble_eq_true rfl) (Nat.le_of_ble_eq_true rfl) ?_
              obtain rfl : r_18 = f3 (4200 * r + (i3 - 1)) := hw
              refine W.eq (g2 := F0 m 107 ls [.int (f3 (4200 * r + (i3 - 1))), .int (nI r), .ref h0]) rfl ?_
              have hPc := hP.sub (ws' := [(h0, .inr (8, [.int th, v1, .ref q2, .ref q3, v4, .ref q5, .ref q6, v7, v8, v9, v10, v11, v12, v13, v14, .ref q15, v16])), (q5, .inl (c5, 16, .inl a5)), (q6, .inl (c6, 16, .inl (upd a6 r (nI (2 * tb)))))]) [4, 1, 2] rfl
              have hDc := hD.sub (ws' := [(h0, .inr (8, [.int th, v1, .ref q2, .ref q3, v4, .ref q5, .ref q6, v7, v8, v9, v10, v11, v12, v13, v14, .ref q15, v16])), (q5, .inl (c5, 16, .inl a5)), (q6, .inl (c6, 16, .inl (upd a6 r (nI (2 * tb)))))]) [4, 1, 2] (by decide) rfl
              have hKc := hK.sub (tys' := [(c5, .int), (c6, .int)]) [2, 3] rfl
              have hFc := va_free (wc := [(h0, .inr (8, [.int th, v1, .ref q2, .ref q3, v4, .ref q5, .ref q6, v7, v8, v9, v10, v11, v12, v13, v14, .ref q15, v16])), (q5, .inl (c5, 16, .inl a5)), (q6, .inl (c6, 16, .inl (upd a6 r (nI (2 * tb)))))]) hD hS hA [4, 1, 2] rfl
              refine va_calli (va_runV (As := [.int (nI r), .int (f3 (4200 * r + (i3 - 1)))]) (rest := []) ⟨hx, hb, hml, hown, hts⟩ (c_X8_bin l  dC dI H.size h0 th q5 q6 c5 c6 a5 (upd a6 r (nI (2 * tb))) v1 (.ref q2) (.ref q3) v4 v7 v8 v9 v10 v11 v12 v13 v14 (.ref q15) v16 r (f3 (4200 * r + (i3 - 1))) (2 * tb) hr9 (by omega) (by omega) hj9 pk_us) (cwV 2 hts gX8_doubled_X8_bin rfl rfl rfl (by decide +kernel) ⟨(Nat.le_of_ble_eq_true rfl), (Nat.le_of_ble_eq_true rfl)⟩) ⟨pk_blind, va_recv hKc hPc (ci := 8) (q0 := 0) rfl rfl, pk_call hPc hKc hDc⟩ rfl rfl hl.1 rfl (lv_room (Nat.le_of_ble_eq_true rfl)) dX8_doubled_107 ⟨(Nat.le_of_ble_eq_true rfl), (Nat.le_of_ble_eq_true rfl)⟩) hS (fun q _ h => hFc q h) hFc (fun r_19 ur_19 t H1 locs ht hvm hw hB hz1 hk1 hS => ?_)
              try dsimp only at hw
              have jr_19 := hw
              obtain ⟨hP1, hK1, hD1⟩ := hB
              rw [ht] at hP1
              have hK1 := va_K.moved hvm.symm hK1
              obtain ⟨hP, hD⟩ := va_join (wr := [(q3, .inl (c3, 16, .inl a3)), (q15, .inl (c15, 4096, .inl f15)), (q2, .inl (c2, 67200, .inl f3))]) (w1 := [(h0, .inr (8, [.int th, v1, .ref q2, .ref q3, v4, .ref q5, .ref q6, v7, v8, v9, v10, v11, v12, v13, v14, .ref q15, v16])), (q5, .inl (c5, 16, .inl a5)), (q6, .inl (c6, 16, .inl (upd a6 r (nI (2 * tb)))))]) hP hD [4, 1, 2] [0, 3, 5] rfl rfl (by decide) (by decide) hk1 hFc hP1 hD1
              clear hk1 hz1 ht hPc hDc hKc hFc
              generalize H1 = H at hP hS ⊢
              replace hP : va_P (dC, dI) vwCl [(q3, .inl (c3, 16, .inl a3)), (q15, .inl (c15, 4096, .inl f15)), (q2, .inl (c2, 67200, .inl f3)), (h0, .inr (8, [.int th, v1, .ref q2, .ref q3, v4, .ref q5, .ref q6, v7, v8, v9, v10, v11, v12, v13, v14, .ref q15, v16])), (q5, .inl (c5, 16, .inl a5)), (q6, .inl (c6, 16, .inl (upd a6 r (nI (2 * tb)))))] H := hP
              replace hD : va_D A [(q3, .inl (c3, 16, .inl a3)), (q15, .inl (c15, 4096, .inl f15)), (q2, .inl (c2, 67200, .inl f3)), (h0, .inr (8, [.int th, v1, .ref q2, .ref q3, v4, .ref q5, .ref q6, v7, v8, v9, v10, v11, v12, v13, v14, .ref q15, v16])), (q5, .inl (c5, 16, .inl a5)), (q6, .inl (c6, 16, .inl (upd a6 r (nI (2 * tb)))))] := hD
              refine W.widen (k := 0) (n := 0) (Nat.le_of_ble_eq_true rfl) (Nat.le_of_ble_eq_true rfl) ?_
              refine W.eq (g2 := F0 m 110 ls [.int r_19]) rfl ?_
              refine lv_aload_n hx hb dX8_doubled_110 rfl (lv_at hl 5 rfl) ?_
              refine lv_iload_n hx hb dX8_doubled_111 rfl (lv_at hl 6 rfl) ?_
              refine lv_iload hx hb dX8_doubled_112 (lv_at hl 2 rfl) ?_
              have hPc := hP.sub (ws' := [(h0, .inr (8, [.int th, v1, .ref q2, .ref q3, v4, .ref q5, .ref q6, v7, v8, v9, v10, v11, v12, v13, v14, .ref q15, v16])), (q5, .inl (c5, 16, .inl a5)), (q6, .inl (c6, 16, .inl (upd a6 r (nI (2 * tb)))))]) [3, 4, 5] rfl
              have hDc := hD.sub (ws' := [(h0, .inr (8, [.int th, v1, .ref q2, .ref q3, v4, .ref q5, .ref q6, v7, v8, v9, v10, v11, v12, v13, v14, .ref q15, v16])), (q5, .inl (c5, 16, .inl a5)), (q6, .inl (c6, 16, .inl (upd a6 r (nI (2 * tb)))))]) [3, 4, 5] (by decide) rfl
              have hKc := hK.sub (tys' := [(c5, .int), (c6, .int)]) [2, 3] rfl
              have hFc := va_free (wc := [(h0, .inr (8, [.int th, v1, .ref q2, .ref q3, v4, .ref q5, .ref q6, v7, v8, v9, v10, v11, v12, v13, v14, .ref q15, v16])), (q5, .inl (c5, 16, .inl a5)), (q6, .inl (c6, 16, .inl (upd a6 r (nI (2 * tb)))))]) hD hS hA [3, 4, 5] rfl
              refine va_calli (va_runV (As := [.int (nI r), .int (f2 (4200 * r + i2))]) (rest := [.int r_19]) ⟨hx, hb, hml, hown, hts⟩ (c_X8_bin l  dC dI H.size h0 th q5 q6 c5 c6 a5 (upd a6 r (nI (2 * tb))) v1 (.ref q2) (.ref q3) v4 v7 v8 v9 v10 v11 v12 v13 v14 (.ref q15) v16 r (f2 (4200 * r + i2)) (2 * tb) hr9 (by omega) (by omega) hj9 pk_us) (cwV 2 hts gX8_doubled_X8_bin rfl rfl rfl (by decide +kernel) ⟨(Nat.le_of_ble_eq_true rfl), (Nat.le_of_ble_eq_true rfl)⟩) ⟨pk_blind, va_recv hKc hPc (ci := 8) (q0 := 0) rfl rfl, pk_call hPc hKc hDc⟩ rfl rfl hl.1 rfl (lv_room (Nat.le_of_ble_eq_true rfl)) dX8_doubled_114 ⟨(Nat.le_of_ble_eq_true rfl), (Nat.le_of_ble_eq_true rfl)⟩) hS (fun q _ h => hFc q h) hFc (fun r_20 ur_20 t H1 locs ht hvm hw hB hz1 hk1 hS => ?_)
              try dsimp only at hw
              have jr_20 := hw
              obtain ⟨hP1, hK1, hD1⟩ := hB
              rw [ht] at hP1
              have hK1 := va_K.moved hvm.symm hK1
              obtain ⟨hP, hD⟩ := va_join (wr := [(q3, .inl (c3, 16, .inl a3)), (q15, .inl (c15, 4096, .inl f15)), (q2, .inl (c2, 67200, .inl f3))]) (w1 := [(h0, .inr (8, [.int th, v1, .ref q2, .ref q3, v4, .ref q5, .ref q6, v7, v8, v9, v10, v11, v12, v13, v14, .ref q15, v16])), (q5, .inl (c5, 16, .inl a5)), (q6, .inl (c6, 16, .inl (upd a6 r (nI (2 * tb)))))]) hP hD [3, 4, 5] [0, 1, 2] rfl rfl (by decide) (by decide) hk1 hFc hP1 hD1
              clear hk1 hz1 ht hPc hDc hKc hFc
              generalize H1 = H at hP hS ⊢
              replace hP : va_P (dC, dI) vwCl [(q3, .inl (c3, 16, .inl a3)), (q15, .inl (c15, 4096, .inl f15)), (q2, .inl (c2, 67200, .inl f3)), (h0, .inr (8, [.int th, v1, .ref q2, .ref q3, v4, .ref q5, .ref q6, v7, v8, v9, v10, v11, v12, v13, v14, .ref q15, v16])), (q5, .inl (c5, 16, .inl a5)), (q6, .inl (c6, 16, .inl (upd a6 r (nI (2 * tb)))))] H := hP
              replace hD : va_D A [(q3, .inl (c3, 16, .inl a3)), (q15, .inl (c15, 4096, .inl f15)), (q2, .inl (c2, 67200, .inl f3)), (h0, .inr (8, [.int th, v1, .ref q2, .ref q3, v4, .ref q5, .ref q6, v7, v8, v9, v10, v11, v12, v13, v14, .ref q15, v16])), (q5, .inl (c5, 16, .inl a5)), (q6, .inl (c6, 16, .inl (upd a6 r (nI (2 * tb)))))] := hD
              refine W.widen (k := 0) (n := 0) (Nat.le_of_ble_eq_true rfl) (Nat.le_of_ble_eq_true rfl) ?_
              refine W.eq (g2 := F0 m 117 ls [.int r_20, .int r_19]) rfl ?_
              refine lv_icmp_le (tgt := 151) hx hb dX8_doubled_117 (by decide) (fun c_21 => ?_) (fun c_21 => ?_)
              ·
                have ic_21 : r_19.toInt ≤ r_20.toInt := tx_le rfl rfl c_21
                refine lv_aload_n hx hb dX8_doubled_151 rfl (lv_at hl 5 rfl) ?_
                refine lv_iload_n hx hb dX8_doubled_152 rfl (lv_at hl 6 rfl) ?_
                refine lv_iload hx hb dX8_doubled_153 (lv_at hl 0 rfl) ?_
                refine lv_iload hx hb dX8_doubled_155 (lv_at hl 2 rfl) ?_
                refine lv_iload hx hb dX8_doubled_157 (lv_at hl 1 rfl) ?_
                have hPc := hP.sub (ws' := [(h0, .inr (8, [.int th, v1, .ref q2, .ref q3, v4, .ref q5, .ref q6, v7, v8, v9, v10, v11, v12, v13, v14, .ref q15, v16])), (q2, .inl (c2, 67200, .inl f3))]) [3, 2] rfl
                have hDc := hD.sub (ws' := [(h0, .inr (8, [.int th, v1, .ref q2, .ref q3, v4, .ref q5, .ref q6, v7, v8, v9, v10, v11, v12, v13, v14, .ref q15, v16])), (q2, .inl (c2, 67200, .inl f3))]) [3, 2] (by decide) rfl
                have hKc := hK.sub (tys' := [(c2, .int)]) [0] rfl
                have hFc := va_free (wc := [(h0, .inr (8, [.int th, v1, .ref q2, .ref q3, v4, .ref q5, .ref q6, v7, v8, v9, v10, v11, v12, v13, v14, .ref q15, v16])), (q2, .inl (c2, 67200, .inl f3))]) hD hS hA [3, 2] rfl
                refine va_callv (va_runV (As := [.int (nI r), .int (nI i3), .int (f2 (4200 * r + i2)), .int (f2 (4200 * r + 1000 + i2))]) (rest := []) ⟨hx, hb, hml, hown, hts⟩ (c_X8_set l  dC dI H.size h0 th q2 c2 f3 v1 (.ref q3) v4 (.ref q5) (.ref q6) v7 v8 v9 v10 v11 v12 v13 v14 (.ref q15) v16 r i3 (f2 (4200 * r + i2)) (f2 (4200 * r + 1000 + i2)) hr9 (by omega)) (cwV 4 hts gX8_doubled_X8_set rfl rfl rfl (by decide +kernel) ⟨(Nat.le_of_ble_eq_true rfl), (Nat.le_of_ble_eq_true rfl)⟩) ⟨pk_blind, va_recv hKc hPc (ci := 8) (q0 := 0) rfl rfl, pk_call hPc hKc hDc⟩ rfl rfl hl.1 rfl (lv_room (Nat.le_of_ble_eq_true rfl)) dX8_doubled_159 ⟨(Nat.le_of_ble_eq_true rfl), (Nat.le_of_ble_eq_true rfl)⟩) hS (fun q _ h => hFc q h) hFc (fun ur_22 t H1 locs ht hvm hw hB hz1 hk1 hS => ?_)
                try dsimp only at hw
                have jr_22 := hw
                obtain ⟨hP1, hK1, hD1⟩ := hB
                rw [ht] at hP1
                have hK1 := va_K.moved hvm.symm hK1
                obtain ⟨hP, hD⟩ := va_join (wr := [(q3, .inl (c3, 16, .inl a3)), (q15, .inl (c15, 4096, .inl f15)), (q5, .inl (c5, 16, .inl a5)), (q6, .inl (c6, 16, .inl (upd a6 r (nI (2 * tb)))))]) (w1 := [(h0, .inr (8, [.int th, v1, .ref q2, .ref q3, v4, .ref q5, .ref q6, v7, v8, v9, v10, v11, v12, v13, v14, .ref q15, v16])), (q2, .inl (c2, 67200, .inl (upd (upd f3 (4200 * r + i3) (f2 (4200 * r + i2))) (4200 * r + 1000 + i3) (f2 (4200 * r + 1000 + i2)))))]) hP hD [3, 2] [0, 1, 4, 5] rfl rfl (by decide) (by decide) hk1 hFc hP1 hD1
                clear hk1 hz1 ht hPc hDc hKc hFc
                generalize H1 = H at hP hS ⊢
                replace hP : va_P (dC, dI) vwCl [(q3, .inl (c3, 16, .inl a3)), (q15, .inl (c15, 4096, .inl f15)), (q5, .inl (c5, 16, .inl a5)), (q6, .inl (c6, 16, .inl (upd a6 r (nI (2 * tb))))), (h0, .inr (8, [.int th, v1, .ref q2, .ref q3, v4, .ref q5, .ref q6, v7, v8, v9, v10, v11, v12, v13, v14, .ref q15, v16])), (q2, .inl (c2, 67200, .inl (upd (upd f3 (4200 * r + i3) (f2 (4200 * r + i2))) (4200 * r + 1000 + i3) (f2 (4200 * r + 1000 + i2)))))] H := hP
                replace hD : va_D A [(q3, .inl (c3, 16, .inl a3)), (q15, .inl (c15, 4096, .inl f15)), (q5, .inl (c5, 16, .inl a5)), (q6, .inl (c6, 16, .inl (upd a6 r (nI (2 * tb))))), (h0, .inr (8, [.int th, v1, .ref q2, .ref q3, v4, .ref q5, .ref q6, v7, v8, v9, v10, v11, v12, v13, v14, .ref q15, v16])), (q2, .inl (c2, 67200, .inl (upd (upd f3 (4200 * r + i3) (f2 (4200 * r + i2))) (4200 * r + 1000 + i3) (f2 (4200 * r + 1000 + i2)))))] := hD
                refine W.widen (k := 0) (n := 0) (Nat.le_of_ble_eq_true rfl) (Nat.le_of_ble_eq_true rfl) ?_
                refine W.eq (g2 := F0 m 162 ls []) rfl ?_
                refine lv_iinc (v := nI (i2 + 1)) (lv' := [(3, .int (nI (i2 + 1))), (6, .int (nI i3)), (5, .int (f2 (4200 * r + 1000 + i2))), (4, .int (f2 (4200 * r + i2))), (2, .int (nI tb)), (0, .ref h0), (1, .int (nI r))]) hx hb dX8_doubled_162 hl (k := 3) rfl (by rw [show Int32.ofInt 1 = nI 1 from rfl, nI_add]) (by decide) rfl (fun ls hl => ?_)
                refine lv_goto (tgt := 62) hx hb dX8_doubled_165 (by decide) ?_
                exact ihB (i2 := i2 + 1) (x2 := nI (i2 + 1)) (ex2 := rfl) (ls := ls) (f2 := (upd (upd f3 (4200 * r + i3) (f2 (4200 * r + i2))) (4200 * r + 1000 + i3) (f2 (4200 * r + 1000 + i2)))) (H := H) (locs := locs) (hP := hP.sub (ws' := [(h0, .inr (8, [.int th, v1, .ref q2, .ref q3, v4, .ref q5, .ref q6, v7, v8, v9, v10, v11, v12, v13, v14, .ref q15, v16])), (q2, .inl (c2, 67200, .inl (upd (upd f3 (4200 * r + i3) (f2 (4200 * r + i2))) (4200 * r + 1000 + i3) (f2 (4200 * r + 1000 + i2))))), (q3, .inl (c3, 16, .inl a3)), (q5, .inl (c5, 16, .inl a5)), (q6, .inl (c6, 16, .inl (upd a6 r (nI (2 * tb))))), (q15, .inl (c15, 4096, .inl f15))]) [4, 5, 0, 2, 3, 1] rfl) (hS := hS) (hD := hD.sub (ws' := [(h0, .inr (8, [.int th, v1, .ref q2, .ref q3, v4, .ref q5, .ref q6, v7, v8, v9, v10, v11, v12, v13, v14, .ref q15, v16])), (q2, .inl (c2, 67200, .inl (upd (upd f3 (4200 * r + i3) (f2 (4200 * r + i2))) (4200 * r + 1000 + i3) (f2 (4200 * r + 1000 + i2))))), (q3, .inl (c3, 16, .inl a3)), (q5, .inl (c5, 16, .inl a5)), (q6, .inl (c6, 16, .inl (upd a6 r (nI (2 * tb))))), (q15, .inl (c15, 4096, .inl f15))]) [4, 5, 0, 2, 3, 1] (by decide) rfl) (hi2 := by omega) (hn2 := by omega) (hv2 := outR_up' (outR_up hv3 (by omega)) (k := 1000 + i3) (by omega) (by omega)) (hl := lv_sub hl [0, 4, 5, 6] rfl)
              ·
                have ic_21 : r_20.toInt < r_19.toInt := tx_nle rfl rfl c_21
                refine lv_aload_n hx hb dX8_doubled_120 rfl (lv_at hl 5 rfl) ?_
                refine lv_iload_n hx hb dX8_doubled_121 rfl (lv_at hl 6 rfl) ?_
                refine lv_iload hx hb dX8_doubled_122 (lv_at hl 0 rfl) ?_
                refine lv_aload_n hx hb dX8_doubled_124 rfl (lv_at hl 5 rfl) ?_
                refine lv_iload_n hx hb dX8_doubled_125 rfl (lv_at hl 6 rfl) ?_
                refine lv_iload hx hb dX8_doubled_126 (lv_at hl 0 rfl) ?_
                refine lv_iconst (v := 1) hx hb dX8_doubled_128 (by decide) ?_
                refine lv_isub hx hb dX8_doubled_129 ?_
                refine lv_topi (fun z_23 ez_23 => ?_)
                obtain rfl : z_23 = nI (i3 - 1) := ez_23.trans (by rw [show (1 : Int32) = nI 1 from rfl, pk_sub (by omega)])
                have hPc := hP.sub (ws' := [(h0, .inr (8, [.int th, v1, .ref q2, .ref q3, v4, .ref q5, .ref q6, v7, v8, v9, v10, v11, v12, v13, v14, .ref q15, v16])), (q2, .inl (c2, 67200, .inl f3))]) [3, 2] rfl
                have hDc := hD.sub (ws' := [(h0, .inr (8, [.int th, v1, .ref q2, .ref q3, v4, .ref q5, .ref q6, v7, v8, v9, v10, v11, v12, v13, v14, .ref q15, v16])), (q2, .inl (c2, 67200, .inl f3))]) [3, 2] (by decide) rfl
                have hKc := hK.sub (tys' := [(c2, .int)]) [0] rfl
                have hFc := va_free (wc := [(h0, .inr (8, [.int th, v1, .ref q2, .ref q3, v4, .ref q5, .ref q6, v7, v8, v9, v10, v11, v12, v13, v14, .ref q15, v16])), (q2, .inl (c2, 67200, .inl f3))]) hD hS hA [3, 2] rfl
                refine va_calli (va_runV (As := [.int (nI r), .int (nI (i3 - 1))]) (rest := [.int (nI i3), .int (nI r), .ref h0]) ⟨hx, hb, hml, hown, hts⟩ (c_X8_key l  dC dI H.size h0 th q2 c2 f3 v1 (.ref q3) v4 (.ref q5) (.ref q6) v7 v8 v9 v10 v11 v12 v13 v14 (.ref q15) v16 r (i3 - 1) hr9 (by omega)) (cwV 2 hts gX8_doubled_X8_key rfl rfl rfl (by decide +kernel) ⟨(Nat.le_of_ble_eq_true rfl), (Nat.le_of_ble_eq_true rfl)⟩) ⟨pk_blind, va_recv hKc hPc (ci := 8) (q0 := 0) rfl rfl, pk_call hPc hKc hDc⟩ rfl rfl hl.1 rfl (lv_room (Nat.le_of_ble_eq_true rfl)) dX8_doubled_130 ⟨(Nat.le_of_ble_eq_true rfl), (Nat.le_of_ble_eq_true rfl)⟩) hS (fun q _ h => hFc q h) hFc (fun r_24 ur_24 t H1 locs ht hvm hw hB hz1 hk1 hS => ?_)
                try dsimp only at hw
                obtain ⟨hP1, hK1, hD1⟩ := hB
                rw [ht] at hP1
                have hK1 := va_K.moved hvm.symm hK1
                obtain ⟨hP, hD⟩ := va_join (wr := [(q3, .inl (c3, 16, .inl a3)), (q15, .inl (c15, 4096, .inl f15)), (q5, .inl (c5, 16, .inl a5)), (q6, .inl (c6, 16, .inl (upd a6 r (nI (2 * tb)))))]) (w1 := [(h0, .inr (8, [.int th, v1, .ref q2, .ref q3, v4, .ref q5, .ref q6, v7, v8, v9, v10, v11, v12, v13, v14, .ref q15, v16])), (q2, .inl (c2, 67200, .inl f3))]) hP hD [3, 2] [0, 1, 4, 5] rfl rfl (by decide) (by decide) hk1 hFc hP1 hD1
                clear hk1 hz1 ht hPc hDc hKc hFc
                generalize H1 = H at hP hS ⊢
                replace hP : va_P (dC, dI) vwCl [(q3, .inl (c3, 16, .inl a3)), (q15, .inl (c15, 4096, .inl f15)), (q5, .inl (c5, 16, .inl a5)), (q6, .inl (c6, 16, .inl (upd a6 r (nI (2 * tb))))), (h0, .inr (8, [.int th, v1, .ref q2, .ref q3, v4, .ref q5, .ref q6, v7, v8, v9, v10, v11, v12, v13, v14, .ref q15, v16])), (q2, .inl (c2, 67200, .inl f3))] H := hP
                replace hD : va_D A [(q3, .inl (c3, 16, .inl a3)), (q15, .inl (c15, 4096, .inl f15)), (q5, .inl (c5, 16, .inl a5)), (q6, .inl (c6, 16, .inl (upd a6 r (nI (2 * tb))))), (h0, .inr (8, [.int th, v1, .ref q2, .ref q3, v4, .ref q5, .ref q6, v7, v8, v9, v10, v11, v12, v13, v14, .ref q15, v16])), (q2, .inl (c2, 67200, .inl f3))] := hD
                refine W.widen (k := 0) (n := 0) (Nat.le_of_ble_eq_true rfl) (Nat.le_of_ble_eq_true rfl) ?_
                obtain rfl : r_24 = f3 (4200 * r + (i3 - 1)) := hw
                refine W.eq (g2 := F0 m 133 ls [.int (f3 (4200 * r + (i3 - 1))), .int (nI i3), .int (nI r), .ref h0]) rfl ?_
                refine lv_aload_n hx hb dX8_doubled_133 rfl (lv_at hl 5 rfl) ?_
                refine lv_iload_n hx hb dX8_doubled_134 rfl (lv_at hl 6 rfl) ?_
                refine lv_iload hx hb dX8_doubled_135 (lv_at hl 0 rfl) ?_
                refine lv_iconst (v := 1) hx hb dX8_doubled_137 (by decide) ?_
                refine lv_isub hx hb dX8_doubled_138 ?_
                refine lv_topi (fun z_25 ez_25 => ?_)
                obtain rfl : z_25 = nI (i3 - 1) := ez_25.trans (by rw [show (1 : Int32) = nI 1 from rfl, pk_sub (by omega)])
                have hPc := hP.sub (ws' := [(h0, .inr (8, [.int th, v1, .ref q2, .ref q3, v4, .ref q5, .ref q6, v7, v8, v9, v10, v11, v12, v13, v14, .ref q15, v16])), (q2, .inl (c2, 67200, .inl f3))]) [4, 5] rfl
                have hDc := hD.sub (ws' := [(h0, .inr (8, [.int th, v1, .ref q2, .ref q3, v4, .ref q5, .ref q6, v7, v8, v9, v10, v11, v12, v13, v14, .ref q15, v16])), (q2, .inl (c2, 67200, .inl f3))]) [4, 5] (by decide) rfl
                have hKc := hK.sub (tys' := [(c2, .int)]) [0] rfl
                have hFc := va_free (wc := [(h0, .inr (8, [.int th, v1, .ref q2, .ref q3, v4, .ref q5, .ref q6, v7, v8, v9, v10, v11, v12, v13, v14, .ref q15, v16])), (q2, .inl (c2, 67200, .inl f3))]) hD hS hA [4, 5] rfl
                refine va_calli (va_runV (As := [.int (nI r), .int (nI (i3 - 1))]) (rest := [.int (f3 (4200 * r + (i3 - 1))), .int (nI i3), .int (nI r), .ref h0]) ⟨hx, hb, hml, hown, hts⟩ (c_X8_value l  dC dI H.size h0 th q2 c2 f3 v1 (.ref q3) v4 (.ref q5) (.ref q6) v7 v8 v9 v10 v11 v12 v13 v14 (.ref q15) v16 r (i3 - 1) hr9 (by omega)) (cwV 2 hts gX8_doubled_X8_value rfl rfl rfl (by decide +kernel) ⟨(Nat.le_of_ble_eq_true rfl), (Nat.le_of_ble_eq_true rfl)⟩) ⟨pk_blind, va_recv hKc hPc (ci := 8) (q0 := 0) rfl rfl, pk_call hPc hKc hDc⟩ rfl rfl hl.1 rfl (lv_room (Nat.le_of_ble_eq_true rfl)) dX8_doubled_139 ⟨(Nat.le_of_ble_eq_true rfl), (Nat.le_of_ble_eq_true rfl)⟩) hS (fun q _ h => hFc q h) hFc (fun r_26 ur_26 t H1 locs ht hvm hw hB hz1 hk1 hS => ?_)
                try dsimp only at hw
                obtain ⟨hP1, hK1, hD1⟩ := hB
                rw [ht] at hP1
                have hK1 := va_K.moved hvm.symm hK1
                obtain ⟨hP, hD⟩ := va_join (wr := [(q3, .inl (c3, 16, .inl a3)), (q15, .inl (c15, 4096, .inl f15)), (q5, .inl (c5, 16, .inl a5)), (q6, .inl (c6, 16, .inl (upd a6 r (nI (2 * tb)))))]) (w1 := [(h0, .inr (8, [.int th, v1, .ref q2, .ref q3, v4, .ref q5, .ref q6, v7, v8, v9, v10, v11, v12, v13, v14, .ref q15, v16])), (q2, .inl (c2, 67200, .inl f3))]) hP hD [4, 5] [0, 1, 2, 3] rfl rfl (by decide) (by decide) hk1 hFc hP1 hD1
                clear hk1 hz1 ht hPc hDc hKc hFc
                generalize H1 = H at hP hS ⊢
                replace hP : va_P (dC, dI) vwCl [(q3, .inl (c3, 16, .inl a3)), (q15, .inl (c15, 4096, .inl f15)), (q5, .inl (c5, 16, .inl a5)), (q6, .inl (c6, 16, .inl (upd a6 r (nI (2 * tb))))), (h0, .inr (8, [.int th, v1, .ref q2, .ref q3, v4, .ref q5, .ref q6, v7, v8, v9, v10, v11, v12, v13, v14, .ref q15, v16])), (q2, .inl (c2, 67200, .inl f3))] H := hP
                replace hD : va_D A [(q3, .inl (c3, 16, .inl a3)), (q15, .inl (c15, 4096, .inl f15)), (q5, .inl (c5, 16, .inl a5)), (q6, .inl (c6, 16, .inl (upd a6 r (nI (2 * tb))))), (h0, .inr (8, [.int th, v1, .ref q2, .ref q3, v4, .ref q5, .ref q6, v7, v8, v9, v10, v11, v12, v13, v14, .ref q15, v16])), (q2, .inl (c2, 67200, .inl f3))] := hD
                refine W.widen (k := 0) (n := 0) (Nat.le_of_ble_eq_true rfl) (Nat.le_of_ble_eq_true rfl) ?_
                obtain rfl : r_26 = f3 (4200 * r + 1000 + (i3 - 1)) := hw
                refine W.eq (g2 := F0 m 142 ls [.int (f3 (4200 * r + 1000 + (i3 - 1))), .int (f3 (4200 * r + (i3 - 1))), .int (nI i3), .int (nI r), .ref h0]) rfl ?_
                have hPc := hP.sub (ws' := [(h0, .inr (8, [.int th, v1, .ref q2, .ref q3, v4, .ref q5, .ref q6, v7, v8, v9, v10, v11, v12, v13, v14, .ref q15, v16])), (q2, .inl (c2, 67200, .inl f3))]) [4, 5] rfl
                have hDc := hD.sub (ws' := [(h0, .inr (8, [.int th, v1, .ref q2, .ref q3, v4, .ref q5, .ref q6, v7, v8, v9, v10, v11, v12, v13, v14, .ref q15, v16])), (q2, .inl (c2, 67200, .inl f3))]) [4, 5] (by decide) rfl
                have hKc := hK.sub (tys' := [(c2, .int)]) [0] rfl
                have hFc := va_free (wc := [(h0, .inr (8, [.int th, v1, .ref q2, .ref q3, v4, .ref q5, .ref q6, v7, v8, v9, v10, v11, v12, v13, v14, .ref q15, v16])), (q2, .inl (c2, 67200, .inl f3))]) hD hS hA [4, 5] rfl
                refine va_callv (va_runV (As := [.int (nI r), .int (nI i3), .int (f3 (4200 * r + (i3 - 1))), .int (f3 (4200 * r + 1000 + (i3 - 1)))]) (rest := []) ⟨hx, hb, hml, hown, hts⟩ (c_X8_set l  dC dI H.size h0 th q2 c2 f3 v1 (.ref q3) v4 (.ref q5) (.ref q6) v7 v8 v9 v10 v11 v12 v13 v14 (.ref q15) v16 r i3 (f3 (4200 * r + (i3 - 1))) (f3 (4200 * r + 1000 + (i3 - 1))) hr9 (by omega)) (cwV 4 hts gX8_doubled_X8_set rfl rfl rfl (by decide +kernel) ⟨(Nat.le_of_ble_eq_true rfl), (Nat.le_of_ble_eq_true rfl)⟩) ⟨pk_blind, va_recv hKc hPc (ci := 8) (q0 := 0) rfl rfl, pk_call hPc hKc hDc⟩ rfl rfl hl.1 rfl (lv_room (Nat.le_of_ble_eq_true rfl)) dX8_doubled_142 ⟨(Nat.le_of_ble_eq_true rfl), (Nat.le_of_ble_eq_true rfl)⟩) hS (fun q _ h => hFc q h) hFc (fun ur_27 t H1 locs ht hvm hw hB hz1 hk1 hS => ?_)
                try dsimp only at hw
                have jr_27 := hw
                obtain ⟨hP1, hK1, hD1⟩ := hB
                rw [ht] at hP1
                have hK1 := va_K.moved hvm.symm hK1
                obtain ⟨hP, hD⟩ := va_join (wr := [(q3, .inl (c3, 16, .inl a3)), (q15, .inl (c15, 4096, .inl f15)), (q5, .inl (c5, 16, .inl a5)), (q6, .inl (c6, 16, .inl (upd a6 r (nI (2 * tb)))))]) (w1 := [(h0, .inr (8, [.int th, v1, .ref q2, .ref q3, v4, .ref q5, .ref q6, v7, v8, v9, v10, v11, v12, v13, v14, .ref q15, v16])), (q2, .inl (c2, 67200, .inl (upd (upd f3 (4200 * r + i3) (f3 (4200 * r + (i3 - 1)))) (4200 * r + 1000 + i3) (f3 (4200 * r + 1000 + (i3 - 1))))))]) hP hD [4, 5] [0, 1, 2, 3] rfl rfl (by decide) (by decide) hk1 hFc hP1 hD1
                clear hk1 hz1 ht hPc hDc hKc hFc
                generalize H1 = H at hP hS ⊢
                replace hP : va_P (dC, dI) vwCl [(q3, .inl (c3, 16, .inl a3)), (q15, .inl (c15, 4096, .inl f15)), (q5, .inl (c5, 16, .inl a5)), (q6, .inl (c6, 16, .inl (upd a6 r (nI (2 * tb))))), (h0, .inr (8, [.int th, v1, .ref q2, .ref q3, v4, .ref q5, .ref q6, v7, v8, v9, v10, v11, v12, v13, v14, .ref q15, v16])), (q2, .inl (c2, 67200, .inl (upd (upd f3 (4200 * r + i3) (f3 (4200 * r + (i3 - 1)))) (4200 * r + 1000 + i3) (f3 (4200 * r + 1000 + (i3 - 1))))))] H := hP
                replace hD : va_D A [(q3, .inl (c3, 16, .inl a3)), (q15, .inl (c15, 4096, .inl f15)), (q5, .inl (c5, 16, .inl a5)), (q6, .inl (c6, 16, .inl (upd a6 r (nI (2 * tb))))), (h0, .inr (8, [.int th, v1, .ref q2, .ref q3, v4, .ref q5, .ref q6, v7, v8, v9, v10, v11, v12, v13, v14, .ref q15, v16])), (q2, .inl (c2, 67200, .inl (upd (upd f3 (4200 * r + i3) (f3 (4200 * r + (i3 - 1)))) (4200 * r + 1000 + i3) (f3 (4200 * r + 1000 + (i3 - 1))))))] := hD
                refine W.widen (k := 0) (n := 0) (Nat.le_of_ble_eq_true rfl) (Nat.le_of_ble_eq_true rfl) ?_
                refine W.eq (g2 := F0 m 145 ls []) rfl ?_
                refine lv_iinc (v := nI (i3 - 1)) (lv' := [(6, .int (nI (i3 - 1))), (5, .int (f2 (4200 * r + 1000 + i2))), (4, .int (f2 (4200 * r + i2))), (3, .int (nI i2)), (2, .int (nI tb)), (0, .ref h0), (1, .int (nI r))]) hx hb dX8_doubled_145 hl (k := 0) rfl (by rw [show Int32.ofInt (-1) = -1 from rfl]; exact sb_m1 (by omega)) (by decide) rfl (fun ls hl => ?_)
                refine lv_goto (tgt := 91) hx hb dX8_doubled_148 (by decide) ?_
                exact ihC (i3 := i3 - 1) (x3 := nI (i3 - 1)) (ex3 := rfl) (ls := ls) (f3 := (upd (upd f3 (4200 * r + i3) (f3 (4200 * r + (i3 - 1)))) (4200 * r + 1000 + i3) (f3 (4200 * r + 1000 + (i3 - 1))))) (H := H) (locs := locs) (hP := hP.sub (ws' := [(q3, .inl (c3, 16, .inl a3)), (q5, .inl (c5, 16, .inl a5)), (q6, .inl (c6, 16, .inl (upd a6 r (nI (2 * tb))))), (q15, .inl (c15, 4096, .inl f15)), (h0, .inr (8, [.int th, v1, .ref q2, .ref q3, v4, .ref q5, .ref q6, v7, v8, v9, v10, v11, v12, v13, v14, .ref q15, v16])), (q2, .inl (c2, 67200, .inl (upd (upd f3 (4200 * r + i3) (f3 (4200 * r + (i3 - 1)))) (4200 * r + 1000 + i3) (f3 (4200 * r + 1000 + (i3 - 1))))))]) [0, 2, 3, 1, 4, 5] rfl) (hS := hS) (hD := hD.sub (ws' := [(q3, .inl (c3, 16, .inl a3)), (q5, .inl (c5, 16, .inl a5)), (q6, .inl (c6, 16, .inl (upd a6 r (nI (2 * tb))))), (q15, .inl (c15, 4096, .inl f15)), (h0, .inr (8, [.int th, v1, .ref q2, .ref q3, v4, .ref q5, .ref q6, v7, v8, v9, v10, v11, v12, v13, v14, .ref q15, v16])), (q2, .inl (c2, 67200, .inl (upd (upd f3 (4200 * r + i3) (f3 (4200 * r + (i3 - 1)))) (4200 * r + 1000 + i3) (f3 (4200 * r + 1000 + (i3 - 1))))))]) [0, 2, 3, 1, 4, 5] (by decide) rfl) (hi3 := by omega) (hn3 := by omega) (hv3 := outR_up' (outR_up hv3 (by omega)) (k := 1000 + i3) (by omega) (by omega)) (hl := lv_sub hl [0, 1, 2, 3, 4, 5, 6] rfl)
    ·
      have ic_1 : ((i : Nat) : Int) < ((tb : Nat) : Int) := tx_nle (nI_toInt (by omega)) (nI_toInt (by omega)) c_1
      refine lv_aload_n hx hb dX8_doubled_14 rfl (lv_at hl 2 rfl) ?_
      refine va_get (D := (dC, dI)) (ci := 8) (v := .ref q15) (C := RX8) (T := TX8) (N := 17) hx hb hts hi0_ hown hK hP 0 rfl rfl 15 (by decide) hw3_ (fun _ h9 => h9) rfl dX8_doubled_15 ?_
      refine lv_iload_n hx hb dX8_doubled_18 rfl (lv_at hl 0 rfl) ?_
      refine lv_aload_n hx hb dX8_doubled_19 rfl (lv_at hl 2 rfl) ?_
      refine va_get (D := (dC, dI)) (ci := 8) (v := .ref q2) (C := RX8) (T := TX8) (N := 17) hx hb hts hi0_ hown hK hP 0 rfl rfl 2 (by decide) hw2_ (fun _ h9 => h9) rfl dX8_doubled_20 ?_
      refine lv_sipush (v := 4200) hx hb dX8_doubled_23 (by decide) ?_
      refine lv_iload_n hx hb dX8_doubled_26 rfl (lv_at hl 3 rfl) ?_
      refine lv_imul hx hb dX8_doubled_27 ?_
      refine lv_topi (fun z_28 ez_28 => ?_)
      obtain rfl : z_28 = nI (4200 * r) := ez_28.trans (by rw [show (4200 : Int32) = nI 4200 from rfl, pk_mul])
      refine lv_sipush (v := 2000) hx hb dX8_doubled_28 (by decide) ?_
      refine lv_iadd hx hb dX8_doubled_31 ?_
      refine lv_topi (fun z_29 ez_29 => ?_)
      obtain rfl : z_29 = nI ((4200 * r) + 2000) := ez_29.trans (by rw [show (2000 : Int32) = nI 2000 from rfl, nI_add])
      refine lv_iload_n hx hb dX8_doubled_32 rfl (lv_at hl 0 rfl) ?_
      refine lv_iadd hx hb dX8_doubled_33 ?_
      refine lv_topi (fun z_30 ez_30 => ?_)
      obtain rfl : z_30 = nI (((4200 * r) + 2000) + i) := ez_30.trans (by rw [nI_add])
      refine va_iald (i := nI (((4200 * r) + 2000) + i)) hx hb hK hP 1 0 rfl rfl (vp_in_nI (by omega) (by omega)) dX8_doubled_34 ?_
      refine W.eq (g2 := F0 m 35 ls [.int (a2 (((4200 * r) + 2000) + i)), .int (nI i), .ref q15]) (by rw [nI_clamp (by omega)]) ?_
      refine lv_iconst (v := 1) hx hb dX8_doubled_35 (by decide) ?_
      refine lv_icmp_ne (tgt := 43) hx hb dX8_doubled_36 (by decide) (fun c_31 => ?_) (fun c_31 => ?_)
      ·
        have ic_31 : ¬ (a2 (((4200 * r) + 2000) + i)).toInt = 1 := tx_ne rfl (by decide) c_31
        refine lv_iconst (v := 0) hx hb dX8_doubled_43 (by decide) ?_
        refine va_zast (i := nI i) hx hb hK hP hD hS 5 4 rfl rfl (vp_in_nI (by omega) (by omega)) dX8_doubled_44 (fun H locs hP hD hS => ?_)
        rw [nI_clamp (by omega)] at hP hD
        replace hP : va_P (dC, dI) vwCl [(h0, .inr (8, [.int th, v1, .ref q2, .ref q3, v4, .ref q5, .ref q6, v7, v8, v9, v10, v11, v12, v13, v14, .ref q15, v16])), (q2, .inl (c2, 67200, .inl a2)), (q3, .inl (c3, 16, .inl a3)), (q5, .inl (c5, 16, .inl a5)), (q6, .inl (c6, 16, .inl a6)), (q15, .inl (c15, 4096, .inl (upd f15 i 0)))] H := hP
        replace hD : va_D A [(h0, .inr (8, [.int th, v1, .ref q2, .ref q3, v4, .ref q5, .ref q6, v7, v8, v9, v10, v11, v12, v13, v14, .ref q15, v16])), (q2, .inl (c2, 67200, .inl a2)), (q3, .inl (c3, 16, .inl a3)), (q5, .inl (c5, 16, .inl a5)), (q6, .inl (c6, 16, .inl a6)), (q15, .inl (c15, 4096, .inl (upd f15 i 0)))] := hD
        refine lv_iinc (v := nI (i + 1)) (lv' := [(3, .int (nI (i + 1))), (2, .int (nI tb)), (0, .ref h0), (1, .int (nI r))]) hx hb dX8_doubled_45 hl (k := 0) rfl (by rw [show Int32.ofInt 1 = nI 1 from rfl, nI_add]) (by decide) rfl (fun ls hl => ?_)
        refine lv_goto (tgt := 9) hx hb dX8_doubled_48 (by decide) ?_
        exact ihA (i := i + 1) (x1 := nI (i + 1)) (ex1 := rfl) (ls := ls) (f15 := (upd f15 i 0)) (H := H) (locs := locs) (hP := hP.sub (ws' := [(h0, .inr (8, [.int th, v1, .ref q2, .ref q3, v4, .ref q5, .ref q6, v7, v8, v9, v10, v11, v12, v13, v14, .ref q15, v16])), (q2, .inl (c2, 67200, .inl a2)), (q3, .inl (c3, 16, .inl a3)), (q5, .inl (c5, 16, .inl a5)), (q6, .inl (c6, 16, .inl a6)), (q15, .inl (c15, 4096, .inl (upd f15 i 0)))]) [0, 1, 2, 3, 4, 5] rfl) (hS := hS) (hD := hD.sub (ws' := [(h0, .inr (8, [.int th, v1, .ref q2, .ref q3, v4, .ref q5, .ref q6, v7, v8, v9, v10, v11, v12, v13, v14, .ref q15, v16])), (q2, .inl (c2, 67200, .inl a2)), (q3, .inl (c3, 16, .inl a3)), (q5, .inl (c5, 16, .inl a5)), (q6, .inl (c6, 16, .inl a6)), (q15, .inl (c15, 4096, .inl (upd f15 i 0)))]) [0, 1, 2, 3, 4, 5] (by decide) rfl) (hi1 := by omega) (hn1 := by omega) (hl := lv_sub hl [0, 1, 2, 3] rfl)
      ·
        have ic_31 : (a2 (((4200 * r) + 2000) + i)).toInt = 1 := tx_eq rfl (by decide) c_31
        refine lv_iconst (v := 1) hx hb dX8_doubled_39 (by decide) ?_
        refine lv_goto (tgt := 44) hx hb dX8_doubled_40 (by decide) ?_
        refine va_zast (i := nI i) hx hb hK hP hD hS 5 4 rfl rfl (vp_in_nI (by omega) (by omega)) dX8_doubled_44 (fun H locs hP hD hS => ?_)
        rw [nI_clamp (by omega)] at hP hD
        replace hP : va_P (dC, dI) vwCl [(h0, .inr (8, [.int th, v1, .ref q2, .ref q3, v4, .ref q5, .ref q6, v7, v8, v9, v10, v11, v12, v13, v14, .ref q15, v16])), (q2, .inl (c2, 67200, .inl a2)), (q3, .inl (c3, 16, .inl a3)), (q5, .inl (c5, 16, .inl a5)), (q6, .inl (c6, 16, .inl a6)), (q15, .inl (c15, 4096, .inl (upd f15 i 1)))] H := hP
        replace hD : va_D A [(h0, .inr (8, [.int th, v1, .ref q2, .ref q3, v4, .ref q5, .ref q6, v7, v8, v9, v10, v11, v12, v13, v14, .ref q15, v16])), (q2, .inl (c2, 67200, .inl a2)), (q3, .inl (c3, 16, .inl a3)), (q5, .inl (c5, 16, .inl a5)), (q6, .inl (c6, 16, .inl a6)), (q15, .inl (c15, 4096, .inl (upd f15 i 1)))] := hD
        refine lv_iinc (v := nI (i + 1)) (lv' := [(3, .int (nI (i + 1))), (2, .int (nI tb)), (0, .ref h0), (1, .int (nI r))]) hx hb dX8_doubled_45 hl (k := 0) rfl (by rw [show Int32.ofInt 1 = nI 1 from rfl, nI_add]) (by decide) rfl (fun ls hl => ?_)
        refine lv_goto (tgt := 9) hx hb dX8_doubled_48 (by decide) ?_
        exact ihA (i := i + 1) (x1 := nI (i + 1)) (ex1 := rfl) (ls := ls) (f15 := (upd f15 i 1)) (H := H) (locs := locs) (hP := hP.sub (ws' := [(h0, .inr (8, [.int th, v1, .ref q2, .ref q3, v4, .ref q5, .ref q6, v7, v8, v9, v10, v11, v12, v13, v14, .ref q15, v16])), (q2, .inl (c2, 67200, .inl a2)), (q3, .inl (c3, 16, .inl a3)), (q5, .inl (c5, 16, .inl a5)), (q6, .inl (c6, 16, .inl a6)), (q15, .inl (c15, 4096, .inl (upd f15 i 1)))]) [0, 1, 2, 3, 4, 5] rfl) (hS := hS) (hD := hD.sub (ws' := [(h0, .inr (8, [.int th, v1, .ref q2, .ref q3, v4, .ref q5, .ref q6, v7, v8, v9, v10, v11, v12, v13, v14, .ref q15, v16])), (q2, .inl (c2, 67200, .inl a2)), (q3, .inl (c3, 16, .inl a3)), (q5, .inl (c5, 16, .inl a5)), (q6, .inl (c6, 16, .inl a6)), (q15, .inl (c15, 4096, .inl (upd f15 i 1)))]) [0, 1, 2, 3, 4, 5] (by decide) rfl) (hi1 := by omega) (hn1 := by omega) (hl := lv_sub hl [0, 1, 2, 3] rfl)
