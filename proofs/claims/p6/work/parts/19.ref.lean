theorem dX8_nearest_0 : decode cX8_nearest 0 = .ok (.aload_n 0, 1) := by decide +kernel
theorem dX8_nearest_1 : decode cX8_nearest 1 = .ok (.iload_n 1, 1) := by decide +kernel
set_option maxRecDepth 20000 in
theorem ggX8_nearest_X8_root : GoodIn wsX8_nearest wsX8_root := goodIn_r _ [6, 7, 8, 48, 49, 50, 51, 52, 53, 54, 55, 56, 57, 58, 59, 60, 61, 62, 63, 64] rfl (by decide +kernel)
set_option maxRecDepth 20000 in
theorem gX8_nearest_X8_root : GoodIn wsX8_nearest (wsV RX8 95 RX8 yX8_root wsX8_root) := goodIn_app (goodIn_of _ (by decide +kernel)) ggX8_nearest_X8_root
theorem dX8_nearest_2 : decode cX8_nearest 2 = .ok (.invokevirtual 95, 3) := by decide +kernel
theorem dX8_nearest_5 : decode cX8_nearest 5 = .ok (.istore 4, 2) := by decide +kernel
theorem dX8_nearest_7 : decode cX8_nearest 7 = .ok (.aload_n 0, 1) := by decide +kernel
theorem dX8_nearest_8 : decode cX8_nearest 8 = .ok (.iload_n 1, 1) := by decide +kernel
set_option maxRecDepth 20000 in
theorem ggX8_nearest_X8_entries : GoodIn wsX8_nearest wsX8_entries := goodIn_r _ [12, 13, 2, 3, 4, 5, 6, 7, 8, 14, 15, 16, 17, 18, 19, 20, 21, 22, 23, 24, 25, 26, 27, 28, 29, 30, 31, 32, 33, 34, 35, 36, 37, 38, 39, 40, 41, 42, 43, 48, 49, 50, 51, 52, 53, 54, 55, 56, 57, 58, 59, 60, 61, 62, 63, 64] rfl (by decide +kernel)
set_option maxRecDepth 20000 in
theorem gX8_nearest_X8_entries : GoodIn wsX8_nearest (wsV RX8 158 RX8 yX8_entries wsX8_entries) := goodIn_app (goodIn_of _ (by decide +kernel)) ggX8_nearest_X8_entries
theorem dX8_nearest_9 : decode cX8_nearest 9 = .ok (.invokevirtual 158, 3) := by decide +kernel
theorem dX8_nearest_12 : decode cX8_nearest 12 = .ok (.istore 5, 2) := by decide +kernel
theorem dX8_nearest_14 : decode cX8_nearest 14 = .ok (.ldc2_w 149, 3) := by decide +kernel
theorem dX8_nearest_17 : decode cX8_nearest 17 = .ok (.lstore 6, 2) := by decide +kernel
theorem dX8_nearest_19 : decode cX8_nearest 19 = .ok (.iconst 0, 1) := by decide +kernel
theorem dX8_nearest_20 : decode cX8_nearest 20 = .ok (.istore 8, 2) := by decide +kernel
theorem dX8_nearest_22 : decode cX8_nearest 22 = .ok (.iload 8, 2) := by decide +kernel
theorem dX8_nearest_24 : decode cX8_nearest 24 = .ok (.iload 5, 2) := by decide +kernel
theorem dX8_nearest_26 : decode cX8_nearest 26 = .ok (.if_icmp .ge 97, 3) := by decide +kernel
theorem dX8_nearest_123 : decode cX8_nearest 123 = .ok (.lload 6, 2) := by decide +kernel
theorem dX8_nearest_125 : decode cX8_nearest 125 = .ok (.lreturn, 1) := by decide +kernel
theorem dX8_nearest_29 : decode cX8_nearest 29 = .ok (.aload_n 0, 1) := by decide +kernel
theorem dX8_nearest_30 : decode cX8_nearest 30 = .ok (.iload 4, 2) := by decide +kernel
theorem dX8_nearest_32 : decode cX8_nearest 32 = .ok (.aload_n 0, 1) := by decide +kernel
theorem dX8_nearest_33 : decode cX8_nearest 33 = .ok (.iload_n 1, 1) := by decide +kernel
theorem dX8_nearest_34 : decode cX8_nearest 34 = .ok (.iload 8, 2) := by decide +kernel
set_option maxRecDepth 20000 in
theorem ggX8_nearest_X8_nth : GoodIn wsX8_nearest wsX8_nth := goodIn_r _ [47, 13, 2, 3, 4, 5, 6, 7, 8, 40, 41, 42, 43, 23, 14, 15, 16, 17, 18, 19, 20, 21, 22, 24, 25, 26, 27, 28, 29, 30, 31, 32, 33, 34, 35, 36, 37, 38, 39, 48, 49, 50, 51, 52, 53, 54, 55, 56, 57, 58, 59, 60, 61, 62, 63, 64] rfl (by decide +kernel)
set_option maxRecDepth 20000 in
theorem gX8_nearest_X8_nth : GoodIn wsX8_nearest (wsV RX8 188 RX8 yX8_nth wsX8_nth) := goodIn_app (goodIn_of _ (by decide +kernel)) ggX8_nearest_X8_nth
theorem dX8_nearest_36 : decode cX8_nearest 36 = .ok (.invokevirtual 188, 3) := by decide +kernel
set_option maxRecDepth 20000 in
theorem ggX8_nearest_X8_key : GoodIn wsX8_nearest wsX8_key := goodIn_r _ [17, 18, 48, 49, 50, 51, 52, 53, 54, 55, 56, 57, 58, 59, 60, 61, 62, 63, 64] rfl (by decide +kernel)
set_option maxRecDepth 20000 in
theorem gX8_nearest_X8_key : GoodIn wsX8_nearest (wsV RX8 111 RX8 yX8_key wsX8_key) := goodIn_app (goodIn_of _ (by decide +kernel)) ggX8_nearest_X8_key
theorem dX8_nearest_39 : decode cX8_nearest 39 = .ok (.invokevirtual 111, 3) := by decide +kernel
theorem dX8_nearest_42 : decode cX8_nearest 42 = .ok (.istore 9, 2) := by decide +kernel
theorem dX8_nearest_44 : decode cX8_nearest 44 = .ok (.aload_n 0, 1) := by decide +kernel
theorem dX8_nearest_45 : decode cX8_nearest 45 = .ok (.iload_n 1, 1) := by decide +kernel
theorem dX8_nearest_46 : decode cX8_nearest 46 = .ok (.iload 9, 2) := by decide +kernel
theorem dX8_nearest_48 : decode cX8_nearest 48 = .ok (.iload_n 3, 1) := by decide +kernel
set_option maxRecDepth 20000 in
theorem ggX8_nearest_X8_ordered : GoodIn wsX8_nearest wsX8_ordered := goodIn_r _ [29, 30, 2, 3, 4, 5, 6, 7, 8, 31, 32, 33, 34, 35, 36, 37, 38, 39, 40, 41, 42, 43, 23, 48, 49, 50, 51, 52, 53, 54, 55, 56, 57, 58, 59, 60, 61, 62, 63, 64] rfl (by decide +kernel)
set_option maxRecDepth 20000 in
theorem gX8_nearest_X8_ordered : GoodIn wsX8_nearest (wsV RX8 105 RX8 yX8_ordered wsX8_ordered) := goodIn_app (goodIn_of _ (by decide +kernel)) ggX8_nearest_X8_ordered
theorem dX8_nearest_49 : decode cX8_nearest 49 = .ok (.invokevirtual 105, 3) := by decide +kernel
theorem dX8_nearest_52 : decode cX8_nearest 52 = .ok (.istore 10, 2) := by decide +kernel
theorem dX8_nearest_54 : decode cX8_nearest 54 = .ok (.iload_n 2, 1) := by decide +kernel
theorem dX8_nearest_55 : decode cX8_nearest 55 = .ok (.bipush 14, 2) := by decide +kernel
theorem dX8_nearest_57 : decode cX8_nearest 57 = .ok (.if_icmp .ne 8, 3) := by decide +kernel
theorem dX8_nearest_65 : decode cX8_nearest 65 = .ok (.iload_n 2, 1) := by decide +kernel
theorem dX8_nearest_66 : decode cX8_nearest 66 = .ok (.bipush 15, 2) := by decide +kernel
theorem dX8_nearest_68 : decode cX8_nearest 68 = .ok (.if_icmp .ne 13, 3) := by decide +kernel
theorem dX8_nearest_81 : decode cX8_nearest 81 = .ok (.lload 6, 2) := by decide +kernel
theorem dX8_nearest_83 : decode cX8_nearest 83 = .ok (.ldc2_w 149, 3) := by decide +kernel
theorem dX8_nearest_86 : decode cX8_nearest 86 = .ok (.lcmp, 1) := by decide +kernel
theorem dX8_nearest_87 : decode cX8_nearest 87 = .ok (.ifCond .ne 30, 3) := by decide +kernel
theorem dX8_nearest_117 : decode cX8_nearest 117 = .ok (.iinc 8 1, 3) := by decide +kernel
theorem dX8_nearest_120 : decode cX8_nearest 120 = .ok (.goto (-98), 3) := by decide +kernel
theorem dX8_nearest_90 : decode cX8_nearest 90 = .ok (.iload_n 2, 1) := by decide +kernel
theorem dX8_nearest_91 : decode cX8_nearest 91 = .ok (.bipush 16, 2) := by decide +kernel
theorem dX8_nearest_93 : decode cX8_nearest 93 = .ok (.if_icmp .ne 8, 3) := by decide +kernel
theorem dX8_nearest_101 : decode cX8_nearest 101 = .ok (.iload_n 2, 1) := by decide +kernel
theorem dX8_nearest_102 : decode cX8_nearest 102 = .ok (.bipush 17, 2) := by decide +kernel
theorem dX8_nearest_104 : decode cX8_nearest 104 = .ok (.if_icmp .ne 13, 3) := by decide +kernel
theorem dX8_nearest_107 : decode cX8_nearest 107 = .ok (.iload 10, 2) := by decide +kernel
theorem dX8_nearest_109 : decode cX8_nearest 109 = .ok (.ifCond .le 8, 3) := by decide +kernel
theorem dX8_nearest_112 : decode cX8_nearest 112 = .ok (.iload 9, 2) := by decide +kernel
theorem dX8_nearest_114 : decode cX8_nearest 114 = .ok (.i2l, 1) := by decide +kernel
theorem dX8_nearest_115 : decode cX8_nearest 115 = .ok (.lstore 6, 2) := by decide +kernel
theorem dX8_nearest_96 : decode cX8_nearest 96 = .ok (.iload 10, 2) := by decide +kernel
theorem dX8_nearest_98 : decode cX8_nearest 98 = .ok (.ifCond .ge 14, 3) := by decide +kernel
theorem dX8_nearest_71 : decode cX8_nearest 71 = .ok (.iload 10, 2) := by decide +kernel
theorem dX8_nearest_73 : decode cX8_nearest 73 = .ok (.ifCond .gt 8, 3) := by decide +kernel
theorem dX8_nearest_76 : decode cX8_nearest 76 = .ok (.iload 9, 2) := by decide +kernel
theorem dX8_nearest_78 : decode cX8_nearest 78 = .ok (.i2l, 1) := by decide +kernel
theorem dX8_nearest_79 : decode cX8_nearest 79 = .ok (.lstore 6, 2) := by decide +kernel
theorem dX8_nearest_60 : decode cX8_nearest 60 = .ok (.iload 10, 2) := by decide +kernel
theorem dX8_nearest_62 : decode cX8_nearest 62 = .ok (.ifCond .lt 14, 3) := by decide +kernel
theorem dX8_sameMap_0 : decode cX8_sameMap 0 = .ok (.aload_n 0, 1) := by decide +kernel
theorem dX8_sameMap_1 : decode cX8_sameMap 1 = .ok (.iload_n 1, 1) := by decide +kernel
set_option maxRecDepth 20000 in
theorem ggX8_sameMap_X8_entries : GoodIn wsX8_sameMap wsX8_entries := goodIn_r _ [5, 6, 7, 8, 9, 4, 10, 11, 12, 13, 14, 15, 16, 17, 18, 19, 20, 21, 22, 23, 24, 25, 26, 27, 28, 29, 30, 31, 32, 33, 34, 35, 36, 37, 38, 39, 40, 41, 42, 55, 56, 57, 58, 59, 60, 61, 62, 63, 64, 65, 66, 67, 68, 69, 70, 71] rfl (by decide +kernel)
set_option maxRecDepth 20000 in
theorem gX8_sameMap_X8_entries : GoodIn wsX8_sameMap (wsV RX8 158 RX8 yX8_entries wsX8_entries) := goodIn_app (goodIn_of _ (by decide +kernel)) ggX8_sameMap_X8_entries
theorem dX8_sameMap_2 : decode cX8_sameMap 2 = .ok (.invokevirtual 158, 3) := by decide +kernel
theorem dX8_sameMap_5 : decode cX8_sameMap 5 = .ok (.istore_n 3, 1) := by decide +kernel
theorem dX8_sameMap_6 : decode cX8_sameMap 6 = .ok (.aload_n 0, 1) := by decide +kernel
theorem dX8_sameMap_7 : decode cX8_sameMap 7 = .ok (.iload_n 2, 1) := by decide +kernel
theorem dX8_sameMap_8 : decode cX8_sameMap 8 = .ok (.invokevirtual 158, 3) := by decide +kernel
theorem dX8_sameMap_11 : decode cX8_sameMap 11 = .ok (.iload_n 3, 1) := by decide +kernel
theorem dX8_sameMap_12 : decode cX8_sameMap 12 = .ok (.if_icmp .eq 5, 3) := by decide +kernel
theorem dX8_sameMap_17 : decode cX8_sameMap 17 = .ok (.iconst 0, 1) := by decide +kernel
theorem dX8_sameMap_18 : decode cX8_sameMap 18 = .ok (.istore 4, 2) := by decide +kernel
theorem dX8_sameMap_20 : decode cX8_sameMap 20 = .ok (.iload 4, 2) := by decide +kernel
theorem dX8_sameMap_22 : decode cX8_sameMap 22 = .ok (.iload_n 3, 1) := by decide +kernel
theorem dX8_sameMap_23 : decode cX8_sameMap 23 = .ok (.if_icmp .ge 68, 3) := by decide +kernel
theorem dX8_sameMap_91 : decode cX8_sameMap 91 = .ok (.lconst 1, 1) := by decide +kernel
theorem dX8_sameMap_92 : decode cX8_sameMap 92 = .ok (.lreturn, 1) := by decide +kernel
theorem dX8_sameMap_26 : decode cX8_sameMap 26 = .ok (.aload_n 0, 1) := by decide +kernel
theorem dX8_sameMap_27 : decode cX8_sameMap 27 = .ok (.iload_n 1, 1) := by decide +kernel
theorem dX8_sameMap_28 : decode cX8_sameMap 28 = .ok (.iload 4, 2) := by decide +kernel
set_option maxRecDepth 20000 in
theorem ggX8_sameMap_X8_nth : GoodIn wsX8_sameMap wsX8_nth := goodIn_r _ [46, 6, 7, 8, 9, 4, 10, 11, 12, 39, 40, 41, 42, 22, 13, 14, 15, 16, 17, 18, 19, 20, 21, 23, 24, 25, 26, 27, 28, 29, 30, 31, 32, 33, 34, 35, 36, 37, 38, 55, 56, 57, 58, 59, 60, 61, 62, 63, 64, 65, 66, 67, 68, 69, 70, 71] rfl (by decide +kernel)
set_option maxRecDepth 20000 in
theorem gX8_sameMap_X8_nth : GoodIn wsX8_sameMap (wsV RX8 188 RX8 yX8_nth wsX8_nth) := goodIn_app (goodIn_of _ (by decide +kernel)) ggX8_sameMap_X8_nth
theorem dX8_sameMap_30 : decode cX8_sameMap 30 = .ok (.invokevirtual 188, 3) := by decide +kernel
theorem dX8_sameMap_33 : decode cX8_sameMap 33 = .ok (.istore 5, 2) := by decide +kernel
theorem dX8_sameMap_35 : decode cX8_sameMap 35 = .ok (.aload_n 0, 1) := by decide +kernel
theorem dX8_sameMap_36 : decode cX8_sameMap 36 = .ok (.iload_n 2, 1) := by decide +kernel
theorem dX8_sameMap_37 : decode cX8_sameMap 37 = .ok (.aload_n 0, 1) := by decide +kernel
theorem dX8_sameMap_38 : decode cX8_sameMap 38 = .ok (.aload_n 0, 1) := by decide +kernel
theorem dX8_sameMap_39 : decode cX8_sameMap 39 = .ok (.iload_n 1, 1) := by decide +kernel
set_option maxRecDepth 20000 in
theorem ggX8_sameMap_X8_root : GoodIn wsX8_sameMap wsX8_root := goodIn_r _ [10, 11, 12, 55, 56, 57, 58, 59, 60, 61, 62, 63, 64, 65, 66, 67, 68, 69, 70, 71] rfl (by decide +kernel)
set_option maxRecDepth 20000 in
theorem gX8_sameMap_X8_root : GoodIn wsX8_sameMap (wsV RX8 95 RX8 yX8_root wsX8_root) := goodIn_app (goodIn_of _ (by decide +kernel)) ggX8_sameMap_X8_root
theorem dX8_sameMap_40 : decode cX8_sameMap 40 = .ok (.invokevirtual 95, 3) := by decide +kernel
theorem dX8_sameMap_43 : decode cX8_sameMap 43 = .ok (.iload 5, 2) := by decide +kernel
set_option maxRecDepth 20000 in
theorem ggX8_sameMap_X8_key : GoodIn wsX8_sameMap wsX8_key := goodIn_r _ [16, 17, 55, 56, 57, 58, 59, 60, 61, 62, 63, 64, 65, 66, 67, 68, 69, 70, 71] rfl (by decide +kernel)
set_option maxRecDepth 20000 in
theorem gX8_sameMap_X8_key : GoodIn wsX8_sameMap (wsV RX8 111 RX8 yX8_key wsX8_key) := goodIn_app (goodIn_of _ (by decide +kernel)) ggX8_sameMap_X8_key
theorem dX8_sameMap_45 : decode cX8_sameMap 45 = .ok (.invokevirtual 111, 3) := by decide +kernel
set_option maxRecDepth 20000 in
theorem ggX8_sameMap_X8_at : GoodIn wsX8_sameMap wsX8_at := goodIn_r _ [50, 6, 11, 29, 7, 8, 9, 4, 10, 12, 18, 19, 20, 21, 22, 23, 24, 25, 26, 27, 28, 30, 31, 32, 33, 34, 35, 36, 37, 38, 39, 40, 41, 42, 13, 14, 15, 16, 17, 55, 56, 57, 58, 59, 60, 61, 62, 63, 64, 65, 66, 67, 68, 69, 70, 71] rfl (by decide +kernel)
set_option maxRecDepth 20000 in
theorem gX8_sameMap_X8_at : GoodIn wsX8_sameMap (wsV RX8 146 RX8 yX8_at wsX8_at) := goodIn_app (goodIn_of _ (by decide +kernel)) ggX8_sameMap_X8_at
theorem dX8_sameMap_48 : decode cX8_sameMap 48 = .ok (.invokevirtual 146, 3) := by decide +kernel
theorem dX8_sameMap_51 : decode cX8_sameMap 51 = .ok (.istore 6, 2) := by decide +kernel
theorem dX8_sameMap_53 : decode cX8_sameMap 53 = .ok (.iload 6, 2) := by decide +kernel
theorem dX8_sameMap_55 : decode cX8_sameMap 55 = .ok (.ifCond .lt 28, 3) := by decide +kernel
theorem dX8_sameMap_83 : decode cX8_sameMap 83 = .ok (.lconst 0, 1) := by decide +kernel
theorem dX8_sameMap_84 : decode cX8_sameMap 84 = .ok (.lreturn, 1) := by decide +kernel
theorem dX8_sameMap_58 : decode cX8_sameMap 58 = .ok (.aload_n 0, 1) := by decide +kernel
theorem dX8_sameMap_59 : decode cX8_sameMap 59 = .ok (.aload_n 0, 1) := by decide +kernel
theorem dX8_sameMap_60 : decode cX8_sameMap 60 = .ok (.iload_n 2, 1) := by decide +kernel
theorem dX8_sameMap_61 : decode cX8_sameMap 61 = .ok (.invokevirtual 95, 3) := by decide +kernel
theorem dX8_sameMap_64 : decode cX8_sameMap 64 = .ok (.iload 6, 2) := by decide +kernel
set_option maxRecDepth 20000 in
theorem ggX8_sameMap_X8_value : GoodIn wsX8_sameMap wsX8_value := goodIn_r _ [54, 17, 55, 56, 57, 58, 59, 60, 61, 62, 63, 64, 65, 66, 67, 68, 69, 70, 71] rfl (by decide +kernel)
set_option maxRecDepth 20000 in
theorem gX8_sameMap_X8_value : GoodIn wsX8_sameMap (wsV RX8 118 RX8 yX8_value wsX8_value) := goodIn_app (goodIn_of _ (by decide +kernel)) ggX8_sameMap_X8_value
theorem dX8_sameMap_66 : decode cX8_sameMap 66 = .ok (.invokevirtual 118, 3) := by decide +kernel
theorem dX8_sameMap_69 : decode cX8_sameMap 69 = .ok (.aload_n 0, 1) := by decide +kernel
theorem dX8_sameMap_70 : decode cX8_sameMap 70 = .ok (.aload_n 0, 1) := by decide +kernel
theorem dX8_sameMap_71 : decode cX8_sameMap 71 = .ok (.iload_n 1, 1) := by decide +kernel
theorem dX8_sameMap_72 : decode cX8_sameMap 72 = .ok (.invokevirtual 95, 3) := by decide +kernel
theorem dX8_sameMap_75 : decode cX8_sameMap 75 = .ok (.iload 5, 2) := by decide +kernel
theorem dX8_sameMap_77 : decode cX8_sameMap 77 = .ok (.invokevirtual 118, 3) := by decide +kernel
theorem dX8_sameMap_80 : decode cX8_sameMap 80 = .ok (.if_icmp .eq 5, 3) := by decide +kernel
theorem dX8_sameMap_85 : decode cX8_sameMap 85 = .ok (.iinc 4 1, 3) := by decide +kernel
theorem dX8_sameMap_88 : decode cX8_sameMap 88 = .ok (.goto (-68), 3) := by decide +kernel
theorem dX8_sameMap_15 : decode cX8_sameMap 15 = .ok (.lconst 0, 1) := by decide +kernel
theorem dX8_sameMap_16 : decode cX8_sameMap 16 = .ok (.lreturn, 1) := by decide +kernel
set_option maxHeartbeats 4000000 in
set_option maxRecDepth 100000 in
/-- nearest -/
theorem c_X8_nearest (l : Launch) (dC : Nat → ClassId) (dI : Nat → Nat → Nat) (sz : Nat) (h0 : Nat) (th : Int32) (q1 : Nat) (q2 : Nat) (q3 : Nat) (q4 : Nat) (q8 : Nat) (q9 : Nat) (q10 : Nat) (q11 : Nat) (c1 : ClassId) (c2 : ClassId) (c3 : ClassId) (c4 : ClassId) (c8 : ClassId) (c9 : ClassId) (c10 : ClassId) (c11 : ClassId) (a1 : Nat → Int32) (a2 : Nat → Int32) (a3 : Nat → Int32) (a4 : Nat → Int32) (a8 : Nat → Int32) (a9 : Nat → Int32) (a10 : Nat → Int32) (a11 : Nat → Int32) (v5 : Value) (v6 : Value) (v7 : Value) (v12 : Value) (v13 : Value) (v14 : Value) (v15 : Value) (v16 : Value) (o : Nat) (dep : Nat → Nat) (r : Nat) (nz : Nat) (p1 : Int32) (p2 : Int32) (ho9 : o < 16) (hF9 : rF a1 a8 dep) (hd9 : dep o < 17) (hrt9 : rtN a1 a8 17 o = r) (hs9 : a3 r = nI nz) (hz9 : nz ≤ 1000) : Met l yX8_nearest wsX8_nearest ({ frames := 5, cells := 0, slots := 0, locals := 190 }) (va_Pc [.ref h0, .int (nI o), .int p1, .int p2] (pk_Pre (dC, dI) [(h0, .inr (8, [.int th, .ref q1, .ref q2, .ref q3, .ref q4, v5, v6, v7, .ref q8, .ref q9, .ref q10, .ref q11, v12, v13, v14, v15, v16])), (q1, .inl (c1, 16, .inl a1)), (q2, .inl (c2, 67200, .inl a2)), (q3, .inl (c3, 16, .inl a3)), (q4, .inl (c4, 16, .inl a4)), (q8, .inl (c8, 16, .inl a8)), (q9, .inl (c9, 16, .inl a9)), (q10, .inl (c10, 16, .inl a10)), (q11, .inl (c11, 16, .inl a11))] [(c1, .int), (c2, .int), (c3, .int), (c4, .int), (c8, .int), (c9, .int), (c10, .int), (c11, .int)] sz)) (va_Ql (fun (_ : Int64) (_ : Unit) => True) (fun (_ : Unit) (t : State) => va_P (dC, dI) vwCl [(h0, .inr (8, [.int th, .ref q1, .ref q2, .ref q3, .ref q4, v5, v6, v7, .ref q8, .ref q9, .ref q10, .ref q11, v12, v13, v14, v15, v16])), (q1, .inl (c1, 16, .inl a1)), (q2, .inl (c2, 67200, .inl a2)), (q3, .inl (c3, 16, .inl a3)), (q4, .inl (c4, 16, .inl a4)), (q8, .inl (c8, 16, .inl a8)), (q9, .inl (c9, 16, .inl a9)), (q10, .inl (c10, 16, .inl a10)), (q11, .inl (c11, 16, .inl a11))] t.heap ∧ va_K (dC, dI) vwCl [(c1, .int), (c2, .int), (c3, .int), (c4, .int), (c8, .int), (c9, .int), (c10, .int), (c11, .int)] t ∧ va_D (va_A [(h0, .inr (8, [.int th, .ref q1, .ref q2, .ref q3, .ref q4, v5, v6, v7, .ref q8, .ref q9, .ref q10, .ref q11, v12, v13, v14, v15, v16])), (q1, .inl (c1, 16, .inl a1)), (q2, .inl (c2, 67200, .inl a2)), (q3, .inl (c3, 16, .inl a3)), (q4, .inl (c4, 16, .inl a4)), (q8, .inl (c8, 16, .inl a8)), (q9, .inl (c9, 16, .inl a9)), (q10, .inl (c10, 16, .inl a10)), (q11, .inl (c11, 16, .inl a11))] sz) [(h0, .inr (8, [.int th, .ref q1, .ref q2, .ref q3, .ref q4, v5, v6, v7, .ref q8, .ref q9, .ref q10, .ref q11, v12, v13, v14, v15, v16])), (q1, .inl (c1, 16, .inl a1)), (q2, .inl (c2, 67200, .inl a2)), (q3, .inl (c3, 16, .inl a3)), (q4, .inl (c4, 16, .inl a4)), (q8, .inl (c8, 16, .inl a8)), (q9, .inl (c9, 16, .inl a9)), (q10, .inl (c10, 16, .inl a10)), (q11, .inl (c11, 16, .inl a11))]) (va_A [(h0, .inr (8, [.int th, .ref q1, .ref q2, .ref q3, .ref q4, v5, v6, v7, .ref q8, .ref q9, .ref q10, .ref q11, v12, v13, v14, v15, v16])), (q1, .inl (c1, 16, .inl a1)), (q2, .inl (c2, 67200, .inl a2)), (q3, .inl (c3, 16, .inl a3)), (q4, .inl (c4, 16, .inl a4)), (q8, .inl (c8, 16, .inl a8)), (q9, .inl (c9, 16, .inl a9)), (q10, .inl (c10, 16, .inl a10)), (q11, .inl (c11, 16, .inl a11))] sz)) 0 0 (va_A [(h0, .inr (8, [.int th, .ref q1, .ref q2, .ref q3, .ref q4, v5, v6, v7, .ref q8, .ref q9, .ref q10, .ref q11, v12, v13, v14, v15, v16])), (q1, .inl (c1, 16, .inl a1)), (q2, .inl (c2, 67200, .inl a2)), (q3, .inl (c3, 16, .inl a3)), (q4, .inl (c4, 16, .inl a4)), (q8, .inl (c8, 16, .inl a8)), (q9, .inl (c9, 16, .inl a9)), (q10, .inl (c10, 16, .inl a10)), (q11, .inl (c11, 16, .inl a11))] sz) := by
  refine Met.ofW (cc := cX8_nearest) (maxL := 11) (ret := (some .long)) (by decide) rfl ?_
  intro p e s m args below meth c s₁ B hml hv
  obtain ⟨rfl, hsz, hP, hK, hD0⟩ := hv
  have hx := B.exec
  have hb := B.bytes
  have hr := B.returns
  have hts := atoms_spec (ws := wsX8_nearest) B.pre
  have hown : s.vm.findClass RX8 = some m.cls := findClass_of_methodNamed B.named
  have hlocks := B.notSynchronized
  subst hsz
  have hD := hD0.self (sz := s.heap.size)
  generalize hAe : va_A [(h0, .inr (8, [.int th, .ref q1, .ref q2, .ref q3, .ref q4, v5, v6, v7, .ref q8, .ref q9, .ref q10, .ref q11, v12, v13, v14, v15, v16])), (q1, .inl (c1, 16, .inl a1)), (q2, .inl (c2, 67200, .inl a2)), (q3, .inl (c3, 16, .inl a3)), (q4, .inl (c4, 16, .inl a4)), (q8, .inl (c8, 16, .inl a8)), (q9, .inl (c9, 16, .inl a9)), (q10, .inl (c10, 16, .inl a10)), (q11, .inl (c11, 16, .inl a11))] s.heap.size = A at hD ⊢
  have hA : ∀ q : Nat, s.heap.size ≤ q → A q := fun q h => by rw [← hAe]; exact Or.inr h
  have hS : va_S A s.heap s.heap [] := va_S.rf
  have hP : va_P (dC, dI) vwCl [(h0, .inr (8, [.int th, .ref q1, .ref q2, .ref q3, .ref q4, v5, v6, v7, .ref q8, .ref q9, .ref q10, .ref q11, v12, v13, v14, v15, v16])), (q1, .inl (c1, 16, .inl a1)), (q2, .inl (c2, 67200, .inl a2)), (q3, .inl (c3, 16, .inl a3)), (q4, .inl (c4, 16, .inl a4)), (q8, .inl (c8, 16, .inl a8)), (q9, .inl (c9, 16, .inl a9)), (q10, .inl (c10, 16, .inl a10)), (q11, .inl (c11, 16, .inl a11))] s.heap := hP
  have hl := lv_entry ([.ref h0, .int (nI o), .int p1, .int p2]) (n := 11) (Nat.le_of_ble_eq_true rfl)
  rw [lg_entry_eq]
  generalize (lg_sl ([.ref h0, .int (nI o), .int p1, .int p2]) ++ List.replicate (11 - (lg_sl ([.ref h0, .int (nI o), .int p1, .int p2])).length) Slot.unset).toArray = ls at hl ⊢
  have hl : lv_has ls 11 [(0, .ref h0), (1, .int (nI o)), (2, .int p1), (3, .int p2)] := hl
  have hw0_ := hts (.constantLong RX8 149 (1099511627776)) (List.mem_of_getElem? (l := wsX8_nearest) (i := 1) rfl)
  refine lv_aload_n hx hb dX8_nearest_0 rfl (lv_at hl 0 rfl) ?_
  refine lv_iload_n hx hb dX8_nearest_1 rfl (lv_at hl 1 rfl) ?_
  have hPc := hP.sub (ws' := [(h0, .inr (8, [.int th, .ref q1, .ref q2, .ref q3, .ref q4, v5, v6, v7, .ref q8, .ref q9, .ref q10, .ref q11, v12, v13, v14, v15, v16])), (q1, .inl (c1, 16, .inl a1)), (q8, .inl (c8, 16, .inl a8))]) [0, 1, 5] rfl
  have hDc := hD.sub (ws' := [(h0, .inr (8, [.int th, .ref q1, .ref q2, .ref q3, .ref q4, v5, v6, v7, .ref q8, .ref q9, .ref q10, .ref q11, v12, v13, v14, v15, v16])), (q1, .inl (c1, 16, .inl a1)), (q8, .inl (c8, 16, .inl a8))]) [0, 1, 5] (by decide) rfl
  have hKc := hK.sub (tys' := [(c1, .int), (c8, .int)]) [0, 4] rfl
  have hFc := va_free (wc := [(h0, .inr (8, [.int th, .ref q1, .ref q2, .ref q3, .ref q4, v5, v6, v7, .ref q8, .ref q9, .ref q10, .ref q11, v12, v13, v14, v15, v16])), (q1, .inl (c1, 16, .inl a1)), (q8, .inl (c8, 16, .inl a8))]) hD hS hA [0, 1, 5] rfl
  refine va_calli (va_runV (As := [.int (nI o)]) (rest := []) ⟨hx, hb, hml, hown, hts⟩ (c_X8_root l  dC dI s.heap.size h0 th q1 q8 c1 c8 a1 a8 (.ref q2) (.ref q3) (.ref q4) v5 v6 v7 (.ref q9) (.ref q10) (.ref q11) v12 v13 v14 v15 v16 o dep ho9 hF9 hd9) (cwV 1 hts gX8_nearest_X8_root rfl rfl rfl (by decide +kernel) ⟨(Nat.le_of_ble_eq_true rfl), (Nat.le_of_ble_eq_true rfl)⟩) ⟨pk_blind, va_recv hKc hPc (ci := 8) (q0 := 0) rfl rfl, pk_call hPc hKc hDc⟩ rfl rfl hl.1 rfl (lv_room (Nat.le_of_ble_eq_true rfl)) dX8_nearest_2 ⟨(Nat.le_of_ble_eq_true rfl), (Nat.le_of_ble_eq_true rfl)⟩) hS (fun q _ h => hFc q h) hFc (fun r_1 ur_1 t H1 locs ht hvm hw hB hz1 hk1 hS => ?_)
  try dsimp only at hw
  obtain ⟨er_1, hr9, hr8⟩ := hw
  rw [hrt9] at er_1 hr9 hr8
  obtain ⟨hP1, hK1, hD1⟩ := hB
  rw [ht] at hP1
  have hK1 := va_K.moved hvm.symm hK1
  obtain ⟨hP, hD⟩ := va_join (wr := [(q2, .inl (c2, 67200, .inl a2)), (q3, .inl (c3, 16, .inl a3)), (q4, .inl (c4, 16, .inl a4)), (q9, .inl (c9, 16, .inl a9)), (q10, .inl (c10, 16, .inl a10)), (q11, .inl (c11, 16, .inl a11))]) (w1 := [(h0, .inr (8, [.int th, .ref q1, .ref q2, .ref q3, .ref q4, v5, v6, v7, .ref q8, .ref q9, .ref q10, .ref q11, v12, v13, v14, v15, v16])), (q1, .inl (c1, 16, .inl a1)), (q8, .inl (c8, 16, .inl a8))]) hP hD [0, 1, 5] [2, 3, 4, 6, 7, 8] rfl rfl (by decide) (by decide) hk1 hFc hP1 hD1
  clear hk1 hz1 ht hPc hDc hKc hFc
  generalize H1 = H at hP hS ⊢
  replace hP : va_P (dC, dI) vwCl [(q2, .inl (c2, 67200, .inl a2)), (q3, .inl (c3, 16, .inl a3)), (q4, .inl (c4, 16, .inl a4)), (q9, .inl (c9, 16, .inl a9)), (q10, .inl (c10, 16, .inl a10)), (q11, .inl (c11, 16, .inl a11)), (h0, .inr (8, [.int th, .ref q1, .ref q2, .ref q3, .ref q4, v5, v6, v7, .ref q8, .ref q9, .ref q10, .ref q11, v12, v13, v14, v15, v16])), (q1, .inl (c1, 16, .inl a1)), (q8, .inl (c8, 16, .inl a8))] H := hP
  replace hD : va_D A [(q2, .inl (c2, 67200, .inl a2)), (q3, .inl (c3, 16, .inl a3)), (q4, .inl (c4, 16, .inl a4)), (q9, .inl (c9, 16, .inl a9)), (q10, .inl (c10, 16, .inl a10)), (q11, .inl (c11, 16, .inl a11)), (h0, .inr (8, [.int th, .ref q1, .ref q2, .ref q3, .ref q4, v5, v6, v7, .ref q8, .ref q9, .ref q10, .ref q11, v12, v13, v14, v15, v16])), (q1, .inl (c1, 16, .inl a1)), (q8, .inl (c8, 16, .inl a8))] := hD
  refine W.widen (k := 0) (n := 0) (Nat.le_of_ble_eq_true rfl) (Nat.le_of_ble_eq_true rfl) ?_
  subst er_1
  refine W.eq (g2 := F0 m 5 ls [.int (nI r)]) rfl ?_
  refine lv_istore (lv' := [(4, .int (nI r)), (0, .ref h0), (1, .int (nI o)), (2, .int p1), (3, .int p2)]) hx hb dX8_nearest_5 hl (by decide) rfl (fun ls hl => ?_)
  refine lv_aload_n hx hb dX8_nearest_7 rfl (lv_at hl 1 rfl) ?_
  refine lv_iload_n hx hb dX8_nearest_8 rfl (lv_at hl 2 rfl) ?_
  have hPc := hP.sub (ws' := [(h0, .inr (8, [.int th, .ref q1, .ref q2, .ref q3, .ref q4, v5, v6, v7, .ref q8, .ref q9, .ref q10, .ref q11, v12, v13, v14, v15, v16])), (q1, .inl (c1, 16, .inl a1)), (q2, .inl (c2, 67200, .inl a2)), (q3, .inl (c3, 16, .inl a3)), (q4, .inl (c4, 16, .inl a4)), (q8, .inl (c8, 16, .inl a8)), (q9, .inl (c9, 16, .inl a9)), (q10, .inl (c10, 16, .inl a10)), (q11, .inl (c11, 16, .inl a11))]) [6, 7, 0, 1, 2, 8, 3, 4, 5] rfl
  have hDc := hD.sub (ws' := [(h0, .inr (8, [.int th, .ref q1, .ref q2, .ref q3, .ref q4, v5, v6, v7, .ref q8, .ref q9, .ref q10, .ref q11, v12, v13, v14, v15, v16])), (q1, .inl (c1, 16, .inl a1)), (q2, .inl (c2, 67200, .inl a2)), (q3, .inl (c3, 16, .inl a3)), (q4, .inl (c4, 16, .inl a4)), (q8, .inl (c8, 16, .inl a8)), (q9, .inl (c9, 16, .inl a9)), (q10, .inl (c10, 16, .inl a10)), (q11, .inl (c11, 16, .inl a11))]) [6, 7, 0, 1, 2, 8, 3, 4, 5] (by decide) rfl
  have hKc := hK.sub (tys' := [(c1, .int), (c2, .int), (c3, .int), (c4, .int), (c8, .int), (c9, .int), (c10, .int), (c11, .int)]) [0, 1, 2, 3, 4, 5, 6, 7] rfl
  have hFc := va_free (wc := [(h0, .inr (8, [.int th, .ref q1, .ref q2, .ref q3, .ref q4, v5, v6, v7, .ref q8, .ref q9, .ref q10, .ref q11, v12, v13, v14, v15, v16])), (q1, .inl (c1, 16, .inl a1)), (q2, .inl (c2, 67200, .inl a2)), (q3, .inl (c3, 16, .inl a3)), (q4, .inl (c4, 16, .inl a4)), (q8, .inl (c8, 16, .inl a8)), (q9, .inl (c9, 16, .inl a9)), (q10, .inl (c10, 16, .inl a10)), (q11, .inl (c11, 16, .inl a11))]) hD hS hA [6, 7, 0, 1, 2, 8, 3, 4, 5] rfl
  refine va_calli (va_runV (As := [.int (nI o)]) (rest := []) ⟨hx, hb, hml, hown, hts⟩ (c_X8_entries l  dC dI H.size h0 th q1 q2 q3 q4 q8 q9 q10 q11 c1 c2 c3 c4 c8 c9 c10 c11 a1 a2 a3 a4 a8 a9 a10 a11 v5 v6 v7 v12 v13 v14 v15 v16 o dep nz ho9 hF9 hd9 (by rw [hrt9]; exact hs9) hz9) (cwV 1 hts gX8_nearest_X8_entries rfl rfl rfl (by decide +kernel) ⟨(Nat.le_of_ble_eq_true rfl), (Nat.le_of_ble_eq_true rfl)⟩) ⟨pk_blind, va_recv hKc hPc (ci := 8) (q0 := 0) rfl rfl, pk_call hPc hKc hDc⟩ rfl rfl hl.1 rfl (lv_room (Nat.le_of_ble_eq_true rfl)) dX8_nearest_9 ⟨(Nat.le_of_ble_eq_true rfl), (Nat.le_of_ble_eq_true rfl)⟩) hS (fun q _ h => hFc q h) hFc (fun r_2 ur_2 t H1 locs ht hvm hw hB hz1 hk1 hS => ?_)
  try dsimp only at hw
  obtain ⟨ne, hne⟩ : ∃ n9 : Nat, n9 = cntN (inO a1 a2 a4 a8 a9 a10 a11 o) nz := ⟨_, rfl⟩
  have hne2 : ne ≤ nz := by rw [hne]; exact cnt_le _ _
  obtain ⟨hP1, hK1, hD1⟩ := hB
  rw [ht] at hP1
  have hK1 := va_K.moved hvm.symm hK1
  obtain ⟨hP, hD⟩ := va_join (wr := []) (w1 := [(h0, .inr (8, [.int th, .ref q1, .ref q2, .ref q3, .ref q4, v5, v6, v7, .ref q8, .ref q9, .ref q10, .ref q11, v12, v13, v14, v15, v16])), (q1, .inl (c1, 16, .inl a1)), (q2, .inl (c2, 67200, .inl a2)), (q3, .inl (c3, 16, .inl a3)), (q4, .inl (c4, 16, .inl a4)), (q8, .inl (c8, 16, .inl a8)), (q9, .inl (c9, 16, .inl a9)), (q10, .inl (c10, 16, .inl a10)), (q11, .inl (c11, 16, .inl a11))]) hP hD [6, 7, 0, 1, 2, 8, 3, 4, 5] [] rfl rfl (by decide) (by decide) hk1 hFc hP1 hD1
  clear hk1 hz1 ht hPc hDc hKc hFc
  generalize H1 = H at hP hS ⊢
  replace hP : va_P (dC, dI) vwCl [(h0, .inr (8, [.int th, .ref q1, .ref q2, .ref q3, .ref q4, v5, v6, v7, .ref q8, .ref q9, .ref q10, .ref q11, v12, v13, v14, v15, v16])), (q1, .inl (c1, 16, .inl a1)), (q2, .inl (c2, 67200, .inl a2)), (q3, .inl (c3, 16, .inl a3)), (q4, .inl (c4, 16, .inl a4)), (q8, .inl (c8, 16, .inl a8)), (q9, .inl (c9, 16, .inl a9)), (q10, .inl (c10, 16, .inl a10)), (q11, .inl (c11, 16, .inl a11))] H := hP
  replace hD : va_D A [(h0, .inr (8, [.int th, .ref q1, .ref q2, .ref q3, .ref q4, v5, v6, v7, .ref q8, .ref q9, .ref q10, .ref q11, v12, v13, v14, v15, v16])), (q1, .inl (c1, 16, .inl a1)), (q2, .inl (c2, 67200, .inl a2)), (q3, .inl (c3, 16, .inl a3)), (q4, .inl (c4, 16, .inl a4)), (q8, .inl (c8, 16, .inl a8)), (q9, .inl (c9, 16, .inl a9)), (q10, .inl (c10, 16, .inl a10)), (q11, .inl (c11, 16, .inl a11))] := hD
  refine W.widen (k := 0) (n := 0) (Nat.le_of_ble_eq_true rfl) (Nat.le_of_ble_eq_true rfl) ?_
  obtain rfl : r_2 = nI ne := by rw [hne]; exact hw
  refine W.eq (g2 := F0 m 12 ls [.int (nI ne)]) rfl ?_
  refine lv_istore (lv' := [(5, .int (nI ne)), (4, .int (nI r)), (0, .ref h0), (1, .int (nI o)), (2, .int p1), (3, .int p2)]) hx hb dX8_nearest_12 hl (by decide) rfl (fun ls hl => ?_)
  refine lv_ldc2 (v := 1099511627776) hx hb hown hw0_ dX8_nearest_14 ?_
  refine lv_lstore (lv' := [(6, .long 1099511627776), (5, .int (nI ne)), (4, .int (nI r)), (0, .ref h0), (1, .int (nI o)), (2, .int p1), (3, .int p2)]) hx hb dX8_nearest_17 hl (by decide) rfl (fun ls hl => ?_)
  refine lv_iconst (v := 0) hx hb dX8_nearest_19 (by decide) ?_
  refine lv_istore (lv' := [(8, .int 0), (6, .long 1099511627776), (5, .int (nI ne)), (4, .int (nI r)), (0, .ref h0), (1, .int (nI o)), (2, .int p1), (3, .int p2)]) hx hb dX8_nearest_20 hl (by decide) rfl (fun ls hl => ?_)
  obtain ⟨i, es_i⟩ : ∃ z : Nat, z = 0 := ⟨_, rfl⟩
  obtain ⟨x9, ex9⟩ : ∃ y : Int32, y = nI i := ⟨_, rfl⟩
  obtain ⟨g9, es_g9⟩ : ∃ z : Int64, z = 1099511627776 := ⟨_, rfl⟩
  obtain ⟨n9, en9⟩ : ∃ n : Nat, n = ne + 1 := ⟨_, rfl⟩
  replace hl : lv_has ls 11 [(8, .int x9), (6, .long g9), (5, .int (nI ne)), (4, .int (nI r)), (0, .ref h0), (1, .int (nI o)), (2, .int p1), (3, .int p2)] := by subst ex9; subst es_i; subst es_g9; exact hl
  have hi9 : i ≤ ne := by subst ex9; subst es_i; subst es_g9; subst en9; exact Nat.zero_le _
  have hn9 : ne + 1 ≤ i + n9 := by subst ex9; subst es_i; subst es_g9; subst en9; exact by omega
  clear en9 es_i es_g9
  induction n9 generalizing i x9 g9 ls H locs with
  | zero => exact absurd hn9 (by omega)
  | succ n9 ih =>
    subst ex9
    refine lv_iload hx hb dX8_nearest_22 (lv_at hl 0 rfl) ?_
    refine lv_iload hx hb dX8_nearest_24 (lv_at hl 2 rfl) ?_
    refine lv_icmp_ge (tgt := 123) hx hb dX8_nearest_26 (by decide) (fun c_3 => ?_) (fun c_3 => ?_)
    ·
      have ic_3 : ((ne : Nat) : Int) ≤ ((i : Nat) : Int) := tx_le (nI_toInt (by omega)) (nI_toInt (by omega)) c_3
      refine lv_lload hx hb dX8_nearest_123 (lv_at hl 1 rfl) ?_
      have hP9 := hP.sub (ws' := [(h0, .inr (8, [.int th, .ref q1, .ref q2, .ref q3, .ref q4, v5, v6, v7, .ref q8, .ref q9, .ref q10, .ref q11, v12, v13, v14, v15, v16])), (q1, .inl (c1, 16, .inl a1)), (q2, .inl (c2, 67200, .inl a2)), (q3, .inl (c3, 16, .inl a3)), (q4, .inl (c4, 16, .inl a4)), (q8, .inl (c8, 16, .inl a8)), (q9, .inl (c9, 16, .inl a9)), (q10, .inl (c10, 16, .inl a10)), (q11, .inl (c11, 16, .inl a11))]) [0, 1, 2, 3, 4, 5, 6, 7, 8] rfl
      have hD9 := hD.sub (ws' := [(h0, .inr (8, [.int th, .ref q1, .ref q2, .ref q3, .ref q4, v5, v6, v7, .ref q8, .ref q9, .ref q10, .ref q11, v12, v13, v14, v15, v16])), (q1, .inl (c1, 16, .inl a1)), (q2, .inl (c2, 67200, .inl a2)), (q3, .inl (c3, 16, .inl a3)), (q4, .inl (c4, 16, .inl a4)), (q8, .inl (c8, 16, .inl a8)), (q9, .inl (c9, 16, .inl a9)), (q10, .inl (c10, 16, .inl a10)), (q11, .inl (c11, 16, .inl a11))]) [0, 1, 2, 3, 4, 5, 6, 7, 8] (by decide) rfl
      have hK9 := hK.sub (tys' := [(c1, .int), (c2, .int), (c3, .int), (c4, .int), (c8, .int), (c9, .int), (c10, .int), (c11, .int)]) [0, 1, 2, 3, 4, 5, 6, 7] rfl
      refine W.widen (k := 0) (n := 0) (Nat.le_of_ble_eq_true rfl) (Nat.le_of_ble_eq_true rfl) ?_
      exact W.lret (v := g9) hx hb hr (fun t ht hW => ⟨⟨g9, (), rfl, trivial, by rw [ht]; exact hP9, va_K.moved hW.alike hK9, hD9⟩, hS.F ht⟩) hS.2.2 dX8_nearest_125
    ·
      have ic_3 : ((i : Nat) : Int) < ((ne : Nat) : Int) := tx_nle (nI_toInt (by omega)) (nI_toInt (by omega)) c_3
      refine lv_aload_n hx hb dX8_nearest_29 rfl (lv_at hl 4 rfl) ?_
      refine lv_iload hx hb dX8_nearest_30 (lv_at hl 3 rfl) ?_
      refine lv_aload_n hx hb dX8_nearest_32 rfl (lv_at hl 4 rfl) ?_
      refine lv_iload_n hx hb dX8_nearest_33 rfl (lv_at hl 5 rfl) ?_
      refine lv_iload hx hb dX8_nearest_34 (lv_at hl 0 rfl) ?_
      have hPc := hP.sub (ws' := [(h0, .inr (8, [.int th, .ref q1, .ref q2, .ref q3, .ref q4, v5, v6, v7, .ref q8, .ref q9, .ref q10, .ref q11, v12, v13, v14, v15, v16])), (q1, .inl (c1, 16, .inl a1)), (q2, .inl (c2, 67200, .inl a2)), (q3, .inl (c3, 16, .inl a3)), (q4, .inl (c4, 16, .inl a4)), (q8, .inl (c8, 16, .inl a8)), (q9, .inl (c9, 16, .inl a9)), (q10, .inl (c10, 16, .inl a10)), (q11, .inl (c11, 16, .inl a11))]) [0, 1, 2, 3, 4, 5, 6, 7, 8] rfl
      have hDc := hD.sub (ws' := [(h0, .inr (8, [.int th, .ref q1, .ref q2, .ref q3, .ref q4, v5, v6, v7, .ref q8, .ref q9, .ref q10, .ref q11, v12, v13, v14, v15, v16])), (q1, .inl (c1, 16, .inl a1)), (q2, .inl (c2, 67200, .inl a2)), (q3, .inl (c3, 16, .inl a3)), (q4, .inl (c4, 16, .inl a4)), (q8, .inl (c8, 16, .inl a8)), (q9, .inl (c9, 16, .inl a9)), (q10, .inl (c10, 16, .inl a10)), (q11, .inl (c11, 16, .inl a11))]) [0, 1, 2, 3, 4, 5, 6, 7, 8] (by decide) rfl
      have hKc := hK.sub (tys' := [(c1, .int), (c2, .int), (c3, .int), (c4, .int), (c8, .int), (c9, .int), (c10, .int), (c11, .int)]) [0, 1, 2, 3, 4, 5, 6, 7] rfl
      have hFc := va_free (wc := [(h0, .inr (8, [.int th, .ref q1, .ref q2, .ref q3, .ref q4, v5, v6, v7, .ref q8, .ref q9, .ref q10, .ref q11, v12, v13, v14, v15, v16])), (q1, .inl (c1, 16, .inl a1)), (q2, .inl (c2, 67200, .inl a2)), (q3, .inl (c3, 16, .inl a3)), (q4, .inl (c4, 16, .inl a4)), (q8, .inl (c8, 16, .inl a8)), (q9, .inl (c9, 16, .inl a9)), (q10, .inl (c10, 16, .inl a10)), (q11, .inl (c11, 16, .inl a11))]) hD hS hA [0, 1, 2, 3, 4, 5, 6, 7, 8] rfl
      refine va_calli (va_runV (As := [.int (nI o), .int (nI i)]) (rest := [.int (nI r), .ref h0]) ⟨hx, hb, hml, hown, hts⟩ (c_X8_nth l  dC dI H.size h0 th q1 q2 q3 q4 q8 q9 q10 q11 c1 c2 c3 c4 c8 c9 c10 c11 a1 a2 a3 a4 a8 a9 a10 a11 v5 v6 v7 v12 v13 v14 v15 v16 o dep nz i ho9 hF9 hd9 (by rw [hrt9]; exact hs9) hz9 (by rw [← hne]; omega)) (cwV 2 hts gX8_nearest_X8_nth rfl rfl rfl (by decide +kernel) ⟨(Nat.le_of_ble_eq_true rfl), (Nat.le_of_ble_eq_true rfl)⟩) ⟨pk_blind, va_recv hKc hPc (ci := 8) (q0 := 0) rfl rfl, pk_call hPc hKc hDc⟩ rfl rfl hl.1 rfl (lv_room (Nat.le_of_ble_eq_true rfl)) dX8_nearest_36 ⟨(Nat.le_of_ble_eq_true rfl), (Nat.le_of_ble_eq_true rfl)⟩) hS (fun q _ h => hFc q h) hFc (fun r_4 ur_4 t H1 locs ht hvm hw hB hz1 hk1 hS => ?_)
      try dsimp only at hw
      have jr_4 := hw
      obtain ⟨hP1, hK1, hD1⟩ := hB
      rw [ht] at hP1
      have hK1 := va_K.moved hvm.symm hK1
      obtain ⟨hP, hD⟩ := va_join (wr := []) (w1 := [(h0, .inr (8, [.int th, .ref q1, .ref q2, .ref q3, .ref q4, v5, v6, v7, .ref q8, .ref q9, .ref q10, .ref q11, v12, v13, v14, v15, v16])), (q1, .inl (c1, 16, .inl a1)), (q2, .inl (c2, 67200, .inl a2)), (q3, .inl (c3, 16, .inl a3)), (q4, .inl (c4, 16, .inl a4)), (q8, .inl (c8, 16, .inl a8)), (q9, .inl (c9, 16, .inl a9)), (q10, .inl (c10, 16, .inl a10)), (q11, .inl (c11, 16, .inl a11))]) hP hD [0, 1, 2, 3, 4, 5, 6, 7, 8] [] rfl rfl (by decide) (by decide) hk1 hFc hP1 hD1
      clear hk1 hz1 ht hPc hDc hKc hFc
      generalize H1 = H at hP hS ⊢
      replace hP : va_P (dC, dI) vwCl [(h0, .inr (8, [.int th, .ref q1, .ref q2, .ref q3, .ref q4, v5, v6, v7, .ref q8, .ref q9, .ref q10, .ref q11, v12, v13, v14, v15, v16])), (q1, .inl (c1, 16, .inl a1)), (q2, .inl (c2, 67200, .inl a2)), (q3, .inl (c3, 16, .inl a3)), (q4, .inl (c4, 16, .inl a4)), (q8, .inl (c8, 16, .inl a8)), (q9, .inl (c9, 16, .inl a9)), (q10, .inl (c10, 16, .inl a10)), (q11, .inl (c11, 16, .inl a11))] H := hP
      replace hD : va_D A [(h0, .inr (8, [.int th, .ref q1, .ref q2, .ref q3, .ref q4, v5, v6, v7, .ref q8, .ref q9, .ref q10, .ref q11, v12, v13, v14, v15, v16])), (q1, .inl (c1, 16, .inl a1)), (q2, .inl (c2, 67200, .inl a2)), (q3, .inl (c3, 16, .inl a3)), (q4, .inl (c4, 16, .inl a4)), (q8, .inl (c8, 16, .inl a8)), (q9, .inl (c9, 16, .inl a9)), (q10, .inl (c10, 16, .inl a10)), (q11, .inl (c11, 16, .inl a11))] := hD
      refine W.widen (k := 0) (n := 0) (Nat.le_of_ble_eq_true rfl) (Nat.le_of_ble_eq_true rfl) ?_
      obtain ⟨k8, hk8, rfl, hk8b⟩ := jr_4
      refine W.eq (g2 := F0 m 39 ls [.int (nI k8), .int (nI r), .ref h0]) rfl ?_
      have hPc := hP.sub (ws' := [(h0, .inr (8, [.int th, .ref q1, .ref q2, .ref q3, .ref q4, v5, v6, v7, .ref q8, .ref q9, .ref q10, .ref q11, v12, v13, v14, v15, v16])), (q2, .inl (c2, 67200, .inl a2))]) [0, 2] rfl
      have hDc := hD.sub (ws' := [(h0, .inr (8, [.int th, .ref q1, .ref q2, .ref q3, .ref q4, v5, v6, v7, .ref q8, .ref q9, .ref q10, .ref q11, v12, v13, v14, v15, v16])), (q2, .inl (c2, 67200, .inl a2))]) [0, 2] (by decide) rfl
      have hKc := hK.sub (tys' := [(c2, .int)]) [1] rfl
      have hFc := va_free (wc := [(h0, .inr (8, [.int th, .ref q1, .ref q2, .ref q3, .ref q4, v5, v6, v7, .ref q8, .ref q9, .ref q10, .ref q11, v12, v13, v14, v15, v16])), (q2, .inl (c2, 67200, .inl a2))]) hD hS hA [0, 2] rfl
      refine va_calli (va_runV (As := [.int (nI r), .int (nI k8)]) (rest := []) ⟨hx, hb, hml, hown, hts⟩ (c_X8_key l  dC dI H.size h0 th q2 c2 a2 (.ref q1) (.ref q3) (.ref q4) v5 v6 v7 (.ref q8) (.ref q9) (.ref q10) (.ref q11) v12 v13 v14 v15 v16 r k8 hr9 (by omega)) (cwV 2 hts gX8_nearest_X8_key rfl rfl rfl (by decide +kernel) ⟨(Nat.le_of_ble_eq_true rfl), (Nat.le_of_ble_eq_true rfl)⟩) ⟨pk_blind, va_recv hKc hPc (ci := 8) (q0 := 0) rfl rfl, pk_call hPc hKc hDc⟩ rfl rfl hl.1 rfl (lv_room (Nat.le_of_ble_eq_true rfl)) dX8_nearest_39 ⟨(Nat.le_of_ble_eq_true rfl), (Nat.le_of_ble_eq_true rfl)⟩) hS (fun q _ h => hFc q h) hFc (fun r_5 ur_5 t H1 locs ht hvm hw hB hz1 hk1 hS => ?_)
      try dsimp only at hw
      obtain ⟨hP1, hK1, hD1⟩ := hB
      rw [ht] at hP1
      have hK1 := va_K.moved hvm.symm hK1
      obtain ⟨hP, hD⟩ := va_join (wr := [(q1, .inl (c1, 16, .inl a1)), (q3, .inl (c3, 16, .inl a3)), (q4, .inl (c4, 16, .inl a4)), (q8, .inl (c8, 16, .inl a8)), (q9, .inl (c9, 16, .inl a9)), (q10, .inl (c10, 16, .inl a10)), (q11, .inl (c11, 16, .inl a11))]) (w1 := [(h0, .inr (8, [.int th, .ref q1, .ref q2, .ref q3, .ref q4, v5, v6, v7, .ref q8, .ref q9, .ref q10, .ref q11, v12, v13, v14, v15, v16])), (q2, .inl (c2, 67200, .inl a2))]) hP hD [0, 2] [1, 3, 4, 5, 6, 7, 8] rfl rfl (by decide) (by decide) hk1 hFc hP1 hD1
      clear hk1 hz1 ht hPc hDc hKc hFc
      generalize H1 = H at hP hS ⊢
      replace hP : va_P (dC, dI) vwCl [(q1, .inl (c1, 16, .inl a1)), (q3, .inl (c3, 16, .inl a3)), (q4, .inl (c4, 16, .inl a4)), (q8, .inl (c8, 16, .inl a8)), (q9, .inl (c9, 16, .inl a9)), (q10, .inl (c10, 16, .inl a10)), (q11, .inl (c11, 16, .inl a11)), (h0, .inr (8, [.int th, .ref q1, .ref q2, .ref q3, .ref q4, v5, v6, v7, .ref q8, .ref q9, .ref q10, .ref q11, v12, v13, v14, v15, v16])), (q2, .inl (c2, 67200, .inl a2))] H := hP
      replace hD : va_D A [(q1, .inl (c1, 16, .inl a1)), (q3, .inl (c3, 16, .inl a3)), (q4, .inl (c4, 16, .inl a4)), (q8, .inl (c8, 16, .inl a8)), (q9, .inl (c9, 16, .inl a9)), (q10, .inl (c10, 16, .inl a10)), (q11, .inl (c11, 16, .inl a11)), (h0, .inr (8, [.int th, .ref q1, .ref q2, .ref q3, .ref q4, v5, v6, v7, .ref q8, .ref q9, .ref q10, .ref q11, v12, v13, v14, v15, v16])), (q2, .inl (c2, 67200, .inl a2))] := hD
      refine W.widen (k := 0) (n := 0) (Nat.le_of_ble_eq_true rfl) (Nat.le_of_ble_eq_true rfl) ?_
      obtain rfl : r_5 = a2 (4200 * r + k8) := hw
      refine W.eq (g2 := F0 m 42 ls [.int (a2 (4200 * r + k8))]) rfl ?_
      refine lv_istore (lv' := [(9, .int (a2 (4200 * r + k8))), (8, .int (nI i)), (6, .long g9), (5, .int (nI ne)), (4, .int (nI r)), (0, .ref h0), (1, .int (nI o)), (2, .int p1), (3, .int p2)]) hx hb dX8_nearest_42 hl (by decide) rfl (fun ls hl => ?_)
      refine lv_aload_n hx hb dX8_nearest_44 rfl (lv_at hl 5 rfl) ?_
      refine lv_iload_n hx hb dX8_nearest_45 rfl (lv_at hl 6 rfl) ?_
      refine lv_iload hx hb dX8_nearest_46 (lv_at hl 0 rfl) ?_
      refine lv_iload_n hx hb dX8_nearest_48 rfl (lv_at hl 8 rfl) ?_
      have hPc := hP.sub (ws' := [(h0, .inr (8, [.int th, .ref q1, .ref q2, .ref q3, .ref q4, v5, v6, v7, .ref q8, .ref q9, .ref q10, .ref q11, v12, v13, v14, v15, v16])), (q1, .inl (c1, 16, .inl a1)), (q4, .inl (c4, 16, .inl a4)), (q8, .inl (c8, 16, .inl a8)), (q11, .inl (c11, 16, .inl a11))]) [7, 0, 2, 3, 6] rfl
      have hDc := hD.sub (ws' := [(h0, .inr (8, [.int th, .ref q1, .ref q2, .ref q3, .ref q4, v5, v6, v7, .ref q8, .ref q9, .ref q10, .ref q11, v12, v13, v14, v15, v16])), (q1, .inl (c1, 16, .inl a1)), (q4, .inl (c4, 16, .inl a4)), (q8, .inl (c8, 16, .inl a8)), (q11, .inl (c11, 16, .inl a11))]) [7, 0, 2, 3, 6] (by decide) rfl
      have hKc := hK.sub (tys' := [(c1, .int), (c4, .int), (c8, .int), (c11, .int)]) [0, 3, 4, 7] rfl
      have hFc := va_free (wc := [(h0, .inr (8, [.int th, .ref q1, .ref q2, .ref q3, .ref q4, v5, v6, v7, .ref q8, .ref q9, .ref q10, .ref q11, v12, v13, v14, v15, v16])), (q1, .inl (c1, 16, .inl a1)), (q4, .inl (c4, 16, .inl a4)), (q8, .inl (c8, 16, .inl a8)), (q11, .inl (c11, 16, .inl a11))]) hD hS hA [7, 0, 2, 3, 6] rfl
      refine va_calli (va_runV (As := [.int (nI o), .int (a2 (4200 * r + k8)), .int p2]) (rest := []) ⟨hx, hb, hml, hown, hts⟩ (c_X8_ordered l  dC dI H.size h0 th q1 q4 q8 q11 c1 c4 c8 c11 a1 a4 a8 a11 (.ref q2) (.ref q3) v5 v6 v7 (.ref q9) (.ref q10) v12 v13 v14 v15 v16 o dep (a2 (4200 * r + k8)) p2 ho9 hF9 hd9) (cwV 3 hts gX8_nearest_X8_ordered rfl rfl rfl (by decide +kernel) ⟨(Nat.le_of_ble_eq_true rfl), (Nat.le_of_ble_eq_true rfl)⟩) ⟨pk_blind, va_recv hKc hPc (ci := 8) (q0 := 0) rfl rfl, pk_call hPc hKc hDc⟩ rfl rfl hl.1 rfl (lv_room (Nat.le_of_ble_eq_true rfl)) dX8_nearest_49 ⟨(Nat.le_of_ble_eq_true rfl), (Nat.le_of_ble_eq_true rfl)⟩) hS (fun q _ h => hFc q h) hFc (fun r_6 ur_6 t H1 locs ht hvm hw hB hz1 hk1 hS => ?_)
      try dsimp only at hw
      have jr_6 := hw
      obtain ⟨hP1, hK1, hD1⟩ := hB
      rw [ht] at hP1
      have hK1 := va_K.moved hvm.symm hK1
      obtain ⟨hP, hD⟩ := va_join (wr := [(q3, .inl (c3, 16, .inl a3)), (q9, .inl (c9, 16, .inl a9)), (q10, .inl (c10, 16, .inl a10)), (q2, .inl (c2, 67200, .inl a2))]) (w1 := [(h0, .inr (8, [.int th, .ref q1, .ref q2, .ref q3, .ref q4, v5, v6, v7, .ref q8, .ref q9, .ref q10, .ref q11, v12, v13, v14, v15, v16])), (q1, .inl (c1, 16, .inl a1)), (q4, .inl (c4, 16, .inl a4)), (q8, .inl (c8, 16, .inl a8)), (q11, .inl (c11, 16, .inl a11))]) hP hD [7, 0, 2, 3, 6] [1, 4, 5, 8] rfl rfl (by decide) (by decide) hk1 hFc hP1 hD1
      clear hk1 hz1 ht hPc hDc hKc hFc
      generalize H1 = H at hP hS ⊢
      replace hP : va_P (dC, dI) vwCl [(q3, .inl (c3, 16, .inl a3)), (q9, .inl (c9, 16, .inl a9)), (q10, .inl (c10, 16, .inl a10)), (q2, .inl (c2, 67200, .inl a2)), (h0, .inr (8, [.int th, .ref q1, .ref q2, .ref q3, .ref q4, v5, v6, v7, .ref q8, .ref q9, .ref q10, .ref q11, v12, v13, v14, v15, v16])), (q1, .inl (c1, 16, .inl a1)), (q4, .inl (c4, 16, .inl a4)), (q8, .inl (c8, 16, .inl a8)), (q11, .inl (c11, 16, .inl a11))] H := hP
      replace hD : va_D A [(q3, .inl (c3, 16, .inl a3)), (q9, .inl (c9, 16, .inl a9)), (q10, .inl (c10, 16, .inl a10)), (q2, .inl (c2, 67200, .inl a2)), (h0, .inr (8, [.int th, .ref q1, .ref q2, .ref q3, .ref q4, v5, v6, v7, .ref q8, .ref q9, .ref q10, .ref q11, v12, v13, v14, v15, v16])), (q1, .inl (c1, 16, .inl a1)), (q4, .inl (c4, 16, .inl a4)), (q8, .inl (c8, 16, .inl a8)), (q11, .inl (c11, 16, .inl a11))] := hD
      refine W.widen (k := 0) (n := 0) (Nat.le_of_ble_eq_true rfl) (Nat.le_of_ble_eq_true rfl) ?_
      refine W.eq (g2 := F0 m 52 ls [.int r_6]) rfl ?_
      refine lv_istore (lv' := [(10, .int r_6), (9, .int (a2 (4200 * r + k8))), (8, .int (nI i)), (6, .long g9), (5, .int (nI ne)), (4, .int (nI r)), (0, .ref h0), (1, .int (nI o)), (2, .int p1), (3, .int p2)]) hx hb dX8_nearest_52 hl (by decide) rfl (fun ls hl => ?_)
      refine lv_iload_n hx hb dX8_nearest_54 rfl (lv_at hl 8 rfl) ?_
      refine lv_bipush (v := 14) hx hb dX8_nearest_55 (by decide) ?_
      refine lv_icmp_ne (tgt := 65) hx hb dX8_nearest_57 (by decide) (fun c_7 => ?_) (fun c_7 => ?_)
      ·
        have ic_7 : ¬ p1.toInt = 14 := tx_ne rfl (by decide) c_7
        refine lv_iload_n hx hb dX8_nearest_65 rfl (lv_at hl 8 rfl) ?_
        refine lv_bipush (v := 15) hx hb dX8_nearest_66 (by decide) ?_
        refine lv_icmp_ne (tgt := 81) hx hb dX8_nearest_68 (by decide) (fun c_8 => ?_) (fun c_8 => ?_)
        ·
          have ic_8 : ¬ p1.toInt = 15 := tx_ne rfl (by decide) c_8
          refine lv_lload hx hb dX8_nearest_81 (lv_at hl 3 rfl) ?_
          refine lv_ldc2 (v := 1099511627776) hx hb hown hw0_ dX8_nearest_83 ?_
          refine W.lcmp hx hb dX8_nearest_86 ?_
          refine lv_if_ne (tgt := 117) hx hb dX8_nearest_87 (by decide) (fun c_9 => ?_) (fun c_9 => ?_)
          ·
            have ic_9 := lgc_ne c_9
            refine lv_iinc (v := nI (i + 1)) (lv' := [(8, .int (nI (i + 1))), (10, .int r_6), (9, .int (a2 (4200 * r + k8))), (6, .long g9), (5, .int (nI ne)), (4, .int (nI r)), (0, .ref h0), (1, .int (nI o)), (2, .int p1), (3, .int p2)]) hx hb dX8_nearest_117 hl (k := 2) rfl (by rw [show Int32.ofInt 1 = nI 1 from rfl, nI_add]) (by decide) rfl (fun ls hl => ?_)
            refine lv_goto (tgt := 22) hx hb dX8_nearest_120 (by decide) ?_
            exact ih (i := i + 1) (x9 := nI (i + 1)) (ex9 := rfl) (g9 := g9) (ls := ls) (H := H) (locs := locs) (hP := hP.sub (ws' := [(h0, .inr (8, [.int th, .ref q1, .ref q2, .ref q3, .ref q4, v5, v6, v7, .ref q8, .ref q9, .ref q10, .ref q11, v12, v13, v14, v15, v16])), (q1, .inl (c1, 16, .inl a1)), (q2, .inl (c2, 67200, .inl a2)), (q3, .inl (c3, 16, .inl a3)), (q4, .inl (c4, 16, .inl a4)), (q8, .inl (c8, 16, .inl a8)), (q9, .inl (c9, 16, .inl a9)), (q10, .inl (c10, 16, .inl a10)), (q11, .inl (c11, 16, .inl a11))]) [4, 5, 3, 0, 6, 7, 1, 2, 8] rfl) (hS := hS) (hi9 := by omega) (hn9 := by omega) (hl := lv_sub hl [0, 3, 4, 5, 6, 7, 8, 9] rfl)
          ·
            have ic_9 := lgc_eq c_9
            refine lv_iload_n hx hb dX8_nearest_90 rfl (lv_at hl 8 rfl) ?_
            refine lv_bipush (v := 16) hx hb dX8_nearest_91 (by decide) ?_
            refine lv_icmp_ne (tgt := 101) hx hb dX8_nearest_93 (by decide) (fun c_10 => ?_) (fun c_10 => ?_)
            ·
              have ic_10 : ¬ p1.toInt = 16 := tx_ne rfl (by decide) c_10
              refine lv_iload_n hx hb dX8_nearest_101 rfl (lv_at hl 8 rfl) ?_
              refine lv_bipush (v := 17) hx hb dX8_nearest_102 (by decide) ?_
              refine lv_icmp_ne (tgt := 117) hx hb dX8_nearest_104 (by decide) (fun c_11 => ?_) (fun c_11 => ?_)
              ·
                have ic_11 : ¬ p1.toInt = 17 := tx_ne rfl (by decide) c_11
                refine lv_iinc (v := nI (i + 1)) (lv' := [(8, .int (nI (i + 1))), (10, .int r_6), (9, .int (a2 (4200 * r + k8))), (6, .long g9), (5, .int (nI ne)), (4, .int (nI r)), (0, .ref h0), (1, .int (nI o)), (2, .int p1), (3, .int p2)]) hx hb dX8_nearest_117 hl (k := 2) rfl (by rw [show Int32.ofInt 1 = nI 1 from rfl, nI_add]) (by decide) rfl (fun ls hl => ?_)
                refine lv_goto (tgt := 22) hx hb dX8_nearest_120 (by decide) ?_
                exact ih (i := i + 1) (x9 := nI (i + 1)) (ex9 := rfl) (g9 := g9) (ls := ls) (H := H) (locs := locs) (hP := hP.sub (ws' := [(h0, .inr (8, [.int th, .ref q1, .ref q2, .ref q3, .ref q4, v5, v6, v7, .ref q8, .ref q9, .ref q10, .ref q11, v12, v13, v14, v15, v16])), (q1, .inl (c1, 16, .inl a1)), (q2, .inl (c2, 67200, .inl a2)), (q3, .inl (c3, 16, .inl a3)), (q4, .inl (c4, 16, .inl a4)), (q8, .inl (c8, 16, .inl a8)), (q9, .inl (c9, 16, .inl a9)), (q10, .inl (c10, 16, .inl a10)), (q11, .inl (c11, 16, .inl a11))]) [4, 5, 3, 0, 6, 7, 1, 2, 8] rfl) (hS := hS) (hi9 := by omega) (hn9 := by omega) (hl := lv_sub hl [0, 3, 4, 5, 6, 7, 8, 9] rfl)
              ·
                have ic_11 : p1.toInt = 17 := tx_eq rfl (by decide) c_11
                refine lv_iload hx hb dX8_nearest_107 (lv_at hl 0 rfl) ?_
                refine lv_if_le (tgt := 117) hx hb dX8_nearest_109 (by decide) (fun c_12 => ?_) (fun c_12 => ?_)
                ·
                  have ic_12 : r_6.toInt ≤ 0 := tx_le rfl (by decide) c_12
                  refine lv_iinc (v := nI (i + 1)) (lv' := [(8, .int (nI (i + 1))), (10, .int r_6), (9, .int (a2 (4200 * r + k8))), (6, .long g9), (5, .int (nI ne)), (4, .int (nI r)), (0, .ref h0), (1, .int (nI o)), (2, .int p1), (3, .int p2)]) hx hb dX8_nearest_117 hl (k := 2) rfl (by rw [show Int32.ofInt 1 = nI 1 from rfl, nI_add]) (by decide) rfl (fun ls hl => ?_)
                  refine lv_goto (tgt := 22) hx hb dX8_nearest_120 (by decide) ?_
                  exact ih (i := i + 1) (x9 := nI (i + 1)) (ex9 := rfl) (g9 := g9) (ls := ls) (H := H) (locs := locs) (hP := hP.sub (ws' := [(h0, .inr (8, [.int th, .ref q1, .ref q2, .ref q3, .ref q4, v5, v6, v7, .ref q8, .ref q9, .ref q10, .ref q11, v12, v13, v14, v15, v16])), (q1, .inl (c1, 16, .inl a1)), (q2, .inl (c2, 67200, .inl a2)), (q3, .inl (c3, 16, .inl a3)), (q4, .inl (c4, 16, .inl a4)), (q8, .inl (c8, 16, .inl a8)), (q9, .inl (c9, 16, .inl a9)), (q10, .inl (c10, 16, .inl a10)), (q11, .inl (c11, 16, .inl a11))]) [4, 5, 3, 0, 6, 7, 1, 2, 8] rfl) (hS := hS) (hi9 := by omega) (hn9 := by omega) (hl := lv_sub hl [0, 3, 4, 5, 6, 7, 8, 9] rfl)
                ·
                  have ic_12 : 0 < r_6.toInt := tx_nle rfl (by decide) c_12
                  refine lv_iload hx hb dX8_nearest_112 (lv_at hl 1 rfl) ?_
                  refine lv_i2l (v := (a2 (4200 * r + k8)).toInt64) hx hb dX8_nearest_114 rfl ?_
                  refine lv_lstore (lv' := [(6, .long ((a2 (4200 * r + k8)).toInt64)), (10, .int r_6), (9, .int (a2 (4200 * r + k8))), (8, .int (nI i)), (5, .int (nI ne)), (4, .int (nI r)), (0, .ref h0), (1, .int (nI o)), (2, .int p1), (3, .int p2)]) hx hb dX8_nearest_115 hl (by decide) rfl (fun ls hl => ?_)
                  refine lv_iinc (v := nI (i + 1)) (lv' := [(8, .int (nI (i + 1))), (6, .long ((a2 (4200 * r + k8)).toInt64)), (10, .int r_6), (9, .int (a2 (4200 * r + k8))), (5, .int (nI ne)), (4, .int (nI r)), (0, .ref h0), (1, .int (nI o)), (2, .int p1), (3, .int p2)]) hx hb dX8_nearest_117 hl (k := 3) rfl (by rw [show Int32.ofInt 1 = nI 1 from rfl, nI_add]) (by decide) rfl (fun ls hl => ?_)
                  refine lv_goto (tgt := 22) hx hb dX8_nearest_120 (by decide) ?_
                  exact ih (i := i + 1) (x9 := nI (i + 1)) (ex9 := rfl) (g9 := (a2 (4200 * r + k8)).toInt64) (ls := ls) (H := H) (locs := locs) (hP := hP.sub (ws' := [(h0, .inr (8, [.int th, .ref q1, .ref q2, .ref q3, .ref q4, v5, v6, v7, .ref q8, .ref q9, .ref q10, .ref q11, v12, v13, v14, v15, v16])), (q1, .inl (c1, 16, .inl a1)), (q2, .inl (c2, 67200, .inl a2)), (q3, .inl (c3, 16, .inl a3)), (q4, .inl (c4, 16, .inl a4)), (q8, .inl (c8, 16, .inl a8)), (q9, .inl (c9, 16, .inl a9)), (q10, .inl (c10, 16, .inl a10)), (q11, .inl (c11, 16, .inl a11))]) [4, 5, 3, 0, 6, 7, 1, 2, 8] rfl) (hS := hS) (hi9 := by omega) (hn9 := by omega) (hl := lv_sub hl [0, 1, 4, 5, 6, 7, 8, 9] rfl)
            ·
              have ic_10 : p1.toInt = 16 := tx_eq rfl (by decide) c_10
              refine lv_iload hx hb dX8_nearest_96 (lv_at hl 0 rfl) ?_
              refine lv_if_ge (tgt := 112) hx hb dX8_nearest_98 (by decide) (fun c_13 => ?_) (fun c_13 => ?_)
              ·
                have ic_13 : 0 ≤ r_6.toInt := tx_le (by decide) rfl c_13
                refine lv_iload hx hb dX8_nearest_112 (lv_at hl 1 rfl) ?_
                refine lv_i2l (v := (a2 (4200 * r + k8)).toInt64) hx hb dX8_nearest_114 rfl ?_
                refine lv_lstore (lv' := [(6, .long ((a2 (4200 * r + k8)).toInt64)), (10, .int r_6), (9, .int (a2 (4200 * r + k8))), (8, .int (nI i)), (5, .int (nI ne)), (4, .int (nI r)), (0, .ref h0), (1, .int (nI o)), (2, .int p1), (3, .int p2)]) hx hb dX8_nearest_115 hl (by decide) rfl (fun ls hl => ?_)
                refine lv_iinc (v := nI (i + 1)) (lv' := [(8, .int (nI (i + 1))), (6, .long ((a2 (4200 * r + k8)).toInt64)), (10, .int r_6), (9, .int (a2 (4200 * r + k8))), (5, .int (nI ne)), (4, .int (nI r)), (0, .ref h0), (1, .int (nI o)), (2, .int p1), (3, .int p2)]) hx hb dX8_nearest_117 hl (k := 3) rfl (by rw [show Int32.ofInt 1 = nI 1 from rfl, nI_add]) (by decide) rfl (fun ls hl => ?_)
                refine lv_goto (tgt := 22) hx hb dX8_nearest_120 (by decide) ?_
                exact ih (i := i + 1) (x9 := nI (i + 1)) (ex9 := rfl) (g9 := (a2 (4200 * r + k8)).toInt64) (ls := ls) (H := H) (locs := locs) (hP := hP.sub (ws' := [(h0, .inr (8, [.int th, .ref q1, .ref q2, .ref q3, .ref q4, v5, v6, v7, .ref q8, .ref q9, .ref q10, .ref q11, v12, v13, v14, v15, v16])), (q1, .inl (c1, 16, .inl a1)), (q2, .inl (c2, 67200, .inl a2)), (q3, .inl (c3, 16, .inl a3)), (q4, .inl (c4, 16, .inl a4)), (q8, .inl (c8, 16, .inl a8)), (q9, .inl (c9, 16, .inl a9)), (q10, .inl (c10, 16, .inl a10)), (q11, .inl (c11, 16, .inl a11))]) [4, 5, 3, 0, 6, 7, 1, 2, 8] rfl) (hS := hS) (hi9 := by omega) (hn9 := by omega) (hl := lv_sub hl [0, 1, 4, 5, 6, 7, 8, 9] rfl)
              ·
                have ic_13 : r_6.toInt < 0 := tx_nle (by decide) rfl c_13
                refine lv_iload_n hx hb dX8_nearest_101 rfl (lv_at hl 8 rfl) ?_
                refine lv_bipush (v := 17) hx hb dX8_nearest_102 (by decide) ?_
                refine lv_icmp_ne (tgt := 117) hx hb dX8_nearest_104 (by decide) (fun c_14 => ?_) (fun c_14 => absurd c_14 (fun h9 => absurd (c_10.symm.trans h9) (by decide)))
                refine lv_iinc (v := nI (i + 1)) (lv' := [(8, .int (nI (i + 1))), (10, .int r_6), (9, .int (a2 (4200 * r + k8))), (6, .long g9), (5, .int (nI ne)), (4, .int (nI r)), (0, .ref h0), (1, .int (nI o)), (2, .int p1), (3, .int p2)]) hx hb dX8_nearest_117 hl (k := 2) rfl (by rw [show Int32.ofInt 1 = nI 1 from rfl, nI_add]) (by decide) rfl (fun ls hl => ?_)
                refine lv_goto (tgt := 22) hx hb dX8_nearest_120 (by decide) ?_
                exact ih (i := i + 1) (x9 := nI (i + 1)) (ex9 := rfl) (g9 := g9) (ls := ls) (H := H) (locs := locs) (hP := hP.sub (ws' := [(h0, .inr (8, [.int th, .ref q1, .ref q2, .ref q3, .ref q4, v5, v6, v7, .ref q8, .ref q9, .ref q10, .ref q11, v12, v13, v14, v15, v16])), (q1, .inl (c1, 16, .inl a1)), (q2, .inl (c2, 67200, .inl a2)), (q3, .inl (c3, 16, .inl a3)), (q4, .inl (c4, 16, .inl a4)), (q8, .inl (c8, 16, .inl a8)), (q9, .inl (c9, 16, .inl a9)), (q10, .inl (c10, 16, .inl a10)), (q11, .inl (c11, 16, .inl a11))]) [4, 5, 3, 0, 6, 7, 1, 2, 8] rfl) (hS := hS) (hi9 := by omega) (hn9 := by omega) (hl := lv_sub hl [0, 3, 4, 5, 6, 7, 8, 9] rfl)
        ·
          have ic_8 : p1.toInt = 15 := tx_eq rfl (by decide) c_8
          refine lv_iload hx hb dX8_nearest_71 (lv_at hl 0 rfl) ?_
          refine lv_if_gt (tgt := 81) hx hb dX8_nearest_73 (by decide) (fun c_15 => ?_) (fun c_15 => ?_)
          ·
            have ic_15 : 0 < r_6.toInt := tx_lt (by decide) rfl c_15
            refine lv_lload hx hb dX8_nearest_81 (lv_at hl 3 rfl) ?_
            refine lv_ldc2 (v := 1099511627776) hx hb hown hw0_ dX8_nearest_83 ?_
            refine W.lcmp hx hb dX8_nearest_86 ?_
            refine lv_if_ne (tgt := 117) hx hb dX8_nearest_87 (by decide) (fun c_16 => ?_) (fun c_16 => ?_)
            ·
              have ic_16 := lgc_ne c_16
              refine lv_iinc (v := nI (i + 1)) (lv' := [(8, .int (nI (i + 1))), (10, .int r_6), (9, .int (a2 (4200 * r + k8))), (6, .long g9), (5, .int (nI ne)), (4, .int (nI r)), (0, .ref h0), (1, .int (nI o)), (2, .int p1), (3, .int p2)]) hx hb dX8_nearest_117 hl (k := 2) rfl (by rw [show Int32.ofInt 1 = nI 1 from rfl, nI_add]) (by decide) rfl (fun ls hl => ?_)
              refine lv_goto (tgt := 22) hx hb dX8_nearest_120 (by decide) ?_
              exact ih (i := i + 1) (x9 := nI (i + 1)) (ex9 := rfl) (g9 := g9) (ls := ls) (H := H) (locs := locs) (hP := hP.sub (ws' := [(h0, .inr (8, [.int th, .ref q1, .ref q2, .ref q3, .ref q4, v5, v6, v7, .ref q8, .ref q9, .ref q10, .ref q11, v12, v13, v14, v15, v16])), (q1, .inl (c1, 16, .inl a1)), (q2, .inl (c2, 67200, .inl a2)), (q3, .inl (c3, 16, .inl a3)), (q4, .inl (c4, 16, .inl a4)), (q8, .inl (c8, 16, .inl a8)), (q9, .inl (c9, 16, .inl a9)), (q10, .inl (c10, 16, .inl a10)), (q11, .inl (c11, 16, .inl a11))]) [4, 5, 3, 0, 6, 7, 1, 2, 8] rfl) (hS := hS) (hi9 := by omega) (hn9 := by omega) (hl := lv_sub hl [0, 3, 4, 5, 6, 7, 8, 9] rfl)
            ·
              have ic_16 := lgc_eq c_16
              refine lv_iload_n hx hb dX8_nearest_90 rfl (lv_at hl 8 rfl) ?_
              refine lv_bipush (v := 16) hx hb dX8_nearest_91 (by decide) ?_
              refine lv_icmp_ne (tgt := 101) hx hb dX8_nearest_93 (by decide) (fun c_17 => ?_) (fun c_17 => absurd c_17 (fun h9 => absurd (c_8.symm.trans h9) (by decide)))
              refine lv_iload_n hx hb dX8_nearest_101 rfl (lv_at hl 8 rfl) ?_
              refine lv_bipush (v := 17) hx hb dX8_nearest_102 (by decide) ?_
              refine lv_icmp_ne (tgt := 117) hx hb dX8_nearest_104 (by decide) (fun c_18 => ?_) (fun c_18 => absurd c_18 (fun h9 => absurd (c_8.symm.trans h9) (by decide)))
              refine lv_iinc (v := nI (i + 1)) (lv' := [(8, .int (nI (i + 1))), (10, .int r_6), (9, .int (a2 (4200 * r + k8))), (6, .long g9), (5, .int (nI ne)), (4, .int (nI r)), (0, .ref h0), (1, .int (nI o)), (2, .int p1), (3, .int p2)]) hx hb dX8_nearest_117 hl (k := 2) rfl (by rw [show Int32.ofInt 1 = nI 1 from rfl, nI_add]) (by decide) rfl (fun ls hl => ?_)
              refine lv_goto (tgt := 22) hx hb dX8_nearest_120 (by decide) ?_
              exact ih (i := i + 1) (x9 := nI (i + 1)) (ex9 := rfl) (g9 := g9) (ls := ls) (H := H) (locs := locs) (hP := hP.sub (ws' := [(h0, .inr (8, [.int th, .ref q1, .ref q2, .ref q3, .ref q4, v5, v6, v7, .ref q8, .ref q9, .ref q10, .ref q11, v12, v13, v14, v15, v16])), (q1, .inl (c1, 16, .inl a1)), (q2, .inl (c2, 67200, .inl a2)), (q3, .inl (c3, 16, .inl a3)), (q4, .inl (c4, 16, .inl a4)), (q8, .inl (c8, 16, .inl a8)), (q9, .inl (c9, 16, .inl a9)), (q10, .inl (c10, 16, .inl a10)), (q11, .inl (c11, 16, .inl a11))]) [4, 5, 3, 0, 6, 7, 1, 2, 8] rfl) (hS := hS) (hi9 := by omega) (hn9 := by omega) (hl := lv_sub hl [0, 3, 4, 5, 6, 7, 8, 9] rfl)
          ·
            have ic_15 : r_6.toInt ≤ 0 := tx_nlt (by decide) rfl c_15
            refine lv_iload hx hb dX8_nearest_76 (lv_at hl 1 rfl) ?_
            refine lv_i2l (v := (a2 (4200 * r + k8)).toInt64) hx hb dX8_nearest_78 rfl ?_
            refine lv_lstore (lv' := [(6, .long ((a2 (4200 * r + k8)).toInt64)), (10, .int r_6), (9, .int (a2 (4200 * r + k8))), (8, .int (nI i)), (5, .int (nI ne)), (4, .int (nI r)), (0, .ref h0), (1, .int (nI o)), (2, .int p1), (3, .int p2)]) hx hb dX8_nearest_79 hl (by decide) rfl (fun ls hl => ?_)
            refine lv_lload hx hb dX8_nearest_81 (lv_at hl 0 rfl) ?_
            refine lv_ldc2 (v := 1099511627776) hx hb hown hw0_ dX8_nearest_83 ?_
            refine W.lcmp hx hb dX8_nearest_86 ?_
            refine lv_if_ne (tgt := 117) hx hb dX8_nearest_87 (by decide) (fun c_19 => ?_) (fun c_19 => ?_)
            ·
              have ic_19 := lgc_ne c_19
              refine lv_iinc (v := nI (i + 1)) (lv' := [(8, .int (nI (i + 1))), (6, .long ((a2 (4200 * r + k8)).toInt64)), (10, .int r_6), (9, .int (a2 (4200 * r + k8))), (5, .int (nI ne)), (4, .int (nI r)), (0, .ref h0), (1, .int (nI o)), (2, .int p1), (3, .int p2)]) hx hb dX8_nearest_117 hl (k := 3) rfl (by rw [show Int32.ofInt 1 = nI 1 from rfl, nI_add]) (by decide) rfl (fun ls hl => ?_)
              refine lv_goto (tgt := 22) hx hb dX8_nearest_120 (by decide) ?_
              exact ih (i := i + 1) (x9 := nI (i + 1)) (ex9 := rfl) (g9 := (a2 (4200 * r + k8)).toInt64) (ls := ls) (H := H) (locs := locs) (hP := hP.sub (ws' := [(h0, .inr (8, [.int th, .ref q1, .ref q2, .ref q3, .ref q4, v5, v6, v7, .ref q8, .ref q9, .ref q10, .ref q11, v12, v13, v14, v15, v16])), (q1, .inl (c1, 16, .inl a1)), (q2, .inl (c2, 67200, .inl a2)), (q3, .inl (c3, 16, .inl a3)), (q4, .inl (c4, 16, .inl a4)), (q8, .inl (c8, 16, .inl a8)), (q9, .inl (c9, 16, .inl a9)), (q10, .inl (c10, 16, .inl a10)), (q11, .inl (c11, 16, .inl a11))]) [4, 5, 3, 0, 6, 7, 1, 2, 8] rfl) (hS := hS) (hi9 := by omega) (hn9 := by omega) (hl := lv_sub hl [0, 1, 4, 5, 6, 7, 8, 9] rfl)
            ·
              have ic_19 := lgc_eq c_19
              refine lv_iload_n hx hb dX8_nearest_90 rfl (lv_at hl 8 rfl) ?_
              refine lv_bipush (v := 16) hx hb dX8_nearest_91 (by decide) ?_
              refine lv_icmp_ne (tgt := 101) hx hb dX8_nearest_93 (by decide) (fun c_20 => ?_) (fun c_20 => absurd c_20 (fun h9 => absurd (c_8.symm.trans h9) (by decide)))
              refine lv_iload_n hx hb dX8_nearest_101 rfl (lv_at hl 8 rfl) ?_
              refine lv_bipush (v := 17) hx hb dX8_nearest_102 (by decide) ?_
              refine lv_icmp_ne (tgt := 117) hx hb dX8_nearest_104 (by decide) (fun c_21 => ?_) (fun c_21 => absurd c_21 (fun h9 => absurd (c_8.symm.trans h9) (by decide)))
              refine lv_iinc (v := nI (i + 1)) (lv' := [(8, .int (nI (i + 1))), (6, .long ((a2 (4200 * r + k8)).toInt64)), (10, .int r_6), (9, .int (a2 (4200 * r + k8))), (5, .int (nI ne)), (4, .int (nI r)), (0, .ref h0), (1, .int (nI o)), (2, .int p1), (3, .int p2)]) hx hb dX8_nearest_117 hl (k := 3) rfl (by rw [show Int32.ofInt 1 = nI 1 from rfl, nI_add]) (by decide) rfl (fun ls hl => ?_)
              refine lv_goto (tgt := 22) hx hb dX8_nearest_120 (by decide) ?_
              exact ih (i := i + 1) (x9 := nI (i + 1)) (ex9 := rfl) (g9 := (a2 (4200 * r + k8)).toInt64) (ls := ls) (H := H) (locs := locs) (hP := hP.sub (ws' := [(h0, .inr (8, [.int th, .ref q1, .ref q2, .ref q3, .ref q4, v5, v6, v7, .ref q8, .ref q9, .ref q10, .ref q11, v12, v13, v14, v15, v16])), (q1, .inl (c1, 16, .inl a1)), (q2, .inl (c2, 67200, .inl a2)), (q3, .inl (c3, 16, .inl a3)), (q4, .inl (c4, 16, .inl a4)), (q8, .inl (c8, 16, .inl a8)), (q9, .inl (c9, 16, .inl a9)), (q10, .inl (c10, 16, .inl a10)), (q11, .inl (c11, 16, .inl a11))]) [4, 5, 3, 0, 6, 7, 1, 2, 8] rfl) (hS := hS) (hi9 := by omega) (hn9 := by omega) (hl := lv_sub hl [0, 1, 4, 5, 6, 7, 8, 9] rfl)
      ·
        have ic_7 : p1.toInt = 14 := tx_eq rfl (by decide) c_7
        refine lv_iload hx hb dX8_nearest_60 (lv_at hl 0 rfl) ?_
        refine lv_if_lt (tgt := 76) hx hb dX8_nearest_62 (by decide) (fun c_22 => ?_) (fun c_22 => ?_)
        ·
          have ic_22 : r_6.toInt < 0 := tx_lt rfl (by decide) c_22
          refine lv_iload hx hb dX8_nearest_76 (lv_at hl 1 rfl) ?_
          refine lv_i2l (v := (a2 (4200 * r + k8)).toInt64) hx hb dX8_nearest_78 rfl ?_
          refine lv_lstore (lv' := [(6, .long ((a2 (4200 * r + k8)).toInt64)), (10, .int r_6), (9, .int (a2 (4200 * r + k8))), (8, .int (nI i)), (5, .int (nI ne)), (4, .int (nI r)), (0, .ref h0), (1, .int (nI o)), (2, .int p1), (3, .int p2)]) hx hb dX8_nearest_79 hl (by decide) rfl (fun ls hl => ?_)
          refine lv_lload hx hb dX8_nearest_81 (lv_at hl 0 rfl) ?_
          refine lv_ldc2 (v := 1099511627776) hx hb hown hw0_ dX8_nearest_83 ?_
          refine W.lcmp hx hb dX8_nearest_86 ?_
          refine lv_if_ne (tgt := 117) hx hb dX8_nearest_87 (by decide) (fun c_23 => ?_) (fun c_23 => ?_)
          ·
            have ic_23 := lgc_ne c_23
            refine lv_iinc (v := nI (i + 1)) (lv' := [(8, .int (nI (i + 1))), (6, .long ((a2 (4200 * r + k8)).toInt64)), (10, .int r_6), (9, .int (a2 (4200 * r + k8))), (5, .int (nI ne)), (4, .int (nI r)), (0, .ref h0), (1, .int (nI o)), (2, .int p1), (3, .int p2)]) hx hb dX8_nearest_117 hl (k := 3) rfl (by rw [show Int32.ofInt 1 = nI 1 from rfl, nI_add]) (by decide) rfl (fun ls hl => ?_)
            refine lv_goto (tgt := 22) hx hb dX8_nearest_120 (by decide) ?_
            exact ih (i := i + 1) (x9 := nI (i + 1)) (ex9 := rfl) (g9 := (a2 (4200 * r + k8)).toInt64) (ls := ls) (H := H) (locs := locs) (hP := hP.sub (ws' := [(h0, .inr (8, [.int th, .ref q1, .ref q2, .ref q3, .ref q4, v5, v6, v7, .ref q8, .ref q9, .ref q10, .ref q11, v12, v13, v14, v15, v16])), (q1, .inl (c1, 16, .inl a1)), (q2, .inl (c2, 67200, .inl a2)), (q3, .inl (c3, 16, .inl a3)), (q4, .inl (c4, 16, .inl a4)), (q8, .inl (c8, 16, .inl a8)), (q9, .inl (c9, 16, .inl a9)), (q10, .inl (c10, 16, .inl a10)), (q11, .inl (c11, 16, .inl a11))]) [4, 5, 3, 0, 6, 7, 1, 2, 8] rfl) (hS := hS) (hi9 := by omega) (hn9 := by omega) (hl := lv_sub hl [0, 1, 4, 5, 6, 7, 8, 9] rfl)
          ·
            have ic_23 := lgc_eq c_23
            refine lv_iload_n hx hb dX8_nearest_90 rfl (lv_at hl 8 rfl) ?_
            refine lv_bipush (v := 16) hx hb dX8_nearest_91 (by decide) ?_
            refine lv_icmp_ne (tgt := 101) hx hb dX8_nearest_93 (by decide) (fun c_24 => ?_) (fun c_24 => absurd c_24 (fun h9 => absurd (c_7.symm.trans h9) (by decide)))
            refine lv_iload_n hx hb dX8_nearest_101 rfl (lv_at hl 8 rfl) ?_
            refine lv_bipush (v := 17) hx hb dX8_nearest_102 (by decide) ?_
            refine lv_icmp_ne (tgt := 117) hx hb dX8_nearest_104 (by decide) (fun c_25 => ?_) (fun c_25 => absurd c_25 (fun h9 => absurd (c_7.symm.trans h9) (by decide)))
            refine lv_iinc (v := nI (i + 1)) (lv' := [(8, .int (nI (i + 1))), (6, .long ((a2 (4200 * r + k8)).toInt64)), (10, .int r_6), (9, .int (a2 (4200 * r + k8))), (5, .int (nI ne)), (4, .int (nI r)), (0, .ref h0), (1, .int (nI o)), (2, .int p1), (3, .int p2)]) hx hb dX8_nearest_117 hl (k := 3) rfl (by rw [show Int32.ofInt 1 = nI 1 from rfl, nI_add]) (by decide) rfl (fun ls hl => ?_)
            refine lv_goto (tgt := 22) hx hb dX8_nearest_120 (by decide) ?_
            exact ih (i := i + 1) (x9 := nI (i + 1)) (ex9 := rfl) (g9 := (a2 (4200 * r + k8)).toInt64) (ls := ls) (H := H) (locs := locs) (hP := hP.sub (ws' := [(h0, .inr (8, [.int th, .ref q1, .ref q2, .ref q3, .ref q4, v5, v6, v7, .ref q8, .ref q9, .ref q10, .ref q11, v12, v13, v14, v15, v16])), (q1, .inl (c1, 16, .inl a1)), (q2, .inl (c2, 67200, .inl a2)), (q3, .inl (c3, 16, .inl a3)), (q4, .inl (c4, 16, .inl a4)), (q8, .inl (c8, 16, .inl a8)), (q9, .inl (c9, 16, .inl a9)), (q10, .inl (c10, 16, .inl a10)), (q11, .inl (c11, 16, .inl a11))]) [4, 5, 3, 0, 6, 7, 1, 2, 8] rfl) (hS := hS) (hi9 := by omega) (hn9 := by omega) (hl := lv_sub hl [0, 1, 4, 5, 6, 7, 8, 9] rfl)
        ·
          have ic_22 : 0 ≤ r_6.toInt := tx_nlt rfl (by decide) c_22
          refine lv_iload_n hx hb dX8_nearest_65 rfl (lv_at hl 8 rfl) ?_
          refine lv_bipush (v := 15) hx hb dX8_nearest_66 (by decide) ?_
          refine lv_icmp_ne (tgt := 81) hx hb dX8_nearest_68 (by decide) (fun c_26 => ?_) (fun c_26 => absurd c_26 (fun h9 => absurd (c_7.symm.trans h9) (by decide)))
          refine lv_lload hx hb dX8_nearest_81 (lv_at hl 3 rfl) ?_
          refine lv_ldc2 (v := 1099511627776) hx hb hown hw0_ dX8_nearest_83 ?_
          refine W.lcmp hx hb dX8_nearest_86 ?_
          refine lv_if_ne (tgt := 117) hx hb dX8_nearest_87 (by decide) (fun c_27 => ?_) (fun c_27 => ?_)
          ·
            have ic_27 := lgc_ne c_27
            refine lv_iinc (v := nI (i + 1)) (lv' := [(8, .int (nI (i + 1))), (10, .int r_6), (9, .int (a2 (4200 * r + k8))), (6, .long g9), (5, .int (nI ne)), (4, .int (nI r)), (0, .ref h0), (1, .int (nI o)), (2, .int p1), (3, .int p2)]) hx hb dX8_nearest_117 hl (k := 2) rfl (by rw [show Int32.ofInt 1 = nI 1 from rfl, nI_add]) (by decide) rfl (fun ls hl => ?_)
            refine lv_goto (tgt := 22) hx hb dX8_nearest_120 (by decide) ?_
            exact ih (i := i + 1) (x9 := nI (i + 1)) (ex9 := rfl) (g9 := g9) (ls := ls) (H := H) (locs := locs) (hP := hP.sub (ws' := [(h0, .inr (8, [.int th, .ref q1, .ref q2, .ref q3, .ref q4, v5, v6, v7, .ref q8, .ref q9, .ref q10, .ref q11, v12, v13, v14, v15, v16])), (q1, .inl (c1, 16, .inl a1)), (q2, .inl (c2, 67200, .inl a2)), (q3, .inl (c3, 16, .inl a3)), (q4, .inl (c4, 16, .inl a4)), (q8, .inl (c8, 16, .inl a8)), (q9, .inl (c9, 16, .inl a9)), (q10, .inl (c10, 16, .inl a10)), (q11, .inl (c11, 16, .inl a11))]) [4, 5, 3, 0, 6, 7, 1, 2, 8] rfl) (hS := hS) (hi9 := by omega) (hn9 := by omega) (hl := lv_sub hl [0, 3, 4, 5, 6, 7, 8, 9] rfl)
          ·
            have ic_27 := lgc_eq c_27
            refine lv_iload_n hx hb dX8_nearest_90 rfl (lv_at hl 8 rfl) ?_
            refine lv_bipush (v := 16) hx hb dX8_nearest_91 (by decide) ?_
            refine lv_icmp_ne (tgt := 101) hx hb dX8_nearest_93 (by decide) (fun c_28 => ?_) (fun c_28 => absurd c_28 (fun h9 => absurd (c_7.symm.trans h9) (by decide)))
            refine lv_iload_n hx hb dX8_nearest_101 rfl (lv_at hl 8 rfl) ?_
            refine lv_bipush (v := 17) hx hb dX8_nearest_102 (by decide) ?_
            refine lv_icmp_ne (tgt := 117) hx hb dX8_nearest_104 (by decide) (fun c_29 => ?_) (fun c_29 => absurd c_29 (fun h9 => absurd (c_7.symm.trans h9) (by decide)))
            refine lv_iinc (v := nI (i + 1)) (lv' := [(8, .int (nI (i + 1))), (10, .int r_6), (9, .int (a2 (4200 * r + k8))), (6, .long g9), (5, .int (nI ne)), (4, .int (nI r)), (0, .ref h0), (1, .int (nI o)), (2, .int p1), (3, .int p2)]) hx hb dX8_nearest_117 hl (k := 2) rfl (by rw [show Int32.ofInt 1 = nI 1 from rfl, nI_add]) (by decide) rfl (fun ls hl => ?_)
            refine lv_goto (tgt := 22) hx hb dX8_nearest_120 (by decide) ?_
            exact ih (i := i + 1) (x9 := nI (i + 1)) (ex9 := rfl) (g9 := g9) (ls := ls) (H := H) (locs := locs) (hP := hP.sub (ws' := [(h0, .inr (8, [.int th, .ref q1, .ref q2, .ref q3, .ref q4, v5, v6, v7, .ref q8, .ref q9, .ref q10, .ref q11, v12, v13, v14, v15, v16])), (q1, .inl (c1, 16, .inl a1)), (q2, .inl (c2, 67200, .inl a2)), (q3, .inl (c3, 16, .inl a3)), (q4, .inl (c4, 16, .inl a4)), (q8, .inl (c8, 16, .inl a8)), (q9, .inl (c9, 16, .inl a9)), (q10, .inl (c10, 16, .inl a10)), (q11, .inl (c11, 16, .inl a11))]) [4, 5, 3, 0, 6, 7, 1, 2, 8] rfl) (hS := hS) (hi9 := by omega) (hn9 := by omega) (hl := lv_sub hl [0, 3, 4, 5, 6, 7, 8, 9] rfl)
set_option maxHeartbeats 4000000 in
set_option maxRecDepth 100000 in
/-- sameMap -/
theorem c_X8_sameMap (l : Launch) (dC : Nat → ClassId) (dI : Nat → Nat → Nat) (sz : Nat) (h0 : Nat) (th : Int32) (q1 : Nat) (q2 : Nat) (q3 : Nat) (q4 : Nat) (q8 : Nat) (q9 : Nat) (q10 : Nat) (q11 : Nat) (c1 : ClassId) (c2 : ClassId) (c3 : ClassId) (c4 : ClassId) (c8 : ClassId) (c9 : ClassId) (c10 : ClassId) (c11 : ClassId) (a1 : Nat → Int32) (a2 : Nat → Int32) (a3 : Nat → Int32) (a4 : Nat → Int32) (a8 : Nat → Int32) (a9 : Nat → Int32) (a10 : Nat → Int32) (a11 : Nat → Int32) (v5 : Value) (v6 : Value) (v7 : Value) (v12 : Value) (v13 : Value) (v14 : Value) (v15 : Value) (v16 : Value) (o : Nat) (dep : Nat → Nat) (r : Nat) (o2 : Nat) (r2 : Nat) (nz : Nat) (n2 : Nat) (ho9 : o < 16) (hF9 : rF a1 a8 dep) (hd9 : dep o < 17) (hrt9 : rtN a1 a8 17 o = r) (ho8 : o2 < 16) (hd8 : dep o2 < 17) (hrt8 : rtN a1 a8 17 o2 = r2) (hs9 : a3 r = nI nz) (hz9 : nz ≤ 1000) (hs8 : a3 r2 = nI n2) (hz8 : n2 ≤ 1000) : Met l yX8_sameMap wsX8_sameMap ({ frames := 5, cells := 0, slots := 0, locals := 190 }) (va_Pc [.ref h0, .int (nI o), .int (nI o2)] (pk_Pre (dC, dI) [(h0, .inr (8, [.int th, .ref q1, .ref q2, .ref q3, .ref q4, v5, v6, v7, .ref q8, .ref q9, .ref q10, .ref q11, v12, v13, v14, v15, v16])), (q1, .inl (c1, 16, .inl a1)), (q2, .inl (c2, 67200, .inl a2)), (q3, .inl (c3, 16, .inl a3)), (q4, .inl (c4, 16, .inl a4)), (q8, .inl (c8, 16, .inl a8)), (q9, .inl (c9, 16, .inl a9)), (q10, .inl (c10, 16, .inl a10)), (q11, .inl (c11, 16, .inl a11))] [(c1, .int), (c2, .int), (c3, .int), (c4, .int), (c8, .int), (c9, .int), (c10, .int), (c11, .int)] sz)) (va_Ql (fun (_ : Int64) (_ : Unit) => True) (fun (_ : Unit) (t : State) => va_P (dC, dI) vwCl [(h0, .inr (8, [.int th, .ref q1, .ref q2, .ref q3, .ref q4, v5, v6, v7, .ref q8, .ref q9, .ref q10, .ref q11, v12, v13, v14, v15, v16])), (q1, .inl (c1, 16, .inl a1)), (q2, .inl (c2, 67200, .inl a2)), (q3, .inl (c3, 16, .inl a3)), (q4, .inl (c4, 16, .inl a4)), (q8, .inl (c8, 16, .inl a8)), (q9, .inl (c9, 16, .inl a9)), (q10, .inl (c10, 16, .inl a10)), (q11, .inl (c11, 16, .inl a11))] t.heap ∧ va_K (dC, dI) vwCl [(c1, .int), (c2, .int), (c3, .int), (c4, .int), (c8, .int), (c9, .int), (c10, .int), (c11, .int)] t ∧ va_D (va_A [(h0, .inr (8, [.int th, .ref q1, .ref q2, .ref q3, .ref q4, v5, v6, v7, .ref q8, .ref q9, .ref q10, .ref q11, v12, v13, v14, v15, v16])), (q1, .inl (c1, 16, .inl a1)), (q2, .inl (c2, 67200, .inl a2)), (q3, .inl (c3, 16, .inl a3)), (q4, .inl (c4, 16, .inl a4)), (q8, .inl (c8, 16, .inl a8)), (q9, .inl (c9, 16, .inl a9)), (q10, .inl (c10, 16, .inl a10)), (q11, .inl (c11, 16, .inl a11))] sz) [(h0, .inr (8, [.int th, .ref q1, .ref q2, .ref q3, .ref q4, v5, v6, v7, .ref q8, .ref q9, .ref q10, .ref q11, v12, v13, v14, v15, v16])), (q1, .inl (c1, 16, .inl a1)), (q2, .inl (c2, 67200, .inl a2)), (q3, .inl (c3, 16, .inl a3)), (q4, .inl (c4, 16, .inl a4)), (q8, .inl (c8, 16, .inl a8)), (q9, .inl (c9, 16, .inl a9)), (q10, .inl (c10, 16, .inl a10)), (q11, .inl (c11, 16, .inl a11))]) (va_A [(h0, .inr (8, [.int th, .ref q1, .ref q2, .ref q3, .ref q4, v5, v6, v7, .ref q8, .ref q9, .ref q10, .ref q11, v12, v13, v14, v15, v16])), (q1, .inl (c1, 16, .inl a1)), (q2, .inl (c2, 67200, .inl a2)), (q3, .inl (c3, 16, .inl a3)), (q4, .inl (c4, 16, .inl a4)), (q8, .inl (c8, 16, .inl a8)), (q9, .inl (c9, 16, .inl a9)), (q10, .inl (c10, 16, .inl a10)), (q11, .inl (c11, 16, .inl a11))] sz)) 0 0 (va_A [(h0, .inr (8, [.int th, .ref q1, .ref q2, .ref q3, .ref q4, v5, v6, v7, .ref q8, .ref q9, .ref q10, .ref q11, v12, v13, v14, v15, v16])), (q1, .inl (c1, 16, .inl a1)), (q2, .inl (c2, 67200, .inl a2)), (q3, .inl (c3, 16, .inl a3)), (q4, .inl (c4, 16, .inl a4)), (q8, .inl (c8, 16, .inl a8)), (q9, .inl (c9, 16, .inl a9)), (q10, .inl (c10, 16, .inl a10)), (q11, .inl (c11, 16, .inl a11))] sz) := by
  refine Met.ofW (cc := cX8_sameMap) (maxL := 7) (ret := (some .long)) (by decide) rfl ?_
  intro p e s m args below meth c s₁ B hml hv
  obtain ⟨rfl, hsz, hP, hK, hD0⟩ := hv
  have hx := B.exec
  have hb := B.bytes
  have hr := B.returns
  have hts := atoms_spec (ws := wsX8_sameMap) B.pre
  have hown : s.vm.findClass RX8 = some m.cls := findClass_of_methodNamed B.named
  have hlocks := B.notSynchronized
  subst hsz
  have hD := hD0.self (sz := s.heap.size)
  generalize hAe : va_A [(h0, .inr (8, [.int th, .ref q1, .ref q2, .ref q3, .ref q4, v5, v6, v7, .ref q8, .ref q9, .ref q10, .ref q11, v12, v13, v14, v15, v16])), (q1, .inl (c1, 16, .inl a1)), (q2, .inl (c2, 67200, .inl a2)), (q3, .inl (c3, 16, .inl a3)), (q4, .inl (c4, 16, .inl a4)), (q8, .inl (c8, 16, .inl a8)), (q9, .inl (c9, 16, .inl a9)), (q10, .inl (c10, 16, .inl a10)), (q11, .inl (c11, 16, .inl a11))] s.heap.size = A at hD ⊢
  have hA : ∀ q : Nat, s.heap.size ≤ q → A q := fun q h => by rw [← hAe]; exact Or.inr h
  have hS : va_S A s.heap s.heap [] := va_S.rf
  have hP : va_P (dC, dI) vwCl [(h0, .inr (8, [.int th, .ref q1, .ref q2, .ref q3, .ref q4, v5, v6, v7, .ref q8, .ref q9, .ref q10, .ref q11, v12, v13, v14, v15, v16])), (q1, .inl (c1, 16, .inl a1)), (q2, .inl (c2, 67200, .inl a2)), (q3, .inl (c3, 16, .inl a3)), (q4, .inl (c4, 16, .inl a4)), (q8, .inl (c8, 16, .inl a8)), (q9, .inl (c9, 16, .inl a9)), (q10, .inl (c10, 16, .inl a10)), (q11, .inl (c11, 16, .inl a11))] s.heap := hP
  have hl := lv_entry ([.ref h0, .int (nI o), .int (nI o2)]) (n := 7) (Nat.le_of_ble_eq_true rfl)
  rw [lg_entry_eq]
  generalize (lg_sl ([.ref h0, .int (nI o), .int (nI o2)]) ++ List.replicate (7 - (lg_sl ([.ref h0, .int (nI o), .int (nI o2)])).length) Slot.unset).toArray = ls at hl ⊢
  have hl : lv_has ls 7 [(0, .ref h0), (1, .int (nI o)), (2, .int (nI o2))] := hl

  refine lv_aload_n hx hb dX8_sameMap_0 rfl (lv_at hl 0 rfl) ?_
  refine lv_iload_n hx hb dX8_sameMap_1 rfl (lv_at hl 1 rfl) ?_
  have hPc := hP.sub (ws' := [(h0, .inr (8, [.int th, .ref q1, .ref q2, .ref q3, .ref q4, v5, v6, v7, .ref q8, .ref q9, .ref q10, .ref q11, v12, v13, v14, v15, v16])), (q1, .inl (c1, 16, .inl a1)), (q2, .inl (c2, 67200, .inl a2)), (q3, .inl (c3, 16, .inl a3)), (q4, .inl (c4, 16, .inl a4)), (q8, .inl (c8, 16, .inl a8)), (q9, .inl (c9, 16, .inl a9)), (q10, .inl (c10, 16, .inl a10)), (q11, .inl (c11, 16, .inl a11))]) [0, 1, 2, 3, 4, 5, 6, 7, 8] rfl
  have hDc := hD.sub (ws' := [(h0, .inr (8, [.int th, .ref q1, .ref q2, .ref q3, .ref q4, v5, v6, v7, .ref q8, .ref q9, .ref q10, .ref q11, v12, v13, v14, v15, v16])), (q1, .inl (c1, 16, .inl a1)), (q2, .inl (c2, 67200, .inl a2)), (q3, .inl (c3, 16, .inl a3)), (q4, .inl (c4, 16, .inl a4)), (q8, .inl (c8, 16, .inl a8)), (q9, .inl (c9, 16, .inl a9)), (q10, .inl (c10, 16, .inl a10)), (q11, .inl (c11, 16, .inl a11))]) [0, 1, 2, 3, 4, 5, 6, 7, 8] (by decide) rfl
  have hKc := hK.sub (tys' := [(c1, .int), (c2, .int), (c3, .int), (c4, .int), (c8, .int), (c9, .int), (c10, .int), (c11, .int)]) [0, 1, 2, 3, 4, 5, 6, 7] rfl
  have hFc := va_free (wc := [(h0, .inr (8, [.int th, .ref q1, .ref q2, .ref q3, .ref q4, v5, v6, v7, .ref q8, .ref q9, .ref q10, .ref q11, v12, v13, v14, v15, v16])), (q1, .inl (c1, 16, .inl a1)), (q2, .inl (c2, 67200, .inl a2)), (q3, .inl (c3, 16, .inl a3)), (q4, .inl (c4, 16, .inl a4)), (q8, .inl (c8, 16, .inl a8)), (q9, .inl (c9, 16, .inl a9)), (q10, .inl (c10, 16, .inl a10)), (q11, .inl (c11, 16, .inl a11))]) hD hS hA [0, 1, 2, 3, 4, 5, 6, 7, 8] rfl
  refine va_calli (va_runV (As := [.int (nI o)]) (rest := []) ⟨hx, hb, hml, hown, hts⟩ (c_X8_entries l  dC dI s.heap.size h0 th q1 q2 q3 q4 q8 q9 q10 q11 c1 c2 c3 c4 c8 c9 c10 c11 a1 a2 a3 a4 a8 a9 a10 a11 v5 v6 v7 v12 v13 v14 v15 v16 o dep nz ho9 hF9 hd9 (by rw [hrt9]; exact hs9) hz9) (cwV 1 hts gX8_sameMap_X8_entries rfl rfl rfl (by decide +kernel) ⟨(Nat.le_of_ble_eq_true rfl), (Nat.le_of_ble_eq_true rfl)⟩) ⟨pk_blind, va_recv hKc hPc (ci := 8) (q0 := 0) rfl rfl, pk_call hPc hKc hDc⟩ rfl rfl hl.1 rfl (lv_room (Nat.le_of_ble_eq_true rfl)) dX8_sameMap_2 ⟨(Nat.le_of_ble_eq_true rfl), (Nat.le_of_ble_eq_true rfl)⟩) hS (fun q _ h => hFc q h) hFc (fun r_1 ur_1 t H1 locs ht hvm hw hB hz1 hk1 hS => ?_)
  try dsimp only at hw
  obtain ⟨ne, hne⟩ : ∃ n9 : Nat, n9 = cntN (inO a1 a2 a4 a8 a9 a10 a11 o) nz := ⟨_, rfl⟩
  have hne2 : ne ≤ nz := by rw [hne]; exact cnt_le _ _
  obtain ⟨hP1, hK1, hD1⟩ := hB
  rw [ht] at hP1
  have hK1 := va_K.moved hvm.symm hK1
  obtain ⟨hP, hD⟩ := va_join (wr := []) (w1 := [(h0, .inr (8, [.int th, .ref q1, .ref q2, .ref q3, .ref q4, v5, v6, v7, .ref q8, .ref q9, .ref q10, .ref q11, v12, v13, v14, v15, v16])), (q1, .inl (c1, 16, .inl a1)), (q2, .inl (c2, 67200, .inl a2)), (q3, .inl (c3, 16, .inl a3)), (q4, .inl (c4, 16, .inl a4)), (q8, .inl (c8, 16, .inl a8)), (q9, .inl (c9, 16, .inl a9)), (q10, .inl (c10, 16, .inl a10)), (q11, .inl (c11, 16, .inl a11))]) hP hD [0, 1, 2, 3, 4, 5, 6, 7, 8] [] rfl rfl (by decide) (by decide) hk1 hFc hP1 hD1
  clear hk1 hz1 ht hPc hDc hKc hFc
  generalize H1 = H at hP hS ⊢
  replace hP : va_P (dC, dI) vwCl [(h0, .inr (8, [.int th, .ref q1, .ref q2, .ref q3, .ref q4, v5, v6, v7, .ref q8, .ref q9, .ref q10, .ref q11, v12, v13, v14, v15, v16])), (q1, .inl (c1, 16, .inl a1)), (q2, .inl (c2, 67200, .inl a2)), (q3, .inl (c3, 16, .inl a3)), (q4, .inl (c4, 16, .inl a4)), (q8, .inl (c8, 16, .inl a8)), (q9, .inl (c9, 16, .inl a9)), (q10, .inl (c10, 16, .inl a10)), (q11, .inl (c11, 16, .inl a11))] H := hP
  replace hD : va_D A [(h0, .inr (8, [.int th, .ref q1, .ref q2, .ref q3, .ref q4, v5, v6, v7, .ref q8, .ref q9, .ref q10, .ref q11, v12, v13, v14, v15, v16])), (q1, .inl (c1, 16, .inl a1)), (q2, .inl (c2, 67200, .inl a2)), (q3, .inl (c3, 16, .inl a3)), (q4, .inl (c4, 16, .inl a4)), (q8, .inl (c8, 16, .inl a8)), (q9, .inl (c9, 16, .inl a9)), (q10, .inl (c10, 16, .inl a10)), (q11, .inl (c11, 16, .inl a11))] := hD
  refine W.widen (k := 0) (n := 0) (Nat.le_of_ble_eq_true rfl) (Nat.le_of_ble_eq_true rfl) ?_
  obtain rfl : r_1 = nI ne := by rw [hne]; exact hw
  refine W.eq (g2 := F0 m 5 ls [.int (nI ne)]) rfl ?_
  refine lv_istore_n (lv' := [(3, .int (nI ne)), (0, .ref h0), (1, .int (nI o)), (2, .int (nI o2))]) hx hb dX8_sameMap_5 rfl hl (by decide) rfl (fun ls hl => ?_)
  refine lv_aload_n hx hb dX8_sameMap_6 rfl (lv_at hl 1 rfl) ?_
  refine lv_iload_n hx hb dX8_sameMap_7 rfl (lv_at hl 3 rfl) ?_
  have hPc := hP.sub (ws' := [(h0, .inr (8, [.int th, .ref q1, .ref q2, .ref q3, .ref q4, v5, v6, v7, .ref q8, .ref q9, .ref q10, .ref q11, v12, v13, v14, v15, v16])), (q1, .inl (c1, 16, .inl a1)), (q2, .inl (c2, 67200, .inl a2)), (q3, .inl (c3, 16, .inl a3)), (q4, .inl (c4, 16, .inl a4)), (q8, .inl (c8, 16, .inl a8)), (q9, .inl (c9, 16, .inl a9)), (q10, .inl (c10, 16, .inl a10)), (q11, .inl (c11, 16, .inl a11))]) [0, 1, 2, 3, 4, 5, 6, 7, 8] rfl
  have hDc := hD.sub (ws' := [(h0, .inr (8, [.int th, .ref q1, .ref q2, .ref q3, .ref q4, v5, v6, v7, .ref q8, .ref q9, .ref q10, .ref q11, v12, v13, v14, v15, v16])), (q1, .inl (c1, 16, .inl a1)), (q2, .inl (c2, 67200, .inl a2)), (q3, .inl (c3, 16, .inl a3)), (q4, .inl (c4, 16, .inl a4)), (q8, .inl (c8, 16, .inl a8)), (q9, .inl (c9, 16, .inl a9)), (q10, .inl (c10, 16, .inl a10)), (q11, .inl (c11, 16, .inl a11))]) [0, 1, 2, 3, 4, 5, 6, 7, 8] (by decide) rfl
  have hKc := hK.sub (tys' := [(c1, .int), (c2, .int), (c3, .int), (c4, .int), (c8, .int), (c9, .int), (c10, .int), (c11, .int)]) [0, 1, 2, 3, 4, 5, 6, 7] rfl
  have hFc := va_free (wc := [(h0, .inr (8, [.int th, .ref q1, .ref q2, .ref q3, .ref q4, v5, v6, v7, .ref q8, .ref q9, .ref q10, .ref q11, v12, v13, v14, v15, v16])), (q1, .inl (c1, 16, .inl a1)), (q2, .inl (c2, 67200, .inl a2)), (q3, .inl (c3, 16, .inl a3)), (q4, .inl (c4, 16, .inl a4)), (q8, .inl (c8, 16, .inl a8)), (q9, .inl (c9, 16, .inl a9)), (q10, .inl (c10, 16, .inl a10)), (q11, .inl (c11, 16, .inl a11))]) hD hS hA [0, 1, 2, 3, 4, 5, 6, 7, 8] rfl
  refine va_calli (va_runV (As := [.int (nI o2)]) (rest := []) ⟨hx, hb, hml, hown, hts⟩ (c_X8_entries l  dC dI H.size h0 th q1 q2 q3 q4 q8 q9 q10 q11 c1 c2 c3 c4 c8 c9 c10 c11 a1 a2 a3 a4 a8 a9 a10 a11 v5 v6 v7 v12 v13 v14 v15 v16 o2 dep n2 ho8 hF9 hd8 (by rw [hrt8]; exact hs8) hz8) (cwV 1 hts gX8_sameMap_X8_entries rfl rfl rfl (by decide +kernel) ⟨(Nat.le_of_ble_eq_true rfl), (Nat.le_of_ble_eq_true rfl)⟩) ⟨pk_blind, va_recv hKc hPc (ci := 8) (q0 := 0) rfl rfl, pk_call hPc hKc hDc⟩ rfl rfl hl.1 rfl (lv_room (Nat.le_of_ble_eq_true rfl)) dX8_sameMap_8 ⟨(Nat.le_of_ble_eq_true rfl), (Nat.le_of_ble_eq_true rfl)⟩) hS (fun q _ h => hFc q h) hFc (fun r_2 ur_2 t H1 locs ht hvm hw hB hz1 hk1 hS => ?_)
  try dsimp only at hw
  obtain ⟨ne8, hne8⟩ : ∃ n9 : Nat, n9 = cntN (inO a1 a2 a4 a8 a9 a10 a11 o2) n2 := ⟨_, rfl⟩
  have hne82 : ne8 ≤ n2 := by rw [hne8]; exact cnt_le _ _
  obtain ⟨hP1, hK1, hD1⟩ := hB
  rw [ht] at hP1
  have hK1 := va_K.moved hvm.symm hK1
  obtain ⟨hP, hD⟩ := va_join (wr := []) (w1 := [(h0, .inr (8, [.int th, .ref q1, .ref q2, .ref q3, .ref q4, v5, v6, v7, .ref q8, .ref q9, .ref q10, .ref q11, v12, v13, v14, v15, v16])), (q1, .inl (c1, 16, .inl a1)), (q2, .inl (c2, 67200, .inl a2)), (q3, .inl (c3, 16, .inl a3)), (q4, .inl (c4, 16, .inl a4)), (q8, .inl (c8, 16, .inl a8)), (q9, .inl (c9, 16, .inl a9)), (q10, .inl (c10, 16, .inl a10)), (q11, .inl (c11, 16, .inl a11))]) hP hD [0, 1, 2, 3, 4, 5, 6, 7, 8] [] rfl rfl (by decide) (by decide) hk1 hFc hP1 hD1
  clear hk1 hz1 ht hPc hDc hKc hFc
  generalize H1 = H at hP hS ⊢
  replace hP : va_P (dC, dI) vwCl [(h0, .inr (8, [.int th, .ref q1, .ref q2, .ref q3, .ref q4, v5, v6, v7, .ref q8, .ref q9, .ref q10, .ref q11, v12, v13, v14, v15, v16])), (q1, .inl (c1, 16, .inl a1)), (q2, .inl (c2, 67200, .inl a2)), (q3, .inl (c3, 16, .inl a3)), (q4, .inl (c4, 16, .inl a4)), (q8, .inl (c8, 16, .inl a8)), (q9, .inl (c9, 16, .inl a9)), (q10, .inl (c10, 16, .inl a10)), (q11, .inl (c11, 16, .inl a11))] H := hP
  replace hD : va_D A [(h0, .inr (8, [.int th, .ref q1, .ref q2, .ref q3, .ref q4, v5, v6, v7, .ref q8, .ref q9, .ref q10, .ref q11, v12, v13, v14, v15, v16])), (q1, .inl (c1, 16, .inl a1)), (q2, .inl (c2, 67200, .inl a2)), (q3, .inl (c3, 16, .inl a3)), (q4, .inl (c4, 16, .inl a4)), (q8, .inl (c8, 16, .inl a8)), (q9, .inl (c9, 16, .inl a9)), (q10, .inl (c10, 16, .inl a10)), (q11, .inl (c11, 16, .inl a11))] := hD
  refine W.widen (k := 0) (n := 0) (Nat.le_of_ble_eq_true rfl) (Nat.le_of_ble_eq_true rfl) ?_
  obtain rfl : r_2 = nI ne8 := by rw [hne8]; exact hw
  refine W.eq (g2 := F0 m 11 ls [.int (nI ne8)]) rfl ?_
  refine lv_iload_n hx hb dX8_sameMap_11 rfl (lv_at hl 0 rfl) ?_
  refine lv_icmp_eq (tgt := 17) hx hb dX8_sameMap_12 (by decide) (fun c_3 => ?_) (fun c_3 => ?_)
  ·
    have ic_3 : ((ne8 : Nat) : Int) = ((ne : Nat) : Int) := tx_eq (nI_toInt (by omega)) (nI_toInt (by omega)) c_3
    refine lv_iconst (v := 0) hx hb dX8_sameMap_17 (by decide) ?_
    refine lv_istore (lv' := [(4, .int 0), (3, .int (nI ne)), (0, .ref h0), (1, .int (nI o)), (2, .int (nI o2))]) hx hb dX8_sameMap_18 hl (by decide) rfl (fun ls hl => ?_)
    obtain ⟨i, es_i⟩ : ∃ z : Nat, z = 0 := ⟨_, rfl⟩
    obtain ⟨x9, ex9⟩ : ∃ y : Int32, y = nI i := ⟨_, rfl⟩
    obtain ⟨n9, en9⟩ : ∃ n : Nat, n = ne + 1 := ⟨_, rfl⟩
    replace hl : lv_has ls 7 [(4, .int x9), (3, .int (nI ne)), (0, .ref h0), (1, .int (nI o)), (2, .int (nI o2))] := by subst ex9; subst es_i; exact hl
    have hi9 : i ≤ ne := by subst ex9; subst es_i; subst en9; exact Nat.zero_le _
    have hn9 : ne + 1 ≤ i + n9 := by subst ex9; subst es_i; subst en9; exact by omega
    clear en9 es_i
    induction n9 generalizing i x9 ls H locs with
    | zero => exact absurd hn9 (by omega)
    | succ n9 ih =>
      subst ex9
      refine lv_iload hx hb dX8_sameMap_20 (lv_at hl 0 rfl) ?_
      refine lv_iload_n hx hb dX8_sameMap_22 rfl (lv_at hl 1 rfl) ?_
      refine lv_icmp_ge (tgt := 91) hx hb dX8_sameMap_23 (by decide) (fun c_4 => ?_) (fun c_4 => ?_)
      ·
        have ic_4 : ((ne : Nat) : Int) ≤ ((i : Nat) : Int) := tx_le (nI_toInt (by omega)) (nI_toInt (by omega)) c_4
        refine lv_lconst (v := 1) hx hb dX8_sameMap_91 (by decide) ?_
        have hP9 := hP.sub (ws' := [(h0, .inr (8, [.int th, .ref q1, .ref q2, .ref q3, .ref q4, v5, v6, v7, .ref q8, .ref q9, .ref q10, .ref q11, v12, v13, v14, v15, v16])), (q1, .inl (c1, 16, .inl a1)), (q2, .inl (c2, 67200, .inl a2)), (q3, .inl (c3, 16, .inl a3)), (q4, .inl (c4, 16, .inl a4)), (q8, .inl (c8, 16, .inl a8)), (q9, .inl (c9, 16, .inl a9)), (q10, .inl (c10, 16, .inl a10)), (q11, .inl (c11, 16, .inl a11))]) [0, 1, 2, 3, 4, 5, 6, 7, 8] rfl
        have hD9 := hD.sub (ws' := [(h0, .inr (8, [.int th, .ref q1, .ref q2, .ref q3, .ref q4, v5, v6, v7, .ref q8, .ref q9, .ref q10, .ref q11, v12, v13, v14, v15, v16])), (q1, .inl (c1, 16, .inl a1)), (q2, .inl (c2, 67200, .inl a2)), (q3, .inl (c3, 16, .inl a3)), (q4, .inl (c4, 16, .inl a4)), (q8, .inl (c8, 16, .inl a8)), (q9, .inl (c9, 16, .inl a9)), (q10, .inl (c10, 16, .inl a10)), (q11, .inl (c11, 16, .inl a11))]) [0, 1, 2, 3, 4, 5, 6, 7, 8] (by decide) rfl
        have hK9 := hK.sub (tys' := [(c1, .int), (c2, .int), (c3, .int), (c4, .int), (c8, .int), (c9, .int), (c10, .int), (c11, .int)]) [0, 1, 2, 3, 4, 5, 6, 7] rfl
        refine W.widen (k := 0) (n := 0) (Nat.le_of_ble_eq_true rfl) (Nat.le_of_ble_eq_true rfl) ?_
        exact W.lret (v := 1) hx hb hr (fun t ht hW => ⟨⟨1, (), rfl, trivial, by rw [ht]; exact hP9, va_K.moved hW.alike hK9, hD9⟩, hS.F ht⟩) hS.2.2 dX8_sameMap_92
      ·
        have ic_4 : ((i : Nat) : Int) < ((ne : Nat) : Int) := tx_nle (nI_toInt (by omega)) (nI_toInt (by omega)) c_4
        refine lv_aload_n hx hb dX8_sameMap_26 rfl (lv_at hl 2 rfl) ?_
        refine lv_iload_n hx hb dX8_sameMap_27 rfl (lv_at hl 3 rfl) ?_
        refine lv_iload hx hb dX8_sameMap_28 (lv_at hl 0 rfl) ?_
        have hPc := hP.sub (ws' := [(h0, .inr (8, [.int th, .ref q1, .ref q2, .ref q3, .ref q4, v5, v6, v7, .ref q8, .ref q9, .ref q10, .ref q11, v12, v13, v14, v15, v16])), (q1, .inl (c1, 16, .inl a1)), (q2, .inl (c2, 67200, .inl a2)), (q3, .inl (c3, 16, .inl a3)), (q4, .inl (c4, 16, .inl a4)), (q8, .inl (c8, 16, .inl a8)), (q9, .inl (c9, 16, .inl a9)), (q10, .inl (c10, 16, .inl a10)), (q11, .inl (c11, 16, .inl a11))]) [0, 1, 2, 3, 4, 5, 6, 7, 8] rfl
        have hDc := hD.sub (ws' := [(h0, .inr (8, [.int th, .ref q1, .ref q2, .ref q3, .ref q4, v5, v6, v7, .ref q8, .ref q9, .ref q10, .ref q11, v12, v13, v14, v15, v16])), (q1, .inl (c1, 16, .inl a1)), (q2, .inl (c2, 67200, .inl a2)), (q3, .inl (c3, 16, .inl a3)), (q4, .inl (c4, 16, .inl a4)), (q8, .inl (c8, 16, .inl a8)), (q9, .inl (c9, 16, .inl a9)), (q10, .inl (c10, 16, .inl a10)), (q11, .inl (c11, 16, .inl a11))]) [0, 1, 2, 3, 4, 5, 6, 7, 8] (by decide) rfl
        have hKc := hK.sub (tys' := [(c1, .int), (c2, .int), (c3, .int), (c4, .int), (c8, .int), (c9, .int), (c10, .int), (c11, .int)]) [0, 1, 2, 3, 4, 5, 6, 7] rfl
        have hFc := va_free (wc := [(h0, .inr (8, [.int th, .ref q1, .ref q2, .ref q3, .ref q4, v5, v6, v7, .ref q8, .ref q9, .ref q10, .ref q11, v12, v13, v14, v15, v16])), (q1, .inl (c1, 16, .inl a1)), (q2, .inl (c2, 67200, .inl a2)), (q3, .inl (c3, 16, .inl a3)), (q4, .inl (c4, 16, .inl a4)), (q8, .inl (c8, 16, .inl a8)), (q9, .inl (c9, 16, .inl a9)), (q10, .inl (c10, 16, .inl a10)), (q11, .inl (c11, 16, .inl a11))]) hD hS hA [0, 1, 2, 3, 4, 5, 6, 7, 8] rfl
        refine va_calli (va_runV (As := [.int (nI o), .int (nI i)]) (rest := []) ⟨hx, hb, hml, hown, hts⟩ (c_X8_nth l  dC dI H.size h0 th q1 q2 q3 q4 q8 q9 q10 q11 c1 c2 c3 c4 c8 c9 c10 c11 a1 a2 a3 a4 a8 a9 a10 a11 v5 v6 v7 v12 v13 v14 v15 v16 o dep nz i ho9 hF9 hd9 (by rw [hrt9]; exact hs9) hz9 (by rw [← hne]; omega)) (cwV 2 hts gX8_sameMap_X8_nth rfl rfl rfl (by decide +kernel) ⟨(Nat.le_of_ble_eq_true rfl), (Nat.le_of_ble_eq_true rfl)⟩) ⟨pk_blind, va_recv hKc hPc (ci := 8) (q0 := 0) rfl rfl, pk_call hPc hKc hDc⟩ rfl rfl hl.1 rfl (lv_room (Nat.le_of_ble_eq_true rfl)) dX8_sameMap_30 ⟨(Nat.le_of_ble_eq_true rfl), (Nat.le_of_ble_eq_true rfl)⟩) hS (fun q _ h => hFc q h) hFc (fun r_5 ur_5 t H1 locs ht hvm hw hB hz1 hk1 hS => ?_)
        try dsimp only at hw
        have jr_5 := hw
        obtain ⟨hP1, hK1, hD1⟩ := hB
        rw [ht] at hP1
        have hK1 := va_K.moved hvm.symm hK1
        obtain ⟨hP, hD⟩ := va_join (wr := []) (w1 := [(h0, .inr (8, [.int th, .ref q1, .ref q2, .ref q3, .ref q4, v5, v6, v7, .ref q8, .ref q9, .ref q10, .ref q11, v12, v13, v14, v15, v16])), (q1, .inl (c1, 16, .inl a1)), (q2, .inl (c2, 67200, .inl a2)), (q3, .inl (c3, 16, .inl a3)), (q4, .inl (c4, 16, .inl a4)), (q8, .inl (c8, 16, .inl a8)), (q9, .inl (c9, 16, .inl a9)), (q10, .inl (c10, 16, .inl a10)), (q11, .inl (c11, 16, .inl a11))]) hP hD [0, 1, 2, 3, 4, 5, 6, 7, 8] [] rfl rfl (by decide) (by decide) hk1 hFc hP1 hD1
        clear hk1 hz1 ht hPc hDc hKc hFc
        generalize H1 = H at hP hS ⊢
        replace hP : va_P (dC, dI) vwCl [(h0, .inr (8, [.int th, .ref q1, .ref q2, .ref q3, .ref q4, v5, v6, v7, .ref q8, .ref q9, .ref q10, .ref q11, v12, v13, v14, v15, v16])), (q1, .inl (c1, 16, .inl a1)), (q2, .inl (c2, 67200, .inl a2)), (q3, .inl (c3, 16, .inl a3)), (q4, .inl (c4, 16, .inl a4)), (q8, .inl (c8, 16, .inl a8)), (q9, .inl (c9, 16, .inl a9)), (q10, .inl (c10, 16, .inl a10)), (q11, .inl (c11, 16, .inl a11))] H := hP
        replace hD : va_D A [(h0, .inr (8, [.int th, .ref q1, .ref q2, .ref q3, .ref q4, v5, v6, v7, .ref q8, .ref q9, .ref q10, .ref q11, v12, v13, v14, v15, v16])), (q1, .inl (c1, 16, .inl a1)), (q2, .inl (c2, 67200, .inl a2)), (q3, .inl (c3, 16, .inl a3)), (q4, .inl (c4, 16, .inl a4)), (q8, .inl (c8, 16, .inl a8)), (q9, .inl (c9, 16, .inl a9)), (q10, .inl (c10, 16, .inl a10)), (q11, .inl (c11, 16, .inl a11))] := hD
        refine W.widen (k := 0) (n := 0) (Nat.le_of_ble_eq_true rfl) (Nat.le_of_ble_eq_true rfl) ?_
        obtain ⟨k8, hk8, rfl, hk8b⟩ := jr_5
        refine W.eq (g2 := F0 m 33 ls [.int (nI k8)]) rfl ?_
        refine lv_istore (lv' := [(5, .int (nI k8)), (4, .int (nI i)), (3, .int (nI ne)), (0, .ref h0), (1, .int (nI o)), (2, .int (nI o2))]) hx hb dX8_sameMap_33 hl (by decide) rfl (fun ls hl => ?_)
        refine lv_aload_n hx hb dX8_sameMap_35 rfl (lv_at hl 3 rfl) ?_
        refine lv_iload_n hx hb dX8_sameMap_36 rfl (lv_at hl 5 rfl) ?_
        refine lv_aload_n hx hb dX8_sameMap_37 rfl (lv_at hl 3 rfl) ?_
        refine lv_aload_n hx hb dX8_sameMap_38 rfl (lv_at hl 3 rfl) ?_
        refine lv_iload_n hx hb dX8_sameMap_39 rfl (lv_at hl 4 rfl) ?_
        have hPc := hP.sub (ws' := [(h0, .inr (8, [.int th, .ref q1, .ref q2, .ref q3, .ref q4, v5, v6, v7, .ref q8, .ref q9, .ref q10, .ref q11, v12, v13, v14, v15, v16])), (q1, .inl (c1, 16, .inl a1)), (q8, .inl (c8, 16, .inl a8))]) [0, 1, 5] rfl
        have hDc := hD.sub (ws' := [(h0, .inr (8, [.int th, .ref q1, .ref q2, .ref q3, .ref q4, v5, v6, v7, .ref q8, .ref q9, .ref q10, .ref q11, v12, v13, v14, v15, v16])), (q1, .inl (c1, 16, .inl a1)), (q8, .inl (c8, 16, .inl a8))]) [0, 1, 5] (by decide) rfl
        have hKc := hK.sub (tys' := [(c1, .int), (c8, .int)]) [0, 4] rfl
        have hFc := va_free (wc := [(h0, .inr (8, [.int th, .ref q1, .ref q2, .ref q3, .ref q4, v5, v6, v7, .ref q8, .ref q9, .ref q10, .ref q11, v12, v13, v14, v15, v16])), (q1, .inl (c1, 16, .inl a1)), (q8, .inl (c8, 16, .inl a8))]) hD hS hA [0, 1, 5] rfl
        refine va_calli (va_runV (As := [.int (nI o)]) (rest := [.ref h0, .int (nI o2), .ref h0]) ⟨hx, hb, hml, hown, hts⟩ (c_X8_root l  dC dI H.size h0 th q1 q8 c1 c8 a1 a8 (.ref q2) (.ref q3) (.ref q4) v5 v6 v7 (.ref q9) (.ref q10) (.ref q11) v12 v13 v14 v15 v16 o dep ho9 hF9 hd9) (cwV 1 hts gX8_sameMap_X8_root rfl rfl rfl (by decide +kernel) ⟨(Nat.le_of_ble_eq_true rfl), (Nat.le_of_ble_eq_true rfl)⟩) ⟨pk_blind, va_recv hKc hPc (ci := 8) (q0 := 0) rfl rfl, pk_call hPc hKc hDc⟩ rfl rfl hl.1 rfl (lv_room (Nat.le_of_ble_eq_true rfl)) dX8_sameMap_40 ⟨(Nat.le_of_ble_eq_true rfl), (Nat.le_of_ble_eq_true rfl)⟩) hS (fun q _ h => hFc q h) hFc (fun r_6 ur_6 t H1 locs ht hvm hw hB hz1 hk1 hS => ?_)
        try dsimp only at hw
        obtain ⟨er_6, hr9, hr8⟩ := hw
        rw [hrt9] at er_6 hr9 hr8
        obtain ⟨hP1, hK1, hD1⟩ := hB
        rw [ht] at hP1
        have hK1 := va_K.moved hvm.symm hK1
        obtain ⟨hP, hD⟩ := va_join (wr := [(q2, .inl (c2, 67200, .inl a2)), (q3, .inl (c3, 16, .inl a3)), (q4, .inl (c4, 16, .inl a4)), (q9, .inl (c9, 16, .inl a9)), (q10, .inl (c10, 16, .inl a10)), (q11, .inl (c11, 16, .inl a11))]) (w1 := [(h0, .inr (8, [.int th, .ref q1, .ref q2, .ref q3, .ref q4, v5, v6, v7, .ref q8, .ref q9, .ref q10, .ref q11, v12, v13, v14, v15, v16])), (q1, .inl (c1, 16, .inl a1)), (q8, .inl (c8, 16, .inl a8))]) hP hD [0, 1, 5] [2, 3, 4, 6, 7, 8] rfl rfl (by decide) (by decide) hk1 hFc hP1 hD1
        clear hk1 hz1 ht hPc hDc hKc hFc
        generalize H1 = H at hP hS ⊢
        replace hP : va_P (dC, dI) vwCl [(q2, .inl (c2, 67200, .inl a2)), (q3, .inl (c3, 16, .inl a3)), (q4, .inl (c4, 16, .inl a4)), (q9, .inl (c9, 16, .inl a9)), (q10, .inl (c10, 16, .inl a10)), (q11, .inl (c11, 16, .inl a11)), (h0, .inr (8, [.int th, .ref q1, .ref q2, .ref q3, .ref q4, v5, v6, v7, .ref q8, .ref q9, .ref q10, .ref q11, v12, v13, v14, v15, v16])), (q1, .inl (c1, 16, .inl a1)), (q8, .inl (c8, 16, .inl a8))] H := hP
        replace hD : va_D A [(q2, .inl (c2, 67200, .inl a2)), (q3, .inl (c3, 16, .inl a3)), (q4, .inl (c4, 16, .inl a4)), (q9, .inl (c9, 16, .inl a9)), (q10, .inl (c10, 16, .inl a10)), (q11, .inl (c11, 16, .inl a11)), (h0, .inr (8, [.int th, .ref q1, .ref q2, .ref q3, .ref q4, v5, v6, v7, .ref q8, .ref q9, .ref q10, .ref q11, v12, v13, v14, v15, v16])), (q1, .inl (c1, 16, .inl a1)), (q8, .inl (c8, 16, .inl a8))] := hD
        refine W.widen (k := 0) (n := 0) (Nat.le_of_ble_eq_true rfl) (Nat.le_of_ble_eq_true rfl) ?_
        subst er_6
        refine W.eq (g2 := F0 m 43 ls [.int (nI r), .ref h0, .int (nI o2), .ref h0]) rfl ?_
        refine lv_iload hx hb dX8_sameMap_43 (lv_at hl 0 rfl) ?_
        have hPc := hP.sub (ws' := [(h0, .inr (8, [.int th, .ref q1, .ref q2, .ref q3, .ref q4, v5, v6, v7, .ref q8, .ref q9, .ref q10, .ref q11, v12, v13, v14, v15, v16])), (q2, .inl (c2, 67200, .inl a2))]) [6, 0] rfl
        have hDc := hD.sub (ws' := [(h0, .inr (8, [.int th, .ref q1, .ref q2, .ref q3, .ref q4, v5, v6, v7, .ref q8, .ref q9, .ref q10, .ref q11, v12, v13, v14, v15, v16])), (q2, .inl (c2, 67200, .inl a2))]) [6, 0] (by decide) rfl
        have hKc := hK.sub (tys' := [(c2, .int)]) [1] rfl
        have hFc := va_free (wc := [(h0, .inr (8, [.int th, .ref q1, .ref q2, .ref q3, .ref q4, v5, v6, v7, .ref q8, .ref q9, .ref q10, .ref q11, v12, v13, v14, v15, v16])), (q2, .inl (c2, 67200, .inl a2))]) hD hS hA [6, 0] rfl
        refine va_calli (va_runV (As := [.int (nI r), .int (nI k8)]) (rest := [.int (nI o2), .ref h0]) ⟨hx, hb, hml, hown, hts⟩ (c_X8_key l  dC dI H.size h0 th q2 c2 a2 (.ref q1) (.ref q3) (.ref q4) v5 v6 v7 (.ref q8) (.ref q9) (.ref q10) (.ref q11) v12 v13 v14 v15 v16 r k8 hr9 (by omega)) (cwV 2 hts gX8_sameMap_X8_key rfl rfl rfl (by decide +kernel) ⟨(Nat.le_of_ble_eq_true rfl), (Nat.le_of_ble_eq_true rfl)⟩) ⟨pk_blind, va_recv hKc hPc (ci := 8) (q0 := 0) rfl rfl, pk_call hPc hKc hDc⟩ rfl rfl hl.1 rfl (lv_room (Nat.le_of_ble_eq_true rfl)) dX8_sameMap_45 ⟨(Nat.le_of_ble_eq_true rfl), (Nat.le_of_ble_eq_true rfl)⟩) hS (fun q _ h => hFc q h) hFc (fun r_7 ur_7 t H1 locs ht hvm hw hB hz1 hk1 hS => ?_)
        try dsimp only at hw
        obtain ⟨hP1, hK1, hD1⟩ := hB
        rw [ht] at hP1
        have hK1 := va_K.moved hvm.symm hK1
        obtain ⟨hP, hD⟩ := va_join (wr := [(q3, .inl (c3, 16, .inl a3)), (q4, .inl (c4, 16, .inl a4)), (q9, .inl (c9, 16, .inl a9)), (q10, .inl (c10, 16, .inl a10)), (q11, .inl (c11, 16, .inl a11)), (q1, .inl (c1, 16, .inl a1)), (q8, .inl (c8, 16, .inl a8))]) (w1 := [(h0, .inr (8, [.int th, .ref q1, .ref q2, .ref q3, .ref q4, v5, v6, v7, .ref q8, .ref q9, .ref q10, .ref q11, v12, v13, v14, v15, v16])), (q2, .inl (c2, 67200, .inl a2))]) hP hD [6, 0] [1, 2, 3, 4, 5, 7, 8] rfl rfl (by decide) (by decide) hk1 hFc hP1 hD1
        clear hk1 hz1 ht hPc hDc hKc hFc
        generalize H1 = H at hP hS ⊢
        replace hP : va_P (dC, dI) vwCl [(q3, .inl (c3, 16, .inl a3)), (q4, .inl (c4, 16, .inl a4)), (q9, .inl (c9, 16, .inl a9)), (q10, .inl (c10, 16, .inl a10)), (q11, .inl (c11, 16, .inl a11)), (q1, .inl (c1, 16, .inl a1)), (q8, .inl (c8, 16, .inl a8)), (h0, .inr (8, [.int th, .ref q1, .ref q2, .ref q3, .ref q4, v5, v6, v7, .ref q8, .ref q9, .ref q10, .ref q11, v12, v13, v14, v15, v16])), (q2, .inl (c2, 67200, .inl a2))] H := hP
        replace hD : va_D A [(q3, .inl (c3, 16, .inl a3)), (q4, .inl (c4, 16, .inl a4)), (q9, .inl (c9, 16, .inl a9)), (q10, .inl (c10, 16, .inl a10)), (q11, .inl (c11, 16, .inl a11)), (q1, .inl (c1, 16, .inl a1)), (q8, .inl (c8, 16, .inl a8)), (h0, .inr (8, [.int th, .ref q1, .ref q2, .ref q3, .ref q4, v5, v6, v7, .ref q8, .ref q9, .ref q10, .ref q11, v12, v13, v14, v15, v16])), (q2, .inl (c2, 67200, .inl a2))] := hD
        refine W.widen (k := 0) (n := 0) (Nat.le_of_ble_eq_true rfl) (Nat.le_of_ble_eq_true rfl) ?_
        obtain rfl : r_7 = a2 (4200 * r + k8) := hw
        refine W.eq (g2 := F0 m 48 ls [.int (a2 (4200 * r + k8)), .int (nI o2), .ref h0]) rfl ?_
        have hPc := hP.sub (ws' := [(h0, .inr (8, [.int th, .ref q1, .ref q2, .ref q3, .ref q4, v5, v6, v7, .ref q8, .ref q9, .ref q10, .ref q11, v12, v13, v14, v15, v16])), (q1, .inl (c1, 16, .inl a1)), (q2, .inl (c2, 67200, .inl a2)), (q3, .inl (c3, 16, .inl a3)), (q4, .inl (c4, 16, .inl a4)), (q8, .inl (c8, 16, .inl a8)), (q9, .inl (c9, 16, .inl a9)), (q10, .inl (c10, 16, .inl a10)), (q11, .inl (c11, 16, .inl a11))]) [7, 5, 8, 0, 1, 6, 2, 3, 4] rfl
        have hDc := hD.sub (ws' := [(h0, .inr (8, [.int th, .ref q1, .ref q2, .ref q3, .ref q4, v5, v6, v7, .ref q8, .ref q9, .ref q10, .ref q11, v12, v13, v14, v15, v16])), (q1, .inl (c1, 16, .inl a1)), (q2, .inl (c2, 67200, .inl a2)), (q3, .inl (c3, 16, .inl a3)), (q4, .inl (c4, 16, .inl a4)), (q8, .inl (c8, 16, .inl a8)), (q9, .inl (c9, 16, .inl a9)), (q10, .inl (c10, 16, .inl a10)), (q11, .inl (c11, 16, .inl a11))]) [7, 5, 8, 0, 1, 6, 2, 3, 4] (by decide) rfl
        have hKc := hK.sub (tys' := [(c1, .int), (c2, .int), (c3, .int), (c4, .int), (c8, .int), (c9, .int), (c10, .int), (c11, .int)]) [0, 1, 2, 3, 4, 5, 6, 7] rfl
        have hFc := va_free (wc := [(h0, .inr (8, [.int th, .ref q1, .ref q2, .ref q3, .ref q4, v5, v6, v7, .ref q8, .ref q9, .ref q10, .ref q11, v12, v13, v14, v15, v16])), (q1, .inl (c1, 16, .inl a1)), (q2, .inl (c2, 67200, .inl a2)), (q3, .inl (c3, 16, .inl a3)), (q4, .inl (c4, 16, .inl a4)), (q8, .inl (c8, 16, .inl a8)), (q9, .inl (c9, 16, .inl a9)), (q10, .inl (c10, 16, .inl a10)), (q11, .inl (c11, 16, .inl a11))]) hD hS hA [7, 5, 8, 0, 1, 6, 2, 3, 4] rfl
        refine va_calli (va_runV (As := [.int (nI o2), .int (a2 (4200 * r + k8))]) (rest := []) ⟨hx, hb, hml, hown, hts⟩ (c_X8_at l  dC dI H.size h0 th q1 q2 q3 q4 q8 q9 q10 q11 c1 c2 c3 c4 c8 c9 c10 c11 a1 a2 a3 a4 a8 a9 a10 a11 v5 v6 v7 v12 v13 v14 v15 v16 o2 dep n2 (a2 (4200 * r + k8)) ho8 hF9 hd8 (by rw [hrt8]; exact hs8) hz8) (cwV 2 hts gX8_sameMap_X8_at rfl rfl rfl (by decide +kernel) ⟨(Nat.le_of_ble_eq_true rfl), (Nat.le_of_ble_eq_true rfl)⟩) ⟨pk_blind, va_recv hKc hPc (ci := 8) (q0 := 0) rfl rfl, pk_call hPc hKc hDc⟩ rfl rfl hl.1 rfl (lv_room (Nat.le_of_ble_eq_true rfl)) dX8_sameMap_48 ⟨(Nat.le_of_ble_eq_true rfl), (Nat.le_of_ble_eq_true rfl)⟩) hS (fun q _ h => hFc q h) hFc (fun r_8 ur_8 t H1 locs ht hvm hw hB hz1 hk1 hS => ?_)
        try dsimp only at hw
        have jr_8 := hw
        obtain ⟨hP1, hK1, hD1⟩ := hB
        rw [ht] at hP1
        have hK1 := va_K.moved hvm.symm hK1
        obtain ⟨hP, hD⟩ := va_join (wr := []) (w1 := [(h0, .inr (8, [.int th, .ref q1, .ref q2, .ref q3, .ref q4, v5, v6, v7, .ref q8, .ref q9, .ref q10, .ref q11, v12, v13, v14, v15, v16])), (q1, .inl (c1, 16, .inl a1)), (q2, .inl (c2, 67200, .inl a2)), (q3, .inl (c3, 16, .inl a3)), (q4, .inl (c4, 16, .inl a4)), (q8, .inl (c8, 16, .inl a8)), (q9, .inl (c9, 16, .inl a9)), (q10, .inl (c10, 16, .inl a10)), (q11, .inl (c11, 16, .inl a11))]) hP hD [7, 5, 8, 0, 1, 6, 2, 3, 4] [] rfl rfl (by decide) (by decide) hk1 hFc hP1 hD1
        clear hk1 hz1 ht hPc hDc hKc hFc
        generalize H1 = H at hP hS ⊢
        replace hP : va_P (dC, dI) vwCl [(h0, .inr (8, [.int th, .ref q1, .ref q2, .ref q3, .ref q4, v5, v6, v7, .ref q8, .ref q9, .ref q10, .ref q11, v12, v13, v14, v15, v16])), (q1, .inl (c1, 16, .inl a1)), (q2, .inl (c2, 67200, .inl a2)), (q3, .inl (c3, 16, .inl a3)), (q4, .inl (c4, 16, .inl a4)), (q8, .inl (c8, 16, .inl a8)), (q9, .inl (c9, 16, .inl a9)), (q10, .inl (c10, 16, .inl a10)), (q11, .inl (c11, 16, .inl a11))] H := hP
        replace hD : va_D A [(h0, .inr (8, [.int th, .ref q1, .ref q2, .ref q3, .ref q4, v5, v6, v7, .ref q8, .ref q9, .ref q10, .ref q11, v12, v13, v14, v15, v16])), (q1, .inl (c1, 16, .inl a1)), (q2, .inl (c2, 67200, .inl a2)), (q3, .inl (c3, 16, .inl a3)), (q4, .inl (c4, 16, .inl a4)), (q8, .inl (c8, 16, .inl a8)), (q9, .inl (c9, 16, .inl a9)), (q10, .inl (c10, 16, .inl a10)), (q11, .inl (c11, 16, .inl a11))] := hD
        refine W.widen (k := 0) (n := 0) (Nat.le_of_ble_eq_true rfl) (Nat.le_of_ble_eq_true rfl) ?_
        refine W.eq (g2 := F0 m 51 ls [.int r_8]) rfl ?_
        refine lv_istore (lv' := [(6, .int r_8), (5, .int (nI k8)), (4, .int (nI i)), (3, .int (nI ne)), (0, .ref h0), (1, .int (nI o)), (2, .int (nI o2))]) hx hb dX8_sameMap_51 hl (by decide) rfl (fun ls hl => ?_)
        refine lv_iload hx hb dX8_sameMap_53 (lv_at hl 0 rfl) ?_
        refine lv_if_lt (tgt := 83) hx hb dX8_sameMap_55 (by decide) (fun c_9 => ?_) (fun c_9 => ?_)
        ·
          have ic_9 : r_8.toInt < 0 := tx_lt rfl (by decide) c_9
          refine lv_lconst (v := 0) hx hb dX8_sameMap_83 (by decide) ?_
          have hP9 := hP.sub (ws' := [(h0, .inr (8, [.int th, .ref q1, .ref q2, .ref q3, .ref q4, v5, v6, v7, .ref q8, .ref q9, .ref q10, .ref q11, v12, v13, v14, v15, v16])), (q1, .inl (c1, 16, .inl a1)), (q2, .inl (c2, 67200, .inl a2)), (q3, .inl (c3, 16, .inl a3)), (q4, .inl (c4, 16, .inl a4)), (q8, .inl (c8, 16, .inl a8)), (q9, .inl (c9, 16, .inl a9)), (q10, .inl (c10, 16, .inl a10)), (q11, .inl (c11, 16, .inl a11))]) [0, 1, 2, 3, 4, 5, 6, 7, 8] rfl
          have hD9 := hD.sub (ws' := [(h0, .inr (8, [.int th, .ref q1, .ref q2, .ref q3, .ref q4, v5, v6, v7, .ref q8, .ref q9, .ref q10, .ref q11, v12, v13, v14, v15, v16])), (q1, .inl (c1, 16, .inl a1)), (q2, .inl (c2, 67200, .inl a2)), (q3, .inl (c3, 16, .inl a3)), (q4, .inl (c4, 16, .inl a4)), (q8, .inl (c8, 16, .inl a8)), (q9, .inl (c9, 16, .inl a9)), (q10, .inl (c10, 16, .inl a10)), (q11, .inl (c11, 16, .inl a11))]) [0, 1, 2, 3, 4, 5, 6, 7, 8] (by decide) rfl
          have hK9 := hK.sub (tys' := [(c1, .int), (c2, .int), (c3, .int), (c4, .int), (c8, .int), (c9, .int), (c10, .int), (c11, .int)]) [0, 1, 2, 3, 4, 5, 6, 7] rfl
          refine W.widen (k := 0) (n := 0) (Nat.le_of_ble_eq_true rfl) (Nat.le_of_ble_eq_true rfl) ?_
          exact W.lret (v := 0) hx hb hr (fun t ht hW => ⟨⟨0, (), rfl, trivial, by rw [ht]; exact hP9, va_K.moved hW.alike hK9, hD9⟩, hS.F ht⟩) hS.2.2 dX8_sameMap_84
        ·
          have ic_9 : 0 ≤ r_8.toInt := tx_nlt rfl (by decide) c_9
          obtain ⟨k7, hk7, ek7⟩ := jr_8.resolve_left (fun h => by rw [h] at ic_9; exact absurd ic_9 (by decide))
          subst ek7
          refine lv_aload_n hx hb dX8_sameMap_58 rfl (lv_at hl 4 rfl) ?_
          refine lv_aload_n hx hb dX8_sameMap_59 rfl (lv_at hl 4 rfl) ?_
          refine lv_iload_n hx hb dX8_sameMap_60 rfl (lv_at hl 6 rfl) ?_
          have hPc := hP.sub (ws' := [(h0, .inr (8, [.int th, .ref q1, .ref q2, .ref q3, .ref q4, v5, v6, v7, .ref q8, .ref q9, .ref q10, .ref q11, v12, v13, v14, v15, v16])), (q1, .inl (c1, 16, .inl a1)), (q8, .inl (c8, 16, .inl a8))]) [0, 1, 5] rfl
          have hDc := hD.sub (ws' := [(h0, .inr (8, [.int th, .ref q1, .ref q2, .ref q3, .ref q4, v5, v6, v7, .ref q8, .ref q9, .ref q10, .ref q11, v12, v13, v14, v15, v16])), (q1, .inl (c1, 16, .inl a1)), (q8, .inl (c8, 16, .inl a8))]) [0, 1, 5] (by decide) rfl
          have hKc := hK.sub (tys' := [(c1, .int), (c8, .int)]) [0, 4] rfl
          have hFc := va_free (wc := [(h0, .inr (8, [.int th, .ref q1, .ref q2, .ref q3, .ref q4, v5, v6, v7, .ref q8, .ref q9, .ref q10, .ref q11, v12, v13, v14, v15, v16])), (q1, .inl (c1, 16, .inl a1)), (q8, .inl (c8, 16, .inl a8))]) hD hS hA [0, 1, 5] rfl
          refine va_calli (va_runV (As := [.int (nI o2)]) (rest := [.ref h0]) ⟨hx, hb, hml, hown, hts⟩ (c_X8_root l  dC dI H.size h0 th q1 q8 c1 c8 a1 a8 (.ref q2) (.ref q3) (.ref q4) v5 v6 v7 (.ref q9) (.ref q10) (.ref q11) v12 v13 v14 v15 v16 o2 dep ho8 hF9 hd8) (cwV 1 hts gX8_sameMap_X8_root rfl rfl rfl (by decide +kernel) ⟨(Nat.le_of_ble_eq_true rfl), (Nat.le_of_ble_eq_true rfl)⟩) ⟨pk_blind, va_recv hKc hPc (ci := 8) (q0 := 0) rfl rfl, pk_call hPc hKc hDc⟩ rfl rfl hl.1 rfl (lv_room (Nat.le_of_ble_eq_true rfl)) dX8_sameMap_61 ⟨(Nat.le_of_ble_eq_true rfl), (Nat.le_of_ble_eq_true rfl)⟩) hS (fun q _ h => hFc q h) hFc (fun r_10 ur_10 t H1 locs ht hvm hw hB hz1 hk1 hS => ?_)
          try dsimp only at hw
          obtain ⟨er_10, hr7, hr6⟩ := hw
          rw [hrt8] at er_10 hr7 hr6
          obtain ⟨hP1, hK1, hD1⟩ := hB
          rw [ht] at hP1
          have hK1 := va_K.moved hvm.symm hK1
          obtain ⟨hP, hD⟩ := va_join (wr := [(q2, .inl (c2, 67200, .inl a2)), (q3, .inl (c3, 16, .inl a3)), (q4, .inl (c4, 16, .inl a4)), (q9, .inl (c9, 16, .inl a9)), (q10, .inl (c10, 16, .inl a10)), (q11, .inl (c11, 16, .inl a11))]) (w1 := [(h0, .inr (8, [.int th, .ref q1, .ref q2, .ref q3, .ref q4, v5, v6, v7, .ref q8, .ref q9, .ref q10, .ref q11, v12, v13, v14, v15, v16])), (q1, .inl (c1, 16, .inl a1)), (q8, .inl (c8, 16, .inl a8))]) hP hD [0, 1, 5] [2, 3, 4, 6, 7, 8] rfl rfl (by decide) (by decide) hk1 hFc hP1 hD1
          clear hk1 hz1 ht hPc hDc hKc hFc
          generalize H1 = H at hP hS ⊢
          replace hP : va_P (dC, dI) vwCl [(q2, .inl (c2, 67200, .inl a2)), (q3, .inl (c3, 16, .inl a3)), (q4, .inl (c4, 16, .inl a4)), (q9, .inl (c9, 16, .inl a9)), (q10, .inl (c10, 16, .inl a10)), (q11, .inl (c11, 16, .inl a11)), (h0, .inr (8, [.int th, .ref q1, .ref q2, .ref q3, .ref q4, v5, v6, v7, .ref q8, .ref q9, .ref q10, .ref q11, v12, v13, v14, v15, v16])), (q1, .inl (c1, 16, .inl a1)), (q8, .inl (c8, 16, .inl a8))] H := hP
          replace hD : va_D A [(q2, .inl (c2, 67200, .inl a2)), (q3, .inl (c3, 16, .inl a3)), (q4, .inl (c4, 16, .inl a4)), (q9, .inl (c9, 16, .inl a9)), (q10, .inl (c10, 16, .inl a10)), (q11, .inl (c11, 16, .inl a11)), (h0, .inr (8, [.int th, .ref q1, .ref q2, .ref q3, .ref q4, v5, v6, v7, .ref q8, .ref q9, .ref q10, .ref q11, v12, v13, v14, v15, v16])), (q1, .inl (c1, 16, .inl a1)), (q8, .inl (c8, 16, .inl a8))] := hD
          refine W.widen (k := 0) (n := 0) (Nat.le_of_ble_eq_true rfl) (Nat.le_of_ble_eq_true rfl) ?_
          subst er_10
          refine W.eq (g2 := F0 m 64 ls [.int (nI r2), .ref h0]) rfl ?_
          refine lv_iload hx hb dX8_sameMap_64 (lv_at hl 0 rfl) ?_
          have hPc := hP.sub (ws' := [(h0, .inr (8, [.int th, .ref q1, .ref q2, .ref q3, .ref q4, v5, v6, v7, .ref q8, .ref q9, .ref q10, .ref q11, v12, v13, v14, v15, v16])), (q2, .inl (c2, 67200, .inl a2))]) [6, 0] rfl
          have hDc := hD.sub (ws' := [(h0, .inr (8, [.int th, .ref q1, .ref q2, .ref q3, .ref q4, v5, v6, v7, .ref q8, .ref q9, .ref q10, .ref q11, v12, v13, v14, v15, v16])), (q2, .inl (c2, 67200, .inl a2))]) [6, 0] (by decide) rfl
          have hKc := hK.sub (tys' := [(c2, .int)]) [1] rfl
          have hFc := va_free (wc := [(h0, .inr (8, [.int th, .ref q1, .ref q2, .ref q3, .ref q4, v5, v6, v7, .ref q8, .ref q9, .ref q10, .ref q11, v12, v13, v14, v15, v16])), (q2, .inl (c2, 67200, .inl a2))]) hD hS hA [6, 0] rfl
          refine va_calli (va_runV (As := [.int (nI r2), .int (nI k7)]) (rest := []) ⟨hx, hb, hml, hown, hts⟩ (c_X8_value l  dC dI H.size h0 th q2 c2 a2 (.ref q1) (.ref q3) (.ref q4) v5 v6 v7 (.ref q8) (.ref q9) (.ref q10) (.ref q11) v12 v13 v14 v15 v16 r2 k7 hr7 (by omega)) (cwV 2 hts gX8_sameMap_X8_value rfl rfl rfl (by decide +kernel) ⟨(Nat.le_of_ble_eq_true rfl), (Nat.le_of_ble_eq_true rfl)⟩) ⟨pk_blind, va_recv hKc hPc (ci := 8) (q0 := 0) rfl rfl, pk_call hPc hKc hDc⟩ rfl rfl hl.1 rfl (lv_room (Nat.le_of_ble_eq_true rfl)) dX8_sameMap_66 ⟨(Nat.le_of_ble_eq_true rfl), (Nat.le_of_ble_eq_true rfl)⟩) hS (fun q _ h => hFc q h) hFc (fun r_11 ur_11 t H1 locs ht hvm hw hB hz1 hk1 hS => ?_)
          try dsimp only at hw
          obtain ⟨hP1, hK1, hD1⟩ := hB
          rw [ht] at hP1
          have hK1 := va_K.moved hvm.symm hK1
          obtain ⟨hP, hD⟩ := va_join (wr := [(q3, .inl (c3, 16, .inl a3)), (q4, .inl (c4, 16, .inl a4)), (q9, .inl (c9, 16, .inl a9)), (q10, .inl (c10, 16, .inl a10)), (q11, .inl (c11, 16, .inl a11)), (q1, .inl (c1, 16, .inl a1)), (q8, .inl (c8, 16, .inl a8))]) (w1 := [(h0, .inr (8, [.int th, .ref q1, .ref q2, .ref q3, .ref q4, v5, v6, v7, .ref q8, .ref q9, .ref q10, .ref q11, v12, v13, v14, v15, v16])), (q2, .inl (c2, 67200, .inl a2))]) hP hD [6, 0] [1, 2, 3, 4, 5, 7, 8] rfl rfl (by decide) (by decide) hk1 hFc hP1 hD1
          clear hk1 hz1 ht hPc hDc hKc hFc
          generalize H1 = H at hP hS ⊢
          replace hP : va_P (dC, dI) vwCl [(q3, .inl (c3, 16, .inl a3)), (q4, .inl (c4, 16, .inl a4)), (q9, .inl (c9, 16, .inl a9)), (q10, .inl (c10, 16, .inl a10)), (q11, .inl (c11, 16, .inl a11)), (q1, .inl (c1, 16, .inl a1)), (q8, .inl (c8, 16, .inl a8)), (h0, .inr (8, [.int th, .ref q1, .ref q2, .ref q3, .ref q4, v5, v6, v7, .ref q8, .ref q9, .ref q10, .ref q11, v12, v13, v14, v15, v16])), (q2, .inl (c2, 67200, .inl a2))] H := hP
          replace hD : va_D A [(q3, .inl (c3, 16, .inl a3)), (q4, .inl (c4, 16, .inl a4)), (q9, .inl (c9, 16, .inl a9)), (q10, .inl (c10, 16, .inl a10)), (q11, .inl (c11, 16, .inl a11)), (q1, .inl (c1, 16, .inl a1)), (q8, .inl (c8, 16, .inl a8)), (h0, .inr (8, [.int th, .ref q1, .ref q2, .ref q3, .ref q4, v5, v6, v7, .ref q8, .ref q9, .ref q10, .ref q11, v12, v13, v14, v15, v16])), (q2, .inl (c2, 67200, .inl a2))] := hD
          refine W.widen (k := 0) (n := 0) (Nat.le_of_ble_eq_true rfl) (Nat.le_of_ble_eq_true rfl) ?_
          obtain rfl : r_11 = a2 (4200 * r2 + 1000 + k7) := hw
          refine W.eq (g2 := F0 m 69 ls [.int (a2 (4200 * r2 + 1000 + k7))]) rfl ?_
          refine lv_aload_n hx hb dX8_sameMap_69 rfl (lv_at hl 4 rfl) ?_
          refine lv_aload_n hx hb dX8_sameMap_70 rfl (lv_at hl 4 rfl) ?_
          refine lv_iload_n hx hb dX8_sameMap_71 rfl (lv_at hl 5 rfl) ?_
          have hPc := hP.sub (ws' := [(h0, .inr (8, [.int th, .ref q1, .ref q2, .ref q3, .ref q4, v5, v6, v7, .ref q8, .ref q9, .ref q10, .ref q11, v12, v13, v14, v15, v16])), (q1, .inl (c1, 16, .inl a1)), (q8, .inl (c8, 16, .inl a8))]) [7, 5, 6] rfl
          have hDc := hD.sub (ws' := [(h0, .inr (8, [.int th, .ref q1, .ref q2, .ref q3, .ref q4, v5, v6, v7, .ref q8, .ref q9, .ref q10, .ref q11, v12, v13, v14, v15, v16])), (q1, .inl (c1, 16, .inl a1)), (q8, .inl (c8, 16, .inl a8))]) [7, 5, 6] (by decide) rfl
          have hKc := hK.sub (tys' := [(c1, .int), (c8, .int)]) [0, 4] rfl
          have hFc := va_free (wc := [(h0, .inr (8, [.int th, .ref q1, .ref q2, .ref q3, .ref q4, v5, v6, v7, .ref q8, .ref q9, .ref q10, .ref q11, v12, v13, v14, v15, v16])), (q1, .inl (c1, 16, .inl a1)), (q8, .inl (c8, 16, .inl a8))]) hD hS hA [7, 5, 6] rfl
          refine va_calli (va_runV (As := [.int (nI o)]) (rest := [.ref h0, .int (a2 (4200 * r2 + 1000 + k7))]) ⟨hx, hb, hml, hown, hts⟩ (c_X8_root l  dC dI H.size h0 th q1 q8 c1 c8 a1 a8 (.ref q2) (.ref q3) (.ref q4) v5 v6 v7 (.ref q9) (.ref q10) (.ref q11) v12 v13 v14 v15 v16 o dep ho9 hF9 hd9) (cwV 1 hts gX8_sameMap_X8_root rfl rfl rfl (by decide +kernel) ⟨(Nat.le_of_ble_eq_true rfl), (Nat.le_of_ble_eq_true rfl)⟩) ⟨pk_blind, va_recv hKc hPc (ci := 8) (q0 := 0) rfl rfl, pk_call hPc hKc hDc⟩ rfl rfl hl.1 rfl (lv_room (Nat.le_of_ble_eq_true rfl)) dX8_sameMap_72 ⟨(Nat.le_of_ble_eq_true rfl), (Nat.le_of_ble_eq_true rfl)⟩) hS (fun q _ h => hFc q h) hFc (fun r_12 ur_12 t H1 locs ht hvm hw hB hz1 hk1 hS => ?_)
          try dsimp only at hw
          obtain ⟨er_12, hr9, hr8⟩ := hw
          rw [hrt9] at er_12 hr9 hr8
          obtain ⟨hP1, hK1, hD1⟩ := hB
          rw [ht] at hP1
          have hK1 := va_K.moved hvm.symm hK1
          obtain ⟨hP, hD⟩ := va_join (wr := [(q3, .inl (c3, 16, .inl a3)), (q4, .inl (c4, 16, .inl a4)), (q9, .inl (c9, 16, .inl a9)), (q10, .inl (c10, 16, .inl a10)), (q11, .inl (c11, 16, .inl a11)), (q2, .inl (c2, 67200, .inl a2))]) (w1 := [(h0, .inr (8, [.int th, .ref q1, .ref q2, .ref q3, .ref q4, v5, v6, v7, .ref q8, .ref q9, .ref q10, .ref q11, v12, v13, v14, v15, v16])), (q1, .inl (c1, 16, .inl a1)), (q8, .inl (c8, 16, .inl a8))]) hP hD [7, 5, 6] [0, 1, 2, 3, 4, 8] rfl rfl (by decide) (by decide) hk1 hFc hP1 hD1
          clear hk1 hz1 ht hPc hDc hKc hFc
          generalize H1 = H at hP hS ⊢
          replace hP : va_P (dC, dI) vwCl [(q3, .inl (c3, 16, .inl a3)), (q4, .inl (c4, 16, .inl a4)), (q9, .inl (c9, 16, .inl a9)), (q10, .inl (c10, 16, .inl a10)), (q11, .inl (c11, 16, .inl a11)), (q2, .inl (c2, 67200, .inl a2)), (h0, .inr (8, [.int th, .ref q1, .ref q2, .ref q3, .ref q4, v5, v6, v7, .ref q8, .ref q9, .ref q10, .ref q11, v12, v13, v14, v15, v16])), (q1, .inl (c1, 16, .inl a1)), (q8, .inl (c8, 16, .inl a8))] H := hP
          replace hD : va_D A [(q3, .inl (c3, 16, .inl a3)), (q4, .inl (c4, 16, .inl a4)), (q9, .inl (c9, 16, .inl a9)), (q10, .inl (c10, 16, .inl a10)), (q11, .inl (c11, 16, .inl a11)), (q2, .inl (c2, 67200, .inl a2)), (h0, .inr (8, [.int th, .ref q1, .ref q2, .ref q3, .ref q4, v5, v6, v7, .ref q8, .ref q9, .ref q10, .ref q11, v12, v13, v14, v15, v16])), (q1, .inl (c1, 16, .inl a1)), (q8, .inl (c8, 16, .inl a8))] := hD
          refine W.widen (k := 0) (n := 0) (Nat.le_of_ble_eq_true rfl) (Nat.le_of_ble_eq_true rfl) ?_
          subst er_12
          refine W.eq (g2 := F0 m 75 ls [.int (nI r), .ref h0, .int (a2 (4200 * r2 + 1000 + k7))]) rfl ?_
          refine lv_iload hx hb dX8_sameMap_75 (lv_at hl 1 rfl) ?_
          have hPc := hP.sub (ws' := [(h0, .inr (8, [.int th, .ref q1, .ref q2, .ref q3, .ref q4, v5, v6, v7, .ref q8, .ref q9, .ref q10, .ref q11, v12, v13, v14, v15, v16])), (q2, .inl (c2, 67200, .inl a2))]) [6, 5] rfl
          have hDc := hD.sub (ws' := [(h0, .inr (8, [.int th, .ref q1, .ref q2, .ref q3, .ref q4, v5, v6, v7, .ref q8, .ref q9, .ref q10, .ref q11, v12, v13, v14, v15, v16])), (q2, .inl (c2, 67200, .inl a2))]) [6, 5] (by decide) rfl
          have hKc := hK.sub (tys' := [(c2, .int)]) [1] rfl
          have hFc := va_free (wc := [(h0, .inr (8, [.int th, .ref q1, .ref q2, .ref q3, .ref q4, v5, v6, v7, .ref q8, .ref q9, .ref q10, .ref q11, v12, v13, v14, v15, v16])), (q2, .inl (c2, 67200, .inl a2))]) hD hS hA [6, 5] rfl
          refine va_calli (va_runV (As := [.int (nI r), .int (nI k8)]) (rest := [.int (a2 (4200 * r2 + 1000 + k7))]) ⟨hx, hb, hml, hown, hts⟩ (c_X8_value l  dC dI H.size h0 th q2 c2 a2 (.ref q1) (.ref q3) (.ref q4) v5 v6 v7 (.ref q8) (.ref q9) (.ref q10) (.ref q11) v12 v13 v14 v15 v16 r k8 hr9 (by omega)) (cwV 2 hts gX8_sameMap_X8_value rfl rfl rfl (by decide +kernel) ⟨(Nat.le_of_ble_eq_true rfl), (Nat.le_of_ble_eq_true rfl)⟩) ⟨pk_blind, va_recv hKc hPc (ci := 8) (q0 := 0) rfl rfl, pk_call hPc hKc hDc⟩ rfl rfl hl.1 rfl (lv_room (Nat.le_of_ble_eq_true rfl)) dX8_sameMap_77 ⟨(Nat.le_of_ble_eq_true rfl), (Nat.le_of_ble_eq_true rfl)⟩) hS (fun q _ h => hFc q h) hFc (fun r_13 ur_13 t H1 locs ht hvm hw hB hz1 hk1 hS => ?_)
          try dsimp only at hw
          obtain ⟨hP1, hK1, hD1⟩ := hB
          rw [ht] at hP1
          have hK1 := va_K.moved hvm.symm hK1
          obtain ⟨hP, hD⟩ := va_join (wr := [(q3, .inl (c3, 16, .inl a3)), (q4, .inl (c4, 16, .inl a4)), (q9, .inl (c9, 16, .inl a9)), (q10, .inl (c10, 16, .inl a10)), (q11, .inl (c11, 16, .inl a11)), (q1, .inl (c1, 16, .inl a1)), (q8, .inl (c8, 16, .inl a8))]) (w1 := [(h0, .inr (8, [.int th, .ref q1, .ref q2, .ref q3, .ref q4, v5, v6, v7, .ref q8, .ref q9, .ref q10, .ref q11, v12, v13, v14, v15, v16])), (q2, .inl (c2, 67200, .inl a2))]) hP hD [6, 5] [0, 1, 2, 3, 4, 7, 8] rfl rfl (by decide) (by decide) hk1 hFc hP1 hD1
          clear hk1 hz1 ht hPc hDc hKc hFc
          generalize H1 = H at hP hS ⊢
          replace hP : va_P (dC, dI) vwCl [(q3, .inl (c3, 16, .inl a3)), (q4, .inl (c4, 16, .inl a4)), (q9, .inl (c9, 16, .inl a9)), (q10, .inl (c10, 16, .inl a10)), (q11, .inl (c11, 16, .inl a11)), (q1, .inl (c1, 16, .inl a1)), (q8, .inl (c8, 16, .inl a8)), (h0, .inr (8, [.int th, .ref q1, .ref q2, .ref q3, .ref q4, v5, v6, v7, .ref q8, .ref q9, .ref q10, .ref q11, v12, v13, v14, v15, v16])), (q2, .inl (c2, 67200, .inl a2))] H := hP
          replace hD : va_D A [(q3, .inl (c3, 16, .inl a3)), (q4, .inl (c4, 16, .inl a4)), (q9, .inl (c9, 16, .inl a9)), (q10, .inl (c10, 16, .inl a10)), (q11, .inl (c11, 16, .inl a11)), (q1, .inl (c1, 16, .inl a1)), (q8, .inl (c8, 16, .inl a8)), (h0, .inr (8, [.int th, .ref q1, .ref q2, .ref q3, .ref q4, v5, v6, v7, .ref q8, .ref q9, .ref q10, .ref q11, v12, v13, v14, v15, v16])), (q2, .inl (c2, 67200, .inl a2))] := hD
          refine W.widen (k := 0) (n := 0) (Nat.le_of_ble_eq_true rfl) (Nat.le_of_ble_eq_true rfl) ?_
          obtain rfl : r_13 = a2 (4200 * r + 1000 + k8) := hw
          refine W.eq (g2 := F0 m 80 ls [.int (a2 (4200 * r + 1000 + k8)), .int (a2 (4200 * r2 + 1000 + k7))]) rfl ?_
          refine lv_icmp_eq (tgt := 85) hx hb dX8_sameMap_80 (by decide) (fun c_14 => ?_) (fun c_14 => ?_)
          ·
            have ic_14 : (a2 (4200 * r2 + 1000 + k7)).toInt = (a2 (4200 * r + 1000 + k8)).toInt := tx_eq rfl rfl c_14
            refine lv_iinc (v := nI (i + 1)) (lv' := [(4, .int (nI (i + 1))), (6, .int (nI k7)), (5, .int (nI k8)), (3, .int (nI ne)), (0, .ref h0), (1, .int (nI o)), (2, .int (nI o2))]) hx hb dX8_sameMap_85 hl (k := 2) rfl (by rw [show Int32.ofInt 1 = nI 1 from rfl, nI_add]) (by decide) rfl (fun ls hl => ?_)
            refine lv_goto (tgt := 20) hx hb dX8_sameMap_88 (by decide) ?_
            exact ih (i := i + 1) (x9 := nI (i + 1)) (ex9 := rfl) (ls := ls) (H := H) (locs := locs) (hP := hP.sub (ws' := [(h0, .inr (8, [.int th, .ref q1, .ref q2, .ref q3, .ref q4, v5, v6, v7, .ref q8, .ref q9, .ref q10, .ref q11, v12, v13, v14, v15, v16])), (q1, .inl (c1, 16, .inl a1)), (q2, .inl (c2, 67200, .inl a2)), (q3, .inl (c3, 16, .inl a3)), (q4, .inl (c4, 16, .inl a4)), (q8, .inl (c8, 16, .inl a8)), (q9, .inl (c9, 16, .inl a9)), (q10, .inl (c10, 16, .inl a10)), (q11, .inl (c11, 16, .inl a11))]) [7, 5, 8, 0, 1, 6, 2, 3, 4] rfl) (hS := hS) (hi9 := by omega) (hn9 := by omega) (hl := lv_sub hl [0, 3, 4, 5, 6] rfl)
          ·
            have ic_14 : ¬ (a2 (4200 * r2 + 1000 + k7)).toInt = (a2 (4200 * r + 1000 + k8)).toInt := tx_ne rfl rfl c_14
            refine lv_lconst (v := 0) hx hb dX8_sameMap_83 (by decide) ?_
            have hP9 := hP.sub (ws' := [(h0, .inr (8, [.int th, .ref q1, .ref q2, .ref q3, .ref q4, v5, v6, v7, .ref q8, .ref q9, .ref q10, .ref q11, v12, v13, v14, v15, v16])), (q1, .inl (c1, 16, .inl a1)), (q2, .inl (c2, 67200, .inl a2)), (q3, .inl (c3, 16, .inl a3)), (q4, .inl (c4, 16, .inl a4)), (q8, .inl (c8, 16, .inl a8)), (q9, .inl (c9, 16, .inl a9)), (q10, .inl (c10, 16, .inl a10)), (q11, .inl (c11, 16, .inl a11))]) [7, 5, 8, 0, 1, 6, 2, 3, 4] rfl
            have hD9 := hD.sub (ws' := [(h0, .inr (8, [.int th, .ref q1, .ref q2, .ref q3, .ref q4, v5, v6, v7, .ref q8, .ref q9, .ref q10, .ref q11, v12, v13, v14, v15, v16])), (q1, .inl (c1, 16, .inl a1)), (q2, .inl (c2, 67200, .inl a2)), (q3, .inl (c3, 16, .inl a3)), (q4, .inl (c4, 16, .inl a4)), (q8, .inl (c8, 16, .inl a8)), (q9, .inl (c9, 16, .inl a9)), (q10, .inl (c10, 16, .inl a10)), (q11, .inl (c11, 16, .inl a11))]) [7, 5, 8, 0, 1, 6, 2, 3, 4] (by decide) rfl
            have hK9 := hK.sub (tys' := [(c1, .int), (c2, .int), (c3, .int), (c4, .int), (c8, .int), (c9, .int), (c10, .int), (c11, .int)]) [0, 1, 2, 3, 4, 5, 6, 7] rfl
            refine W.widen (k := 0) (n := 0) (Nat.le_of_ble_eq_true rfl) (Nat.le_of_ble_eq_true rfl) ?_
            exact W.lret (v := 0) hx hb hr (fun t ht hW => ⟨⟨0, (), rfl, trivial, by rw [ht]; exact hP9, va_K.moved hW.alike hK9, hD9⟩, hS.F ht⟩) hS.2.2 dX8_sameMap_84
  ·
    have ic_3 : ¬ ((ne8 : Nat) : Int) = ((ne : Nat) : Int) := tx_ne (nI_toInt (by omega)) (nI_toInt (by omega)) c_3
    refine lv_lconst (v := 0) hx hb dX8_sameMap_15 (by decide) ?_
    have hP9 := hP.sub (ws' := [(h0, .inr (8, [.int th, .ref q1, .ref q2, .ref q3, .ref q4, v5, v6, v7, .ref q8, .ref q9, .ref q10, .ref q11, v12, v13, v14, v15, v16])), (q1, .inl (c1, 16, .inl a1)), (q2, .inl (c2, 67200, .inl a2)), (q3, .inl (c3, 16, .inl a3)), (q4, .inl (c4, 16, .inl a4)), (q8, .inl (c8, 16, .inl a8)), (q9, .inl (c9, 16, .inl a9)), (q10, .inl (c10, 16, .inl a10)), (q11, .inl (c11, 16, .inl a11))]) [0, 1, 2, 3, 4, 5, 6, 7, 8] rfl
    have hD9 := hD.sub (ws' := [(h0, .inr (8, [.int th, .ref q1, .ref q2, .ref q3, .ref q4, v5, v6, v7, .ref q8, .ref q9, .ref q10, .ref q11, v12, v13, v14, v15, v16])), (q1, .inl (c1, 16, .inl a1)), (q2, .inl (c2, 67200, .inl a2)), (q3, .inl (c3, 16, .inl a3)), (q4, .inl (c4, 16, .inl a4)), (q8, .inl (c8, 16, .inl a8)), (q9, .inl (c9, 16, .inl a9)), (q10, .inl (c10, 16, .inl a10)), (q11, .inl (c11, 16, .inl a11))]) [0, 1, 2, 3, 4, 5, 6, 7, 8] (by decide) rfl
    have hK9 := hK.sub (tys' := [(c1, .int), (c2, .int), (c3, .int), (c4, .int), (c8, .int), (c9, .int), (c10, .int), (c11, .int)]) [0, 1, 2, 3, 4, 5, 6, 7] rfl
    refine W.widen (k := 0) (n := 0) (Nat.le_of_ble_eq_true rfl) (Nat.le_of_ble_eq_true rfl) ?_
    exact W.lret (v := 0) hx hb hr (fun t ht hW => ⟨⟨0, (), rfl, trivial, by rw [ht]; exact hP9, va_K.moved hW.alike hK9, hD9⟩, hS.F ht⟩) hS.2.2 dX8_sameMap_16
