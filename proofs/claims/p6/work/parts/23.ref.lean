theorem dX8_make_0 : decode cX8_make 0 = .ok (.iload_n 1, 1) := by decide +kernel
theorem dX8_make_1 : decode cX8_make 1 = .ok (.iconst 0, 1) := by decide +kernel
theorem dX8_make_2 : decode cX8_make 2 = .ok (.iconst 2, 1) := by decide +kernel
set_option maxRecDepth 20000 in
theorem ggX8_make_X8_in : GoodIn wsX8_make wsX8_in := goodIn_r _ [7] rfl (by decide +kernel)
set_option maxRecDepth 20000 in
theorem gX8_make_X8_in : GoodIn wsX8_make (va_wsS RX8 64 yX8_in wsX8_in) := goodIn_app (goodIn_of _ (by decide +kernel)) ggX8_make_X8_in
theorem dX8_make_3 : decode cX8_make 3 = .ok (.invokestatic 64, 3) := by decide +kernel
theorem dX8_make_6 : decode cX8_make 6 = .ok (.ifCond .ne 9, 3) := by decide +kernel
theorem dX8_make_98 : decode cX8_make 98 = .ok (.iload 4, 2) := by decide +kernel
theorem dX8_make_100 : decode cX8_make 100 = .ok (.ifCond .ne 9, 3) := by decide +kernel
theorem dX8_make_109 : decode cX8_make 109 = .ok (.aload_n 0, 1) := by decide +kernel
set_option maxRecDepth 20000 in
theorem ggX8_make_X8_free : GoodIn wsX8_make wsX8_free := goodIn_r _ [15, 16, 25, 26, 27, 28, 29, 30, 31, 32, 33, 34, 35, 36, 37, 38, 39, 40, 41] rfl (by decide +kernel)
set_option maxRecDepth 20000 in
theorem gX8_make_X8_free : GoodIn wsX8_make (wsV RX8 72 RX8 yX8_free wsX8_free) := goodIn_app (goodIn_of _ (by decide +kernel)) ggX8_make_X8_free
theorem dX8_make_110 : decode cX8_make 110 = .ok (.invokevirtual 72, 3) := by decide +kernel
theorem dX8_make_113 : decode cX8_make 113 = .ok (.istore 5, 2) := by decide +kernel
theorem dX8_make_115 : decode cX8_make 115 = .ok (.iload 5, 2) := by decide +kernel
theorem dX8_make_117 : decode cX8_make 117 = .ok (.ifCond .ge 9, 3) := by decide +kernel
theorem dX8_make_126 : decode cX8_make 126 = .ok (.aload_n 0, 1) := by decide +kernel
theorem dX8_make_127 : decode cX8_make 127 = .ok (.iconst 0, 1) := by decide +kernel
theorem dX8_make_128 : decode cX8_make 128 = .ok (.putfield 60, 3) := by decide +kernel
theorem dX8_make_131 : decode cX8_make 131 = .ok (.aload_n 0, 1) := by decide +kernel
theorem dX8_make_132 : decode cX8_make 132 = .ok (.iload 5, 2) := by decide +kernel
theorem dX8_make_134 : decode cX8_make 134 = .ok (.iload_n 1, 1) := by decide +kernel
theorem dX8_make_135 : decode cX8_make 135 = .ok (.iconst 1, 1) := by decide +kernel
theorem dX8_make_136 : decode cX8_make 136 = .ok (.iadd, 1) := by decide +kernel
set_option maxRecDepth 20000 in
theorem ggX8_make_X8_born : GoodIn wsX8_make wsX8_born := goodIn_r _ [20, 16, 21, 22, 23, 24, 25, 26, 27, 28, 29, 30, 31, 32, 33, 34, 35, 36, 37, 38, 39, 40, 41] rfl (by decide +kernel)
set_option maxRecDepth 20000 in
theorem gX8_make_X8_born : GoodIn wsX8_make (wsV RX8 76 RX8 yX8_born wsX8_born) := goodIn_app (goodIn_of _ (by decide +kernel)) ggX8_make_X8_born
theorem dX8_make_137 : decode cX8_make 137 = .ok (.invokevirtual 76, 3) := by decide +kernel
theorem dX8_make_140 : decode cX8_make 140 = .ok (.pop, 1) := by decide +kernel
theorem dX8_make_141 : decode cX8_make 141 = .ok (.aload_n 0, 1) := by decide +kernel
theorem dX8_make_142 : decode cX8_make 142 = .ok (.getfield 20, 3) := by decide +kernel
theorem dX8_make_145 : decode cX8_make 145 = .ok (.iload 5, 2) := by decide +kernel
theorem dX8_make_147 : decode cX8_make 147 = .ok (.iload_n 2, 1) := by decide +kernel
theorem dX8_make_148 : decode cX8_make 148 = .ok (.iastore, 1) := by decide +kernel
theorem dX8_make_149 : decode cX8_make 149 = .ok (.aload_n 0, 1) := by decide +kernel
theorem dX8_make_150 : decode cX8_make 150 = .ok (.getfield 23, 3) := by decide +kernel
theorem dX8_make_153 : decode cX8_make 153 = .ok (.iload 5, 2) := by decide +kernel
theorem dX8_make_155 : decode cX8_make 155 = .ok (.iload_n 3, 1) := by decide +kernel
theorem dX8_make_156 : decode cX8_make 156 = .ok (.iastore, 1) := by decide +kernel
theorem dX8_make_157 : decode cX8_make 157 = .ok (.iload 5, 2) := by decide +kernel
theorem dX8_make_159 : decode cX8_make 159 = .ok (.ireturn, 1) := by decide +kernel
theorem dX8_make_120 : decode cX8_make 120 = .ok (.aload_n 0, 1) := by decide +kernel
theorem dX8_make_121 : decode cX8_make 121 = .ok (.iconst 2, 1) := by decide +kernel
set_option maxRecDepth 20000 in
theorem ggX8_make_X8_refuse : GoodIn wsX8_make wsX8_refuse := goodIn_r _ [11, 1, 25, 26, 27, 28, 29, 30, 31, 32, 33, 34, 35, 36, 37, 38, 39, 40, 41] rfl (by decide +kernel)
set_option maxRecDepth 20000 in
theorem gX8_make_X8_refuse : GoodIn wsX8_make (wsV RX8 68 RX8 yX8_refuse wsX8_refuse) := goodIn_app (goodIn_of _ (by decide +kernel)) ggX8_make_X8_refuse
theorem dX8_make_122 : decode cX8_make 122 = .ok (.invokevirtual 68, 3) := by decide +kernel
theorem dX8_make_125 : decode cX8_make 125 = .ok (.ireturn, 1) := by decide +kernel
theorem dX8_make_103 : decode cX8_make 103 = .ok (.aload_n 0, 1) := by decide +kernel
theorem dX8_make_104 : decode cX8_make 104 = .ok (.iconst 1, 1) := by decide +kernel
theorem dX8_make_105 : decode cX8_make 105 = .ok (.invokevirtual 68, 3) := by decide +kernel
theorem dX8_make_108 : decode cX8_make 108 = .ok (.ireturn, 1) := by decide +kernel
theorem dX8_make_29 : decode cX8_make 29 = .ok (.iload_n 1, 1) := by decide +kernel
theorem dX8_make_30 : decode cX8_make 30 = .ok (.ifCond .ne 27, 3) := by decide +kernel
theorem dX8_make_57 : decode cX8_make 57 = .ok (.iload_n 1, 1) := by decide +kernel
theorem dX8_make_58 : decode cX8_make 58 = .ok (.iconst 1, 1) := by decide +kernel
theorem dX8_make_59 : decode cX8_make 59 = .ok (.if_icmp .ne 31, 3) := by decide +kernel
theorem dX8_make_90 : decode cX8_make 90 = .ok (.iload_n 2, 1) := by decide +kernel
theorem dX8_make_91 : decode cX8_make 91 = .ok (.iconst 0, 1) := by decide +kernel
theorem dX8_make_92 : decode cX8_make 92 = .ok (.iconst 3, 1) := by decide +kernel
theorem dX8_make_93 : decode cX8_make 93 = .ok (.invokestatic 64, 3) := by decide +kernel
theorem dX8_make_96 : decode cX8_make 96 = .ok (.istore 4, 2) := by decide +kernel
theorem dX8_make_62 : decode cX8_make 62 = .ok (.iload_n 2, 1) := by decide +kernel
theorem dX8_make_63 : decode cX8_make 63 = .ok (.iconst 0, 1) := by decide +kernel
theorem dX8_make_64 : decode cX8_make 64 = .ok (.sipush 1000, 3) := by decide +kernel
theorem dX8_make_67 : decode cX8_make 67 = .ok (.invokestatic 64, 3) := by decide +kernel
theorem dX8_make_70 : decode cX8_make 70 = .ok (.ifCond .eq 16, 3) := by decide +kernel
theorem dX8_make_86 : decode cX8_make 86 = .ok (.iconst 0, 1) := by decide +kernel
theorem dX8_make_87 : decode cX8_make 87 = .ok (.goto 9, 3) := by decide +kernel
theorem dX8_make_73 : decode cX8_make 73 = .ok (.iload_n 3, 1) := by decide +kernel
theorem dX8_make_74 : decode cX8_make 74 = .ok (.iconst 0, 1) := by decide +kernel
theorem dX8_make_75 : decode cX8_make 75 = .ok (.iconst 1, 1) := by decide +kernel
theorem dX8_make_76 : decode cX8_make 76 = .ok (.invokestatic 64, 3) := by decide +kernel
theorem dX8_make_79 : decode cX8_make 79 = .ok (.ifCond .eq 7, 3) := by decide +kernel
theorem dX8_make_82 : decode cX8_make 82 = .ok (.iconst 1, 1) := by decide +kernel
theorem dX8_make_83 : decode cX8_make 83 = .ok (.goto 13, 3) := by decide +kernel
theorem dX8_make_33 : decode cX8_make 33 = .ok (.iload_n 2, 1) := by decide +kernel
theorem dX8_make_34 : decode cX8_make 34 = .ok (.sipush 1000, 3) := by decide +kernel
theorem dX8_make_37 : decode cX8_make 37 = .ok (.if_icmp .gt 16, 3) := by decide +kernel
theorem dX8_make_53 : decode cX8_make 53 = .ok (.iconst 0, 1) := by decide +kernel
theorem dX8_make_54 : decode cX8_make 54 = .ok (.goto 42, 3) := by decide +kernel
theorem dX8_make_40 : decode cX8_make 40 = .ok (.iload_n 3, 1) := by decide +kernel
theorem dX8_make_41 : decode cX8_make 41 = .ok (.iconst 0, 1) := by decide +kernel
theorem dX8_make_42 : decode cX8_make 42 = .ok (.iconst 3, 1) := by decide +kernel
theorem dX8_make_43 : decode cX8_make 43 = .ok (.invokestatic 64, 3) := by decide +kernel
theorem dX8_make_46 : decode cX8_make 46 = .ok (.ifCond .eq 7, 3) := by decide +kernel
theorem dX8_make_49 : decode cX8_make 49 = .ok (.iconst 1, 1) := by decide +kernel
theorem dX8_make_50 : decode cX8_make 50 = .ok (.goto 46, 3) := by decide +kernel
theorem dX8_make_15 : decode cX8_make 15 = .ok (.iload_n 1, 1) := by decide +kernel
theorem dX8_make_16 : decode cX8_make 16 = .ok (.ifCond .ne 13, 3) := by decide +kernel
theorem dX8_make_19 : decode cX8_make 19 = .ok (.iload_n 2, 1) := by decide +kernel
theorem dX8_make_20 : decode cX8_make 20 = .ok (.ifCond .ge 9, 3) := by decide +kernel
theorem dX8_make_23 : decode cX8_make 23 = .ok (.aload_n 0, 1) := by decide +kernel
theorem dX8_make_24 : decode cX8_make 24 = .ok (.iconst 3, 1) := by decide +kernel
theorem dX8_make_25 : decode cX8_make 25 = .ok (.invokevirtual 68, 3) := by decide +kernel
theorem dX8_make_28 : decode cX8_make 28 = .ok (.ireturn, 1) := by decide +kernel
theorem dX8_make_9 : decode cX8_make 9 = .ok (.aload_n 0, 1) := by decide +kernel
theorem dX8_make_10 : decode cX8_make 10 = .ok (.iconst 1, 1) := by decide +kernel
theorem dX8_make_11 : decode cX8_make 11 = .ok (.invokevirtual 68, 3) := by decide +kernel
theorem dX8_make_14 : decode cX8_make 14 = .ok (.ireturn, 1) := by decide +kernel
theorem dX8_drop_0 : decode cX8_drop 0 = .ok (.aload_n 0, 1) := by decide +kernel
theorem dX8_drop_1 : decode cX8_drop 1 = .ok (.iload_n 1, 1) := by decide +kernel
set_option maxRecDepth 20000 in
theorem ggX8_drop_X8_isThere : GoodIn wsX8_drop wsX8_isThere := goodIn_r _ [8, 3, 9, 10, 7, 11, 21, 22, 23, 24, 25, 26, 27, 28, 29, 30, 31, 32, 33, 34, 35, 36, 37] rfl (by decide +kernel)
set_option maxRecDepth 20000 in
theorem gX8_drop_X8_isThere : GoodIn wsX8_drop (wsV RX8 80 RX8 yX8_isThere wsX8_isThere) := goodIn_app (goodIn_of _ (by decide +kernel)) ggX8_drop_X8_isThere
theorem dX8_drop_2 : decode cX8_drop 2 = .ok (.invokevirtual 80, 3) := by decide +kernel
theorem dX8_drop_5 : decode cX8_drop 5 = .ok (.ifCond .ne 9, 3) := by decide +kernel
theorem dX8_drop_14 : decode cX8_drop 14 = .ok (.aload_n 0, 1) := by decide +kernel
theorem dX8_drop_15 : decode cX8_drop 15 = .ok (.iconst 0, 1) := by decide +kernel
theorem dX8_drop_16 : decode cX8_drop 16 = .ok (.putfield 60, 3) := by decide +kernel
theorem dX8_drop_19 : decode cX8_drop 19 = .ok (.iconst 1, 1) := by decide +kernel
theorem dX8_drop_20 : decode cX8_drop 20 = .ok (.istore_n 2, 1) := by decide +kernel
theorem dX8_drop_21 : decode cX8_drop 21 = .ok (.iconst 0, 1) := by decide +kernel
theorem dX8_drop_22 : decode cX8_drop 22 = .ok (.istore_n 3, 1) := by decide +kernel
theorem dX8_drop_23 : decode cX8_drop 23 = .ok (.iload_n 3, 1) := by decide +kernel
theorem dX8_drop_24 : decode cX8_drop 24 = .ok (.bipush 16, 2) := by decide +kernel
theorem dX8_drop_26 : decode cX8_drop 26 = .ok (.if_icmp .ge 60, 3) := by decide +kernel
theorem dX8_drop_86 : decode cX8_drop 86 = .ok (.iconst 0, 1) := by decide +kernel
theorem dX8_drop_87 : decode cX8_drop 87 = .ok (.istore_n 3, 1) := by decide +kernel
theorem dX8_drop_88 : decode cX8_drop 88 = .ok (.iload_n 3, 1) := by decide +kernel
theorem dX8_drop_89 : decode cX8_drop 89 = .ok (.bipush 16, 2) := by decide +kernel
theorem dX8_drop_91 : decode cX8_drop 91 = .ok (.if_icmp .ge 30, 3) := by decide +kernel
theorem dX8_drop_121 : decode cX8_drop 121 = .ok (.iload_n 2, 1) := by decide +kernel
theorem dX8_drop_122 : decode cX8_drop 122 = .ok (.ireturn, 1) := by decide +kernel
theorem dX8_drop_94 : decode cX8_drop 94 = .ok (.aload_n 0, 1) := by decide +kernel
theorem dX8_drop_95 : decode cX8_drop 95 = .ok (.getfield 57, 3) := by decide +kernel
theorem dX8_drop_98 : decode cX8_drop 98 = .ok (.iload_n 3, 1) := by decide +kernel
theorem dX8_drop_99 : decode cX8_drop 99 = .ok (.baload, 1) := by decide +kernel
theorem dX8_drop_100 : decode cX8_drop 100 = .ok (.ifCond .ne 8, 3) := by decide +kernel
theorem dX8_drop_108 : decode cX8_drop 108 = .ok (.aload_n 0, 1) := by decide +kernel
theorem dX8_drop_109 : decode cX8_drop 109 = .ok (.getfield 7, 3) := by decide +kernel
theorem dX8_drop_112 : decode cX8_drop 112 = .ok (.iload_n 3, 1) := by decide +kernel
theorem dX8_drop_113 : decode cX8_drop 113 = .ok (.iconst 0, 1) := by decide +kernel
theorem dX8_drop_114 : decode cX8_drop 114 = .ok (.iastore, 1) := by decide +kernel
theorem dX8_drop_115 : decode cX8_drop 115 = .ok (.iinc 3 1, 3) := by decide +kernel
theorem dX8_drop_118 : decode cX8_drop 118 = .ok (.goto (-30), 3) := by decide +kernel
theorem dX8_drop_103 : decode cX8_drop 103 = .ok (.iload_n 3, 1) := by decide +kernel
theorem dX8_drop_104 : decode cX8_drop 104 = .ok (.iload_n 1, 1) := by decide +kernel
theorem dX8_drop_105 : decode cX8_drop 105 = .ok (.if_icmp .ne 10, 3) := by decide +kernel
theorem dX8_drop_29 : decode cX8_drop 29 = .ok (.aload_n 0, 1) := by decide +kernel
theorem dX8_drop_30 : decode cX8_drop 30 = .ok (.getfield 57, 3) := by decide +kernel
theorem dX8_drop_33 : decode cX8_drop 33 = .ok (.iload_n 3, 1) := by decide +kernel
theorem dX8_drop_34 : decode cX8_drop 34 = .ok (.iload_n 3, 1) := by decide +kernel
theorem dX8_drop_35 : decode cX8_drop 35 = .ok (.iload_n 1, 1) := by decide +kernel
theorem dX8_drop_36 : decode cX8_drop 36 = .ok (.if_icmp .eq 25, 3) := by decide +kernel
theorem dX8_drop_61 : decode cX8_drop 61 = .ok (.iconst 0, 1) := by decide +kernel
theorem dX8_drop_62 : decode cX8_drop 62 = .ok (.bastore, 1) := by decide +kernel
theorem dX8_drop_63 : decode cX8_drop 63 = .ok (.iload_n 2, 1) := by decide +kernel
theorem dX8_drop_64 : decode cX8_drop 64 = .ok (.aload_n 0, 1) := by decide +kernel
theorem dX8_drop_65 : decode cX8_drop 65 = .ok (.getfield 57, 3) := by decide +kernel
theorem dX8_drop_68 : decode cX8_drop 68 = .ok (.iload_n 3, 1) := by decide +kernel
theorem dX8_drop_69 : decode cX8_drop 69 = .ok (.baload, 1) := by decide +kernel
theorem dX8_drop_70 : decode cX8_drop 70 = .ok (.ifCond .eq 7, 3) := by decide +kernel
theorem dX8_drop_77 : decode cX8_drop 77 = .ok (.iconst 0, 1) := by decide +kernel
theorem dX8_drop_78 : decode cX8_drop 78 = .ok (.iadd, 1) := by decide +kernel
theorem dX8_drop_79 : decode cX8_drop 79 = .ok (.istore_n 2, 1) := by decide +kernel
theorem dX8_drop_80 : decode cX8_drop 80 = .ok (.iinc 3 1, 3) := by decide +kernel
theorem dX8_drop_83 : decode cX8_drop 83 = .ok (.goto (-60), 3) := by decide +kernel
theorem dX8_drop_39 : decode cX8_drop 39 = .ok (.aload_n 0, 1) := by decide +kernel
theorem dX8_drop_40 : decode cX8_drop 40 = .ok (.getfield 7, 3) := by decide +kernel
theorem dX8_drop_43 : decode cX8_drop 43 = .ok (.iload_n 3, 1) := by decide +kernel
theorem dX8_drop_44 : decode cX8_drop 44 = .ok (.iaload, 1) := by decide +kernel
theorem dX8_drop_45 : decode cX8_drop 45 = .ok (.ifCond .eq 16, 3) := by decide +kernel
theorem dX8_drop_48 : decode cX8_drop 48 = .ok (.aload_n 0, 1) := by decide +kernel
theorem dX8_drop_49 : decode cX8_drop 49 = .ok (.iload_n 3, 1) := by decide +kernel
theorem dX8_drop_50 : decode cX8_drop 50 = .ok (.iload_n 1, 1) := by decide +kernel
set_option maxRecDepth 20000 in
theorem ggX8_drop_X8_hangsOn : GoodIn wsX8_drop wsX8_hangsOn := goodIn_r _ [19, 3, 20, 21, 22, 23, 24, 25, 26, 27, 28, 29, 30, 31, 32, 33, 34, 35, 36, 37] rfl (by decide +kernel)
set_option maxRecDepth 20000 in
theorem gX8_drop_X8_hangsOn : GoodIn wsX8_drop (wsV RX8 84 RX8 yX8_hangsOn wsX8_hangsOn) := goodIn_app (goodIn_of _ (by decide +kernel)) ggX8_drop_X8_hangsOn
theorem dX8_drop_51 : decode cX8_drop 51 = .ok (.invokevirtual 84, 3) := by decide +kernel
theorem dX8_drop_54 : decode cX8_drop 54 = .ok (.ifCond .eq 7, 3) := by decide +kernel
theorem dX8_drop_57 : decode cX8_drop 57 = .ok (.iconst 1, 1) := by decide +kernel
theorem dX8_drop_58 : decode cX8_drop 58 = .ok (.goto 4, 3) := by decide +kernel
theorem dX8_drop_73 : decode cX8_drop 73 = .ok (.iconst 1, 1) := by decide +kernel
theorem dX8_drop_74 : decode cX8_drop 74 = .ok (.goto 4, 3) := by decide +kernel
theorem dX8_drop_8 : decode cX8_drop 8 = .ok (.aload_n 0, 1) := by decide +kernel
theorem dX8_drop_9 : decode cX8_drop 9 = .ok (.iconst 1, 1) := by decide +kernel
set_option maxRecDepth 20000 in
theorem ggX8_drop_X8_refuse : GoodIn wsX8_drop wsX8_refuse := goodIn_r _ [15, 1, 21, 22, 23, 24, 25, 26, 27, 28, 29, 30, 31, 32, 33, 34, 35, 36, 37] rfl (by decide +kernel)
set_option maxRecDepth 20000 in
theorem gX8_drop_X8_refuse : GoodIn wsX8_drop (wsV RX8 68 RX8 yX8_refuse wsX8_refuse) := goodIn_app (goodIn_of _ (by decide +kernel)) ggX8_drop_X8_refuse
theorem dX8_drop_10 : decode cX8_drop 10 = .ok (.invokevirtual 68, 3) := by decide +kernel
theorem dX8_drop_13 : decode cX8_drop 13 = .ok (.ireturn, 1) := by decide +kernel
set_option maxHeartbeats 4000000 in
set_option maxRecDepth 100000 in
/-- make -/
theorem c_X8_make (l : Launch) (dC : Nat → ClassId) (dI : Nat → Nat → Nat) (sz : Nat) (h0 : Nat) (th : Int32) (q1 : Nat) (q3 : Nat) (q4 : Nat) (q5 : Nat) (q6 : Nat) (q7 : Nat) (q8 : Nat) (c1 : ClassId) (c3 : ClassId) (c4 : ClassId) (c5 : ClassId) (c6 : ClassId) (c7 : ClassId) (c8 : ClassId) (a1 : Nat → Int32) (a3 : Nat → Int32) (a4 : Nat → Int32) (a5 : Nat → Int32) (a6 : Nat → Int32) (a7 : Nat → Int32) (a8 : Nat → Int32) (v2 : Value) (v9 : Value) (v10 : Value) (v11 : Value) (v12 : Value) (v13 : Value) (v14 : Value) (v15 : Value) (v16 : Value) (p0 : Int32) (p1 : Int32) (p2 : Int32) : Met l yX8_make wsX8_make ({ frames := 3, cells := 0, slots := 0, locals := 110 }) (va_Pc [.ref h0, .int p0, .int p1, .int p2] (pk_Pre (dC, dI) [(h0, .inr (8, [.int th, .ref q1, v2, .ref q3, .ref q4, .ref q5, .ref q6, .ref q7, .ref q8, v9, v10, v11, v12, v13, v14, v15, v16])), (q1, .inl (c1, 16, .inl a1)), (q3, .inl (c3, 16, .inl a3)), (q4, .inl (c4, 16, .inl a4)), (q5, .inl (c5, 16, .inl a5)), (q6, .inl (c6, 16, .inl a6)), (q7, .inl (c7, 16, .inl a7)), (q8, .inl (c8, 16, .inl a8))] [(c1, .int), (c3, .int), (c4, .int), (c5, .int), (c6, .int), (c7, .int), (c8, .int)] sz)) (va_Qi (fun (x : Int32) (u : Int32 × (Nat → Int32) × (Nat → Int32) × (Nat → Int32) × (Nat → Int32) × (Nat → Int32) × (Nat → Int32) × (Nat → Int32)) => ∃ (c : Int32) (xx : Nat), mkR a1 p0 p1 p2 c xx ∧ u.1 = c ∧ (c = 0 → x = nI xx ∧ u.2.1 = upd a1 xx (p0 + 1) ∧ u.2.2.1 = upd a3 xx 0 ∧ u.2.2.2.1 = upd a4 xx p1 ∧ u.2.2.2.2.1 = upd a5 xx p2 ∧ u.2.2.2.2.2.1 = upd a6 xx 0 ∧ u.2.2.2.2.2.2.1 = upd a7 xx 0 ∧ u.2.2.2.2.2.2.2 = upd a8 xx (-1)) ∧ (¬ c = 0 → x = 0 ∧ u.2.1 = a1 ∧ u.2.2.1 = a3 ∧ u.2.2.2.1 = a4 ∧ u.2.2.2.2.1 = a5 ∧ u.2.2.2.2.2.1 = a6 ∧ u.2.2.2.2.2.2.1 = a7 ∧ u.2.2.2.2.2.2.2 = a8)) (fun (u : Int32 × (Nat → Int32) × (Nat → Int32) × (Nat → Int32) × (Nat → Int32) × (Nat → Int32) × (Nat → Int32) × (Nat → Int32)) (t : State) => va_P (dC, dI) vwCl [(h0, .inr (8, [.int u.1, .ref q1, v2, .ref q3, .ref q4, .ref q5, .ref q6, .ref q7, .ref q8, v9, v10, v11, v12, v13, v14, v15, v16])), (q1, .inl (c1, 16, .inl u.2.1)), (q3, .inl (c3, 16, .inl u.2.2.1)), (q4, .inl (c4, 16, .inl u.2.2.2.1)), (q5, .inl (c5, 16, .inl u.2.2.2.2.1)), (q6, .inl (c6, 16, .inl u.2.2.2.2.2.1)), (q7, .inl (c7, 16, .inl u.2.2.2.2.2.2.1)), (q8, .inl (c8, 16, .inl u.2.2.2.2.2.2.2))] t.heap ∧ va_K (dC, dI) vwCl [(c1, .int), (c3, .int), (c4, .int), (c5, .int), (c6, .int), (c7, .int), (c8, .int)] t ∧ va_D (va_A [(h0, .inr (8, [.int th, .ref q1, v2, .ref q3, .ref q4, .ref q5, .ref q6, .ref q7, .ref q8, v9, v10, v11, v12, v13, v14, v15, v16])), (q1, .inl (c1, 16, .inl a1)), (q3, .inl (c3, 16, .inl a3)), (q4, .inl (c4, 16, .inl a4)), (q5, .inl (c5, 16, .inl a5)), (q6, .inl (c6, 16, .inl a6)), (q7, .inl (c7, 16, .inl a7)), (q8, .inl (c8, 16, .inl a8))] sz) [(h0, .inr (8, [.int u.1, .ref q1, v2, .ref q3, .ref q4, .ref q5, .ref q6, .ref q7, .ref q8, v9, v10, v11, v12, v13, v14, v15, v16])), (q1, .inl (c1, 16, .inl u.2.1)), (q3, .inl (c3, 16, .inl u.2.2.1)), (q4, .inl (c4, 16, .inl u.2.2.2.1)), (q5, .inl (c5, 16, .inl u.2.2.2.2.1)), (q6, .inl (c6, 16, .inl u.2.2.2.2.2.1)), (q7, .inl (c7, 16, .inl u.2.2.2.2.2.2.1)), (q8, .inl (c8, 16, .inl u.2.2.2.2.2.2.2))]) (va_A [(h0, .inr (8, [.int th, .ref q1, v2, .ref q3, .ref q4, .ref q5, .ref q6, .ref q7, .ref q8, v9, v10, v11, v12, v13, v14, v15, v16])), (q1, .inl (c1, 16, .inl a1)), (q3, .inl (c3, 16, .inl a3)), (q4, .inl (c4, 16, .inl a4)), (q5, .inl (c5, 16, .inl a5)), (q6, .inl (c6, 16, .inl a6)), (q7, .inl (c7, 16, .inl a7)), (q8, .inl (c8, 16, .inl a8))] sz)) 0 0 (va_A [(h0, .inr (8, [.int th, .ref q1, v2, .ref q3, .ref q4, .ref q5, .ref q6, .ref q7, .ref q8, v9, v10, v11, v12, v13, v14, v15, v16])), (q1, .inl (c1, 16, .inl a1)), (q3, .inl (c3, 16, .inl a3)), (q4, .inl (c4, 16, .inl a4)), (q5, .inl (c5, 16, .inl a5)), (q6, .inl (c6, 16, .inl a6)), (q7, .inl (c7, 16, .inl a7)), (q8, .inl (c8, 16, .inl a8))] sz) := by
  refine Met.ofW (cc := cX8_make) (maxL := 6) (ret := (some .int)) (by decide) rfl ?_
  intro p e s m args below meth c s₁ B hml hv
  obtain ⟨rfl, hsz, hP, hK, hD0⟩ := hv
  have hx := B.exec
  have hb := B.bytes
  have hr := B.returns
  have hts := atoms_spec (ws := wsX8_make) B.pre
  have hown : s.vm.findClass RX8 = some m.cls := findClass_of_methodNamed B.named
  have hlocks := B.notSynchronized
  subst hsz
  have hD := hD0.self (sz := s.heap.size)
  generalize hAe : va_A [(h0, .inr (8, [.int th, .ref q1, v2, .ref q3, .ref q4, .ref q5, .ref q6, .ref q7, .ref q8, v9, v10, v11, v12, v13, v14, v15, v16])), (q1, .inl (c1, 16, .inl a1)), (q3, .inl (c3, 16, .inl a3)), (q4, .inl (c4, 16, .inl a4)), (q5, .inl (c5, 16, .inl a5)), (q6, .inl (c6, 16, .inl a6)), (q7, .inl (c7, 16, .inl a7)), (q8, .inl (c8, 16, .inl a8))] s.heap.size = A at hD ⊢
  have hA : ∀ q : Nat, s.heap.size ≤ q → A q := fun q h => by rw [← hAe]; exact Or.inr h
  have hS : va_S A s.heap s.heap [] := va_S.rf
  have hP : va_P (dC, dI) vwCl [(h0, .inr (8, [.int th, .ref q1, v2, .ref q3, .ref q4, .ref q5, .ref q6, .ref q7, .ref q8, v9, v10, v11, v12, v13, v14, v15, v16])), (q1, .inl (c1, 16, .inl a1)), (q3, .inl (c3, 16, .inl a3)), (q4, .inl (c4, 16, .inl a4)), (q5, .inl (c5, 16, .inl a5)), (q6, .inl (c6, 16, .inl a6)), (q7, .inl (c7, 16, .inl a7)), (q8, .inl (c8, 16, .inl a8))] s.heap := hP
  have hl := lv_entry ([.ref h0, .int p0, .int p1, .int p2]) (n := 6) (Nat.le_of_ble_eq_true rfl)
  rw [lg_entry_eq]
  generalize (lg_sl ([.ref h0, .int p0, .int p1, .int p2]) ++ List.replicate (6 - (lg_sl ([.ref h0, .int p0, .int p1, .int p2])).length) Slot.unset).toArray = ls at hl ⊢
  have hl : lv_has ls 6 [(0, .ref h0), (1, .int p0), (2, .int p1), (3, .int p2)] := hl
  have hw0_ := hts (.fieldLink RX8 60 "KeyAtlasModel" "thrown" "I") (List.mem_of_getElem? (l := wsX8_make) (i := 1) rfl)
  have hw1_ := hts (.fieldLink RX8 20 "KeyAtlasModel" "first" "[I") (List.mem_of_getElem? (l := wsX8_make) (i := 2) rfl)
  have hw2_ := hts (.fieldLink RX8 23 "KeyAtlasModel" "second" "[I") (List.mem_of_getElem? (l := wsX8_make) (i := 3) rfl)
  have hi0_ : ∀ w ∈ u_ws RX8 TX8 17, w ∈ wsX8_make := fun w h => List.mem_cons_of_mem _ (List.mem_append_right _ h)
  refine lv_iload_n hx hb dX8_make_0 rfl (lv_at hl 1 rfl) ?_
  refine lv_iconst (v := 0) hx hb dX8_make_1 (by decide) ?_
  refine lv_iconst (v := 2) hx hb dX8_make_2 (by decide) ?_
  have hPc := hP.sub (ws' := []) [] rfl
  have hDc := hD.sub (ws' := []) [] (by decide) rfl
  have hKc := hK.sub (tys' := []) [] rfl
  have hFc := va_free (wc := []) hD hS hA [] rfl
  refine va_calli (va_runS (As := [.int p0, .int 0, .int 2]) (rest := []) ⟨hx, hb, hml, hown, hts⟩ (c_X8_in l  dC dI s.heap.size p0 0 2 p0.toInt 0 2 rfl (by decide) (by decide)) (va_cwS 3 hts gX8_make_X8_in rfl rfl rfl (by decide +kernel) ⟨(Nat.le_of_ble_eq_true rfl), (Nat.le_of_ble_eq_true rfl)⟩) ⟨pk_blind, pk_call hPc hKc hDc⟩ rfl rfl hl.1 rfl (lv_room (Nat.le_of_ble_eq_true rfl)) dX8_make_3 ⟨(Nat.le_of_ble_eq_true rfl), (Nat.le_of_ble_eq_true rfl)⟩) hS (fun q _ h => hFc q h) hFc (fun r_1 ur_1 t H1 locs ht hvm hw hB hz1 hk1 hS => ?_)
  try dsimp only at hw
  have jr_1 := hw
  obtain ⟨hP, hD⟩ := va_join (wr := [(h0, .inr (8, [.int th, .ref q1, v2, .ref q3, .ref q4, .ref q5, .ref q6, .ref q7, .ref q8, v9, v10, v11, v12, v13, v14, v15, v16])), (q1, .inl (c1, 16, .inl a1)), (q3, .inl (c3, 16, .inl a3)), (q4, .inl (c4, 16, .inl a4)), (q5, .inl (c5, 16, .inl a5)), (q6, .inl (c6, 16, .inl a6)), (q7, .inl (c7, 16, .inl a7)), (q8, .inl (c8, 16, .inl a8))]) (w1 := []) hP hD [] [0, 1, 2, 3, 4, 5, 6, 7] rfl rfl (by decide) (by decide) hk1 hFc tx_P0 tx_D0
  clear hk1 hz1 ht hPc hDc hKc hFc
  generalize H1 = H at hP hS ⊢
  replace hP : va_P (dC, dI) vwCl [(h0, .inr (8, [.int th, .ref q1, v2, .ref q3, .ref q4, .ref q5, .ref q6, .ref q7, .ref q8, v9, v10, v11, v12, v13, v14, v15, v16])), (q1, .inl (c1, 16, .inl a1)), (q3, .inl (c3, 16, .inl a3)), (q4, .inl (c4, 16, .inl a4)), (q5, .inl (c5, 16, .inl a5)), (q6, .inl (c6, 16, .inl a6)), (q7, .inl (c7, 16, .inl a7)), (q8, .inl (c8, 16, .inl a8))] H := hP
  replace hD : va_D A [(h0, .inr (8, [.int th, .ref q1, v2, .ref q3, .ref q4, .ref q5, .ref q6, .ref q7, .ref q8, v9, v10, v11, v12, v13, v14, v15, v16])), (q1, .inl (c1, 16, .inl a1)), (q3, .inl (c3, 16, .inl a3)), (q4, .inl (c4, 16, .inl a4)), (q5, .inl (c5, 16, .inl a5)), (q6, .inl (c6, 16, .inl a6)), (q7, .inl (c7, 16, .inl a7)), (q8, .inl (c8, 16, .inl a8))] := hD
  refine W.widen (k := 0) (n := 0) (Nat.le_of_ble_eq_true rfl) (Nat.le_of_ble_eq_true rfl) ?_
  refine W.eq (g2 := F0 m 6 ls [.int r_1]) rfl ?_
  refine lv_if_ne (tgt := 15) hx hb dX8_make_6 (by decide) (fun c_2 => ?_) (fun c_2 => ?_)
  ·
    have ic_2 : ¬ r_1.toInt = 0 := tx_ne rfl (by decide) c_2
    refine w_join (α := Array Slot × Heap × List Loc) (hh := fun jv => jv.2.1) (lc := fun jv => jv.2.2) (F := fun jv => F0 m 29 (jv.1) []) (Pre := fun jv => lv_has (jv.1) 6 [(0, .ref h0), (1, .int p0), (2, .int p1), (3, .int p2)] ∧ va_P (dC, dI) vwCl [(h0, .inr (8, [.int th, .ref q1, v2, .ref q3, .ref q4, .ref q5, .ref q6, .ref q7, .ref q8, v9, v10, v11, v12, v13, v14, v15, v16])), (q1, .inl (c1, 16, .inl a1)), (q3, .inl (c3, 16, .inl a3)), (q4, .inl (c4, 16, .inl a4)), (q5, .inl (c5, 16, .inl a5)), (q6, .inl (c6, 16, .inl a6)), (q7, .inl (c7, 16, .inl a7)), (q8, .inl (c8, 16, .inl a8))] (jv.2.1) ∧ va_S A s.heap (jv.2.1) (jv.2.2) ∧ (0 ≤ p0.toInt ∧ p0.toInt ≤ 2) ∧ (¬ (p0.toInt = 0 ∧ p1.toInt < 0))) (fun jv ha9 => ?_) (fun jn29 => ?_)
    ·
      obtain ⟨ls, H, locs⟩ := jv
      obtain ⟨hl, hP, hS, hk0, hk3⟩ := ha9
      replace hl : lv_has ls 6 [(0, .ref h0), (1, .int p0), (2, .int p1), (3, .int p2)] := hl
      replace hP : va_P (dC, dI) vwCl [(h0, .inr (8, [.int th, .ref q1, v2, .ref q3, .ref q4, .ref q5, .ref q6, .ref q7, .ref q8, v9, v10, v11, v12, v13, v14, v15, v16])), (q1, .inl (c1, 16, .inl a1)), (q3, .inl (c3, 16, .inl a3)), (q4, .inl (c4, 16, .inl a4)), (q5, .inl (c5, 16, .inl a5)), (q6, .inl (c6, 16, .inl a6)), (q7, .inl (c7, 16, .inl a7)), (q8, .inl (c8, 16, .inl a8))] H := hP
      replace hS : va_S A s.heap H locs := hS
      replace hk0 : 0 ≤ p0.toInt ∧ p0.toInt ≤ 2 := hk0
      replace hk3 : ¬ (p0.toInt = 0 ∧ p1.toInt < 0) := hk3
      show W p l e _ s m _ below meth c H locs _ _ _ (F0 m 29 ls [])
      refine w_join (α := Array Slot × Heap × List Loc × Int32) (hh := fun jv => jv.2.1) (lc := fun jv => jv.2.2.1) (F := fun jv => F0 m 98 (jv.1) []) (Pre := fun jv => lv_has (jv.1) 6 [(4, .int jv.2.2.2), (0, .ref h0), (1, .int p0), (2, .int p1), (3, .int p2)] ∧ va_P (dC, dI) vwCl [(h0, .inr (8, [.int th, .ref q1, v2, .ref q3, .ref q4, .ref q5, .ref q6, .ref q7, .ref q8, v9, v10, v11, v12, v13, v14, v15, v16])), (q1, .inl (c1, 16, .inl a1)), (q3, .inl (c3, 16, .inl a3)), (q4, .inl (c4, 16, .inl a4)), (q5, .inl (c5, 16, .inl a5)), (q6, .inl (c6, 16, .inl a6)), (q7, .inl (c7, 16, .inl a7)), (q8, .inl (c8, 16, .inl a8))] (jv.2.1) ∧ va_S A s.heap (jv.2.1) (jv.2.2.1) ∧ ((jv.2.2.2.toInt = 0 ∧ ¬ mkG p0 p1 p2) ∨ (¬ jv.2.2.2.toInt = 0 ∧ mkG p0 p1 p2))) (fun jv ha9 => ?_) (fun jn98 => ?_)
      ·
        obtain ⟨ls, H, locs, x4⟩ := jv
        obtain ⟨hl, hP, hS, hg4⟩ := ha9
        replace hl : lv_has ls 6 [(4, .int x4), (0, .ref h0), (1, .int p0), (2, .int p1), (3, .int p2)] := hl
        replace hP : va_P (dC, dI) vwCl [(h0, .inr (8, [.int th, .ref q1, v2, .ref q3, .ref q4, .ref q5, .ref q6, .ref q7, .ref q8, v9, v10, v11, v12, v13, v14, v15, v16])), (q1, .inl (c1, 16, .inl a1)), (q3, .inl (c3, 16, .inl a3)), (q4, .inl (c4, 16, .inl a4)), (q5, .inl (c5, 16, .inl a5)), (q6, .inl (c6, 16, .inl a6)), (q7, .inl (c7, 16, .inl a7)), (q8, .inl (c8, 16, .inl a8))] H := hP
        replace hS : va_S A s.heap H locs := hS
        replace hg4 : (x4.toInt = 0 ∧ ¬ mkG p0 p1 p2) ∨ (¬ x4.toInt = 0 ∧ mkG p0 p1 p2) := hg4
        show W p l e _ s m _ below meth c H locs _ _ _ (F0 m 98 ls [])
        refine lv_iload hx hb dX8_make_98 (lv_at hl 0 rfl) ?_
        refine lv_if_ne (tgt := 109) hx hb dX8_make_100 (by decide) (fun c_3 => ?_) (fun c_3 => ?_)
        ·
          have ic_3 : ¬ x4.toInt = 0 := tx_ne rfl (by decide) c_3
          refine lv_aload_n hx hb dX8_make_109 rfl (lv_at hl 1 rfl) ?_
          have hPc := hP.sub (ws' := [(h0, .inr (8, [.int th, .ref q1, v2, .ref q3, .ref q4, .ref q5, .ref q6, .ref q7, .ref q8, v9, v10, v11, v12, v13, v14, v15, v16])), (q1, .inl (c1, 16, .inl a1))]) [0, 1] rfl
          have hDc := hD.sub (ws' := [(h0, .inr (8, [.int th, .ref q1, v2, .ref q3, .ref q4, .ref q5, .ref q6, .ref q7, .ref q8, v9, v10, v11, v12, v13, v14, v15, v16])), (q1, .inl (c1, 16, .inl a1))]) [0, 1] (by decide) rfl
          have hKc := hK.sub (tys' := [(c1, .int)]) [0] rfl
          have hFc := va_free (wc := [(h0, .inr (8, [.int th, .ref q1, v2, .ref q3, .ref q4, .ref q5, .ref q6, .ref q7, .ref q8, v9, v10, v11, v12, v13, v14, v15, v16])), (q1, .inl (c1, 16, .inl a1))]) hD hS hA [0, 1] rfl
          refine va_calli (va_runV (As := []) (rest := []) ⟨hx, hb, hml, hown, hts⟩ (c_X8_free l  dC dI H.size h0 th q1 c1 a1 v2 (.ref q3) (.ref q4) (.ref q5) (.ref q6) (.ref q7) (.ref q8) v9 v10 v11 v12 v13 v14 v15 v16) (cwV 0 hts gX8_make_X8_free rfl rfl rfl (by decide +kernel) ⟨(Nat.le_of_ble_eq_true rfl), (Nat.le_of_ble_eq_true rfl)⟩) ⟨pk_blind, va_recv hKc hPc (ci := 8) (q0 := 0) rfl rfl, pk_call hPc hKc hDc⟩ rfl rfl hl.1 rfl (lv_room (Nat.le_of_ble_eq_true rfl)) dX8_make_110 ⟨(Nat.le_of_ble_eq_true rfl), (Nat.le_of_ble_eq_true rfl)⟩) hS (fun q _ h => hFc q h) hFc (fun r_4 ur_4 t H1 locs ht hvm hw hB hz1 hk1 hS => ?_)
          try dsimp only at hw
          have jr_4 := hw
          obtain ⟨hP1, hK1, hD1⟩ := hB
          rw [ht] at hP1
          have hK1 := va_K.moved hvm.symm hK1
          obtain ⟨hP, hD⟩ := va_join (wr := [(q3, .inl (c3, 16, .inl a3)), (q4, .inl (c4, 16, .inl a4)), (q5, .inl (c5, 16, .inl a5)), (q6, .inl (c6, 16, .inl a6)), (q7, .inl (c7, 16, .inl a7)), (q8, .inl (c8, 16, .inl a8))]) (w1 := [(h0, .inr (8, [.int th, .ref q1, v2, .ref q3, .ref q4, .ref q5, .ref q6, .ref q7, .ref q8, v9, v10, v11, v12, v13, v14, v15, v16])), (q1, .inl (c1, 16, .inl a1))]) hP hD [0, 1] [2, 3, 4, 5, 6, 7] rfl rfl (by decide) (by decide) hk1 hFc hP1 hD1
          clear hk1 hz1 ht hPc hDc hKc hFc
          generalize H1 = H at hP hS ⊢
          replace hP : va_P (dC, dI) vwCl [(q3, .inl (c3, 16, .inl a3)), (q4, .inl (c4, 16, .inl a4)), (q5, .inl (c5, 16, .inl a5)), (q6, .inl (c6, 16, .inl a6)), (q7, .inl (c7, 16, .inl a7)), (q8, .inl (c8, 16, .inl a8)), (h0, .inr (8, [.int th, .ref q1, v2, .ref q3, .ref q4, .ref q5, .ref q6, .ref q7, .ref q8, v9, v10, v11, v12, v13, v14, v15, v16])), (q1, .inl (c1, 16, .inl a1))] H := hP
          replace hD : va_D A [(q3, .inl (c3, 16, .inl a3)), (q4, .inl (c4, 16, .inl a4)), (q5, .inl (c5, 16, .inl a5)), (q6, .inl (c6, 16, .inl a6)), (q7, .inl (c7, 16, .inl a7)), (q8, .inl (c8, 16, .inl a8)), (h0, .inr (8, [.int th, .ref q1, v2, .ref q3, .ref q4, .ref q5, .ref q6, .ref q7, .ref q8, v9, v10, v11, v12, v13, v14, v15, v16])), (q1, .inl (c1, 16, .inl a1))] := hD
          refine W.widen (k := 0) (n := 0) (Nat.le_of_ble_eq_true rfl) (Nat.le_of_ble_eq_true rfl) ?_
          refine W.eq (g2 := F0 m 113 ls [.int r_4]) rfl ?_
          refine lv_istore (lv' := [(5, .int r_4), (4, .int x4), (0, .ref h0), (1, .int p0), (2, .int p1), (3, .int p2)]) hx hb dX8_make_113 hl (by decide) rfl (fun ls hl => ?_)
          refine lv_iload hx hb dX8_make_115 (lv_at hl 0 rfl) ?_
          refine lv_if_ge (tgt := 126) hx hb dX8_make_117 (by decide) (fun c_5 => ?_) (fun c_5 => ?_)
          ·
            have ic_5 : 0 ≤ r_4.toInt := tx_le (by decide) rfl c_5
            obtain ⟨xx, hxx, rfl, hx1, hx2⟩ := jr_4.resolve_left (fun h => by rw [h.1] at ic_5; exact absurd ic_5 (by decide))
            refine lv_aload_n hx hb dX8_make_126 rfl (lv_at hl 2 rfl) ?_
            refine lv_iconst (v := 0) hx hb dX8_make_127 (by decide) ?_
            refine va_put (D := (dC, dI)) (ci := 8) (v := .int 0) (ty := .int) (C := RX8) (T := TX8) (N := 17) hx hb hts hi0_ tyX8 tyX8_ok nmX8 hown hK hP hD hS 6 rfl rfl 0 (by decide) hw0_ (fun _ h9 => h9) rfl (by decide +kernel) rfl rfl (Nat.le_of_ble_eq_true rfl) dX8_make_128 (fun H locs hP hD hS => ?_)
            replace hP : va_P (dC, dI) vwCl [(q3, .inl (c3, 16, .inl a3)), (q4, .inl (c4, 16, .inl a4)), (q5, .inl (c5, 16, .inl a5)), (q6, .inl (c6, 16, .inl a6)), (q7, .inl (c7, 16, .inl a7)), (q8, .inl (c8, 16, .inl a8)), (h0, .inr (8, [.int 0, .ref q1, v2, .ref q3, .ref q4, .ref q5, .ref q6, .ref q7, .ref q8, v9, v10, v11, v12, v13, v14, v15, v16])), (q1, .inl (c1, 16, .inl a1))] H := hP
            replace hD : va_D A [(q3, .inl (c3, 16, .inl a3)), (q4, .inl (c4, 16, .inl a4)), (q5, .inl (c5, 16, .inl a5)), (q6, .inl (c6, 16, .inl a6)), (q7, .inl (c7, 16, .inl a7)), (q8, .inl (c8, 16, .inl a8)), (h0, .inr (8, [.int 0, .ref q1, v2, .ref q3, .ref q4, .ref q5, .ref q6, .ref q7, .ref q8, v9, v10, v11, v12, v13, v14, v15, v16])), (q1, .inl (c1, 16, .inl a1))] := hD
            refine lv_aload_n hx hb dX8_make_131 rfl (lv_at hl 2 rfl) ?_
            refine lv_iload hx hb dX8_make_132 (lv_at hl 0 rfl) ?_
            refine lv_iload_n hx hb dX8_make_134 rfl (lv_at hl 3 rfl) ?_
            refine lv_iconst (v := 1) hx hb dX8_make_135 (by decide) ?_
            refine lv_iadd hx hb dX8_make_136 ?_
            have hPc := hP.sub (ws' := [(h0, .inr (8, [.int 0, .ref q1, v2, .ref q3, .ref q4, .ref q5, .ref q6, .ref q7, .ref q8, v9, v10, v11, v12, v13, v14, v15, v16])), (q1, .inl (c1, 16, .inl a1)), (q3, .inl (c3, 16, .inl a3)), (q6, .inl (c6, 16, .inl a6)), (q7, .inl (c7, 16, .inl a7)), (q8, .inl (c8, 16, .inl a8))]) [6, 7, 0, 3, 4, 5] rfl
            have hDc := hD.sub (ws' := [(h0, .inr (8, [.int 0, .ref q1, v2, .ref q3, .ref q4, .ref q5, .ref q6, .ref q7, .ref q8, v9, v10, v11, v12, v13, v14, v15, v16])), (q1, .inl (c1, 16, .inl a1)), (q3, .inl (c3, 16, .inl a3)), (q6, .inl (c6, 16, .inl a6)), (q7, .inl (c7, 16, .inl a7)), (q8, .inl (c8, 16, .inl a8))]) [6, 7, 0, 3, 4, 5] (by decide) rfl
            have hKc := hK.sub (tys' := [(c1, .int), (c3, .int), (c6, .int), (c7, .int), (c8, .int)]) [0, 1, 4, 5, 6] rfl
            have hFc := va_free (wc := [(h0, .inr (8, [.int 0, .ref q1, v2, .ref q3, .ref q4, .ref q5, .ref q6, .ref q7, .ref q8, v9, v10, v11, v12, v13, v14, v15, v16])), (q1, .inl (c1, 16, .inl a1)), (q3, .inl (c3, 16, .inl a3)), (q6, .inl (c6, 16, .inl a6)), (q7, .inl (c7, 16, .inl a7)), (q8, .inl (c8, 16, .inl a8))]) hD hS hA [6, 7, 0, 3, 4, 5] rfl
            refine va_calli (va_runV (As := [.int (nI xx), .int (p0 + 1)]) (rest := []) ⟨hx, hb, hml, hown, hts⟩ (c_X8_born l  dC dI H.size h0 0 q1 q3 q6 q7 q8 c1 c3 c6 c7 c8 a1 a3 a6 a7 a8 v2 (.ref q4) (.ref q5) v9 v10 v11 v12 v13 v14 v15 v16 xx (p0 + 1) (by omega)) (cwV 2 hts gX8_make_X8_born rfl rfl rfl (by decide +kernel) ⟨(Nat.le_of_ble_eq_true rfl), (Nat.le_of_ble_eq_true rfl)⟩) ⟨pk_blind, va_recv hKc hPc (ci := 8) (q0 := 0) rfl rfl, pk_call hPc hKc hDc⟩ rfl rfl hl.1 rfl (lv_room (Nat.le_of_ble_eq_true rfl)) dX8_make_137 ⟨(Nat.le_of_ble_eq_true rfl), (Nat.le_of_ble_eq_true rfl)⟩) hS (fun q _ h => hFc q h) hFc (fun r_6 ur_6 t H1 locs ht hvm hw hB hz1 hk1 hS => ?_)
            try dsimp only at hw
            have jr_6 := hw
            obtain ⟨hP1, hK1, hD1⟩ := hB
            rw [ht] at hP1
            have hK1 := va_K.moved hvm.symm hK1
            obtain ⟨hP, hD⟩ := va_join (wr := [(q4, .inl (c4, 16, .inl a4)), (q5, .inl (c5, 16, .inl a5))]) (w1 := [(h0, .inr (8, [.int 0, .ref q1, v2, .ref q3, .ref q4, .ref q5, .ref q6, .ref q7, .ref q8, v9, v10, v11, v12, v13, v14, v15, v16])), (q1, .inl (c1, 16, .inl (upd a1 xx (p0 + 1)))), (q3, .inl (c3, 16, .inl (upd a3 xx 0))), (q6, .inl (c6, 16, .inl (upd a6 xx 0))), (q7, .inl (c7, 16, .inl (upd a7 xx 0))), (q8, .inl (c8, 16, .inl (upd a8 xx (-1))))]) hP hD [6, 7, 0, 3, 4, 5] [1, 2] rfl rfl (by decide) (by decide) hk1 hFc hP1 hD1
            clear hk1 hz1 ht hPc hDc hKc hFc
            generalize H1 = H at hP hS ⊢
            replace hP : va_P (dC, dI) vwCl [(q4, .inl (c4, 16, .inl a4)), (q5, .inl (c5, 16, .inl a5)), (h0, .inr (8, [.int 0, .ref q1, v2, .ref q3, .ref q4, .ref q5, .ref q6, .ref q7, .ref q8, v9, v10, v11, v12, v13, v14, v15, v16])), (q1, .inl (c1, 16, .inl (upd a1 xx (p0 + 1)))), (q3, .inl (c3, 16, .inl (upd a3 xx 0))), (q6, .inl (c6, 16, .inl (upd a6 xx 0))), (q7, .inl (c7, 16, .inl (upd a7 xx 0))), (q8, .inl (c8, 16, .inl (upd a8 xx (-1))))] H := hP
            replace hD : va_D A [(q4, .inl (c4, 16, .inl a4)), (q5, .inl (c5, 16, .inl a5)), (h0, .inr (8, [.int 0, .ref q1, v2, .ref q3, .ref q4, .ref q5, .ref q6, .ref q7, .ref q8, v9, v10, v11, v12, v13, v14, v15, v16])), (q1, .inl (c1, 16, .inl (upd a1 xx (p0 + 1)))), (q3, .inl (c3, 16, .inl (upd a3 xx 0))), (q6, .inl (c6, 16, .inl (upd a6 xx 0))), (q7, .inl (c7, 16, .inl (upd a7 xx 0))), (q8, .inl (c8, 16, .inl (upd a8 xx (-1))))] := hD
            refine W.widen (k := 0) (n := 0) (Nat.le_of_ble_eq_true rfl) (Nat.le_of_ble_eq_true rfl) ?_
            refine W.eq (g2 := F0 m 140 ls [.int r_6]) rfl ?_
            refine lv_pop hx hb dX8_make_140 rfl ?_
            refine lv_aload_n hx hb dX8_make_141 rfl (lv_at hl 2 rfl) ?_
            refine va_get (D := (dC, dI)) (ci := 8) (v := .ref q4) (C := RX8) (T := TX8) (N := 17) hx hb hts hi0_ hown hK hP 2 rfl rfl 4 (by decide) hw1_ (fun _ h9 => h9) rfl dX8_make_142 ?_
            refine lv_iload hx hb dX8_make_145 (lv_at hl 0 rfl) ?_
            refine lv_iload_n hx hb dX8_make_147 rfl (lv_at hl 4 rfl) ?_
            refine va_iast (i := nI xx) hx hb hK hP hD hS 0 2 rfl rfl (vp_in_nI (by omega) (by omega)) dX8_make_148 (fun H locs hP hD hS => ?_)
            rw [nI_clamp (by omega)] at hP hD
            replace hP : va_P (dC, dI) vwCl [(q4, .inl (c4, 16, .inl (upd a4 xx p1))), (q5, .inl (c5, 16, .inl a5)), (h0, .inr (8, [.int 0, .ref q1, v2, .ref q3, .ref q4, .ref q5, .ref q6, .ref q7, .ref q8, v9, v10, v11, v12, v13, v14, v15, v16])), (q1, .inl (c1, 16, .inl (upd a1 xx (p0 + 1)))), (q3, .inl (c3, 16, .inl (upd a3 xx 0))), (q6, .inl (c6, 16, .inl (upd a6 xx 0))), (q7, .inl (c7, 16, .inl (upd a7 xx 0))), (q8, .inl (c8, 16, .inl (upd a8 xx (-1))))] H := hP
            replace hD : va_D A [(q4, .inl (c4, 16, .inl (upd a4 xx p1))), (q5, .inl (c5, 16, .inl a5)), (h0, .inr (8, [.int 0, .ref q1, v2, .ref q3, .ref q4, .ref q5, .ref q6, .ref q7, .ref q8, v9, v10, v11, v12, v13, v14, v15, v16])), (q1, .inl (c1, 16, .inl (upd a1 xx (p0 + 1)))), (q3, .inl (c3, 16, .inl (upd a3 xx 0))), (q6, .inl (c6, 16, .inl (upd a6 xx 0))), (q7, .inl (c7, 16, .inl (upd a7 xx 0))), (q8, .inl (c8, 16, .inl (upd a8 xx (-1))))] := hD
            refine lv_aload_n hx hb dX8_make_149 rfl (lv_at hl 2 rfl) ?_
            refine va_get (D := (dC, dI)) (ci := 8) (v := .ref q5) (C := RX8) (T := TX8) (N := 17) hx hb hts hi0_ hown hK hP 2 rfl rfl 5 (by decide) hw2_ (fun _ h9 => h9) rfl dX8_make_150 ?_
            refine lv_iload hx hb dX8_make_153 (lv_at hl 0 rfl) ?_
            refine lv_iload_n hx hb dX8_make_155 rfl (lv_at hl 5 rfl) ?_
            refine va_iast (i := nI xx) hx hb hK hP hD hS 1 3 rfl rfl (vp_in_nI (by omega) (by omega)) dX8_make_156 (fun H locs hP hD hS => ?_)
            rw [nI_clamp (by omega)] at hP hD
            replace hP : va_P (dC, dI) vwCl [(q4, .inl (c4, 16, .inl (upd a4 xx p1))), (q5, .inl (c5, 16, .inl (upd a5 xx p2))), (h0, .inr (8, [.int 0, .ref q1, v2, .ref q3, .ref q4, .ref q5, .ref q6, .ref q7, .ref q8, v9, v10, v11, v12, v13, v14, v15, v16])), (q1, .inl (c1, 16, .inl (upd a1 xx (p0 + 1)))), (q3, .inl (c3, 16, .inl (upd a3 xx 0))), (q6, .inl (c6, 16, .inl (upd a6 xx 0))), (q7, .inl (c7, 16, .inl (upd a7 xx 0))), (q8, .inl (c8, 16, .inl (upd a8 xx (-1))))] H := hP
            replace hD : va_D A [(q4, .inl (c4, 16, .inl (upd a4 xx p1))), (q5, .inl (c5, 16, .inl (upd a5 xx p2))), (h0, .inr (8, [.int 0, .ref q1, v2, .ref q3, .ref q4, .ref q5, .ref q6, .ref q7, .ref q8, v9, v10, v11, v12, v13, v14, v15, v16])), (q1, .inl (c1, 16, .inl (upd a1 xx (p0 + 1)))), (q3, .inl (c3, 16, .inl (upd a3 xx 0))), (q6, .inl (c6, 16, .inl (upd a6 xx 0))), (q7, .inl (c7, 16, .inl (upd a7 xx 0))), (q8, .inl (c8, 16, .inl (upd a8 xx (-1))))] := hD
            refine lv_iload hx hb dX8_make_157 (lv_at hl 0 rfl) ?_
            have hP9 := hP.sub (ws' := [(h0, .inr (8, [.int 0, .ref q1, v2, .ref q3, .ref q4, .ref q5, .ref q6, .ref q7, .ref q8, v9, v10, v11, v12, v13, v14, v15, v16])), (q1, .inl (c1, 16, .inl (upd a1 xx (p0 + 1)))), (q3, .inl (c3, 16, .inl (upd a3 xx 0))), (q4, .inl (c4, 16, .inl (upd a4 xx p1))), (q5, .inl (c5, 16, .inl (upd a5 xx p2))), (q6, .inl (c6, 16, .inl (upd a6 xx 0))), (q7, .inl (c7, 16, .inl (upd a7 xx 0))), (q8, .inl (c8, 16, .inl (upd a8 xx (-1))))]) [2, 3, 4, 0, 1, 5, 6, 7] rfl
            have hD9 := hD.sub (ws' := [(h0, .inr (8, [.int 0, .ref q1, v2, .ref q3, .ref q4, .ref q5, .ref q6, .ref q7, .ref q8, v9, v10, v11, v12, v13, v14, v15, v16])), (q1, .inl (c1, 16, .inl (upd a1 xx (p0 + 1)))), (q3, .inl (c3, 16, .inl (upd a3 xx 0))), (q4, .inl (c4, 16, .inl (upd a4 xx p1))), (q5, .inl (c5, 16, .inl (upd a5 xx p2))), (q6, .inl (c6, 16, .inl (upd a6 xx 0))), (q7, .inl (c7, 16, .inl (upd a7 xx 0))), (q8, .inl (c8, 16, .inl (upd a8 xx (-1))))]) [2, 3, 4, 0, 1, 5, 6, 7] (by decide) rfl
            have hK9 := hK.sub (tys' := [(c1, .int), (c3, .int), (c4, .int), (c5, .int), (c6, .int), (c7, .int), (c8, .int)]) [0, 1, 2, 3, 4, 5, 6] rfl
            refine W.widen (k := 0) (n := 0) (Nat.le_of_ble_eq_true rfl) (Nat.le_of_ble_eq_true rfl) ?_
            exact W.iret (v := nI xx) hx hb hr (fun t ht hW => ⟨⟨nI xx, (0, (upd a1 xx (p0 + 1)), (upd a3 xx 0), (upd a4 xx p1), (upd a5 xx p2), (upd a6 xx 0), (upd a7 xx 0), (upd a8 xx (-1))), rfl, ⟨0, xx, by unfold mkR; exact Or.inr ⟨by omega, by omega, Or.inr ⟨by omega, Or.inr ⟨by unfold mkG at *; omega, Or.inr ⟨rfl, hxx, hx1, hx2⟩⟩⟩⟩, rfl, fun _ => ⟨rfl, rfl, rfl, rfl, rfl, rfl, rfl, rfl⟩, fun h => absurd rfl h⟩, by rw [ht]; exact hP9, va_K.moved hW.alike hK9, hD9⟩, hS.F ht⟩) hS.2.2 dX8_make_159
          ·
            have ic_5 : r_4.toInt < 0 := tx_nle (by decide) rfl c_5
            have hfull : fullO a1 := (jr_4.resolve_right (fun ⟨o, h1, h2, _⟩ => by rw [h2, nI_toInt (by omega)] at ic_5; omega)).2
            refine lv_aload_n hx hb dX8_make_120 rfl (lv_at hl 2 rfl) ?_
            refine lv_iconst (v := 2) hx hb dX8_make_121 (by decide) ?_
            have hPc := hP.sub (ws' := [(h0, .inr (8, [.int th, .ref q1, v2, .ref q3, .ref q4, .ref q5, .ref q6, .ref q7, .ref q8, v9, v10, v11, v12, v13, v14, v15, v16]))]) [6] rfl
            have hDc := hD.sub (ws' := [(h0, .inr (8, [.int th, .ref q1, v2, .ref q3, .ref q4, .ref q5, .ref q6, .ref q7, .ref q8, v9, v10, v11, v12, v13, v14, v15, v16]))]) [6] (by decide) rfl
            have hKc := hK.sub (tys' := []) [] rfl
            have hFc := va_free (wc := [(h0, .inr (8, [.int th, .ref q1, v2, .ref q3, .ref q4, .ref q5, .ref q6, .ref q7, .ref q8, v9, v10, v11, v12, v13, v14, v15, v16]))]) hD hS hA [6] rfl
            refine va_calli (va_runV (As := [.int 2]) (rest := []) ⟨hx, hb, hml, hown, hts⟩ (c_X8_refuse l  dC dI H.size h0 th (.ref q1) v2 (.ref q3) (.ref q4) (.ref q5) (.ref q6) (.ref q7) (.ref q8) v9 v10 v11 v12 v13 v14 v15 v16 2) (cwV 1 hts gX8_make_X8_refuse rfl rfl rfl (by decide +kernel) ⟨(Nat.le_of_ble_eq_true rfl), (Nat.le_of_ble_eq_true rfl)⟩) ⟨pk_blind, va_recv hKc hPc (ci := 8) (q0 := 0) rfl rfl, pk_call hPc hKc hDc⟩ rfl rfl hl.1 rfl (lv_room (Nat.le_of_ble_eq_true rfl)) dX8_make_122 ⟨(Nat.le_of_ble_eq_true rfl), (Nat.le_of_ble_eq_true rfl)⟩) hS (fun q _ h => hFc q h) hFc (fun r_7 ur_7 t H1 locs ht hvm hw hB hz1 hk1 hS => ?_)
            try dsimp only at hw
            obtain ⟨hP1, hK1, hD1⟩ := hB
            rw [ht] at hP1
            have hK1 := va_K.moved hvm.symm hK1
            obtain ⟨hP, hD⟩ := va_join (wr := [(q3, .inl (c3, 16, .inl a3)), (q4, .inl (c4, 16, .inl a4)), (q5, .inl (c5, 16, .inl a5)), (q6, .inl (c6, 16, .inl a6)), (q7, .inl (c7, 16, .inl a7)), (q8, .inl (c8, 16, .inl a8)), (q1, .inl (c1, 16, .inl a1))]) (w1 := [(h0, .inr (8, [.int 2, .ref q1, v2, .ref q3, .ref q4, .ref q5, .ref q6, .ref q7, .ref q8, v9, v10, v11, v12, v13, v14, v15, v16]))]) hP hD [6] [0, 1, 2, 3, 4, 5, 7] rfl rfl (by decide) (by decide) hk1 hFc hP1 hD1
            clear hk1 hz1 ht hPc hDc hKc hFc
            generalize H1 = H at hP hS ⊢
            replace hP : va_P (dC, dI) vwCl [(q3, .inl (c3, 16, .inl a3)), (q4, .inl (c4, 16, .inl a4)), (q5, .inl (c5, 16, .inl a5)), (q6, .inl (c6, 16, .inl a6)), (q7, .inl (c7, 16, .inl a7)), (q8, .inl (c8, 16, .inl a8)), (q1, .inl (c1, 16, .inl a1)), (h0, .inr (8, [.int 2, .ref q1, v2, .ref q3, .ref q4, .ref q5, .ref q6, .ref q7, .ref q8, v9, v10, v11, v12, v13, v14, v15, v16]))] H := hP
            replace hD : va_D A [(q3, .inl (c3, 16, .inl a3)), (q4, .inl (c4, 16, .inl a4)), (q5, .inl (c5, 16, .inl a5)), (q6, .inl (c6, 16, .inl a6)), (q7, .inl (c7, 16, .inl a7)), (q8, .inl (c8, 16, .inl a8)), (q1, .inl (c1, 16, .inl a1)), (h0, .inr (8, [.int 2, .ref q1, v2, .ref q3, .ref q4, .ref q5, .ref q6, .ref q7, .ref q8, v9, v10, v11, v12, v13, v14, v15, v16]))] := hD
            refine W.widen (k := 0) (n := 0) (Nat.le_of_ble_eq_true rfl) (Nat.le_of_ble_eq_true rfl) ?_
            obtain rfl : r_7 = 0 := hw
            refine W.eq (g2 := F0 m 125 ls [.int 0]) rfl ?_
            have hP9 := hP.sub (ws' := [(h0, .inr (8, [.int 2, .ref q1, v2, .ref q3, .ref q4, .ref q5, .ref q6, .ref q7, .ref q8, v9, v10, v11, v12, v13, v14, v15, v16])), (q1, .inl (c1, 16, .inl a1)), (q3, .inl (c3, 16, .inl a3)), (q4, .inl (c4, 16, .inl a4)), (q5, .inl (c5, 16, .inl a5)), (q6, .inl (c6, 16, .inl a6)), (q7, .inl (c7, 16, .inl a7)), (q8, .inl (c8, 16, .inl a8))]) [7, 6, 0, 1, 2, 3, 4, 5] rfl
            have hD9 := hD.sub (ws' := [(h0, .inr (8, [.int 2, .ref q1, v2, .ref q3, .ref q4, .ref q5, .ref q6, .ref q7, .ref q8, v9, v10, v11, v12, v13, v14, v15, v16])), (q1, .inl (c1, 16, .inl a1)), (q3, .inl (c3, 16, .inl a3)), (q4, .inl (c4, 16, .inl a4)), (q5, .inl (c5, 16, .inl a5)), (q6, .inl (c6, 16, .inl a6)), (q7, .inl (c7, 16, .inl a7)), (q8, .inl (c8, 16, .inl a8))]) [7, 6, 0, 1, 2, 3, 4, 5] (by decide) rfl
            have hK9 := hK.sub (tys' := [(c1, .int), (c3, .int), (c4, .int), (c5, .int), (c6, .int), (c7, .int), (c8, .int)]) [0, 1, 2, 3, 4, 5, 6] rfl
            refine W.widen (k := 0) (n := 0) (Nat.le_of_ble_eq_true rfl) (Nat.le_of_ble_eq_true rfl) ?_
            exact W.iret (v := 0) hx hb hr (fun t ht hW => ⟨⟨0, (2, a1, a3, a4, a5, a6, a7, a8), rfl, ⟨2, 0, by unfold mkR; exact Or.inr ⟨by omega, by omega, Or.inr ⟨by omega, Or.inr ⟨by unfold mkG at *; omega, Or.inl ⟨rfl, hfull⟩⟩⟩⟩, rfl, fun h => absurd h (by decide), fun _ => ⟨rfl, rfl, rfl, rfl, rfl, rfl, rfl, rfl⟩⟩, by rw [ht]; exact hP9, va_K.moved hW.alike hK9, hD9⟩, hS.F ht⟩) hS.2.2 dX8_make_125
        ·
          have ic_3 : x4.toInt = 0 := tx_eq rfl (by decide) c_3
          refine lv_aload_n hx hb dX8_make_103 rfl (lv_at hl 1 rfl) ?_
          refine lv_iconst (v := 1) hx hb dX8_make_104 (by decide) ?_
          have hPc := hP.sub (ws' := [(h0, .inr (8, [.int th, .ref q1, v2, .ref q3, .ref q4, .ref q5, .ref q6, .ref q7, .ref q8, v9, v10, v11, v12, v13, v14, v15, v16]))]) [0] rfl
          have hDc := hD.sub (ws' := [(h0, .inr (8, [.int th, .ref q1, v2, .ref q3, .ref q4, .ref q5, .ref q6, .ref q7, .ref q8, v9, v10, v11, v12, v13, v14, v15, v16]))]) [0] (by decide) rfl
          have hKc := hK.sub (tys' := []) [] rfl
          have hFc := va_free (wc := [(h0, .inr (8, [.int th, .ref q1, v2, .ref q3, .ref q4, .ref q5, .ref q6, .ref q7, .ref q8, v9, v10, v11, v12, v13, v14, v15, v16]))]) hD hS hA [0] rfl
          refine va_calli (va_runV (As := [.int 1]) (rest := []) ⟨hx, hb, hml, hown, hts⟩ (c_X8_refuse l  dC dI H.size h0 th (.ref q1) v2 (.ref q3) (.ref q4) (.ref q5) (.ref q6) (.ref q7) (.ref q8) v9 v10 v11 v12 v13 v14 v15 v16 1) (cwV 1 hts gX8_make_X8_refuse rfl rfl rfl (by decide +kernel) ⟨(Nat.le_of_ble_eq_true rfl), (Nat.le_of_ble_eq_true rfl)⟩) ⟨pk_blind, va_recv hKc hPc (ci := 8) (q0 := 0) rfl rfl, pk_call hPc hKc hDc⟩ rfl rfl hl.1 rfl (lv_room (Nat.le_of_ble_eq_true rfl)) dX8_make_105 ⟨(Nat.le_of_ble_eq_true rfl), (Nat.le_of_ble_eq_true rfl)⟩) hS (fun q _ h => hFc q h) hFc (fun r_8 ur_8 t H1 locs ht hvm hw hB hz1 hk1 hS => ?_)
          try dsimp only at hw
          obtain ⟨hP1, hK1, hD1⟩ := hB
          rw [ht] at hP1
          have hK1 := va_K.moved hvm.symm hK1
          obtain ⟨hP, hD⟩ := va_join (wr := [(q1, .inl (c1, 16, .inl a1)), (q3, .inl (c3, 16, .inl a3)), (q4, .inl (c4, 16, .inl a4)), (q5, .inl (c5, 16, .inl a5)), (q6, .inl (c6, 16, .inl a6)), (q7, .inl (c7, 16, .inl a7)), (q8, .inl (c8, 16, .inl a8))]) (w1 := [(h0, .inr (8, [.int 1, .ref q1, v2, .ref q3, .ref q4, .ref q5, .ref q6, .ref q7, .ref q8, v9, v10, v11, v12, v13, v14, v15, v16]))]) hP hD [0] [1, 2, 3, 4, 5, 6, 7] rfl rfl (by decide) (by decide) hk1 hFc hP1 hD1
          clear hk1 hz1 ht hPc hDc hKc hFc
          generalize H1 = H at hP hS ⊢
          replace hP : va_P (dC, dI) vwCl [(q1, .inl (c1, 16, .inl a1)), (q3, .inl (c3, 16, .inl a3)), (q4, .inl (c4, 16, .inl a4)), (q5, .inl (c5, 16, .inl a5)), (q6, .inl (c6, 16, .inl a6)), (q7, .inl (c7, 16, .inl a7)), (q8, .inl (c8, 16, .inl a8)), (h0, .inr (8, [.int 1, .ref q1, v2, .ref q3, .ref q4, .ref q5, .ref q6, .ref q7, .ref q8, v9, v10, v11, v12, v13, v14, v15, v16]))] H := hP
          replace hD : va_D A [(q1, .inl (c1, 16, .inl a1)), (q3, .inl (c3, 16, .inl a3)), (q4, .inl (c4, 16, .inl a4)), (q5, .inl (c5, 16, .inl a5)), (q6, .inl (c6, 16, .inl a6)), (q7, .inl (c7, 16, .inl a7)), (q8, .inl (c8, 16, .inl a8)), (h0, .inr (8, [.int 1, .ref q1, v2, .ref q3, .ref q4, .ref q5, .ref q6, .ref q7, .ref q8, v9, v10, v11, v12, v13, v14, v15, v16]))] := hD
          refine W.widen (k := 0) (n := 0) (Nat.le_of_ble_eq_true rfl) (Nat.le_of_ble_eq_true rfl) ?_
          obtain rfl : r_8 = 0 := hw
          refine W.eq (g2 := F0 m 108 ls [.int 0]) rfl ?_
          have hP9 := hP.sub (ws' := [(h0, .inr (8, [.int 1, .ref q1, v2, .ref q3, .ref q4, .ref q5, .ref q6, .ref q7, .ref q8, v9, v10, v11, v12, v13, v14, v15, v16])), (q1, .inl (c1, 16, .inl a1)), (q3, .inl (c3, 16, .inl a3)), (q4, .inl (c4, 16, .inl a4)), (q5, .inl (c5, 16, .inl a5)), (q6, .inl (c6, 16, .inl a6)), (q7, .inl (c7, 16, .inl a7)), (q8, .inl (c8, 16, .inl a8))]) [7, 0, 1, 2, 3, 4, 5, 6] rfl
          have hD9 := hD.sub (ws' := [(h0, .inr (8, [.int 1, .ref q1, v2, .ref q3, .ref q4, .ref q5, .ref q6, .ref q7, .ref q8, v9, v10, v11, v12, v13, v14, v15, v16])), (q1, .inl (c1, 16, .inl a1)), (q3, .inl (c3, 16, .inl a3)), (q4, .inl (c4, 16, .inl a4)), (q5, .inl (c5, 16, .inl a5)), (q6, .inl (c6, 16, .inl a6)), (q7, .inl (c7, 16, .inl a7)), (q8, .inl (c8, 16, .inl a8))]) [7, 0, 1, 2, 3, 4, 5, 6] (by decide) rfl
          have hK9 := hK.sub (tys' := [(c1, .int), (c3, .int), (c4, .int), (c5, .int), (c6, .int), (c7, .int), (c8, .int)]) [0, 1, 2, 3, 4, 5, 6] rfl
          refine W.widen (k := 0) (n := 0) (Nat.le_of_ble_eq_true rfl) (Nat.le_of_ble_eq_true rfl) ?_
          exact W.iret (v := 0) hx hb hr (fun t ht hW => ⟨⟨0, (1, a1, a3, a4, a5, a6, a7, a8), rfl, ⟨1, 0, by unfold mkR; exact Or.inr ⟨by omega, by omega, Or.inr ⟨by omega, Or.inl ⟨rfl, by unfold mkG at *; omega⟩⟩⟩, rfl, fun h => absurd h (by decide), fun _ => ⟨rfl, rfl, rfl, rfl, rfl, rfl, rfl, rfl⟩⟩, by rw [ht]; exact hP9, va_K.moved hW.alike hK9, hD9⟩, hS.F ht⟩) hS.2.2 dX8_make_108
      ·
        refine lv_iload_n hx hb dX8_make_29 rfl (lv_at hl 1 rfl) ?_
        refine lv_if_ne (tgt := 57) hx hb dX8_make_30 (by decide) (fun c_9 => ?_) (fun c_9 => ?_)
        ·
          have ic_9 : ¬ p0.toInt = 0 := tx_ne rfl (by decide) c_9
          refine lv_iload_n hx hb dX8_make_57 rfl (lv_at hl 1 rfl) ?_
          refine lv_iconst (v := 1) hx hb dX8_make_58 (by decide) ?_
          refine lv_icmp_ne (tgt := 90) hx hb dX8_make_59 (by decide) (fun c_10 => ?_) (fun c_10 => ?_)
          ·
            have ic_10 : ¬ p0.toInt = 1 := tx_ne rfl (by decide) c_10
            refine lv_iload_n hx hb dX8_make_90 rfl (lv_at hl 2 rfl) ?_
            refine lv_iconst (v := 0) hx hb dX8_make_91 (by decide) ?_
            refine lv_iconst (v := 3) hx hb dX8_make_92 (by decide) ?_
            have hPc := hP.sub (ws' := []) [] rfl
            have hDc := hD.sub (ws' := []) [] (by decide) rfl
            have hKc := hK.sub (tys' := []) [] rfl
            have hFc := va_free (wc := []) hD hS hA [] rfl
            refine va_calli (va_runS (As := [.int p1, .int 0, .int 3]) (rest := []) ⟨hx, hb, hml, hown, hts⟩ (c_X8_in l  dC dI H.size p1 0 3 p1.toInt 0 3 rfl (by decide) (by decide)) (va_cwS 3 hts gX8_make_X8_in rfl rfl rfl (by decide +kernel) ⟨(Nat.le_of_ble_eq_true rfl), (Nat.le_of_ble_eq_true rfl)⟩) ⟨pk_blind, pk_call hPc hKc hDc⟩ rfl rfl hl.1 rfl (lv_room (Nat.le_of_ble_eq_true rfl)) dX8_make_93 ⟨(Nat.le_of_ble_eq_true rfl), (Nat.le_of_ble_eq_true rfl)⟩) hS (fun q _ h => hFc q h) hFc (fun r_11 ur_11 t H1 locs ht hvm hw hB hz1 hk1 hS => ?_)
            try dsimp only at hw
            have jr_11 := hw
            obtain ⟨hP, hD⟩ := va_join (wr := [(h0, .inr (8, [.int th, .ref q1, v2, .ref q3, .ref q4, .ref q5, .ref q6, .ref q7, .ref q8, v9, v10, v11, v12, v13, v14, v15, v16])), (q1, .inl (c1, 16, .inl a1)), (q3, .inl (c3, 16, .inl a3)), (q4, .inl (c4, 16, .inl a4)), (q5, .inl (c5, 16, .inl a5)), (q6, .inl (c6, 16, .inl a6)), (q7, .inl (c7, 16, .inl a7)), (q8, .inl (c8, 16, .inl a8))]) (w1 := []) hP hD [] [0, 1, 2, 3, 4, 5, 6, 7] rfl rfl (by decide) (by decide) hk1 hFc tx_P0 tx_D0
            clear hk1 hz1 ht hPc hDc hKc hFc
            generalize H1 = H at hP hS ⊢
            replace hP : va_P (dC, dI) vwCl [(h0, .inr (8, [.int th, .ref q1, v2, .ref q3, .ref q4, .ref q5, .ref q6, .ref q7, .ref q8, v9, v10, v11, v12, v13, v14, v15, v16])), (q1, .inl (c1, 16, .inl a1)), (q3, .inl (c3, 16, .inl a3)), (q4, .inl (c4, 16, .inl a4)), (q5, .inl (c5, 16, .inl a5)), (q6, .inl (c6, 16, .inl a6)), (q7, .inl (c7, 16, .inl a7)), (q8, .inl (c8, 16, .inl a8))] H := hP
            replace hD : va_D A [(h0, .inr (8, [.int th, .ref q1, v2, .ref q3, .ref q4, .ref q5, .ref q6, .ref q7, .ref q8, v9, v10, v11, v12, v13, v14, v15, v16])), (q1, .inl (c1, 16, .inl a1)), (q3, .inl (c3, 16, .inl a3)), (q4, .inl (c4, 16, .inl a4)), (q5, .inl (c5, 16, .inl a5)), (q6, .inl (c6, 16, .inl a6)), (q7, .inl (c7, 16, .inl a7)), (q8, .inl (c8, 16, .inl a8))] := hD
            refine W.widen (k := 0) (n := 0) (Nat.le_of_ble_eq_true rfl) (Nat.le_of_ble_eq_true rfl) ?_
            refine W.eq (g2 := F0 m 96 ls [.int r_11]) rfl ?_
            refine lv_istore (lv' := [(4, .int r_11), (0, .ref h0), (1, .int p0), (2, .int p1), (3, .int p2)]) hx hb dX8_make_96 hl (by decide) rfl (fun ls hl => ?_)
            have fj0_ : ((r_11 : Int32).toInt = 0 ∧ ¬ mkG p0 p1 p2) ∨ (¬ (r_11 : Int32).toInt = 0 ∧ mkG p0 p1 p2) := by unfold mkG; omega
            exact jn98 (ls, H, locs, r_11) ⟨lv_sub hl [0, 1, 2, 3, 4] rfl, hP.sub [0, 1, 2, 3, 4, 5, 6, 7] rfl, hS, fj0_⟩
          ·
            have ic_10 : p0.toInt = 1 := tx_eq rfl (by decide) c_10
            refine lv_iload_n hx hb dX8_make_62 rfl (lv_at hl 2 rfl) ?_
            refine lv_iconst (v := 0) hx hb dX8_make_63 (by decide) ?_
            refine lv_sipush (v := 1000) hx hb dX8_make_64 (by decide) ?_
            have hPc := hP.sub (ws' := []) [] rfl
            have hDc := hD.sub (ws' := []) [] (by decide) rfl
            have hKc := hK.sub (tys' := []) [] rfl
            have hFc := va_free (wc := []) hD hS hA [] rfl
            refine va_calli (va_runS (As := [.int p1, .int 0, .int 1000]) (rest := []) ⟨hx, hb, hml, hown, hts⟩ (c_X8_in l  dC dI H.size p1 0 1000 p1.toInt 0 1000 rfl (by decide) (by decide)) (va_cwS 3 hts gX8_make_X8_in rfl rfl rfl (by decide +kernel) ⟨(Nat.le_of_ble_eq_true rfl), (Nat.le_of_ble_eq_true rfl)⟩) ⟨pk_blind, pk_call hPc hKc hDc⟩ rfl rfl hl.1 rfl (lv_room (Nat.le_of_ble_eq_true rfl)) dX8_make_67 ⟨(Nat.le_of_ble_eq_true rfl), (Nat.le_of_ble_eq_true rfl)⟩) hS (fun q _ h => hFc q h) hFc (fun r_12 ur_12 t H1 locs ht hvm hw hB hz1 hk1 hS => ?_)
            try dsimp only at hw
            have jr_12 := hw
            obtain ⟨hP, hD⟩ := va_join (wr := [(h0, .inr (8, [.int th, .ref q1, v2, .ref q3, .ref q4, .ref q5, .ref q6, .ref q7, .ref q8, v9, v10, v11, v12, v13, v14, v15, v16])), (q1, .inl (c1, 16, .inl a1)), (q3, .inl (c3, 16, .inl a3)), (q4, .inl (c4, 16, .inl a4)), (q5, .inl (c5, 16, .inl a5)), (q6, .inl (c6, 16, .inl a6)), (q7, .inl (c7, 16, .inl a7)), (q8, .inl (c8, 16, .inl a8))]) (w1 := []) hP hD [] [0, 1, 2, 3, 4, 5, 6, 7] rfl rfl (by decide) (by decide) hk1 hFc tx_P0 tx_D0
            clear hk1 hz1 ht hPc hDc hKc hFc
            generalize H1 = H at hP hS ⊢
            replace hP : va_P (dC, dI) vwCl [(h0, .inr (8, [.int th, .ref q1, v2, .ref q3, .ref q4, .ref q5, .ref q6, .ref q7, .ref q8, v9, v10, v11, v12, v13, v14, v15, v16])), (q1, .inl (c1, 16, .inl a1)), (q3, .inl (c3, 16, .inl a3)), (q4, .inl (c4, 16, .inl a4)), (q5, .inl (c5, 16, .inl a5)), (q6, .inl (c6, 16, .inl a6)), (q7, .inl (c7, 16, .inl a7)), (q8, .inl (c8, 16, .inl a8))] H := hP
            replace hD : va_D A [(h0, .inr (8, [.int th, .ref q1, v2, .ref q3, .ref q4, .ref q5, .ref q6, .ref q7, .ref q8, v9, v10, v11, v12, v13, v14, v15, v16])), (q1, .inl (c1, 16, .inl a1)), (q3, .inl (c3, 16, .inl a3)), (q4, .inl (c4, 16, .inl a4)), (q5, .inl (c5, 16, .inl a5)), (q6, .inl (c6, 16, .inl a6)), (q7, .inl (c7, 16, .inl a7)), (q8, .inl (c8, 16, .inl a8))] := hD
            refine W.widen (k := 0) (n := 0) (Nat.le_of_ble_eq_true rfl) (Nat.le_of_ble_eq_true rfl) ?_
            refine W.eq (g2 := F0 m 70 ls [.int r_12]) rfl ?_
            refine lv_if_eq (tgt := 86) hx hb dX8_make_70 (by decide) (fun c_13 => ?_) (fun c_13 => ?_)
            ·
              have ic_13 : r_12.toInt = 0 := tx_eq rfl (by decide) c_13
              refine lv_iconst (v := 0) hx hb dX8_make_86 (by decide) ?_
              refine lv_goto (tgt := 96) hx hb dX8_make_87 (by decide) ?_
              refine lv_istore (lv' := [(4, .int 0), (0, .ref h0), (1, .int p0), (2, .int p1), (3, .int p2)]) hx hb dX8_make_96 hl (by decide) rfl (fun ls hl => ?_)
              have fj0_ : ((0 : Int32).toInt = 0 ∧ ¬ mkG p0 p1 p2) ∨ (¬ (0 : Int32).toInt = 0 ∧ mkG p0 p1 p2) := Or.inl ⟨by decide, by unfold mkG; omega⟩
              exact jn98 (ls, H, locs, 0) ⟨lv_sub hl [0, 1, 2, 3, 4] rfl, hP.sub [0, 1, 2, 3, 4, 5, 6, 7] rfl, hS, fj0_⟩
            ·
              have ic_13 : ¬ r_12.toInt = 0 := tx_ne rfl (by decide) c_13
              refine lv_iload_n hx hb dX8_make_73 rfl (lv_at hl 3 rfl) ?_
              refine lv_iconst (v := 0) hx hb dX8_make_74 (by decide) ?_
              refine lv_iconst (v := 1) hx hb dX8_make_75 (by decide) ?_
              have hPc := hP.sub (ws' := []) [] rfl
              have hDc := hD.sub (ws' := []) [] (by decide) rfl
              have hKc := hK.sub (tys' := []) [] rfl
              have hFc := va_free (wc := []) hD hS hA [] rfl
              refine va_calli (va_runS (As := [.int p2, .int 0, .int 1]) (rest := []) ⟨hx, hb, hml, hown, hts⟩ (c_X8_in l  dC dI H.size p2 0 1 p2.toInt 0 1 rfl (by decide) (by decide)) (va_cwS 3 hts gX8_make_X8_in rfl rfl rfl (by decide +kernel) ⟨(Nat.le_of_ble_eq_true rfl), (Nat.le_of_ble_eq_true rfl)⟩) ⟨pk_blind, pk_call hPc hKc hDc⟩ rfl rfl hl.1 rfl (lv_room (Nat.le_of_ble_eq_true rfl)) dX8_make_76 ⟨(Nat.le_of_ble_eq_true rfl), (Nat.le_of_ble_eq_true rfl)⟩) hS (fun q _ h => hFc q h) hFc (fun r_14 ur_14 t H1 locs ht hvm hw hB hz1 hk1 hS => ?_)
              try dsimp only at hw
              have jr_14 := hw
              obtain ⟨hP, hD⟩ := va_join (wr := [(h0, .inr (8, [.int th, .ref q1, v2, .ref q3, .ref q4, .ref q5, .ref q6, .ref q7, .ref q8, v9, v10, v11, v12, v13, v14, v15, v16])), (q1, .inl (c1, 16, .inl a1)), (q3, .inl (c3, 16, .inl a3)), (q4, .inl (c4, 16, .inl a4)), (q5, .inl (c5, 16, .inl a5)), (q6, .inl (c6, 16, .inl a6)), (q7, .inl (c7, 16, .inl a7)), (q8, .inl (c8, 16, .inl a8))]) (w1 := []) hP hD [] [0, 1, 2, 3, 4, 5, 6, 7] rfl rfl (by decide) (by decide) hk1 hFc tx_P0 tx_D0
              clear hk1 hz1 ht hPc hDc hKc hFc
              generalize H1 = H at hP hS ⊢
              replace hP : va_P (dC, dI) vwCl [(h0, .inr (8, [.int th, .ref q1, v2, .ref q3, .ref q4, .ref q5, .ref q6, .ref q7, .ref q8, v9, v10, v11, v12, v13, v14, v15, v16])), (q1, .inl (c1, 16, .inl a1)), (q3, .inl (c3, 16, .inl a3)), (q4, .inl (c4, 16, .inl a4)), (q5, .inl (c5, 16, .inl a5)), (q6, .inl (c6, 16, .inl a6)), (q7, .inl (c7, 16, .inl a7)), (q8, .inl (c8, 16, .inl a8))] H := hP
              replace hD : va_D A [(h0, .inr (8, [.int th, .ref q1, v2, .ref q3, .ref q4, .ref q5, .ref q6, .ref q7, .ref q8, v9, v10, v11, v12, v13, v14, v15, v16])), (q1, .inl (c1, 16, .inl a1)), (q3, .inl (c3, 16, .inl a3)), (q4, .inl (c4, 16, .inl a4)), (q5, .inl (c5, 16, .inl a5)), (q6, .inl (c6, 16, .inl a6)), (q7, .inl (c7, 16, .inl a7)), (q8, .inl (c8, 16, .inl a8))] := hD
              refine W.widen (k := 0) (n := 0) (Nat.le_of_ble_eq_true rfl) (Nat.le_of_ble_eq_true rfl) ?_
              refine W.eq (g2 := F0 m 79 ls [.int r_14]) rfl ?_
              refine lv_if_eq (tgt := 86) hx hb dX8_make_79 (by decide) (fun c_15 => ?_) (fun c_15 => ?_)
              ·
                have ic_15 : r_14.toInt = 0 := tx_eq rfl (by decide) c_15
                refine lv_iconst (v := 0) hx hb dX8_make_86 (by decide) ?_
                refine lv_goto (tgt := 96) hx hb dX8_make_87 (by decide) ?_
                refine lv_istore (lv' := [(4, .int 0), (0, .ref h0), (1, .int p0), (2, .int p1), (3, .int p2)]) hx hb dX8_make_96 hl (by decide) rfl (fun ls hl => ?_)
                have fj0_ : ((0 : Int32).toInt = 0 ∧ ¬ mkG p0 p1 p2) ∨ (¬ (0 : Int32).toInt = 0 ∧ mkG p0 p1 p2) := Or.inl ⟨by decide, by unfold mkG; omega⟩
                exact jn98 (ls, H, locs, 0) ⟨lv_sub hl [0, 1, 2, 3, 4] rfl, hP.sub [0, 1, 2, 3, 4, 5, 6, 7] rfl, hS, fj0_⟩
              ·
                have ic_15 : ¬ r_14.toInt = 0 := tx_ne rfl (by decide) c_15
                refine lv_iconst (v := 1) hx hb dX8_make_82 (by decide) ?_
                refine lv_goto (tgt := 96) hx hb dX8_make_83 (by decide) ?_
                refine lv_istore (lv' := [(4, .int 1), (0, .ref h0), (1, .int p0), (2, .int p1), (3, .int p2)]) hx hb dX8_make_96 hl (by decide) rfl (fun ls hl => ?_)
                have fj0_ : ((1 : Int32).toInt = 0 ∧ ¬ mkG p0 p1 p2) ∨ (¬ (1 : Int32).toInt = 0 ∧ mkG p0 p1 p2) := Or.inr ⟨by decide, by unfold mkG; omega⟩
                exact jn98 (ls, H, locs, 1) ⟨lv_sub hl [0, 1, 2, 3, 4] rfl, hP.sub [0, 1, 2, 3, 4, 5, 6, 7] rfl, hS, fj0_⟩
        ·
          have ic_9 : p0.toInt = 0 := tx_eq rfl (by decide) c_9
          refine lv_iload_n hx hb dX8_make_33 rfl (lv_at hl 2 rfl) ?_
          refine lv_sipush (v := 1000) hx hb dX8_make_34 (by decide) ?_
          refine lv_icmp_gt (tgt := 53) hx hb dX8_make_37 (by decide) (fun c_16 => ?_) (fun c_16 => ?_)
          ·
            have ic_16 : 1000 < p1.toInt := tx_lt (by decide) rfl c_16
            refine lv_iconst (v := 0) hx hb dX8_make_53 (by decide) ?_
            refine lv_goto (tgt := 96) hx hb dX8_make_54 (by decide) ?_
            refine lv_istore (lv' := [(4, .int 0), (0, .ref h0), (1, .int p0), (2, .int p1), (3, .int p2)]) hx hb dX8_make_96 hl (by decide) rfl (fun ls hl => ?_)
            have fj0_ : ((0 : Int32).toInt = 0 ∧ ¬ mkG p0 p1 p2) ∨ (¬ (0 : Int32).toInt = 0 ∧ mkG p0 p1 p2) := Or.inl ⟨by decide, by unfold mkG; omega⟩
            exact jn98 (ls, H, locs, 0) ⟨lv_sub hl [0, 1, 2, 3, 4] rfl, hP.sub [0, 1, 2, 3, 4, 5, 6, 7] rfl, hS, fj0_⟩
          ·
            have ic_16 : p1.toInt ≤ 1000 := tx_nlt (by decide) rfl c_16
            refine lv_iload_n hx hb dX8_make_40 rfl (lv_at hl 3 rfl) ?_
            refine lv_iconst (v := 0) hx hb dX8_make_41 (by decide) ?_
            refine lv_iconst (v := 3) hx hb dX8_make_42 (by decide) ?_
            have hPc := hP.sub (ws' := []) [] rfl
            have hDc := hD.sub (ws' := []) [] (by decide) rfl
            have hKc := hK.sub (tys' := []) [] rfl
            have hFc := va_free (wc := []) hD hS hA [] rfl
            refine va_calli (va_runS (As := [.int p2, .int 0, .int 3]) (rest := []) ⟨hx, hb, hml, hown, hts⟩ (c_X8_in l  dC dI H.size p2 0 3 p2.toInt 0 3 rfl (by decide) (by decide)) (va_cwS 3 hts gX8_make_X8_in rfl rfl rfl (by decide +kernel) ⟨(Nat.le_of_ble_eq_true rfl), (Nat.le_of_ble_eq_true rfl)⟩) ⟨pk_blind, pk_call hPc hKc hDc⟩ rfl rfl hl.1 rfl (lv_room (Nat.le_of_ble_eq_true rfl)) dX8_make_43 ⟨(Nat.le_of_ble_eq_true rfl), (Nat.le_of_ble_eq_true rfl)⟩) hS (fun q _ h => hFc q h) hFc (fun r_17 ur_17 t H1 locs ht hvm hw hB hz1 hk1 hS => ?_)
            try dsimp only at hw
            have jr_17 := hw
            obtain ⟨hP, hD⟩ := va_join (wr := [(h0, .inr (8, [.int th, .ref q1, v2, .ref q3, .ref q4, .ref q5, .ref q6, .ref q7, .ref q8, v9, v10, v11, v12, v13, v14, v15, v16])), (q1, .inl (c1, 16, .inl a1)), (q3, .inl (c3, 16, .inl a3)), (q4, .inl (c4, 16, .inl a4)), (q5, .inl (c5, 16, .inl a5)), (q6, .inl (c6, 16, .inl a6)), (q7, .inl (c7, 16, .inl a7)), (q8, .inl (c8, 16, .inl a8))]) (w1 := []) hP hD [] [0, 1, 2, 3, 4, 5, 6, 7] rfl rfl (by decide) (by decide) hk1 hFc tx_P0 tx_D0
            clear hk1 hz1 ht hPc hDc hKc hFc
            generalize H1 = H at hP hS ⊢
            replace hP : va_P (dC, dI) vwCl [(h0, .inr (8, [.int th, .ref q1, v2, .ref q3, .ref q4, .ref q5, .ref q6, .ref q7, .ref q8, v9, v10, v11, v12, v13, v14, v15, v16])), (q1, .inl (c1, 16, .inl a1)), (q3, .inl (c3, 16, .inl a3)), (q4, .inl (c4, 16, .inl a4)), (q5, .inl (c5, 16, .inl a5)), (q6, .inl (c6, 16, .inl a6)), (q7, .inl (c7, 16, .inl a7)), (q8, .inl (c8, 16, .inl a8))] H := hP
            replace hD : va_D A [(h0, .inr (8, [.int th, .ref q1, v2, .ref q3, .ref q4, .ref q5, .ref q6, .ref q7, .ref q8, v9, v10, v11, v12, v13, v14, v15, v16])), (q1, .inl (c1, 16, .inl a1)), (q3, .inl (c3, 16, .inl a3)), (q4, .inl (c4, 16, .inl a4)), (q5, .inl (c5, 16, .inl a5)), (q6, .inl (c6, 16, .inl a6)), (q7, .inl (c7, 16, .inl a7)), (q8, .inl (c8, 16, .inl a8))] := hD
            refine W.widen (k := 0) (n := 0) (Nat.le_of_ble_eq_true rfl) (Nat.le_of_ble_eq_true rfl) ?_
            refine W.eq (g2 := F0 m 46 ls [.int r_17]) rfl ?_
            refine lv_if_eq (tgt := 53) hx hb dX8_make_46 (by decide) (fun c_18 => ?_) (fun c_18 => ?_)
            ·
              have ic_18 : r_17.toInt = 0 := tx_eq rfl (by decide) c_18
              refine lv_iconst (v := 0) hx hb dX8_make_53 (by decide) ?_
              refine lv_goto (tgt := 96) hx hb dX8_make_54 (by decide) ?_
              refine lv_istore (lv' := [(4, .int 0), (0, .ref h0), (1, .int p0), (2, .int p1), (3, .int p2)]) hx hb dX8_make_96 hl (by decide) rfl (fun ls hl => ?_)
              have fj0_ : ((0 : Int32).toInt = 0 ∧ ¬ mkG p0 p1 p2) ∨ (¬ (0 : Int32).toInt = 0 ∧ mkG p0 p1 p2) := Or.inl ⟨by decide, by unfold mkG; omega⟩
              exact jn98 (ls, H, locs, 0) ⟨lv_sub hl [0, 1, 2, 3, 4] rfl, hP.sub [0, 1, 2, 3, 4, 5, 6, 7] rfl, hS, fj0_⟩
            ·
              have ic_18 : ¬ r_17.toInt = 0 := tx_ne rfl (by decide) c_18
              refine lv_iconst (v := 1) hx hb dX8_make_49 (by decide) ?_
              refine lv_goto (tgt := 96) hx hb dX8_make_50 (by decide) ?_
              refine lv_istore (lv' := [(4, .int 1), (0, .ref h0), (1, .int p0), (2, .int p1), (3, .int p2)]) hx hb dX8_make_96 hl (by decide) rfl (fun ls hl => ?_)
              have fj0_ : ((1 : Int32).toInt = 0 ∧ ¬ mkG p0 p1 p2) ∨ (¬ (1 : Int32).toInt = 0 ∧ mkG p0 p1 p2) := Or.inr ⟨by decide, by unfold mkG; omega⟩
              exact jn98 (ls, H, locs, 1) ⟨lv_sub hl [0, 1, 2, 3, 4] rfl, hP.sub [0, 1, 2, 3, 4, 5, 6, 7] rfl, hS, fj0_⟩
    ·
      refine lv_iload_n hx hb dX8_make_15 rfl (lv_at hl 1 rfl) ?_
      refine lv_if_ne (tgt := 29) hx hb dX8_make_16 (by decide) (fun c_19 => ?_) (fun c_19 => ?_)
      ·
        have ic_19 : ¬ p0.toInt = 0 := tx_ne rfl (by decide) c_19
        have fj0_ : 0 ≤ p0.toInt ∧ p0.toInt ≤ 2 := by omega
        have fj1_ : ¬ (p0.toInt = 0 ∧ p1.toInt < 0) := by omega
        exact jn29 (ls, H, locs) ⟨lv_sub hl [0, 1, 2, 3] rfl, hP.sub [0, 1, 2, 3, 4, 5, 6, 7] rfl, hS, fj0_, fj1_⟩
      ·
        have ic_19 : p0.toInt = 0 := tx_eq rfl (by decide) c_19
        refine lv_iload_n hx hb dX8_make_19 rfl (lv_at hl 2 rfl) ?_
        refine lv_if_ge (tgt := 29) hx hb dX8_make_20 (by decide) (fun c_20 => ?_) (fun c_20 => ?_)
        ·
          have ic_20 : 0 ≤ p1.toInt := tx_le (by decide) rfl c_20
          have fj0_ : 0 ≤ p0.toInt ∧ p0.toInt ≤ 2 := by omega
          have fj1_ : ¬ (p0.toInt = 0 ∧ p1.toInt < 0) := by omega
          exact jn29 (ls, H, locs) ⟨lv_sub hl [0, 1, 2, 3] rfl, hP.sub [0, 1, 2, 3, 4, 5, 6, 7] rfl, hS, fj0_, fj1_⟩
        ·
          have ic_20 : p1.toInt < 0 := tx_nle (by decide) rfl c_20
          refine lv_aload_n hx hb dX8_make_23 rfl (lv_at hl 0 rfl) ?_
          refine lv_iconst (v := 3) hx hb dX8_make_24 (by decide) ?_
          have hPc := hP.sub (ws' := [(h0, .inr (8, [.int th, .ref q1, v2, .ref q3, .ref q4, .ref q5, .ref q6, .ref q7, .ref q8, v9, v10, v11, v12, v13, v14, v15, v16]))]) [0] rfl
          have hDc := hD.sub (ws' := [(h0, .inr (8, [.int th, .ref q1, v2, .ref q3, .ref q4, .ref q5, .ref q6, .ref q7, .ref q8, v9, v10, v11, v12, v13, v14, v15, v16]))]) [0] (by decide) rfl
          have hKc := hK.sub (tys' := []) [] rfl
          have hFc := va_free (wc := [(h0, .inr (8, [.int th, .ref q1, v2, .ref q3, .ref q4, .ref q5, .ref q6, .ref q7, .ref q8, v9, v10, v11, v12, v13, v14, v15, v16]))]) hD hS hA [0] rfl
          refine va_calli (va_runV (As := [.int 3]) (rest := []) ⟨hx, hb, hml, hown, hts⟩ (c_X8_refuse l  dC dI H.size h0 th (.ref q1) v2 (.ref q3) (.ref q4) (.ref q5) (.ref q6) (.ref q7) (.ref q8) v9 v10 v11 v12 v13 v14 v15 v16 3) (cwV 1 hts gX8_make_X8_refuse rfl rfl rfl (by decide +kernel) ⟨(Nat.le_of_ble_eq_true rfl), (Nat.le_of_ble_eq_true rfl)⟩) ⟨pk_blind, va_recv hKc hPc (ci := 8) (q0 := 0) rfl rfl, pk_call hPc hKc hDc⟩ rfl rfl hl.1 rfl (lv_room (Nat.le_of_ble_eq_true rfl)) dX8_make_25 ⟨(Nat.le_of_ble_eq_true rfl), (Nat.le_of_ble_eq_true rfl)⟩) hS (fun q _ h => hFc q h) hFc (fun r_21 ur_21 t H1 locs ht hvm hw hB hz1 hk1 hS => ?_)
          try dsimp only at hw
          obtain ⟨hP1, hK1, hD1⟩ := hB
          rw [ht] at hP1
          have hK1 := va_K.moved hvm.symm hK1
          obtain ⟨hP, hD⟩ := va_join (wr := [(q1, .inl (c1, 16, .inl a1)), (q3, .inl (c3, 16, .inl a3)), (q4, .inl (c4, 16, .inl a4)), (q5, .inl (c5, 16, .inl a5)), (q6, .inl (c6, 16, .inl a6)), (q7, .inl (c7, 16, .inl a7)), (q8, .inl (c8, 16, .inl a8))]) (w1 := [(h0, .inr (8, [.int 3, .ref q1, v2, .ref q3, .ref q4, .ref q5, .ref q6, .ref q7, .ref q8, v9, v10, v11, v12, v13, v14, v15, v16]))]) hP hD [0] [1, 2, 3, 4, 5, 6, 7] rfl rfl (by decide) (by decide) hk1 hFc hP1 hD1
          clear hk1 hz1 ht hPc hDc hKc hFc
          generalize H1 = H at hP hS ⊢
          replace hP : va_P (dC, dI) vwCl [(q1, .inl (c1, 16, .inl a1)), (q3, .inl (c3, 16, .inl a3)), (q4, .inl (c4, 16, .inl a4)), (q5, .inl (c5, 16, .inl a5)), (q6, .inl (c6, 16, .inl a6)), (q7, .inl (c7, 16, .inl a7)), (q8, .inl (c8, 16, .inl a8)), (h0, .inr (8, [.int 3, .ref q1, v2, .ref q3, .ref q4, .ref q5, .ref q6, .ref q7, .ref q8, v9, v10, v11, v12, v13, v14, v15, v16]))] H := hP
          replace hD : va_D A [(q1, .inl (c1, 16, .inl a1)), (q3, .inl (c3, 16, .inl a3)), (q4, .inl (c4, 16, .inl a4)), (q5, .inl (c5, 16, .inl a5)), (q6, .inl (c6, 16, .inl a6)), (q7, .inl (c7, 16, .inl a7)), (q8, .inl (c8, 16, .inl a8)), (h0, .inr (8, [.int 3, .ref q1, v2, .ref q3, .ref q4, .ref q5, .ref q6, .ref q7, .ref q8, v9, v10, v11, v12, v13, v14, v15, v16]))] := hD
          refine W.widen (k := 0) (n := 0) (Nat.le_of_ble_eq_true rfl) (Nat.le_of_ble_eq_true rfl) ?_
          obtain rfl : r_21 = 0 := hw
          refine W.eq (g2 := F0 m 28 ls [.int 0]) rfl ?_
          have hP9 := hP.sub (ws' := [(h0, .inr (8, [.int 3, .ref q1, v2, .ref q3, .ref q4, .ref q5, .ref q6, .ref q7, .ref q8, v9, v10, v11, v12, v13, v14, v15, v16])), (q1, .inl (c1, 16, .inl a1)), (q3, .inl (c3, 16, .inl a3)), (q4, .inl (c4, 16, .inl a4)), (q5, .inl (c5, 16, .inl a5)), (q6, .inl (c6, 16, .inl a6)), (q7, .inl (c7, 16, .inl a7)), (q8, .inl (c8, 16, .inl a8))]) [7, 0, 1, 2, 3, 4, 5, 6] rfl
          have hD9 := hD.sub (ws' := [(h0, .inr (8, [.int 3, .ref q1, v2, .ref q3, .ref q4, .ref q5, .ref q6, .ref q7, .ref q8, v9, v10, v11, v12, v13, v14, v15, v16])), (q1, .inl (c1, 16, .inl a1)), (q3, .inl (c3, 16, .inl a3)), (q4, .inl (c4, 16, .inl a4)), (q5, .inl (c5, 16, .inl a5)), (q6, .inl (c6, 16, .inl a6)), (q7, .inl (c7, 16, .inl a7)), (q8, .inl (c8, 16, .inl a8))]) [7, 0, 1, 2, 3, 4, 5, 6] (by decide) rfl
          have hK9 := hK.sub (tys' := [(c1, .int), (c3, .int), (c4, .int), (c5, .int), (c6, .int), (c7, .int), (c8, .int)]) [0, 1, 2, 3, 4, 5, 6] rfl
          refine W.widen (k := 0) (n := 0) (Nat.le_of_ble_eq_true rfl) (Nat.le_of_ble_eq_true rfl) ?_
          exact W.iret (v := 0) hx hb hr (fun t ht hW => ⟨⟨0, (3, a1, a3, a4, a5, a6, a7, a8), rfl, ⟨3, 0, by unfold mkR; exact Or.inr ⟨by omega, by omega, Or.inl ⟨rfl, by omega, by omega⟩⟩, rfl, fun h => absurd h (by decide), fun _ => ⟨rfl, rfl, rfl, rfl, rfl, rfl, rfl, rfl⟩⟩, by rw [ht]; exact hP9, va_K.moved hW.alike hK9, hD9⟩, hS.F ht⟩) hS.2.2 dX8_make_28
  ·
    have ic_2 : r_1.toInt = 0 := tx_eq rfl (by decide) c_2
    refine lv_aload_n hx hb dX8_make_9 rfl (lv_at hl 0 rfl) ?_
    refine lv_iconst (v := 1) hx hb dX8_make_10 (by decide) ?_
    have hPc := hP.sub (ws' := [(h0, .inr (8, [.int th, .ref q1, v2, .ref q3, .ref q4, .ref q5, .ref q6, .ref q7, .ref q8, v9, v10, v11, v12, v13, v14, v15, v16]))]) [0] rfl
    have hDc := hD.sub (ws' := [(h0, .inr (8, [.int th, .ref q1, v2, .ref q3, .ref q4, .ref q5, .ref q6, .ref q7, .ref q8, v9, v10, v11, v12, v13, v14, v15, v16]))]) [0] (by decide) rfl
    have hKc := hK.sub (tys' := []) [] rfl
    have hFc := va_free (wc := [(h0, .inr (8, [.int th, .ref q1, v2, .ref q3, .ref q4, .ref q5, .ref q6, .ref q7, .ref q8, v9, v10, v11, v12, v13, v14, v15, v16]))]) hD hS hA [0] rfl
    refine va_calli (va_runV (As := [.int 1]) (rest := []) ⟨hx, hb, hml, hown, hts⟩ (c_X8_refuse l  dC dI H.size h0 th (.ref q1) v2 (.ref q3) (.ref q4) (.ref q5) (.ref q6) (.ref q7) (.ref q8) v9 v10 v11 v12 v13 v14 v15 v16 1) (cwV 1 hts gX8_make_X8_refuse rfl rfl rfl (by decide +kernel) ⟨(Nat.le_of_ble_eq_true rfl), (Nat.le_of_ble_eq_true rfl)⟩) ⟨pk_blind, va_recv hKc hPc (ci := 8) (q0 := 0) rfl rfl, pk_call hPc hKc hDc⟩ rfl rfl hl.1 rfl (lv_room (Nat.le_of_ble_eq_true rfl)) dX8_make_11 ⟨(Nat.le_of_ble_eq_true rfl), (Nat.le_of_ble_eq_true rfl)⟩) hS (fun q _ h => hFc q h) hFc (fun r_22 ur_22 t H1 locs ht hvm hw hB hz1 hk1 hS => ?_)
    try dsimp only at hw
    obtain ⟨hP1, hK1, hD1⟩ := hB
    rw [ht] at hP1
    have hK1 := va_K.moved hvm.symm hK1
    obtain ⟨hP, hD⟩ := va_join (wr := [(q1, .inl (c1, 16, .inl a1)), (q3, .inl (c3, 16, .inl a3)), (q4, .inl (c4, 16, .inl a4)), (q5, .inl (c5, 16, .inl a5)), (q6, .inl (c6, 16, .inl a6)), (q7, .inl (c7, 16, .inl a7)), (q8, .inl (c8, 16, .inl a8))]) (w1 := [(h0, .inr (8, [.int 1, .ref q1, v2, .ref q3, .ref q4, .ref q5, .ref q6, .ref q7, .ref q8, v9, v10, v11, v12, v13, v14, v15, v16]))]) hP hD [0] [1, 2, 3, 4, 5, 6, 7] rfl rfl (by decide) (by decide) hk1 hFc hP1 hD1
    clear hk1 hz1 ht hPc hDc hKc hFc
    generalize H1 = H at hP hS ⊢
    replace hP : va_P (dC, dI) vwCl [(q1, .inl (c1, 16, .inl a1)), (q3, .inl (c3, 16, .inl a3)), (q4, .inl (c4, 16, .inl a4)), (q5, .inl (c5, 16, .inl a5)), (q6, .inl (c6, 16, .inl a6)), (q7, .inl (c7, 16, .inl a7)), (q8, .inl (c8, 16, .inl a8)), (h0, .inr (8, [.int 1, .ref q1, v2, .ref q3, .ref q4, .ref q5, .ref q6, .ref q7, .ref q8, v9, v10, v11, v12, v13, v14, v15, v16]))] H := hP
    replace hD : va_D A [(q1, .inl (c1, 16, .inl a1)), (q3, .inl (c3, 16, .inl a3)), (q4, .inl (c4, 16, .inl a4)), (q5, .inl (c5, 16, .inl a5)), (q6, .inl (c6, 16, .inl a6)), (q7, .inl (c7, 16, .inl a7)), (q8, .inl (c8, 16, .inl a8)), (h0, .inr (8, [.int 1, .ref q1, v2, .ref q3, .ref q4, .ref q5, .ref q6, .ref q7, .ref q8, v9, v10, v11, v12, v13, v14, v15, v16]))] := hD
    refine W.widen (k := 0) (n := 0) (Nat.le_of_ble_eq_true rfl) (Nat.le_of_ble_eq_true rfl) ?_
    obtain rfl : r_22 = 0 := hw
    refine W.eq (g2 := F0 m 14 ls [.int 0]) rfl ?_
    have hP9 := hP.sub (ws' := [(h0, .inr (8, [.int 1, .ref q1, v2, .ref q3, .ref q4, .ref q5, .ref q6, .ref q7, .ref q8, v9, v10, v11, v12, v13, v14, v15, v16])), (q1, .inl (c1, 16, .inl a1)), (q3, .inl (c3, 16, .inl a3)), (q4, .inl (c4, 16, .inl a4)), (q5, .inl (c5, 16, .inl a5)), (q6, .inl (c6, 16, .inl a6)), (q7, .inl (c7, 16, .inl a7)), (q8, .inl (c8, 16, .inl a8))]) [7, 0, 1, 2, 3, 4, 5, 6] rfl
    have hD9 := hD.sub (ws' := [(h0, .inr (8, [.int 1, .ref q1, v2, .ref q3, .ref q4, .ref q5, .ref q6, .ref q7, .ref q8, v9, v10, v11, v12, v13, v14, v15, v16])), (q1, .inl (c1, 16, .inl a1)), (q3, .inl (c3, 16, .inl a3)), (q4, .inl (c4, 16, .inl a4)), (q5, .inl (c5, 16, .inl a5)), (q6, .inl (c6, 16, .inl a6)), (q7, .inl (c7, 16, .inl a7)), (q8, .inl (c8, 16, .inl a8))]) [7, 0, 1, 2, 3, 4, 5, 6] (by decide) rfl
    have hK9 := hK.sub (tys' := [(c1, .int), (c3, .int), (c4, .int), (c5, .int), (c6, .int), (c7, .int), (c8, .int)]) [0, 1, 2, 3, 4, 5, 6] rfl
    refine W.widen (k := 0) (n := 0) (Nat.le_of_ble_eq_true rfl) (Nat.le_of_ble_eq_true rfl) ?_
    exact W.iret (v := 0) hx hb hr (fun t ht hW => ⟨⟨0, (1, a1, a3, a4, a5, a6, a7, a8), rfl, ⟨1, 0, by unfold mkR; exact Or.inl ⟨rfl, by omega⟩, rfl, fun h => absurd h (by decide), fun _ => ⟨rfl, rfl, rfl, rfl, rfl, rfl, rfl, rfl⟩⟩, by rw [ht]; exact hP9, va_K.moved hW.alike hK9, hD9⟩, hS.F ht⟩) hS.2.2 dX8_make_14
set_option maxHeartbeats 4000000 in
set_option maxRecDepth 100000 in
/-- drop -/
theorem c_X8_drop (l : Launch) (dC : Nat → ClassId) (dI : Nat → Nat → Nat) (sz : Nat) (h0 : Nat) (th : Int32) (q1 : Nat) (q8 : Nat) (q16 : Nat) (c1 : ClassId) (c8 : ClassId) (c16 : ClassId) (a1 : Nat → Int32) (a8 : Nat → Int32) (a16 : Nat → Int32) (v2 : Value) (v3 : Value) (v4 : Value) (v5 : Value) (v6 : Value) (v7 : Value) (v9 : Value) (v10 : Value) (v11 : Value) (v12 : Value) (v13 : Value) (v14 : Value) (v15 : Value) (dep : Nat → Nat) (p0 : Int32) (hF9 : rF a1 a8 dep) (hda : ∀ o : Nat, o < 16 → dep o < 17) : Met l yX8_drop wsX8_drop ({ frames := 3, cells := 0, slots := 0, locals := 110 }) (va_Pc [.ref h0, .int p0] (pk_Pre (dC, dI) [(h0, .inr (8, [.int th, .ref q1, v2, v3, v4, v5, v6, v7, .ref q8, v9, v10, v11, v12, v13, v14, v15, .ref q16])), (q1, .inl (c1, 16, .inl a1)), (q8, .inl (c8, 16, .inl a8)), (q16, .inl (c16, 16, .inl a16))] [(c1, .int), (c8, .int), (c16, .boolean)] sz)) (va_Qi (fun (x : Int32) (u : Int32 × (Nat → Int32) × (Nat → Int32)) => (u.1 = 1 ∧ x = 0 ∧ u.2.1 = a1 ∧ ∀ o : Nat, o < 16 → p0 = nI o → (a1 o).toInt = 0) ∨ (∃ o : Nat, o < 16 ∧ p0 = nI o ∧ ¬ (a1 o).toInt = 0 ∧ u.1 = 0 ∧ (∀ j : Nat, j < 16 → u.2.1 j = if j = o ∨ dgB a1 a8 o j = true then 0 else a1 j) ∧ x = nI (1 + cntN (dgB a1 a8 o) 16))) (fun (u : Int32 × (Nat → Int32) × (Nat → Int32)) (t : State) => va_P (dC, dI) vwCl [(h0, .inr (8, [.int u.1, .ref q1, v2, v3, v4, v5, v6, v7, .ref q8, v9, v10, v11, v12, v13, v14, v15, .ref q16])), (q1, .inl (c1, 16, .inl u.2.1)), (q8, .inl (c8, 16, .inl a8)), (q16, .inl (c16, 16, .inl u.2.2))] t.heap ∧ va_K (dC, dI) vwCl [(c1, .int), (c8, .int), (c16, .boolean)] t ∧ va_D (va_A [(h0, .inr (8, [.int th, .ref q1, v2, v3, v4, v5, v6, v7, .ref q8, v9, v10, v11, v12, v13, v14, v15, .ref q16])), (q1, .inl (c1, 16, .inl a1)), (q8, .inl (c8, 16, .inl a8)), (q16, .inl (c16, 16, .inl a16))] sz) [(h0, .inr (8, [.int u.1, .ref q1, v2, v3, v4, v5, v6, v7, .ref q8, v9, v10, v11, v12, v13, v14, v15, .ref q16])), (q1, .inl (c1, 16, .inl u.2.1)), (q8, .inl (c8, 16, .inl a8)), (q16, .inl (c16, 16, .inl u.2.2))]) (va_A [(h0, .inr (8, [.int th, .ref q1, v2, v3, v4, v5, v6, v7, .ref q8, v9, v10, v11, v12, v13, v14, v15, .ref q16])), (q1, .inl (c1, 16, .inl a1)), (q8, .inl (c8, 16, .inl a8)), (q16, .inl (c16, 16, .inl a16))] sz)) 0 0 (va_A [(h0, .inr (8, [.int th, .ref q1, v2, v3, v4, v5, v6, v7, .ref q8, v9, v10, v11, v12, v13, v14, v15, .ref q16])), (q1, .inl (c1, 16, .inl a1)), (q8, .inl (c8, 16, .inl a8)), (q16, .inl (c16, 16, .inl a16))] sz) := by
  refine Met.ofW (cc := cX8_drop) (maxL := 4) (ret := (some .int)) (by decide) rfl ?_
  intro p e s m args below meth c s₁ B hml hv
  obtain ⟨rfl, hsz, hP, hK, hD0⟩ := hv
  have hx := B.exec
  have hb := B.bytes
  have hr := B.returns
  have hts := atoms_spec (ws := wsX8_drop) B.pre
  have hown : s.vm.findClass RX8 = some m.cls := findClass_of_methodNamed B.named
  have hlocks := B.notSynchronized
  subst hsz
  have hD := hD0.self (sz := s.heap.size)
  generalize hAe : va_A [(h0, .inr (8, [.int th, .ref q1, v2, v3, v4, v5, v6, v7, .ref q8, v9, v10, v11, v12, v13, v14, v15, .ref q16])), (q1, .inl (c1, 16, .inl a1)), (q8, .inl (c8, 16, .inl a8)), (q16, .inl (c16, 16, .inl a16))] s.heap.size = A at hD ⊢
  have hA : ∀ q : Nat, s.heap.size ≤ q → A q := fun q h => by rw [← hAe]; exact Or.inr h
  have hS : va_S A s.heap s.heap [] := va_S.rf
  have hP : va_P (dC, dI) vwCl [(h0, .inr (8, [.int th, .ref q1, v2, v3, v4, v5, v6, v7, .ref q8, v9, v10, v11, v12, v13, v14, v15, .ref q16])), (q1, .inl (c1, 16, .inl a1)), (q8, .inl (c8, 16, .inl a8)), (q16, .inl (c16, 16, .inl a16))] s.heap := hP
  have hl := lv_entry ([.ref h0, .int p0]) (n := 4) (Nat.le_of_ble_eq_true rfl)
  rw [lg_entry_eq]
  generalize (lg_sl ([.ref h0, .int p0]) ++ List.replicate (4 - (lg_sl ([.ref h0, .int p0])).length) Slot.unset).toArray = ls at hl ⊢
  have hl : lv_has ls 4 [(0, .ref h0), (1, .int p0)] := hl
  have hw0_ := hts (.fieldLink RX8 60 "KeyAtlasModel" "thrown" "I") (List.mem_of_getElem? (l := wsX8_drop) (i := 1) rfl)
  have hw1_ := hts (.fieldLink RX8 57 "KeyAtlasModel" "gone" "[Z") (List.mem_of_getElem? (l := wsX8_drop) (i := 2) rfl)
  have hw2_ := hts (.fieldLink RX8 7 "KeyAtlasModel" "kind" "[I") (List.mem_of_getElem? (l := wsX8_drop) (i := 3) rfl)
  have hi0_ : ∀ w ∈ u_ws RX8 TX8 17, w ∈ wsX8_drop := fun w h => List.mem_cons_of_mem _ (List.mem_append_right _ h)
  refine lv_aload_n hx hb dX8_drop_0 rfl (lv_at hl 0 rfl) ?_
  refine lv_iload_n hx hb dX8_drop_1 rfl (lv_at hl 1 rfl) ?_
  have hPc := hP.sub (ws' := [(h0, .inr (8, [.int th, .ref q1, v2, v3, v4, v5, v6, v7, .ref q8, v9, v10, v11, v12, v13, v14, v15, .ref q16])), (q1, .inl (c1, 16, .inl a1))]) [0, 1] rfl
  have hDc := hD.sub (ws' := [(h0, .inr (8, [.int th, .ref q1, v2, v3, v4, v5, v6, v7, .ref q8, v9, v10, v11, v12, v13, v14, v15, .ref q16])), (q1, .inl (c1, 16, .inl a1))]) [0, 1] (by decide) rfl
  have hKc := hK.sub (tys' := [(c1, .int)]) [0] rfl
  have hFc := va_free (wc := [(h0, .inr (8, [.int th, .ref q1, v2, v3, v4, v5, v6, v7, .ref q8, v9, v10, v11, v12, v13, v14, v15, .ref q16])), (q1, .inl (c1, 16, .inl a1))]) hD hS hA [0, 1] rfl
  refine va_calli (va_runV (As := [.int p0]) (rest := []) ⟨hx, hb, hml, hown, hts⟩ (c_X8_isThere l  dC dI s.heap.size h0 th q1 c1 a1 v2 v3 v4 v5 v6 v7 (.ref q8) v9 v10 v11 v12 v13 v14 v15 (.ref q16) p0) (cwV 1 hts gX8_drop_X8_isThere rfl rfl rfl (by decide +kernel) ⟨(Nat.le_of_ble_eq_true rfl), (Nat.le_of_ble_eq_true rfl)⟩) ⟨pk_blind, va_recv hKc hPc (ci := 8) (q0 := 0) rfl rfl, pk_call hPc hKc hDc⟩ rfl rfl hl.1 rfl (lv_room (Nat.le_of_ble_eq_true rfl)) dX8_drop_2 ⟨(Nat.le_of_ble_eq_true rfl), (Nat.le_of_ble_eq_true rfl)⟩) hS (fun q _ h => hFc q h) hFc (fun r_1 ur_1 t H1 locs ht hvm hw hB hz1 hk1 hS => ?_)
  try dsimp only at hw
  have jr_1 := hw
  obtain ⟨hP1, hK1, hD1⟩ := hB
  rw [ht] at hP1
  have hK1 := va_K.moved hvm.symm hK1
  obtain ⟨hP, hD⟩ := va_join (wr := [(q8, .inl (c8, 16, .inl a8)), (q16, .inl (c16, 16, .inl a16))]) (w1 := [(h0, .inr (8, [.int th, .ref q1, v2, v3, v4, v5, v6, v7, .ref q8, v9, v10, v11, v12, v13, v14, v15, .ref q16])), (q1, .inl (c1, 16, .inl a1))]) hP hD [0, 1] [2, 3] rfl rfl (by decide) (by decide) hk1 hFc hP1 hD1
  clear hk1 hz1 ht hPc hDc hKc hFc
  generalize H1 = H at hP hS ⊢
  replace hP : va_P (dC, dI) vwCl [(q8, .inl (c8, 16, .inl a8)), (q16, .inl (c16, 16, .inl a16)), (h0, .inr (8, [.int th, .ref q1, v2, v3, v4, v5, v6, v7, .ref q8, v9, v10, v11, v12, v13, v14, v15, .ref q16])), (q1, .inl (c1, 16, .inl a1))] H := hP
  replace hD : va_D A [(q8, .inl (c8, 16, .inl a8)), (q16, .inl (c16, 16, .inl a16)), (h0, .inr (8, [.int th, .ref q1, v2, v3, v4, v5, v6, v7, .ref q8, v9, v10, v11, v12, v13, v14, v15, .ref q16])), (q1, .inl (c1, 16, .inl a1))] := hD
  refine W.widen (k := 0) (n := 0) (Nat.le_of_ble_eq_true rfl) (Nat.le_of_ble_eq_true rfl) ?_
  refine W.eq (g2 := F0 m 5 ls [.int r_1]) rfl ?_
  refine lv_if_ne (tgt := 14) hx hb dX8_drop_5 (by decide) (fun c_2 => ?_) (fun c_2 => ?_)
  ·
    have ic_2 : ¬ r_1.toInt = 0 := tx_ne rfl (by decide) c_2
    obtain ⟨o, ho9, rfl, hko⟩ := (jr_1.resolve_right (fun h => absurd h.1 ic_2)).2
    refine lv_aload_n hx hb dX8_drop_14 rfl (lv_at hl 0 rfl) ?_
    refine lv_iconst (v := 0) hx hb dX8_drop_15 (by decide) ?_
    refine va_put (D := (dC, dI)) (ci := 8) (v := .int 0) (ty := .int) (C := RX8) (T := TX8) (N := 17) hx hb hts hi0_ tyX8 tyX8_ok nmX8 hown hK hP hD hS 2 rfl rfl 0 (by decide) hw0_ (fun _ h9 => h9) rfl (by decide +kernel) rfl rfl (Nat.le_of_ble_eq_true rfl) dX8_drop_16 (fun H locs hP hD hS => ?_)
    replace hP : va_P (dC, dI) vwCl [(q8, .inl (c8, 16, .inl a8)), (q16, .inl (c16, 16, .inl a16)), (h0, .inr (8, [.int 0, .ref q1, v2, v3, v4, v5, v6, v7, .ref q8, v9, v10, v11, v12, v13, v14, v15, .ref q16])), (q1, .inl (c1, 16, .inl a1))] H := hP
    replace hD : va_D A [(q8, .inl (c8, 16, .inl a8)), (q16, .inl (c16, 16, .inl a16)), (h0, .inr (8, [.int 0, .ref q1, v2, v3, v4, v5, v6, v7, .ref q8, v9, v10, v11, v12, v13, v14, v15, .ref q16])), (q1, .inl (c1, 16, .inl a1))] := hD
    refine lv_iconst (v := 1) hx hb dX8_drop_19 (by decide) ?_
    refine lv_istore_n (lv' := [(2, .int 1), (0, .ref h0), (1, .int (nI o))]) hx hb dX8_drop_20 rfl hl (by decide) rfl (fun ls hl => ?_)
    refine lv_iconst (v := 0) hx hb dX8_drop_21 (by decide) ?_
    refine lv_istore_n (lv' := [(3, .int 0), (2, .int 1), (0, .ref h0), (1, .int (nI o))]) hx hb dX8_drop_22 rfl hl (by decide) rfl (fun ls hl => ?_)
    obtain ⟨i, es_i⟩ : ∃ z : Nat, z = 0 := ⟨_, rfl⟩
    obtain ⟨x9, ex9⟩ : ∃ y : Int32, y = nI i := ⟨_, rfl⟩
    obtain ⟨e9, es_e9⟩ : ∃ z : Nat, z = 1 := ⟨_, rfl⟩
    obtain ⟨y9, ey9⟩ : ∃ y : Int32, y = nI e9 := ⟨_, rfl⟩
    obtain ⟨f16, ef_f16⟩ : ∃ z : Nat → Int32, z = a16 := ⟨_, rfl⟩
    obtain ⟨n9, en9⟩ : ∃ n : Nat, n = 17 := ⟨_, rfl⟩
    replace hl : lv_has ls 4 [(3, .int x9), (2, .int y9), (0, .ref h0), (1, .int (nI o))] := by subst ex9; subst es_i; subst ey9; subst es_e9; exact hl
    replace hP : va_P (dC, dI) vwCl [(q8, .inl (c8, 16, .inl a8)), (q16, .inl (c16, 16, .inl f16)), (h0, .inr (8, [.int 0, .ref q1, v2, v3, v4, v5, v6, v7, .ref q8, v9, v10, v11, v12, v13, v14, v15, .ref q16])), (q1, .inl (c1, 16, .inl a1))] H := by subst ef_f16; exact hP
    replace hD : va_D A [(q8, .inl (c8, 16, .inl a8)), (q16, .inl (c16, 16, .inl f16)), (h0, .inr (8, [.int 0, .ref q1, v2, v3, v4, v5, v6, v7, .ref q8, v9, v10, v11, v12, v13, v14, v15, .ref q16])), (q1, .inl (c1, 16, .inl a1))] := by subst ef_f16; exact hD
    have hi9 : i ≤ 16 := by subst ex9; subst es_i; subst ey9; subst es_e9; subst ef_f16; subst en9; exact by omega
    have hn9 : 17 ≤ i + n9 := by subst ex9; subst es_i; subst ey9; subst es_e9; subst ef_f16; subst en9; exact by omega
    have he9 : e9 = 1 + cntN (dgB a1 a8 o) i := by subst ex9; subst es_i; subst ey9; subst es_e9; subst ef_f16; subst en9; exact rfl
    have hv9 : ∀ j : Nat, j < i → f16 j = tz (dgB a1 a8 o j) := by subst ex9; subst es_i; subst ey9; subst es_e9; subst ef_f16; subst en9; exact fun j h => absurd h (Nat.not_lt_zero j)
    clear en9 es_i es_e9 ef_f16
    induction n9 generalizing i x9 e9 y9 ls H locs f16 with
    | zero => exact absurd hn9 (by omega)
    | succ n9 ih =>
      subst ex9
      subst ey9
      refine lv_iload_n hx hb dX8_drop_23 rfl (lv_at hl 0 rfl) ?_
      refine lv_bipush (v := 16) hx hb dX8_drop_24 (by decide) ?_
      refine lv_icmp_ge (tgt := 86) hx hb dX8_drop_26 (by decide) (fun c_3 => ?_) (fun c_3 => ?_)
      ·
        have ic_3 : 16 ≤ ((i : Nat) : Int) := tx_le (by decide) (nI_toInt (by omega)) c_3
        refine lv_iconst (v := 0) hx hb dX8_drop_86 (by decide) ?_
        refine lv_istore_n (lv' := [(3, .int 0), (2, .int (nI e9)), (0, .ref h0), (1, .int (nI o))]) hx hb dX8_drop_87 rfl hl (by decide) rfl (fun ls hl => ?_)
        obtain ⟨i2, es_i2⟩ : ∃ z : Nat, z = 0 := ⟨_, rfl⟩
        obtain ⟨x8, ex8⟩ : ∃ y : Int32, y = nI i2 := ⟨_, rfl⟩
        obtain ⟨f1, ef_f1⟩ : ∃ z : Nat → Int32, z = a1 := ⟨_, rfl⟩
        obtain ⟨n9B, en9⟩ : ∃ n : Nat, n = 17 := ⟨_, rfl⟩
        replace hl : lv_has ls 4 [(3, .int x8), (2, .int (nI e9)), (0, .ref h0), (1, .int (nI o))] := by subst ex8; subst es_i2; exact hl
        replace hP : va_P (dC, dI) vwCl [(q8, .inl (c8, 16, .inl a8)), (q16, .inl (c16, 16, .inl f16)), (h0, .inr (8, [.int 0, .ref q1, v2, v3, v4, v5, v6, v7, .ref q8, v9, v10, v11, v12, v13, v14, v15, .ref q16])), (q1, .inl (c1, 16, .inl f1))] H := by subst ef_f1; exact hP
        replace hD : va_D A [(q8, .inl (c8, 16, .inl a8)), (q16, .inl (c16, 16, .inl f16)), (h0, .inr (8, [.int 0, .ref q1, v2, v3, v4, v5, v6, v7, .ref q8, v9, v10, v11, v12, v13, v14, v15, .ref q16])), (q1, .inl (c1, 16, .inl f1))] := by subst ef_f1; exact hD
        have hi2 : i2 ≤ 16 := by subst ex8; subst es_i2; subst ef_f1; subst en9; exact by omega
        have hn2 : 17 ≤ i2 + n9B := by subst ex8; subst es_i2; subst ef_f1; subst en9; exact by omega
        have hv2 : ∀ j : Nat, j < 16 → f1 j = if j < i2 ∧ (j = o ∨ dgB a1 a8 o j = true) then 0 else a1 j := by subst ex8; subst es_i2; subst ef_f1; subst en9; exact fun j h => by rw [if_neg (by omega)]
        clear en9 es_i2 ef_f1
        induction n9B generalizing i2 x8 ls H locs f1 with
        | zero => exact absurd hn2 (by omega)
        | succ n9B ihB =>
          subst ex8
          refine lv_iload_n hx hb dX8_drop_88 rfl (lv_at hl 0 rfl) ?_
          refine lv_bipush (v := 16) hx hb dX8_drop_89 (by decide) ?_
          refine lv_icmp_ge (tgt := 121) hx hb dX8_drop_91 (by decide) (fun c_4 => ?_) (fun c_4 => ?_)
          ·
            have ic_4 : 16 ≤ ((i2 : Nat) : Int) := tx_le (by decide) (nI_toInt (by omega)) c_4
            refine lv_iload_n hx hb dX8_drop_121 rfl (lv_at hl 1 rfl) ?_
            have hP9 := hP.sub (ws' := [(h0, .inr (8, [.int 0, .ref q1, v2, v3, v4, v5, v6, v7, .ref q8, v9, v10, v11, v12, v13, v14, v15, .ref q16])), (q1, .inl (c1, 16, .inl f1)), (q8, .inl (c8, 16, .inl a8)), (q16, .inl (c16, 16, .inl f16))]) [2, 3, 0, 1] rfl
            have hD9 := hD.sub (ws' := [(h0, .inr (8, [.int 0, .ref q1, v2, v3, v4, v5, v6, v7, .ref q8, v9, v10, v11, v12, v13, v14, v15, .ref q16])), (q1, .inl (c1, 16, .inl f1)), (q8, .inl (c8, 16, .inl a8)), (q16, .inl (c16, 16, .inl f16))]) [2, 3, 0, 1] (by decide) rfl
            have hK9 := hK.sub (tys' := [(c1, .int), (c8, .int), (c16, .boolean)]) [0, 1, 2] rfl
            refine W.widen (k := 0) (n := 0) (Nat.le_of_ble_eq_true rfl) (Nat.le_of_ble_eq_true rfl) ?_
            exact W.iret (v := nI e9) hx hb hr (fun t ht hW => ⟨⟨nI e9, (0, f1, f16), rfl, Or.inr ⟨o, ho9, rfl, hko, rfl, fun j hj => by show f1 j = _; rw [hv2 j hj, dg_all (by omega)], by show nI e9 = _; rw [he9, show i = 16 by omega]⟩, by rw [ht]; exact hP9, va_K.moved hW.alike hK9, hD9⟩, hS.F ht⟩) hS.2.2 dX8_drop_122
          ·
            have ic_4 : ((i2 : Nat) : Int) < 16 := tx_nle (by decide) (nI_toInt (by omega)) c_4
            refine lv_aload_n hx hb dX8_drop_94 rfl (lv_at hl 2 rfl) ?_
            refine va_get (D := (dC, dI)) (ci := 8) (v := .ref q16) (C := RX8) (T := TX8) (N := 17) hx hb hts hi0_ hown hK hP 2 rfl rfl 16 (by decide) hw1_ (fun _ h9 => h9) rfl dX8_drop_95 ?_
            refine lv_iload_n hx hb dX8_drop_98 rfl (lv_at hl 0 rfl) ?_
            refine va_zald (i := nI i2) hx hb hK hP 1 2 rfl rfl (vp_in_nI (by omega) (by omega)) dX8_drop_99 ?_
            refine W.eq (g2 := F0 m 100 ls [.int (f16 i2)]) (by rw [nI_clamp (by omega)]) ?_
            refine W.eq (g2 := F0 m 100 ls [.int (tz (dgB a1 a8 o i2))]) (by rw [hv9 i2 (by omega)]) ?_
            refine lv_if_ne (tgt := 108) hx hb dX8_drop_100 (by decide) (fun c_5 => ?_) (fun c_5 => ?_)
            ·
              have ic_5 : ¬ (tz (dgB a1 a8 o i2)).toInt = 0 := tx_ne rfl (by decide) c_5
              refine lv_aload_n hx hb dX8_drop_108 rfl (lv_at hl 2 rfl) ?_
              refine va_get (D := (dC, dI)) (ci := 8) (v := .ref q1) (C := RX8) (T := TX8) (N := 17) hx hb hts hi0_ hown hK hP 2 rfl rfl 1 (by decide) hw2_ (fun _ h9 => h9) rfl dX8_drop_109 ?_
              refine lv_iload_n hx hb dX8_drop_112 rfl (lv_at hl 0 rfl) ?_
              refine lv_iconst (v := 0) hx hb dX8_drop_113 (by decide) ?_
              refine va_iast (i := nI i2) hx hb hK hP hD hS 3 0 rfl rfl (vp_in_nI (by omega) (by omega)) dX8_drop_114 (fun H locs hP hD hS => ?_)
              rw [nI_clamp (by omega)] at hP hD
              replace hP : va_P (dC, dI) vwCl [(q8, .inl (c8, 16, .inl a8)), (q16, .inl (c16, 16, .inl f16)), (h0, .inr (8, [.int 0, .ref q1, v2, v3, v4, v5, v6, v7, .ref q8, v9, v10, v11, v12, v13, v14, v15, .ref q16])), (q1, .inl (c1, 16, .inl (upd f1 i2 0)))] H := hP
              replace hD : va_D A [(q8, .inl (c8, 16, .inl a8)), (q16, .inl (c16, 16, .inl f16)), (h0, .inr (8, [.int 0, .ref q1, v2, v3, v4, v5, v6, v7, .ref q8, v9, v10, v11, v12, v13, v14, v15, .ref q16])), (q1, .inl (c1, 16, .inl (upd f1 i2 0)))] := hD
              refine lv_iinc (v := nI (i2 + 1)) (lv' := [(3, .int (nI (i2 + 1))), (2, .int (nI e9)), (0, .ref h0), (1, .int (nI o))]) hx hb dX8_drop_115 hl (k := 0) rfl (by rw [show Int32.ofInt 1 = nI 1 from rfl, nI_add]) (by decide) rfl (fun ls hl => ?_)
              refine lv_goto (tgt := 88) hx hb dX8_drop_118 (by decide) ?_
              exact ihB (i2 := i2 + 1) (x8 := nI (i2 + 1)) (ex8 := rfl) (ls := ls) (f1 := (upd f1 i2 0)) (H := H) (locs := locs) (hP := hP.sub (ws' := [(q8, .inl (c8, 16, .inl a8)), (q16, .inl (c16, 16, .inl f16)), (h0, .inr (8, [.int 0, .ref q1, v2, v3, v4, v5, v6, v7, .ref q8, v9, v10, v11, v12, v13, v14, v15, .ref q16])), (q1, .inl (c1, 16, .inl (upd f1 i2 0)))]) [0, 1, 2, 3] rfl) (hS := hS) (hD := hD.sub (ws' := [(q8, .inl (c8, 16, .inl a8)), (q16, .inl (c16, 16, .inl f16)), (h0, .inr (8, [.int 0, .ref q1, v2, v3, v4, v5, v6, v7, .ref q8, v9, v10, v11, v12, v13, v14, v15, .ref q16])), (q1, .inl (c1, 16, .inl (upd f1 i2 0)))]) [0, 1, 2, 3] (by decide) rfl) (hi2 := by omega) (hn2 := by omega) (hv2 := fun j hj => by rcases (show j = i2 ∨ j ≠ i2 by omega) with h | h; rw [h, pk_us, if_pos ⟨by omega, Or.inr (tz_1 ic_5)⟩]; rw [pk_un h, hv2 j hj]; exact dg_if (fun e => absurd e h)) (hl := lv_sub hl [0, 1, 2, 3] rfl)
            ·
              have ic_5 : (tz (dgB a1 a8 o i2)).toInt = 0 := tx_eq rfl (by decide) c_5
              refine lv_iload_n hx hb dX8_drop_103 rfl (lv_at hl 0 rfl) ?_
              refine lv_iload_n hx hb dX8_drop_104 rfl (lv_at hl 3 rfl) ?_
              refine lv_icmp_ne (tgt := 115) hx hb dX8_drop_105 (by decide) (fun c_6 => ?_) (fun c_6 => ?_)
              ·
                have ic_6 : ¬ ((i2 : Nat) : Int) = ((o : Nat) : Int) := tx_ne (nI_toInt (by omega)) (nI_toInt (by omega)) c_6
                refine lv_iinc (v := nI (i2 + 1)) (lv' := [(3, .int (nI (i2 + 1))), (2, .int (nI e9)), (0, .ref h0), (1, .int (nI o))]) hx hb dX8_drop_115 hl (k := 0) rfl (by rw [show Int32.ofInt 1 = nI 1 from rfl, nI_add]) (by decide) rfl (fun ls hl => ?_)
                refine lv_goto (tgt := 88) hx hb dX8_drop_118 (by decide) ?_
                exact ihB (i2 := i2 + 1) (x8 := nI (i2 + 1)) (ex8 := rfl) (ls := ls) (f1 := f1) (H := H) (locs := locs) (hP := hP.sub (ws' := [(q8, .inl (c8, 16, .inl a8)), (q16, .inl (c16, 16, .inl f16)), (h0, .inr (8, [.int 0, .ref q1, v2, v3, v4, v5, v6, v7, .ref q8, v9, v10, v11, v12, v13, v14, v15, .ref q16])), (q1, .inl (c1, 16, .inl f1))]) [0, 1, 2, 3] rfl) (hS := hS) (hD := hD.sub (ws' := [(q8, .inl (c8, 16, .inl a8)), (q16, .inl (c16, 16, .inl f16)), (h0, .inr (8, [.int 0, .ref q1, v2, v3, v4, v5, v6, v7, .ref q8, v9, v10, v11, v12, v13, v14, v15, .ref q16])), (q1, .inl (c1, 16, .inl f1))]) [0, 1, 2, 3] (by decide) rfl) (hi2 := by omega) (hn2 := by omega) (hv2 := fun j hj => by rw [hv2 j hj]; exact dg_if (fun e => by rw [e]; exact fun h9 => h9.elim (fun h8 => by omega) (fun h8 => absurd (h8.symm.trans (tz_0 ic_5)) (by decide)))) (hl := lv_sub hl [0, 1, 2, 3] rfl)
              ·
                have ic_6 : ((i2 : Nat) : Int) = ((o : Nat) : Int) := tx_eq (nI_toInt (by omega)) (nI_toInt (by omega)) c_6
                refine lv_aload_n hx hb dX8_drop_108 rfl (lv_at hl 2 rfl) ?_
                refine va_get (D := (dC, dI)) (ci := 8) (v := .ref q1) (C := RX8) (T := TX8) (N := 17) hx hb hts hi0_ hown hK hP 2 rfl rfl 1 (by decide) hw2_ (fun _ h9 => h9) rfl dX8_drop_109 ?_
                refine lv_iload_n hx hb dX8_drop_112 rfl (lv_at hl 0 rfl) ?_
                refine lv_iconst (v := 0) hx hb dX8_drop_113 (by decide) ?_
                refine va_iast (i := nI i2) hx hb hK hP hD hS 3 0 rfl rfl (vp_in_nI (by omega) (by omega)) dX8_drop_114 (fun H locs hP hD hS => ?_)
                rw [nI_clamp (by omega)] at hP hD
                replace hP : va_P (dC, dI) vwCl [(q8, .inl (c8, 16, .inl a8)), (q16, .inl (c16, 16, .inl f16)), (h0, .inr (8, [.int 0, .ref q1, v2, v3, v4, v5, v6, v7, .ref q8, v9, v10, v11, v12, v13, v14, v15, .ref q16])), (q1, .inl (c1, 16, .inl (upd f1 i2 0)))] H := hP
                replace hD : va_D A [(q8, .inl (c8, 16, .inl a8)), (q16, .inl (c16, 16, .inl f16)), (h0, .inr (8, [.int 0, .ref q1, v2, v3, v4, v5, v6, v7, .ref q8, v9, v10, v11, v12, v13, v14, v15, .ref q16])), (q1, .inl (c1, 16, .inl (upd f1 i2 0)))] := hD
                refine lv_iinc (v := nI (i2 + 1)) (lv' := [(3, .int (nI (i2 + 1))), (2, .int (nI e9)), (0, .ref h0), (1, .int (nI o))]) hx hb dX8_drop_115 hl (k := 0) rfl (by rw [show Int32.ofInt 1 = nI 1 from rfl, nI_add]) (by decide) rfl (fun ls hl => ?_)
                refine lv_goto (tgt := 88) hx hb dX8_drop_118 (by decide) ?_
                exact ihB (i2 := i2 + 1) (x8 := nI (i2 + 1)) (ex8 := rfl) (ls := ls) (f1 := (upd f1 i2 0)) (H := H) (locs := locs) (hP := hP.sub (ws' := [(q8, .inl (c8, 16, .inl a8)), (q16, .inl (c16, 16, .inl f16)), (h0, .inr (8, [.int 0, .ref q1, v2, v3, v4, v5, v6, v7, .ref q8, v9, v10, v11, v12, v13, v14, v15, .ref q16])), (q1, .inl (c1, 16, .inl (upd f1 i2 0)))]) [0, 1, 2, 3] rfl) (hS := hS) (hD := hD.sub (ws' := [(q8, .inl (c8, 16, .inl a8)), (q16, .inl (c16, 16, .inl f16)), (h0, .inr (8, [.int 0, .ref q1, v2, v3, v4, v5, v6, v7, .ref q8, v9, v10, v11, v12, v13, v14, v15, .ref q16])), (q1, .inl (c1, 16, .inl (upd f1 i2 0)))]) [0, 1, 2, 3] (by decide) rfl) (hi2 := by omega) (hn2 := by omega) (hv2 := fun j hj => by rcases (show j = i2 ∨ j ≠ i2 by omega) with h | h; rw [h, pk_us, if_pos ⟨by omega, Or.inl (by omega)⟩]; rw [pk_un h, hv2 j hj]; exact dg_if (fun e => absurd e h)) (hl := lv_sub hl [0, 1, 2, 3] rfl)
      ·
        have ic_3 : ((i : Nat) : Int) < 16 := tx_nle (by decide) (nI_toInt (by omega)) c_3
        refine lv_aload_n hx hb dX8_drop_29 rfl (lv_at hl 2 rfl) ?_
        refine va_get (D := (dC, dI)) (ci := 8) (v := .ref q16) (C := RX8) (T := TX8) (N := 17) hx hb hts hi0_ hown hK hP 2 rfl rfl 16 (by decide) hw1_ (fun _ h9 => h9) rfl dX8_drop_30 ?_
        refine lv_iload_n hx hb dX8_drop_33 rfl (lv_at hl 0 rfl) ?_
        refine lv_iload_n hx hb dX8_drop_34 rfl (lv_at hl 0 rfl) ?_
        refine lv_iload_n hx hb dX8_drop_35 rfl (lv_at hl 3 rfl) ?_
        refine lv_icmp_eq (tgt := 61) hx hb dX8_drop_36 (by decide) (fun c_7 => ?_) (fun c_7 => ?_)
        ·
          have ic_7 : ((i : Nat) : Int) = ((o : Nat) : Int) := tx_eq (nI_toInt (by omega)) (nI_toInt (by omega)) c_7
          refine lv_iconst (v := 0) hx hb dX8_drop_61 (by decide) ?_
          refine va_zast (i := nI i) hx hb hK hP hD hS 1 2 rfl rfl (vp_in_nI (by omega) (by omega)) dX8_drop_62 (fun H locs hP hD hS => ?_)
          rw [nI_clamp (by omega)] at hP hD
          replace hP : va_P (dC, dI) vwCl [(q8, .inl (c8, 16, .inl a8)), (q16, .inl (c16, 16, .inl (upd f16 i 0))), (h0, .inr (8, [.int 0, .ref q1, v2, v3, v4, v5, v6, v7, .ref q8, v9, v10, v11, v12, v13, v14, v15, .ref q16])), (q1, .inl (c1, 16, .inl a1))] H := hP
          replace hD : va_D A [(q8, .inl (c8, 16, .inl a8)), (q16, .inl (c16, 16, .inl (upd f16 i 0))), (h0, .inr (8, [.int 0, .ref q1, v2, v3, v4, v5, v6, v7, .ref q8, v9, v10, v11, v12, v13, v14, v15, .ref q16])), (q1, .inl (c1, 16, .inl a1))] := hD
          refine lv_iload_n hx hb dX8_drop_63 rfl (lv_at hl 1 rfl) ?_
          refine lv_aload_n hx hb dX8_drop_64 rfl (lv_at hl 2 rfl) ?_
          refine va_get (D := (dC, dI)) (ci := 8) (v := .ref q16) (C := RX8) (T := TX8) (N := 17) hx hb hts hi0_ hown hK hP 2 rfl rfl 16 (by decide) hw1_ (fun _ h9 => h9) rfl dX8_drop_65 ?_
          refine lv_iload_n hx hb dX8_drop_68 rfl (lv_at hl 0 rfl) ?_
          refine va_zald (i := nI i) hx hb hK hP 1 2 rfl rfl (vp_in_nI (by omega) (by omega)) dX8_drop_69 ?_
          refine W.eq (g2 := F0 m 70 ls [.int ((upd f16 i 0) i), .int (nI e9)]) (by rw [nI_clamp (by omega)]) ?_
          refine W.eq (g2 := F0 m 70 ls [.int 0, .int (nI e9)]) (by rw [pk_us]) ?_
          refine lv_if_eq (tgt := 77) hx hb dX8_drop_70 (by decide) (fun c_8 => ?_) (fun c_8 => absurd c_8 (by decide))
          refine lv_iconst (v := 0) hx hb dX8_drop_77 (by decide) ?_
          refine lv_iadd hx hb dX8_drop_78 ?_
          refine lv_topi (fun z_9 ez_9 => ?_)
          obtain rfl : z_9 = nI (e9 + 0) := ez_9.trans (by rw [show (0 : Int32) = nI 0 from rfl, nI_add])
          refine lv_istore_n (lv' := [(2, .int (nI (e9 + 0))), (3, .int (nI i)), (0, .ref h0), (1, .int (nI o))]) hx hb dX8_drop_79 rfl hl (by decide) rfl (fun ls hl => ?_)
          refine lv_iinc (v := nI (i + 1)) (lv' := [(3, .int (nI (i + 1))), (2, .int (nI (e9 + 0))), (0, .ref h0), (1, .int (nI o))]) hx hb dX8_drop_80 hl (k := 1) rfl (by rw [show Int32.ofInt 1 = nI 1 from rfl, nI_add]) (by decide) rfl (fun ls hl => ?_)
          refine lv_goto (tgt := 23) hx hb dX8_drop_83 (by decide) ?_
          have hdg : dgB a1 a8 o i = false := dg_o ic_7
          exact ih (i := i + 1) (x9 := nI (i + 1)) (ex9 := rfl) (e9 := e9 + 0) (y9 := nI (e9 + 0)) (ey9 := rfl) (ls := ls) (f16 := (upd f16 i 0)) (H := H) (locs := locs) (hP := hP.sub (ws' := [(q8, .inl (c8, 16, .inl a8)), (q16, .inl (c16, 16, .inl (upd f16 i 0))), (h0, .inr (8, [.int 0, .ref q1, v2, v3, v4, v5, v6, v7, .ref q8, v9, v10, v11, v12, v13, v14, v15, .ref q16])), (q1, .inl (c1, 16, .inl a1))]) [0, 1, 2, 3] rfl) (hS := hS) (hD := hD.sub (ws' := [(q8, .inl (c8, 16, .inl a8)), (q16, .inl (c16, 16, .inl (upd f16 i 0))), (h0, .inr (8, [.int 0, .ref q1, v2, v3, v4, v5, v6, v7, .ref q8, v9, v10, v11, v12, v13, v14, v15, .ref q16])), (q1, .inl (c1, 16, .inl a1))]) [0, 1, 2, 3] (by decide) rfl) (hi9 := by omega) (hn9 := by omega) (he9 := by rw [cnt_f hdg]; omega) (hv9 := fun j hj => by rcases (show j < i ∨ j = i by omega) with h | h; exact (pk_un (by omega)).trans (hv9 j h); rw [h, pk_us, hdg]; rfl) (hl := lv_sub hl [0, 1, 2, 3] rfl)
        ·
          have ic_7 : ¬ ((i : Nat) : Int) = ((o : Nat) : Int) := tx_ne (nI_toInt (by omega)) (nI_toInt (by omega)) c_7
          refine lv_aload_n hx hb dX8_drop_39 rfl (lv_at hl 2 rfl) ?_
          refine va_get (D := (dC, dI)) (ci := 8) (v := .ref q1) (C := RX8) (T := TX8) (N := 17) hx hb hts hi0_ hown hK hP 2 rfl rfl 1 (by decide) hw2_ (fun _ h9 => h9) rfl dX8_drop_40 ?_
          refine lv_iload_n hx hb dX8_drop_43 rfl (lv_at hl 0 rfl) ?_
          refine va_iald (i := nI i) hx hb hK hP 3 0 rfl rfl (vp_in_nI (by omega) (by omega)) dX8_drop_44 ?_
          refine W.eq (g2 := F0 m 45 ls [.int (a1 i), .int (nI i), .ref q16]) (by rw [nI_clamp (by omega)]) ?_
          refine lv_if_eq (tgt := 61) hx hb dX8_drop_45 (by decide) (fun c_10 => ?_) (fun c_10 => ?_)
          ·
            have ic_10 : (a1 i).toInt = 0 := tx_eq rfl (by decide) c_10
            refine lv_iconst (v := 0) hx hb dX8_drop_61 (by decide) ?_
            refine va_zast (i := nI i) hx hb hK hP hD hS 1 2 rfl rfl (vp_in_nI (by omega) (by omega)) dX8_drop_62 (fun H locs hP hD hS => ?_)
            rw [nI_clamp (by omega)] at hP hD
            replace hP : va_P (dC, dI) vwCl [(q8, .inl (c8, 16, .inl a8)), (q16, .inl (c16, 16, .inl (upd f16 i 0))), (h0, .inr (8, [.int 0, .ref q1, v2, v3, v4, v5, v6, v7, .ref q8, v9, v10, v11, v12, v13, v14, v15, .ref q16])), (q1, .inl (c1, 16, .inl a1))] H := hP
            replace hD : va_D A [(q8, .inl (c8, 16, .inl a8)), (q16, .inl (c16, 16, .inl (upd f16 i 0))), (h0, .inr (8, [.int 0, .ref q1, v2, v3, v4, v5, v6, v7, .ref q8, v9, v10, v11, v12, v13, v14, v15, .ref q16])), (q1, .inl (c1, 16, .inl a1))] := hD
            refine lv_iload_n hx hb dX8_drop_63 rfl (lv_at hl 1 rfl) ?_
            refine lv_aload_n hx hb dX8_drop_64 rfl (lv_at hl 2 rfl) ?_
            refine va_get (D := (dC, dI)) (ci := 8) (v := .ref q16) (C := RX8) (T := TX8) (N := 17) hx hb hts hi0_ hown hK hP 2 rfl rfl 16 (by decide) hw1_ (fun _ h9 => h9) rfl dX8_drop_65 ?_
            refine lv_iload_n hx hb dX8_drop_68 rfl (lv_at hl 0 rfl) ?_
            refine va_zald (i := nI i) hx hb hK hP 1 2 rfl rfl (vp_in_nI (by omega) (by omega)) dX8_drop_69 ?_
            refine W.eq (g2 := F0 m 70 ls [.int ((upd f16 i 0) i), .int (nI e9)]) (by rw [nI_clamp (by omega)]) ?_
            refine W.eq (g2 := F0 m 70 ls [.int 0, .int (nI e9)]) (by rw [pk_us]) ?_
            refine lv_if_eq (tgt := 77) hx hb dX8_drop_70 (by decide) (fun c_11 => ?_) (fun c_11 => absurd c_11 (by decide))
            refine lv_iconst (v := 0) hx hb dX8_drop_77 (by decide) ?_
            refine lv_iadd hx hb dX8_drop_78 ?_
            refine lv_topi (fun z_12 ez_12 => ?_)
            obtain rfl : z_12 = nI (e9 + 0) := ez_12.trans (by rw [show (0 : Int32) = nI 0 from rfl, nI_add])
            refine lv_istore_n (lv' := [(2, .int (nI (e9 + 0))), (3, .int (nI i)), (0, .ref h0), (1, .int (nI o))]) hx hb dX8_drop_79 rfl hl (by decide) rfl (fun ls hl => ?_)
            refine lv_iinc (v := nI (i + 1)) (lv' := [(3, .int (nI (i + 1))), (2, .int (nI (e9 + 0))), (0, .ref h0), (1, .int (nI o))]) hx hb dX8_drop_80 hl (k := 1) rfl (by rw [show Int32.ofInt 1 = nI 1 from rfl, nI_add]) (by decide) rfl (fun ls hl => ?_)
            refine lv_goto (tgt := 23) hx hb dX8_drop_83 (by decide) ?_
            have hdg : dgB a1 a8 o i = false := dg_0 ic_10
            exact ih (i := i + 1) (x9 := nI (i + 1)) (ex9 := rfl) (e9 := e9 + 0) (y9 := nI (e9 + 0)) (ey9 := rfl) (ls := ls) (f16 := (upd f16 i 0)) (H := H) (locs := locs) (hP := hP.sub (ws' := [(q8, .inl (c8, 16, .inl a8)), (q16, .inl (c16, 16, .inl (upd f16 i 0))), (h0, .inr (8, [.int 0, .ref q1, v2, v3, v4, v5, v6, v7, .ref q8, v9, v10, v11, v12, v13, v14, v15, .ref q16])), (q1, .inl (c1, 16, .inl a1))]) [0, 1, 2, 3] rfl) (hS := hS) (hD := hD.sub (ws' := [(q8, .inl (c8, 16, .inl a8)), (q16, .inl (c16, 16, .inl (upd f16 i 0))), (h0, .inr (8, [.int 0, .ref q1, v2, v3, v4, v5, v6, v7, .ref q8, v9, v10, v11, v12, v13, v14, v15, .ref q16])), (q1, .inl (c1, 16, .inl a1))]) [0, 1, 2, 3] (by decide) rfl) (hi9 := by omega) (hn9 := by omega) (he9 := by rw [cnt_f hdg]; omega) (hv9 := fun j hj => by rcases (show j < i ∨ j = i by omega) with h | h; exact (pk_un (by omega)).trans (hv9 j h); rw [h, pk_us, hdg]; rfl) (hl := lv_sub hl [0, 1, 2, 3] rfl)
          ·
            have ic_10 : ¬ (a1 i).toInt = 0 := tx_ne rfl (by decide) c_10
            refine lv_aload_n hx hb dX8_drop_48 rfl (lv_at hl 2 rfl) ?_
            refine lv_iload_n hx hb dX8_drop_49 rfl (lv_at hl 0 rfl) ?_
            refine lv_iload_n hx hb dX8_drop_50 rfl (lv_at hl 3 rfl) ?_
            have hPc := hP.sub (ws' := [(h0, .inr (8, [.int 0, .ref q1, v2, v3, v4, v5, v6, v7, .ref q8, v9, v10, v11, v12, v13, v14, v15, .ref q16])), (q1, .inl (c1, 16, .inl a1)), (q8, .inl (c8, 16, .inl a8))]) [2, 3, 0] rfl
            have hDc := hD.sub (ws' := [(h0, .inr (8, [.int 0, .ref q1, v2, v3, v4, v5, v6, v7, .ref q8, v9, v10, v11, v12, v13, v14, v15, .ref q16])), (q1, .inl (c1, 16, .inl a1)), (q8, .inl (c8, 16, .inl a8))]) [2, 3, 0] (by decide) rfl
            have hKc := hK.sub (tys' := [(c1, .int), (c8, .int)]) [0, 1] rfl
            have hFc := va_free (wc := [(h0, .inr (8, [.int 0, .ref q1, v2, v3, v4, v5, v6, v7, .ref q8, v9, v10, v11, v12, v13, v14, v15, .ref q16])), (q1, .inl (c1, 16, .inl a1)), (q8, .inl (c8, 16, .inl a8))]) hD hS hA [2, 3, 0] rfl
            refine va_calli (va_runV (As := [.int (nI i), .int (nI o)]) (rest := [.int (nI i), .ref q16]) ⟨hx, hb, hml, hown, hts⟩ (c_X8_hangsOn l  dC dI H.size h0 0 q1 q8 c1 c8 a1 a8 v2 v3 v4 v5 v6 v7 v9 v10 v11 v12 v13 v14 v15 (.ref q16) i dep (nI o) (by omega) hF9 (hda i (by omega))) (cwV 2 hts gX8_drop_X8_hangsOn rfl rfl rfl (by decide +kernel) ⟨(Nat.le_of_ble_eq_true rfl), (Nat.le_of_ble_eq_true rfl)⟩) ⟨pk_blind, va_recv hKc hPc (ci := 8) (q0 := 0) rfl rfl, pk_call hPc hKc hDc⟩ rfl rfl hl.1 rfl (lv_room (Nat.le_of_ble_eq_true rfl)) dX8_drop_51 ⟨(Nat.le_of_ble_eq_true rfl), (Nat.le_of_ble_eq_true rfl)⟩) hS (fun q _ h => hFc q h) hFc (fun r_13 ur_13 t H1 locs ht hvm hw hB hz1 hk1 hS => ?_)
            try dsimp only at hw
            have jr_13 := hw
            obtain ⟨hP1, hK1, hD1⟩ := hB
            rw [ht] at hP1
            have hK1 := va_K.moved hvm.symm hK1
            obtain ⟨hP, hD⟩ := va_join (wr := [(q16, .inl (c16, 16, .inl f16))]) (w1 := [(h0, .inr (8, [.int 0, .ref q1, v2, v3, v4, v5, v6, v7, .ref q8, v9, v10, v11, v12, v13, v14, v15, .ref q16])), (q1, .inl (c1, 16, .inl a1)), (q8, .inl (c8, 16, .inl a8))]) hP hD [2, 3, 0] [1] rfl rfl (by decide) (by decide) hk1 hFc hP1 hD1
            clear hk1 hz1 ht hPc hDc hKc hFc
            generalize H1 = H at hP hS ⊢
            replace hP : va_P (dC, dI) vwCl [(q16, .inl (c16, 16, .inl f16)), (h0, .inr (8, [.int 0, .ref q1, v2, v3, v4, v5, v6, v7, .ref q8, v9, v10, v11, v12, v13, v14, v15, .ref q16])), (q1, .inl (c1, 16, .inl a1)), (q8, .inl (c8, 16, .inl a8))] H := hP
            replace hD : va_D A [(q16, .inl (c16, 16, .inl f16)), (h0, .inr (8, [.int 0, .ref q1, v2, v3, v4, v5, v6, v7, .ref q8, v9, v10, v11, v12, v13, v14, v15, .ref q16])), (q1, .inl (c1, 16, .inl a1)), (q8, .inl (c8, 16, .inl a8))] := hD
            refine W.widen (k := 0) (n := 0) (Nat.le_of_ble_eq_true rfl) (Nat.le_of_ble_eq_true rfl) ?_
            refine W.eq (g2 := F0 m 54 ls [.int r_13, .int (nI i), .ref q16]) rfl ?_
            refine lv_if_eq (tgt := 61) hx hb dX8_drop_54 (by decide) (fun c_14 => ?_) (fun c_14 => ?_)
            ·
              have ic_14 : r_13.toInt = 0 := tx_eq rfl (by decide) c_14
              refine lv_iconst (v := 0) hx hb dX8_drop_61 (by decide) ?_
              refine va_zast (i := nI i) hx hb hK hP hD hS 0 2 rfl rfl (vp_in_nI (by omega) (by omega)) dX8_drop_62 (fun H locs hP hD hS => ?_)
              rw [nI_clamp (by omega)] at hP hD
              replace hP : va_P (dC, dI) vwCl [(q16, .inl (c16, 16, .inl (upd f16 i 0))), (h0, .inr (8, [.int 0, .ref q1, v2, v3, v4, v5, v6, v7, .ref q8, v9, v10, v11, v12, v13, v14, v15, .ref q16])), (q1, .inl (c1, 16, .inl a1)), (q8, .inl (c8, 16, .inl a8))] H := hP
              replace hD : va_D A [(q16, .inl (c16, 16, .inl (upd f16 i 0))), (h0, .inr (8, [.int 0, .ref q1, v2, v3, v4, v5, v6, v7, .ref q8, v9, v10, v11, v12, v13, v14, v15, .ref q16])), (q1, .inl (c1, 16, .inl a1)), (q8, .inl (c8, 16, .inl a8))] := hD
              refine lv_iload_n hx hb dX8_drop_63 rfl (lv_at hl 1 rfl) ?_
              refine lv_aload_n hx hb dX8_drop_64 rfl (lv_at hl 2 rfl) ?_
              refine va_get (D := (dC, dI)) (ci := 8) (v := .ref q16) (C := RX8) (T := TX8) (N := 17) hx hb hts hi0_ hown hK hP 1 rfl rfl 16 (by decide) hw1_ (fun _ h9 => h9) rfl dX8_drop_65 ?_
              refine lv_iload_n hx hb dX8_drop_68 rfl (lv_at hl 0 rfl) ?_
              refine va_zald (i := nI i) hx hb hK hP 0 2 rfl rfl (vp_in_nI (by omega) (by omega)) dX8_drop_69 ?_
              refine W.eq (g2 := F0 m 70 ls [.int ((upd f16 i 0) i), .int (nI e9)]) (by rw [nI_clamp (by omega)]) ?_
              refine W.eq (g2 := F0 m 70 ls [.int 0, .int (nI e9)]) (by rw [pk_us]) ?_
              refine lv_if_eq (tgt := 77) hx hb dX8_drop_70 (by decide) (fun c_15 => ?_) (fun c_15 => absurd c_15 (by decide))
              refine lv_iconst (v := 0) hx hb dX8_drop_77 (by decide) ?_
              refine lv_iadd hx hb dX8_drop_78 ?_
              refine lv_topi (fun z_16 ez_16 => ?_)
              obtain rfl : z_16 = nI (e9 + 0) := ez_16.trans (by rw [show (0 : Int32) = nI 0 from rfl, nI_add])
              refine lv_istore_n (lv' := [(2, .int (nI (e9 + 0))), (3, .int (nI i)), (0, .ref h0), (1, .int (nI o))]) hx hb dX8_drop_79 rfl hl (by decide) rfl (fun ls hl => ?_)
              refine lv_iinc (v := nI (i + 1)) (lv' := [(3, .int (nI (i + 1))), (2, .int (nI (e9 + 0))), (0, .ref h0), (1, .int (nI o))]) hx hb dX8_drop_80 hl (k := 1) rfl (by rw [show Int32.ofInt 1 = nI 1 from rfl, nI_add]) (by decide) rfl (fun ls hl => ?_)
              refine lv_goto (tgt := 23) hx hb dX8_drop_83 (by decide) ?_
              have hdg : dgB a1 a8 o i = false := dg_n ic_7 jr_13 ic_14
              exact ih (i := i + 1) (x9 := nI (i + 1)) (ex9 := rfl) (e9 := e9 + 0) (y9 := nI (e9 + 0)) (ey9 := rfl) (ls := ls) (f16 := (upd f16 i 0)) (H := H) (locs := locs) (hP := hP.sub (ws' := [(q8, .inl (c8, 16, .inl a8)), (q16, .inl (c16, 16, .inl (upd f16 i 0))), (h0, .inr (8, [.int 0, .ref q1, v2, v3, v4, v5, v6, v7, .ref q8, v9, v10, v11, v12, v13, v14, v15, .ref q16])), (q1, .inl (c1, 16, .inl a1))]) [3, 0, 1, 2] rfl) (hS := hS) (hD := hD.sub (ws' := [(q8, .inl (c8, 16, .inl a8)), (q16, .inl (c16, 16, .inl (upd f16 i 0))), (h0, .inr (8, [.int 0, .ref q1, v2, v3, v4, v5, v6, v7, .ref q8, v9, v10, v11, v12, v13, v14, v15, .ref q16])), (q1, .inl (c1, 16, .inl a1))]) [3, 0, 1, 2] (by decide) rfl) (hi9 := by omega) (hn9 := by omega) (he9 := by rw [cnt_f hdg]; omega) (hv9 := fun j hj => by rcases (show j < i ∨ j = i by omega) with h | h; exact (pk_un (by omega)).trans (hv9 j h); rw [h, pk_us, hdg]; rfl) (hl := lv_sub hl [0, 1, 2, 3] rfl)
            ·
              have ic_14 : ¬ r_13.toInt = 0 := tx_ne rfl (by decide) c_14
              refine lv_iconst (v := 1) hx hb dX8_drop_57 (by decide) ?_
              refine lv_goto (tgt := 62) hx hb dX8_drop_58 (by decide) ?_
              refine va_zast (i := nI i) hx hb hK hP hD hS 0 2 rfl rfl (vp_in_nI (by omega) (by omega)) dX8_drop_62 (fun H locs hP hD hS => ?_)
              rw [nI_clamp (by omega)] at hP hD
              replace hP : va_P (dC, dI) vwCl [(q16, .inl (c16, 16, .inl (upd f16 i 1))), (h0, .inr (8, [.int 0, .ref q1, v2, v3, v4, v5, v6, v7, .ref q8, v9, v10, v11, v12, v13, v14, v15, .ref q16])), (q1, .inl (c1, 16, .inl a1)), (q8, .inl (c8, 16, .inl a8))] H := hP
              replace hD : va_D A [(q16, .inl (c16, 16, .inl (upd f16 i 1))), (h0, .inr (8, [.int 0, .ref q1, v2, v3, v4, v5, v6, v7, .ref q8, v9, v10, v11, v12, v13, v14, v15, .ref q16])), (q1, .inl (c1, 16, .inl a1)), (q8, .inl (c8, 16, .inl a8))] := hD
              refine lv_iload_n hx hb dX8_drop_63 rfl (lv_at hl 1 rfl) ?_
              refine lv_aload_n hx hb dX8_drop_64 rfl (lv_at hl 2 rfl) ?_
              refine va_get (D := (dC, dI)) (ci := 8) (v := .ref q16) (C := RX8) (T := TX8) (N := 17) hx hb hts hi0_ hown hK hP 1 rfl rfl 16 (by decide) hw1_ (fun _ h9 => h9) rfl dX8_drop_65 ?_
              refine lv_iload_n hx hb dX8_drop_68 rfl (lv_at hl 0 rfl) ?_
              refine va_zald (i := nI i) hx hb hK hP 0 2 rfl rfl (vp_in_nI (by omega) (by omega)) dX8_drop_69 ?_
              refine W.eq (g2 := F0 m 70 ls [.int ((upd f16 i 1) i), .int (nI e9)]) (by rw [nI_clamp (by omega)]) ?_
              refine W.eq (g2 := F0 m 70 ls [.int 1, .int (nI e9)]) (by rw [pk_us]) ?_
              refine lv_if_eq (tgt := 77) hx hb dX8_drop_70 (by decide) (fun c_17 => absurd c_17 (by decide)) (fun c_17 => ?_)
              refine lv_iconst (v := 1) hx hb dX8_drop_73 (by decide) ?_
              refine lv_goto (tgt := 78) hx hb dX8_drop_74 (by decide) ?_
              refine lv_iadd hx hb dX8_drop_78 ?_
              refine lv_topi (fun z_18 ez_18 => ?_)
              obtain rfl : z_18 = nI (e9 + 1) := ez_18.trans (by rw [show (1 : Int32) = nI 1 from rfl, nI_add])
              refine lv_istore_n (lv' := [(2, .int (nI (e9 + 1))), (3, .int (nI i)), (0, .ref h0), (1, .int (nI o))]) hx hb dX8_drop_79 rfl hl (by decide) rfl (fun ls hl => ?_)
              refine lv_iinc (v := nI (i + 1)) (lv' := [(3, .int (nI (i + 1))), (2, .int (nI (e9 + 1))), (0, .ref h0), (1, .int (nI o))]) hx hb dX8_drop_80 hl (k := 1) rfl (by rw [show Int32.ofInt 1 = nI 1 from rfl, nI_add]) (by decide) rfl (fun ls hl => ?_)
              refine lv_goto (tgt := 23) hx hb dX8_drop_83 (by decide) ?_
              have hdg : dgB a1 a8 o i = true := dg_y ic_7 jr_13 ic_14
              exact ih (i := i + 1) (x9 := nI (i + 1)) (ex9 := rfl) (e9 := e9 + 1) (y9 := nI (e9 + 1)) (ey9 := rfl) (ls := ls) (f16 := (upd f16 i 1)) (H := H) (locs := locs) (hP := hP.sub (ws' := [(q8, .inl (c8, 16, .inl a8)), (q16, .inl (c16, 16, .inl (upd f16 i 1))), (h0, .inr (8, [.int 0, .ref q1, v2, v3, v4, v5, v6, v7, .ref q8, v9, v10, v11, v12, v13, v14, v15, .ref q16])), (q1, .inl (c1, 16, .inl a1))]) [3, 0, 1, 2] rfl) (hS := hS) (hD := hD.sub (ws' := [(q8, .inl (c8, 16, .inl a8)), (q16, .inl (c16, 16, .inl (upd f16 i 1))), (h0, .inr (8, [.int 0, .ref q1, v2, v3, v4, v5, v6, v7, .ref q8, v9, v10, v11, v12, v13, v14, v15, .ref q16])), (q1, .inl (c1, 16, .inl a1))]) [3, 0, 1, 2] (by decide) rfl) (hi9 := by omega) (hn9 := by omega) (he9 := by rw [cnt_t hdg]; omega) (hv9 := fun j hj => by rcases (show j < i ∨ j = i by omega) with h | h; exact (pk_un (by omega)).trans (hv9 j h); rw [h, pk_us, hdg]; rfl) (hl := lv_sub hl [0, 1, 2, 3] rfl)
  ·
    have ic_2 : r_1.toInt = 0 := tx_eq rfl (by decide) c_2
    refine lv_aload_n hx hb dX8_drop_8 rfl (lv_at hl 0 rfl) ?_
    refine lv_iconst (v := 1) hx hb dX8_drop_9 (by decide) ?_
    have hPc := hP.sub (ws' := [(h0, .inr (8, [.int th, .ref q1, v2, v3, v4, v5, v6, v7, .ref q8, v9, v10, v11, v12, v13, v14, v15, .ref q16]))]) [2] rfl
    have hDc := hD.sub (ws' := [(h0, .inr (8, [.int th, .ref q1, v2, v3, v4, v5, v6, v7, .ref q8, v9, v10, v11, v12, v13, v14, v15, .ref q16]))]) [2] (by decide) rfl
    have hKc := hK.sub (tys' := []) [] rfl
    have hFc := va_free (wc := [(h0, .inr (8, [.int th, .ref q1, v2, v3, v4, v5, v6, v7, .ref q8, v9, v10, v11, v12, v13, v14, v15, .ref q16]))]) hD hS hA [2] rfl
    refine va_calli (va_runV (As := [.int 1]) (rest := []) ⟨hx, hb, hml, hown, hts⟩ (c_X8_refuse l  dC dI H.size h0 th (.ref q1) v2 v3 v4 v5 v6 v7 (.ref q8) v9 v10 v11 v12 v13 v14 v15 (.ref q16) 1) (cwV 1 hts gX8_drop_X8_refuse rfl rfl rfl (by decide +kernel) ⟨(Nat.le_of_ble_eq_true rfl), (Nat.le_of_ble_eq_true rfl)⟩) ⟨pk_blind, va_recv hKc hPc (ci := 8) (q0 := 0) rfl rfl, pk_call hPc hKc hDc⟩ rfl rfl hl.1 rfl (lv_room (Nat.le_of_ble_eq_true rfl)) dX8_drop_10 ⟨(Nat.le_of_ble_eq_true rfl), (Nat.le_of_ble_eq_true rfl)⟩) hS (fun q _ h => hFc q h) hFc (fun r_19 ur_19 t H1 locs ht hvm hw hB hz1 hk1 hS => ?_)
    try dsimp only at hw
    obtain ⟨hP1, hK1, hD1⟩ := hB
    rw [ht] at hP1
    have hK1 := va_K.moved hvm.symm hK1
    obtain ⟨hP, hD⟩ := va_join (wr := [(q8, .inl (c8, 16, .inl a8)), (q16, .inl (c16, 16, .inl a16)), (q1, .inl (c1, 16, .inl a1))]) (w1 := [(h0, .inr (8, [.int 1, .ref q1, v2, v3, v4, v5, v6, v7, .ref q8, v9, v10, v11, v12, v13, v14, v15, .ref q16]))]) hP hD [2] [0, 1, 3] rfl rfl (by decide) (by decide) hk1 hFc hP1 hD1
    clear hk1 hz1 ht hPc hDc hKc hFc
    generalize H1 = H at hP hS ⊢
    replace hP : va_P (dC, dI) vwCl [(q8, .inl (c8, 16, .inl a8)), (q16, .inl (c16, 16, .inl a16)), (q1, .inl (c1, 16, .inl a1)), (h0, .inr (8, [.int 1, .ref q1, v2, v3, v4, v5, v6, v7, .ref q8, v9, v10, v11, v12, v13, v14, v15, .ref q16]))] H := hP
    replace hD : va_D A [(q8, .inl (c8, 16, .inl a8)), (q16, .inl (c16, 16, .inl a16)), (q1, .inl (c1, 16, .inl a1)), (h0, .inr (8, [.int 1, .ref q1, v2, v3, v4, v5, v6, v7, .ref q8, v9, v10, v11, v12, v13, v14, v15, .ref q16]))] := hD
    refine W.widen (k := 0) (n := 0) (Nat.le_of_ble_eq_true rfl) (Nat.le_of_ble_eq_true rfl) ?_
    obtain rfl : r_19 = 0 := hw
    refine W.eq (g2 := F0 m 13 ls [.int 0]) rfl ?_
    have hP9 := hP.sub (ws' := [(h0, .inr (8, [.int 1, .ref q1, v2, v3, v4, v5, v6, v7, .ref q8, v9, v10, v11, v12, v13, v14, v15, .ref q16])), (q1, .inl (c1, 16, .inl a1)), (q8, .inl (c8, 16, .inl a8)), (q16, .inl (c16, 16, .inl a16))]) [3, 2, 0, 1] rfl
    have hD9 := hD.sub (ws' := [(h0, .inr (8, [.int 1, .ref q1, v2, v3, v4, v5, v6, v7, .ref q8, v9, v10, v11, v12, v13, v14, v15, .ref q16])), (q1, .inl (c1, 16, .inl a1)), (q8, .inl (c8, 16, .inl a8)), (q16, .inl (c16, 16, .inl a16))]) [3, 2, 0, 1] (by decide) rfl
    have hK9 := hK.sub (tys' := [(c1, .int), (c8, .int), (c16, .boolean)]) [0, 1, 2] rfl
    refine W.widen (k := 0) (n := 0) (Nat.le_of_ble_eq_true rfl) (Nat.le_of_ble_eq_true rfl) ?_
    exact W.iret (v := 0) hx hb hr (fun t ht hW => ⟨⟨0, (1, a1, a16), rfl, Or.inl ⟨rfl, rfl, rfl, (jr_1.resolve_left (fun h => absurd ic_2 (by rw [h.1]; decide))).2⟩, by rw [ht]; exact hP9, va_K.moved hW.alike hK9, hD9⟩, hS.F ht⟩) hS.2.2 dX8_drop_13
