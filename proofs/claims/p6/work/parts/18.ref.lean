theorem dX8_cleared_0 : decode cX8_cleared 0 = .ok (.aload_n 0, 1) := by decide +kernel
theorem dX8_cleared_1 : decode cX8_cleared 1 = .ok (.iload_n 1, 1) := by decide +kernel
set_option maxRecDepth 20000 in
theorem ggX8_cleared_X8_root : GoodIn wsX8_cleared wsX8_root := goodIn_r _ [10, 3, 11, 53, 54, 55, 56, 57, 58, 59, 60, 61, 62, 63, 64, 65, 66, 67, 68, 69] rfl (by decide +kernel)
set_option maxRecDepth 20000 in
theorem gX8_cleared_X8_root : GoodIn wsX8_cleared (wsV RX8 95 RX8 yX8_root wsX8_root) := goodIn_app (goodIn_of _ (by decide +kernel)) ggX8_cleared_X8_root
theorem dX8_cleared_2 : decode cX8_cleared 2 = .ok (.invokevirtual 95, 3) := by decide +kernel
theorem dX8_cleared_5 : decode cX8_cleared 5 = .ok (.istore_n 2, 1) := by decide +kernel
theorem dX8_cleared_6 : decode cX8_cleared 6 = .ok (.aload_n 0, 1) := by decide +kernel
theorem dX8_cleared_7 : decode cX8_cleared 7 = .ok (.iload_n 1, 1) := by decide +kernel
set_option maxRecDepth 20000 in
theorem ggX8_cleared_X8_entries : GoodIn wsX8_cleared wsX8_entries := goodIn_r _ [15, 1, 6, 7, 8, 9, 10, 3, 11, 16, 17, 18, 19, 5, 20, 21, 22, 23, 24, 25, 26, 27, 28, 29, 30, 31, 32, 33, 34, 35, 36, 37, 38, 39, 40, 41, 42, 43, 44, 53, 54, 55, 56, 57, 58, 59, 60, 61, 62, 63, 64, 65, 66, 67, 68, 69] rfl (by decide +kernel)
set_option maxRecDepth 20000 in
theorem gX8_cleared_X8_entries : GoodIn wsX8_cleared (wsV RX8 158 RX8 yX8_entries wsX8_entries) := goodIn_app (goodIn_of _ (by decide +kernel)) ggX8_cleared_X8_entries
theorem dX8_cleared_8 : decode cX8_cleared 8 = .ok (.invokevirtual 158, 3) := by decide +kernel
theorem dX8_cleared_11 : decode cX8_cleared 11 = .ok (.istore_n 3, 1) := by decide +kernel
theorem dX8_cleared_12 : decode cX8_cleared 12 = .ok (.iload_n 3, 1) := by decide +kernel
theorem dX8_cleared_13 : decode cX8_cleared 13 = .ok (.ifCond .ne 5, 3) := by decide +kernel
theorem dX8_cleared_18 : decode cX8_cleared 18 = .ok (.iconst 0, 1) := by decide +kernel
theorem dX8_cleared_19 : decode cX8_cleared 19 = .ok (.istore 4, 2) := by decide +kernel
theorem dX8_cleared_21 : decode cX8_cleared 21 = .ok (.iconst 0, 1) := by decide +kernel
theorem dX8_cleared_22 : decode cX8_cleared 22 = .ok (.istore 5, 2) := by decide +kernel
theorem dX8_cleared_24 : decode cX8_cleared 24 = .ok (.iload 5, 2) := by decide +kernel
theorem dX8_cleared_26 : decode cX8_cleared 26 = .ok (.aload_n 0, 1) := by decide +kernel
theorem dX8_cleared_27 : decode cX8_cleared 27 = .ok (.getfield 17, 3) := by decide +kernel
theorem dX8_cleared_30 : decode cX8_cleared 30 = .ok (.iload_n 2, 1) := by decide +kernel
theorem dX8_cleared_31 : decode cX8_cleared 31 = .ok (.iaload, 1) := by decide +kernel
theorem dX8_cleared_32 : decode cX8_cleared 32 = .ok (.if_icmp .ge 51, 3) := by decide +kernel
theorem dX8_cleared_83 : decode cX8_cleared 83 = .ok (.aload_n 0, 1) := by decide +kernel
theorem dX8_cleared_84 : decode cX8_cleared 84 = .ok (.getfield 17, 3) := by decide +kernel
theorem dX8_cleared_87 : decode cX8_cleared 87 = .ok (.iload_n 2, 1) := by decide +kernel
theorem dX8_cleared_88 : decode cX8_cleared 88 = .ok (.iload 4, 2) := by decide +kernel
theorem dX8_cleared_90 : decode cX8_cleared 90 = .ok (.iastore, 1) := by decide +kernel
theorem dX8_cleared_91 : decode cX8_cleared 91 = .ok (.aload_n 0, 1) := by decide +kernel
theorem dX8_cleared_92 : decode cX8_cleared 92 = .ok (.getfield 29, 3) := by decide +kernel
theorem dX8_cleared_95 : decode cX8_cleared 95 = .ok (.iload_n 2, 1) := by decide +kernel
theorem dX8_cleared_96 : decode cX8_cleared 96 = .ok (.dup2, 1) := by decide +kernel
theorem dX8_cleared_97 : decode cX8_cleared 97 = .ok (.iaload, 1) := by decide +kernel
theorem dX8_cleared_98 : decode cX8_cleared 98 = .ok (.iconst 1, 1) := by decide +kernel
theorem dX8_cleared_99 : decode cX8_cleared 99 = .ok (.iadd, 1) := by decide +kernel
theorem dX8_cleared_100 : decode cX8_cleared 100 = .ok (.iastore, 1) := by decide +kernel
theorem dX8_cleared_101 : decode cX8_cleared 101 = .ok (.aload_n 0, 1) := by decide +kernel
theorem dX8_cleared_102 : decode cX8_cleared 102 = .ok (.getfield 7, 3) := by decide +kernel
theorem dX8_cleared_105 : decode cX8_cleared 105 = .ok (.iload_n 2, 1) := by decide +kernel
theorem dX8_cleared_106 : decode cX8_cleared 106 = .ok (.iaload, 1) := by decide +kernel
theorem dX8_cleared_107 : decode cX8_cleared 107 = .ok (.iconst 1, 1) := by decide +kernel
theorem dX8_cleared_108 : decode cX8_cleared 108 = .ok (.if_icmp .ne 41, 3) := by decide +kernel
theorem dX8_cleared_149 : decode cX8_cleared 149 = .ok (.iload_n 3, 1) := by decide +kernel
theorem dX8_cleared_150 : decode cX8_cleared 150 = .ok (.i2l, 1) := by decide +kernel
theorem dX8_cleared_151 : decode cX8_cleared 151 = .ok (.lreturn, 1) := by decide +kernel
theorem dX8_cleared_111 : decode cX8_cleared 111 = .ok (.iconst 0, 1) := by decide +kernel
theorem dX8_cleared_112 : decode cX8_cleared 112 = .ok (.istore 5, 2) := by decide +kernel
theorem dX8_cleared_114 : decode cX8_cleared 114 = .ok (.iload 5, 2) := by decide +kernel
theorem dX8_cleared_116 : decode cX8_cleared 116 = .ok (.aload_n 0, 1) := by decide +kernel
theorem dX8_cleared_117 : decode cX8_cleared 117 = .ok (.getfield 26, 3) := by decide +kernel
theorem dX8_cleared_120 : decode cX8_cleared 120 = .ok (.iload_n 2, 1) := by decide +kernel
theorem dX8_cleared_121 : decode cX8_cleared 121 = .ok (.iaload, 1) := by decide +kernel
theorem dX8_cleared_122 : decode cX8_cleared 122 = .ok (.if_icmp .ge 27, 3) := by decide +kernel
theorem dX8_cleared_125 : decode cX8_cleared 125 = .ok (.aload_n 0, 1) := by decide +kernel
theorem dX8_cleared_126 : decode cX8_cleared 126 = .ok (.getfield 14, 3) := by decide +kernel
theorem dX8_cleared_129 : decode cX8_cleared 129 = .ok (.sipush 4200, 3) := by decide +kernel
theorem dX8_cleared_132 : decode cX8_cleared 132 = .ok (.iload_n 2, 1) := by decide +kernel
theorem dX8_cleared_133 : decode cX8_cleared 133 = .ok (.imul, 1) := by decide +kernel
theorem dX8_cleared_134 : decode cX8_cleared 134 = .ok (.sipush 2000, 3) := by decide +kernel
theorem dX8_cleared_137 : decode cX8_cleared 137 = .ok (.iadd, 1) := by decide +kernel
theorem dX8_cleared_138 : decode cX8_cleared 138 = .ok (.iload 5, 2) := by decide +kernel
theorem dX8_cleared_140 : decode cX8_cleared 140 = .ok (.iadd, 1) := by decide +kernel
theorem dX8_cleared_141 : decode cX8_cleared 141 = .ok (.iconst 0, 1) := by decide +kernel
theorem dX8_cleared_142 : decode cX8_cleared 142 = .ok (.iastore, 1) := by decide +kernel
theorem dX8_cleared_143 : decode cX8_cleared 143 = .ok (.iinc 5 1, 3) := by decide +kernel
theorem dX8_cleared_146 : decode cX8_cleared 146 = .ok (.goto (-32), 3) := by decide +kernel
theorem dX8_cleared_35 : decode cX8_cleared 35 = .ok (.aload_n 0, 1) := by decide +kernel
theorem dX8_cleared_36 : decode cX8_cleared 36 = .ok (.iload_n 1, 1) := by decide +kernel
theorem dX8_cleared_37 : decode cX8_cleared 37 = .ok (.aload_n 0, 1) := by decide +kernel
theorem dX8_cleared_38 : decode cX8_cleared 38 = .ok (.iload_n 2, 1) := by decide +kernel
theorem dX8_cleared_39 : decode cX8_cleared 39 = .ok (.iload 5, 2) := by decide +kernel
set_option maxRecDepth 20000 in
theorem ggX8_cleared_X8_key : GoodIn wsX8_cleared wsX8_key := goodIn_r _ [19, 5, 53, 54, 55, 56, 57, 58, 59, 60, 61, 62, 63, 64, 65, 66, 67, 68, 69] rfl (by decide +kernel)
set_option maxRecDepth 20000 in
theorem gX8_cleared_X8_key : GoodIn wsX8_cleared (wsV RX8 111 RX8 yX8_key wsX8_key) := goodIn_app (goodIn_of _ (by decide +kernel)) ggX8_cleared_X8_key
theorem dX8_cleared_41 : decode cX8_cleared 41 = .ok (.invokevirtual 111, 3) := by decide +kernel
set_option maxRecDepth 20000 in
theorem ggX8_cleared_X8_isWithin : GoodIn wsX8_cleared wsX8_isWithin := goodIn_r _ [23, 3, 11, 24, 25, 26, 27, 28, 29, 9, 30, 31, 6, 7, 8, 10, 32, 33, 34, 35, 36, 37, 38, 39, 40, 41, 42, 43, 44, 53, 54, 55, 56, 57, 58, 59, 60, 61, 62, 63, 64, 65, 66, 67, 68, 69] rfl (by decide +kernel)
set_option maxRecDepth 20000 in
theorem gX8_cleared_X8_isWithin : GoodIn wsX8_cleared (wsV RX8 108 RX8 yX8_isWithin wsX8_isWithin) := goodIn_app (goodIn_of _ (by decide +kernel)) ggX8_cleared_X8_isWithin
theorem dX8_cleared_44 : decode cX8_cleared 44 = .ok (.invokevirtual 108, 3) := by decide +kernel
theorem dX8_cleared_47 : decode cX8_cleared 47 = .ok (.ifCond .eq 6, 3) := by decide +kernel
theorem dX8_cleared_53 : decode cX8_cleared 53 = .ok (.aload_n 0, 1) := by decide +kernel
theorem dX8_cleared_54 : decode cX8_cleared 54 = .ok (.iload_n 2, 1) := by decide +kernel
theorem dX8_cleared_55 : decode cX8_cleared 55 = .ok (.iload 4, 2) := by decide +kernel
theorem dX8_cleared_57 : decode cX8_cleared 57 = .ok (.aload_n 0, 1) := by decide +kernel
theorem dX8_cleared_58 : decode cX8_cleared 58 = .ok (.iload_n 2, 1) := by decide +kernel
theorem dX8_cleared_59 : decode cX8_cleared 59 = .ok (.iload 5, 2) := by decide +kernel
theorem dX8_cleared_61 : decode cX8_cleared 61 = .ok (.invokevirtual 111, 3) := by decide +kernel
theorem dX8_cleared_64 : decode cX8_cleared 64 = .ok (.aload_n 0, 1) := by decide +kernel
theorem dX8_cleared_65 : decode cX8_cleared 65 = .ok (.iload_n 2, 1) := by decide +kernel
theorem dX8_cleared_66 : decode cX8_cleared 66 = .ok (.iload 5, 2) := by decide +kernel
set_option maxRecDepth 20000 in
theorem ggX8_cleared_X8_value : GoodIn wsX8_cleared wsX8_value := goodIn_r _ [48, 5, 53, 54, 55, 56, 57, 58, 59, 60, 61, 62, 63, 64, 65, 66, 67, 68, 69] rfl (by decide +kernel)
set_option maxRecDepth 20000 in
theorem gX8_cleared_X8_value : GoodIn wsX8_cleared (wsV RX8 118 RX8 yX8_value wsX8_value) := goodIn_app (goodIn_of _ (by decide +kernel)) ggX8_cleared_X8_value
theorem dX8_cleared_68 : decode cX8_cleared 68 = .ok (.invokevirtual 118, 3) := by decide +kernel
set_option maxRecDepth 20000 in
theorem ggX8_cleared_X8_set : GoodIn wsX8_cleared wsX8_set := goodIn_r _ [52, 5, 53, 54, 55, 56, 57, 58, 59, 60, 61, 62, 63, 64, 65, 66, 67, 68, 69] rfl (by decide +kernel)
set_option maxRecDepth 20000 in
theorem gX8_cleared_X8_set : GoodIn wsX8_cleared (wsV RX8 121 RX8 yX8_set wsX8_set) := goodIn_app (goodIn_of _ (by decide +kernel)) ggX8_cleared_X8_set
theorem dX8_cleared_71 : decode cX8_cleared 71 = .ok (.invokevirtual 121, 3) := by decide +kernel
theorem dX8_cleared_74 : decode cX8_cleared 74 = .ok (.iinc 4 1, 3) := by decide +kernel
theorem dX8_cleared_77 : decode cX8_cleared 77 = .ok (.iinc 5 1, 3) := by decide +kernel
theorem dX8_cleared_80 : decode cX8_cleared 80 = .ok (.goto (-56), 3) := by decide +kernel
theorem dX8_cleared_50 : decode cX8_cleared 50 = .ok (.goto 27, 3) := by decide +kernel
theorem dX8_cleared_16 : decode cX8_cleared 16 = .ok (.lconst 0, 1) := by decide +kernel
theorem dX8_cleared_17 : decode cX8_cleared 17 = .ok (.lreturn, 1) := by decide +kernel
theorem dX8_end_0 : decode cX8_end 0 = .ok (.aload_n 0, 1) := by decide +kernel
theorem dX8_end_1 : decode cX8_end 1 = .ok (.iload_n 1, 1) := by decide +kernel
set_option maxRecDepth 20000 in
theorem ggX8_end_X8_entries : GoodIn wsX8_end wsX8_entries := goodIn_r _ [5, 6, 7, 8, 9, 4, 10, 11, 12, 13, 14, 15, 16, 17, 18, 19, 20, 21, 22, 23, 24, 25, 26, 27, 28, 29, 30, 31, 32, 33, 34, 35, 36, 37, 38, 39, 40, 41, 42, 76, 77, 78, 79, 80, 81, 82, 83, 84, 85, 86, 87, 88, 89, 90, 91, 92] rfl (by decide +kernel)
set_option maxRecDepth 20000 in
theorem gX8_end_X8_entries : GoodIn wsX8_end (wsV RX8 158 RX8 yX8_entries wsX8_entries) := goodIn_app (goodIn_of _ (by decide +kernel)) ggX8_end_X8_entries
theorem dX8_end_2 : decode cX8_end 2 = .ok (.invokevirtual 158, 3) := by decide +kernel
theorem dX8_end_5 : decode cX8_end 5 = .ok (.istore_n 3, 1) := by decide +kernel
theorem dX8_end_6 : decode cX8_end 6 = .ok (.iload_n 3, 1) := by decide +kernel
theorem dX8_end_7 : decode cX8_end 7 = .ok (.ifCond .ne 10, 3) := by decide +kernel
theorem dX8_end_17 : decode cX8_end 17 = .ok (.aload_n 0, 1) := by decide +kernel
theorem dX8_end_18 : decode cX8_end 18 = .ok (.iload_n 1, 1) := by decide +kernel
set_option maxRecDepth 20000 in
theorem ggX8_end_X8_root : GoodIn wsX8_end wsX8_root := goodIn_r _ [10, 11, 12, 76, 77, 78, 79, 80, 81, 82, 83, 84, 85, 86, 87, 88, 89, 90, 91, 92] rfl (by decide +kernel)
set_option maxRecDepth 20000 in
theorem gX8_end_X8_root : GoodIn wsX8_end (wsV RX8 95 RX8 yX8_root wsX8_root) := goodIn_app (goodIn_of _ (by decide +kernel)) ggX8_end_X8_root
theorem dX8_end_19 : decode cX8_end 19 = .ok (.invokevirtual 95, 3) := by decide +kernel
theorem dX8_end_22 : decode cX8_end 22 = .ok (.istore 4, 2) := by decide +kernel
theorem dX8_end_24 : decode cX8_end 24 = .ok (.aload_n 0, 1) := by decide +kernel
theorem dX8_end_25 : decode cX8_end 25 = .ok (.iload_n 1, 1) := by decide +kernel
theorem dX8_end_26 : decode cX8_end 26 = .ok (.iload_n 2, 1) := by decide +kernel
theorem dX8_end_27 : decode cX8_end 27 = .ok (.iconst 2, 1) := by decide +kernel
theorem dX8_end_28 : decode cX8_end 28 = .ok (.irem, 1) := by decide +kernel
theorem dX8_end_29 : decode cX8_end 29 = .ok (.ifCond .ne 7, 3) := by decide +kernel
theorem dX8_end_36 : decode cX8_end 36 = .ok (.iload_n 3, 1) := by decide +kernel
theorem dX8_end_37 : decode cX8_end 37 = .ok (.iconst 1, 1) := by decide +kernel
theorem dX8_end_38 : decode cX8_end 38 = .ok (.isub, 1) := by decide +kernel
set_option maxRecDepth 20000 in
theorem ggX8_end_X8_nth : GoodIn wsX8_end wsX8_nth := goodIn_r _ [51, 6, 7, 8, 9, 4, 10, 11, 12, 39, 40, 41, 42, 22, 13, 14, 15, 16, 17, 18, 19, 20, 21, 23, 24, 25, 26, 27, 28, 29, 30, 31, 32, 33, 34, 35, 36, 37, 38, 76, 77, 78, 79, 80, 81, 82, 83, 84, 85, 86, 87, 88, 89, 90, 91, 92] rfl (by decide +kernel)
set_option maxRecDepth 20000 in
theorem gX8_end_X8_nth : GoodIn wsX8_end (wsV RX8 188 RX8 yX8_nth wsX8_nth) := goodIn_app (goodIn_of _ (by decide +kernel)) ggX8_end_X8_nth
theorem dX8_end_39 : decode cX8_end 39 = .ok (.invokevirtual 188, 3) := by decide +kernel
theorem dX8_end_42 : decode cX8_end 42 = .ok (.istore 5, 2) := by decide +kernel
theorem dX8_end_44 : decode cX8_end 44 = .ok (.aload_n 0, 1) := by decide +kernel
theorem dX8_end_45 : decode cX8_end 45 = .ok (.iload 4, 2) := by decide +kernel
theorem dX8_end_47 : decode cX8_end 47 = .ok (.iload 5, 2) := by decide +kernel
set_option maxRecDepth 20000 in
theorem ggX8_end_X8_key : GoodIn wsX8_end wsX8_key := goodIn_r _ [16, 17, 76, 77, 78, 79, 80, 81, 82, 83, 84, 85, 86, 87, 88, 89, 90, 91, 92] rfl (by decide +kernel)
set_option maxRecDepth 20000 in
theorem gX8_end_X8_key : GoodIn wsX8_end (wsV RX8 111 RX8 yX8_key wsX8_key) := goodIn_app (goodIn_of _ (by decide +kernel)) ggX8_end_X8_key
theorem dX8_end_49 : decode cX8_end 49 = .ok (.invokevirtual 111, 3) := by decide +kernel
theorem dX8_end_52 : decode cX8_end 52 = .ok (.istore 6, 2) := by decide +kernel
theorem dX8_end_54 : decode cX8_end 54 = .ok (.iload_n 2, 1) := by decide +kernel
theorem dX8_end_55 : decode cX8_end 55 = .ok (.bipush 11, 2) := by decide +kernel
theorem dX8_end_57 : decode cX8_end 57 = .ok (.if_icmp .le 11, 3) := by decide +kernel
theorem dX8_end_68 : decode cX8_end 68 = .ok (.iload 6, 2) := by decide +kernel
theorem dX8_end_70 : decode cX8_end 70 = .ok (.i2l, 1) := by decide +kernel
theorem dX8_end_71 : decode cX8_end 71 = .ok (.lreturn, 1) := by decide +kernel
theorem dX8_end_60 : decode cX8_end 60 = .ok (.aload_n 0, 1) := by decide +kernel
theorem dX8_end_61 : decode cX8_end 61 = .ok (.iload 4, 2) := by decide +kernel
theorem dX8_end_63 : decode cX8_end 63 = .ok (.iload 5, 2) := by decide +kernel
set_option maxRecDepth 20000 in
theorem ggX8_end_X8_goes : GoodIn wsX8_end wsX8_goes := goodIn_r _ [55, 11, 6, 56, 17, 13, 14, 15, 4, 16, 57, 58, 59, 60, 61, 62, 63, 36, 37, 38, 64, 65, 66, 67, 68, 69, 70, 71, 72, 73, 74, 75, 76, 77, 78, 79, 80, 81, 82, 83, 84, 85, 86, 87, 88, 89, 90, 91, 92] rfl (by decide +kernel)
set_option maxRecDepth 20000 in
theorem gX8_end_X8_goes : GoodIn wsX8_end (wsV RX8 128 RX8 yX8_goes wsX8_goes) := goodIn_app (goodIn_of _ (by decide +kernel)) ggX8_end_X8_goes
theorem dX8_end_65 : decode cX8_end 65 = .ok (.invokevirtual 128, 3) := by decide +kernel
theorem dX8_end_32 : decode cX8_end 32 = .ok (.iconst 0, 1) := by decide +kernel
theorem dX8_end_33 : decode cX8_end 33 = .ok (.goto 6, 3) := by decide +kernel
theorem dX8_end_10 : decode cX8_end 10 = .ok (.aload_n 0, 1) := by decide +kernel
theorem dX8_end_11 : decode cX8_end 11 = .ok (.iconst 1, 1) := by decide +kernel
set_option maxRecDepth 20000 in
theorem ggX8_end_X8_refuse : GoodIn wsX8_end wsX8_refuse := goodIn_r _ [46, 47, 76, 77, 78, 79, 80, 81, 82, 83, 84, 85, 86, 87, 88, 89, 90, 91, 92] rfl (by decide +kernel)
set_option maxRecDepth 20000 in
theorem gX8_end_X8_refuse : GoodIn wsX8_end (wsV RX8 68 RX8 yX8_refuse wsX8_refuse) := goodIn_app (goodIn_of _ (by decide +kernel)) ggX8_end_X8_refuse
theorem dX8_end_12 : decode cX8_end 12 = .ok (.invokevirtual 68, 3) := by decide +kernel
theorem dX8_end_15 : decode cX8_end 15 = .ok (.i2l, 1) := by decide +kernel
theorem dX8_end_16 : decode cX8_end 16 = .ok (.lreturn, 1) := by decide +kernel
set_option maxHeartbeats 4000000 in
set_option maxRecDepth 100000 in
/-- cleared -/
theorem c_X8_cleared (l : Launch) (dC : Nat → ClassId) (dI : Nat → Nat → Nat) (sz : Nat) (h0 : Nat) (th : Int32) (q1 : Nat) (q2 : Nat) (q3 : Nat) (q4 : Nat) (q6 : Nat) (q7 : Nat) (q8 : Nat) (q9 : Nat) (q10 : Nat) (q11 : Nat) (c1 : ClassId) (c2 : ClassId) (c3 : ClassId) (c4 : ClassId) (c6 : ClassId) (c7 : ClassId) (c8 : ClassId) (c9 : ClassId) (c10 : ClassId) (c11 : ClassId) (a1 : Nat → Int32) (a2 : Nat → Int32) (a3 : Nat → Int32) (a4 : Nat → Int32) (a6 : Nat → Int32) (a7 : Nat → Int32) (a8 : Nat → Int32) (a9 : Nat → Int32) (a10 : Nat → Int32) (a11 : Nat → Int32) (v5 : Value) (v12 : Value) (v13 : Value) (v14 : Value) (v15 : Value) (v16 : Value) (o : Nat) (dep : Nat → Nat) (r : Nat) (ho9 : o < 16) (hF9 : rF a1 a8 dep) (hd9 : dep o < 17) (hrt9 : rtN a1 a8 17 o = r) (hM9 : mOK (a1 r) (a4 r) (a3 r) (a6 r)) : Met l yX8_cleared wsX8_cleared ({ frames := 5, cells := 0, slots := 0, locals := 190 }) (va_Pc [.ref h0, .int (nI o)] (pk_Pre (dC, dI) [(h0, .inr (8, [.int th, .ref q1, .ref q2, .ref q3, .ref q4, v5, .ref q6, .ref q7, .ref q8, .ref q9, .ref q10, .ref q11, v12, v13, v14, v15, v16])), (q1, .inl (c1, 16, .inl a1)), (q2, .inl (c2, 67200, .inl a2)), (q3, .inl (c3, 16, .inl a3)), (q4, .inl (c4, 16, .inl a4)), (q6, .inl (c6, 16, .inl a6)), (q7, .inl (c7, 16, .inl a7)), (q8, .inl (c8, 16, .inl a8)), (q9, .inl (c9, 16, .inl a9)), (q10, .inl (c10, 16, .inl a10)), (q11, .inl (c11, 16, .inl a11))] [(c1, .int), (c2, .int), (c3, .int), (c4, .int), (c6, .int), (c7, .int), (c8, .int), (c9, .int), (c10, .int), (c11, .int)] sz)) (va_Ql (fun (x : Int64) (u : (Nat → Int32) × (Nat → Int32) × (Nat → Int32)) => (∃ d : Nat, d ≤ 1 ∧ rsR r d a2 a3 a6 a7 u.1 u.2.1 a6 u.2.2) ∧ mOK (a1 r) (a4 r) (u.2.1 r) (a6 r)) (fun (u : (Nat → Int32) × (Nat → Int32) × (Nat → Int32)) (t : State) => va_P (dC, dI) vwCl [(h0, .inr (8, [.int th, .ref q1, .ref q2, .ref q3, .ref q4, v5, .ref q6, .ref q7, .ref q8, .ref q9, .ref q10, .ref q11, v12, v13, v14, v15, v16])), (q1, .inl (c1, 16, .inl a1)), (q2, .inl (c2, 67200, .inl u.1)), (q3, .inl (c3, 16, .inl u.2.1)), (q4, .inl (c4, 16, .inl a4)), (q6, .inl (c6, 16, .inl a6)), (q7, .inl (c7, 16, .inl u.2.2)), (q8, .inl (c8, 16, .inl a8)), (q9, .inl (c9, 16, .inl a9)), (q10, .inl (c10, 16, .inl a10)), (q11, .inl (c11, 16, .inl a11))] t.heap ∧ va_K (dC, dI) vwCl [(c1, .int), (c2, .int), (c3, .int), (c4, .int), (c6, .int), (c7, .int), (c8, .int), (c9, .int), (c10, .int), (c11, .int)] t ∧ va_D (va_A [(h0, .inr (8, [.int th, .ref q1, .ref q2, .ref q3, .ref q4, v5, .ref q6, .ref q7, .ref q8, .ref q9, .ref q10, .ref q11, v12, v13, v14, v15, v16])), (q1, .inl (c1, 16, .inl a1)), (q2, .inl (c2, 67200, .inl a2)), (q3, .inl (c3, 16, .inl a3)), (q4, .inl (c4, 16, .inl a4)), (q6, .inl (c6, 16, .inl a6)), (q7, .inl (c7, 16, .inl a7)), (q8, .inl (c8, 16, .inl a8)), (q9, .inl (c9, 16, .inl a9)), (q10, .inl (c10, 16, .inl a10)), (q11, .inl (c11, 16, .inl a11))] sz) [(h0, .inr (8, [.int th, .ref q1, .ref q2, .ref q3, .ref q4, v5, .ref q6, .ref q7, .ref q8, .ref q9, .ref q10, .ref q11, v12, v13, v14, v15, v16])), (q1, .inl (c1, 16, .inl a1)), (q2, .inl (c2, 67200, .inl u.1)), (q3, .inl (c3, 16, .inl u.2.1)), (q4, .inl (c4, 16, .inl a4)), (q6, .inl (c6, 16, .inl a6)), (q7, .inl (c7, 16, .inl u.2.2)), (q8, .inl (c8, 16, .inl a8)), (q9, .inl (c9, 16, .inl a9)), (q10, .inl (c10, 16, .inl a10)), (q11, .inl (c11, 16, .inl a11))]) (va_A [(h0, .inr (8, [.int th, .ref q1, .ref q2, .ref q3, .ref q4, v5, .ref q6, .ref q7, .ref q8, .ref q9, .ref q10, .ref q11, v12, v13, v14, v15, v16])), (q1, .inl (c1, 16, .inl a1)), (q2, .inl (c2, 67200, .inl a2)), (q3, .inl (c3, 16, .inl a3)), (q4, .inl (c4, 16, .inl a4)), (q6, .inl (c6, 16, .inl a6)), (q7, .inl (c7, 16, .inl a7)), (q8, .inl (c8, 16, .inl a8)), (q9, .inl (c9, 16, .inl a9)), (q10, .inl (c10, 16, .inl a10)), (q11, .inl (c11, 16, .inl a11))] sz)) 0 0 (va_A [(h0, .inr (8, [.int th, .ref q1, .ref q2, .ref q3, .ref q4, v5, .ref q6, .ref q7, .ref q8, .ref q9, .ref q10, .ref q11, v12, v13, v14, v15, v16])), (q1, .inl (c1, 16, .inl a1)), (q2, .inl (c2, 67200, .inl a2)), (q3, .inl (c3, 16, .inl a3)), (q4, .inl (c4, 16, .inl a4)), (q6, .inl (c6, 16, .inl a6)), (q7, .inl (c7, 16, .inl a7)), (q8, .inl (c8, 16, .inl a8)), (q9, .inl (c9, 16, .inl a9)), (q10, .inl (c10, 16, .inl a10)), (q11, .inl (c11, 16, .inl a11))] sz) := by
  refine Met.ofW (cc := cX8_cleared) (maxL := 6) (ret := (some .long)) (by decide) rfl ?_
  intro p e s m args below meth c s₁ B hml hv
  obtain ⟨rfl, hsz, hP, hK, hD0⟩ := hv
  have hx := B.exec
  have hb := B.bytes
  have hr := B.returns
  have hts := atoms_spec (ws := wsX8_cleared) B.pre
  have hown : s.vm.findClass RX8 = some m.cls := findClass_of_methodNamed B.named
  have hlocks := B.notSynchronized
  subst hsz
  have hD := hD0.self (sz := s.heap.size)
  generalize hAe : va_A [(h0, .inr (8, [.int th, .ref q1, .ref q2, .ref q3, .ref q4, v5, .ref q6, .ref q7, .ref q8, .ref q9, .ref q10, .ref q11, v12, v13, v14, v15, v16])), (q1, .inl (c1, 16, .inl a1)), (q2, .inl (c2, 67200, .inl a2)), (q3, .inl (c3, 16, .inl a3)), (q4, .inl (c4, 16, .inl a4)), (q6, .inl (c6, 16, .inl a6)), (q7, .inl (c7, 16, .inl a7)), (q8, .inl (c8, 16, .inl a8)), (q9, .inl (c9, 16, .inl a9)), (q10, .inl (c10, 16, .inl a10)), (q11, .inl (c11, 16, .inl a11))] s.heap.size = A at hD ⊢
  have hA : ∀ q : Nat, s.heap.size ≤ q → A q := fun q h => by rw [← hAe]; exact Or.inr h
  have hS : va_S A s.heap s.heap [] := va_S.rf
  have hP : va_P (dC, dI) vwCl [(h0, .inr (8, [.int th, .ref q1, .ref q2, .ref q3, .ref q4, v5, .ref q6, .ref q7, .ref q8, .ref q9, .ref q10, .ref q11, v12, v13, v14, v15, v16])), (q1, .inl (c1, 16, .inl a1)), (q2, .inl (c2, 67200, .inl a2)), (q3, .inl (c3, 16, .inl a3)), (q4, .inl (c4, 16, .inl a4)), (q6, .inl (c6, 16, .inl a6)), (q7, .inl (c7, 16, .inl a7)), (q8, .inl (c8, 16, .inl a8)), (q9, .inl (c9, 16, .inl a9)), (q10, .inl (c10, 16, .inl a10)), (q11, .inl (c11, 16, .inl a11))] s.heap := hP
  have hl := lv_entry ([.ref h0, .int (nI o)]) (n := 6) (Nat.le_of_ble_eq_true rfl)
  rw [lg_entry_eq]
  generalize (lg_sl ([.ref h0, .int (nI o)]) ++ List.replicate (6 - (lg_sl ([.ref h0, .int (nI o)])).length) Slot.unset).toArray = ls at hl ⊢
  have hl : lv_has ls 6 [(0, .ref h0), (1, .int (nI o))] := hl
  have hw0_ := hts (.fieldLink RX8 17 "KeyAtlasModel" "size" "[I") (List.mem_of_getElem? (l := wsX8_cleared) (i := 1) rfl)
  have hw1_ := hts (.fieldLink RX8 29 "KeyAtlasModel" "changes" "[I") (List.mem_of_getElem? (l := wsX8_cleared) (i := 2) rfl)
  have hw2_ := hts (.fieldLink RX8 7 "KeyAtlasModel" "kind" "[I") (List.mem_of_getElem? (l := wsX8_cleared) (i := 3) rfl)
  have hw3_ := hts (.fieldLink RX8 26 "KeyAtlasModel" "table" "[I") (List.mem_of_getElem? (l := wsX8_cleared) (i := 4) rfl)
  have hw4_ := hts (.fieldLink RX8 14 "KeyAtlasModel" "cell" "[I") (List.mem_of_getElem? (l := wsX8_cleared) (i := 5) rfl)
  have hi0_ : ∀ w ∈ u_ws RX8 TX8 17, w ∈ wsX8_cleared := fun w h => List.mem_cons_of_mem _ (List.mem_append_right _ h)
  obtain ⟨nz, tb, hs9, hz9, hT9, hM8⟩ := mo_go hM9
  have hn8 : (a3 r).toInt = (nz : Int) := by rw [hs9]; exact nI_toInt (by omega)
  refine lv_aload_n hx hb dX8_cleared_0 rfl (lv_at hl 0 rfl) ?_
  refine lv_iload_n hx hb dX8_cleared_1 rfl (lv_at hl 1 rfl) ?_
  have hPc := hP.sub (ws' := [(h0, .inr (8, [.int th, .ref q1, .ref q2, .ref q3, .ref q4, v5, .ref q6, .ref q7, .ref q8, .ref q9, .ref q10, .ref q11, v12, v13, v14, v15, v16])), (q1, .inl (c1, 16, .inl a1)), (q8, .inl (c8, 16, .inl a8))]) [0, 1, 7] rfl
  have hDc := hD.sub (ws' := [(h0, .inr (8, [.int th, .ref q1, .ref q2, .ref q3, .ref q4, v5, .ref q6, .ref q7, .ref q8, .ref q9, .ref q10, .ref q11, v12, v13, v14, v15, v16])), (q1, .inl (c1, 16, .inl a1)), (q8, .inl (c8, 16, .inl a8))]) [0, 1, 7] (by decide) rfl
  have hKc := hK.sub (tys' := [(c1, .int), (c8, .int)]) [0, 6] rfl
  have hFc := va_free (wc := [(h0, .inr (8, [.int th, .ref q1, .ref q2, .ref q3, .ref q4, v5, .ref q6, .ref q7, .ref q8, .ref q9, .ref q10, .ref q11, v12, v13, v14, v15, v16])), (q1, .inl (c1, 16, .inl a1)), (q8, .inl (c8, 16, .inl a8))]) hD hS hA [0, 1, 7] rfl
  refine va_calli (va_runV (As := [.int (nI o)]) (rest := []) ⟨hx, hb, hml, hown, hts⟩ (c_X8_root l  dC dI s.heap.size h0 th q1 q8 c1 c8 a1 a8 (.ref q2) (.ref q3) (.ref q4) v5 (.ref q6) (.ref q7) (.ref q9) (.ref q10) (.ref q11) v12 v13 v14 v15 v16 o dep ho9 hF9 hd9) (cwV 1 hts gX8_cleared_X8_root rfl rfl rfl (by decide +kernel) ⟨(Nat.le_of_ble_eq_true rfl), (Nat.le_of_ble_eq_true rfl)⟩) ⟨pk_blind, va_recv hKc hPc (ci := 8) (q0 := 0) rfl rfl, pk_call hPc hKc hDc⟩ rfl rfl hl.1 rfl (lv_room (Nat.le_of_ble_eq_true rfl)) dX8_cleared_2 ⟨(Nat.le_of_ble_eq_true rfl), (Nat.le_of_ble_eq_true rfl)⟩) hS (fun q _ h => hFc q h) hFc (fun r_1 ur_1 t H1 locs ht hvm hw hB hz1 hk1 hS => ?_)
  try dsimp only at hw
  obtain ⟨er_1, hr9, hr8⟩ := hw
  rw [hrt9] at er_1 hr9 hr8
  obtain ⟨hP1, hK1, hD1⟩ := hB
  rw [ht] at hP1
  have hK1 := va_K.moved hvm.symm hK1
  obtain ⟨hP, hD⟩ := va_join (wr := [(q2, .inl (c2, 67200, .inl a2)), (q3, .inl (c3, 16, .inl a3)), (q4, .inl (c4, 16, .inl a4)), (q6, .inl (c6, 16, .inl a6)), (q7, .inl (c7, 16, .inl a7)), (q9, .inl (c9, 16, .inl a9)), (q10, .inl (c10, 16, .inl a10)), (q11, .inl (c11, 16, .inl a11))]) (w1 := [(h0, .inr (8, [.int th, .ref q1, .ref q2, .ref q3, .ref q4, v5, .ref q6, .ref q7, .ref q8, .ref q9, .ref q10, .ref q11, v12, v13, v14, v15, v16])), (q1, .inl (c1, 16, .inl a1)), (q8, .inl (c8, 16, .inl a8))]) hP hD [0, 1, 7] [2, 3, 4, 5, 6, 8, 9, 10] rfl rfl (by decide) (by decide) hk1 hFc hP1 hD1
  clear hk1 hz1 ht hPc hDc hKc hFc
  generalize H1 = H at hP hS ⊢
  replace hP : va_P (dC, dI) vwCl [(q2, .inl (c2, 67200, .inl a2)), (q3, .inl (c3, 16, .inl a3)), (q4, .inl (c4, 16, .inl a4)), (q6, .inl (c6, 16, .inl a6)), (q7, .inl (c7, 16, .inl a7)), (q9, .inl (c9, 16, .inl a9)), (q10, .inl (c10, 16, .inl a10)), (q11, .inl (c11, 16, .inl a11)), (h0, .inr (8, [.int th, .ref q1, .ref q2, .ref q3, .ref q4, v5, .ref q6, .ref q7, .ref q8, .ref q9, .ref q10, .ref q11, v12, v13, v14, v15, v16])), (q1, .inl (c1, 16, .inl a1)), (q8, .inl (c8, 16, .inl a8))] H := hP
  replace hD : va_D A [(q2, .inl (c2, 67200, .inl a2)), (q3, .inl (c3, 16, .inl a3)), (q4, .inl (c4, 16, .inl a4)), (q6, .inl (c6, 16, .inl a6)), (q7, .inl (c7, 16, .inl a7)), (q9, .inl (c9, 16, .inl a9)), (q10, .inl (c10, 16, .inl a10)), (q11, .inl (c11, 16, .inl a11)), (h0, .inr (8, [.int th, .ref q1, .ref q2, .ref q3, .ref q4, v5, .ref q6, .ref q7, .ref q8, .ref q9, .ref q10, .ref q11, v12, v13, v14, v15, v16])), (q1, .inl (c1, 16, .inl a1)), (q8, .inl (c8, 16, .inl a8))] := hD
  refine W.widen (k := 0) (n := 0) (Nat.le_of_ble_eq_true rfl) (Nat.le_of_ble_eq_true rfl) ?_
  subst er_1
  refine W.eq (g2 := F0 m 5 ls [.int (nI r)]) rfl ?_
  refine lv_istore_n (lv' := [(2, .int (nI r)), (0, .ref h0), (1, .int (nI o))]) hx hb dX8_cleared_5 rfl hl (by decide) rfl (fun ls hl => ?_)
  refine lv_aload_n hx hb dX8_cleared_6 rfl (lv_at hl 1 rfl) ?_
  refine lv_iload_n hx hb dX8_cleared_7 rfl (lv_at hl 2 rfl) ?_
  have hPc := hP.sub (ws' := [(h0, .inr (8, [.int th, .ref q1, .ref q2, .ref q3, .ref q4, v5, .ref q6, .ref q7, .ref q8, .ref q9, .ref q10, .ref q11, v12, v13, v14, v15, v16])), (q1, .inl (c1, 16, .inl a1)), (q2, .inl (c2, 67200, .inl a2)), (q3, .inl (c3, 16, .inl a3)), (q4, .inl (c4, 16, .inl a4)), (q8, .inl (c8, 16, .inl a8)), (q9, .inl (c9, 16, .inl a9)), (q10, .inl (c10, 16, .inl a10)), (q11, .inl (c11, 16, .inl a11))]) [8, 9, 0, 1, 2, 10, 5, 6, 7] rfl
  have hDc := hD.sub (ws' := [(h0, .inr (8, [.int th, .ref q1, .ref q2, .ref q3, .ref q4, v5, .ref q6, .ref q7, .ref q8, .ref q9, .ref q10, .ref q11, v12, v13, v14, v15, v16])), (q1, .inl (c1, 16, .inl a1)), (q2, .inl (c2, 67200, .inl a2)), (q3, .inl (c3, 16, .inl a3)), (q4, .inl (c4, 16, .inl a4)), (q8, .inl (c8, 16, .inl a8)), (q9, .inl (c9, 16, .inl a9)), (q10, .inl (c10, 16, .inl a10)), (q11, .inl (c11, 16, .inl a11))]) [8, 9, 0, 1, 2, 10, 5, 6, 7] (by decide) rfl
  have hKc := hK.sub (tys' := [(c1, .int), (c2, .int), (c3, .int), (c4, .int), (c8, .int), (c9, .int), (c10, .int), (c11, .int)]) [0, 1, 2, 3, 6, 7, 8, 9] rfl
  have hFc := va_free (wc := [(h0, .inr (8, [.int th, .ref q1, .ref q2, .ref q3, .ref q4, v5, .ref q6, .ref q7, .ref q8, .ref q9, .ref q10, .ref q11, v12, v13, v14, v15, v16])), (q1, .inl (c1, 16, .inl a1)), (q2, .inl (c2, 67200, .inl a2)), (q3, .inl (c3, 16, .inl a3)), (q4, .inl (c4, 16, .inl a4)), (q8, .inl (c8, 16, .inl a8)), (q9, .inl (c9, 16, .inl a9)), (q10, .inl (c10, 16, .inl a10)), (q11, .inl (c11, 16, .inl a11))]) hD hS hA [8, 9, 0, 1, 2, 10, 5, 6, 7] rfl
  refine va_calli (va_runV (As := [.int (nI o)]) (rest := []) ⟨hx, hb, hml, hown, hts⟩ (c_X8_entries l  dC dI H.size h0 th q1 q2 q3 q4 q8 q9 q10 q11 c1 c2 c3 c4 c8 c9 c10 c11 a1 a2 a3 a4 a8 a9 a10 a11 v5 (.ref q6) (.ref q7) v12 v13 v14 v15 v16 o dep nz ho9 hF9 hd9 (by rw [hrt9]; exact hs9) hz9) (cwV 1 hts gX8_cleared_X8_entries rfl rfl rfl (by decide +kernel) ⟨(Nat.le_of_ble_eq_true rfl), (Nat.le_of_ble_eq_true rfl)⟩) ⟨pk_blind, va_recv hKc hPc (ci := 8) (q0 := 0) rfl rfl, pk_call hPc hKc hDc⟩ rfl rfl hl.1 rfl (lv_room (Nat.le_of_ble_eq_true rfl)) dX8_cleared_8 ⟨(Nat.le_of_ble_eq_true rfl), (Nat.le_of_ble_eq_true rfl)⟩) hS (fun q _ h => hFc q h) hFc (fun r_2 ur_2 t H1 locs ht hvm hw hB hz1 hk1 hS => ?_)
  try dsimp only at hw
  obtain ⟨ne, hne⟩ : ∃ n9 : Nat, n9 = cntN (inO a1 a2 a4 a8 a9 a10 a11 o) nz := ⟨_, rfl⟩
  have hne2 : ne ≤ nz := by rw [hne]; exact cnt_le _ _
  obtain ⟨hP1, hK1, hD1⟩ := hB
  rw [ht] at hP1
  have hK1 := va_K.moved hvm.symm hK1
  obtain ⟨hP, hD⟩ := va_join (wr := [(q6, .inl (c6, 16, .inl a6)), (q7, .inl (c7, 16, .inl a7))]) (w1 := [(h0, .inr (8, [.int th, .ref q1, .ref q2, .ref q3, .ref q4, v5, .ref q6, .ref q7, .ref q8, .ref q9, .ref q10, .ref q11, v12, v13, v14, v15, v16])), (q1, .inl (c1, 16, .inl a1)), (q2, .inl (c2, 67200, .inl a2)), (q3, .inl (c3, 16, .inl a3)), (q4, .inl (c4, 16, .inl a4)), (q8, .inl (c8, 16, .inl a8)), (q9, .inl (c9, 16, .inl a9)), (q10, .inl (c10, 16, .inl a10)), (q11, .inl (c11, 16, .inl a11))]) hP hD [8, 9, 0, 1, 2, 10, 5, 6, 7] [3, 4] rfl rfl (by decide) (by decide) hk1 hFc hP1 hD1
  clear hk1 hz1 ht hPc hDc hKc hFc
  generalize H1 = H at hP hS ⊢
  replace hP : va_P (dC, dI) vwCl [(q6, .inl (c6, 16, .inl a6)), (q7, .inl (c7, 16, .inl a7)), (h0, .inr (8, [.int th, .ref q1, .ref q2, .ref q3, .ref q4, v5, .ref q6, .ref q7, .ref q8, .ref q9, .ref q10, .ref q11, v12, v13, v14, v15, v16])), (q1, .inl (c1, 16, .inl a1)), (q2, .inl (c2, 67200, .inl a2)), (q3, .inl (c3, 16, .inl a3)), (q4, .inl (c4, 16, .inl a4)), (q8, .inl (c8, 16, .inl a8)), (q9, .inl (c9, 16, .inl a9)), (q10, .inl (c10, 16, .inl a10)), (q11, .inl (c11, 16, .inl a11))] H := hP
  replace hD : va_D A [(q6, .inl (c6, 16, .inl a6)), (q7, .inl (c7, 16, .inl a7)), (h0, .inr (8, [.int th, .ref q1, .ref q2, .ref q3, .ref q4, v5, .ref q6, .ref q7, .ref q8, .ref q9, .ref q10, .ref q11, v12, v13, v14, v15, v16])), (q1, .inl (c1, 16, .inl a1)), (q2, .inl (c2, 67200, .inl a2)), (q3, .inl (c3, 16, .inl a3)), (q4, .inl (c4, 16, .inl a4)), (q8, .inl (c8, 16, .inl a8)), (q9, .inl (c9, 16, .inl a9)), (q10, .inl (c10, 16, .inl a10)), (q11, .inl (c11, 16, .inl a11))] := hD
  refine W.widen (k := 0) (n := 0) (Nat.le_of_ble_eq_true rfl) (Nat.le_of_ble_eq_true rfl) ?_
  obtain rfl : r_2 = nI ne := by rw [hne]; exact hw
  refine W.eq (g2 := F0 m 11 ls [.int (nI ne)]) rfl ?_
  refine lv_istore_n (lv' := [(3, .int (nI ne)), (2, .int (nI r)), (0, .ref h0), (1, .int (nI o))]) hx hb dX8_cleared_11 rfl hl (by decide) rfl (fun ls hl => ?_)
  refine lv_iload_n hx hb dX8_cleared_12 rfl (lv_at hl 0 rfl) ?_
  refine lv_if_ne (tgt := 18) hx hb dX8_cleared_13 (by decide) (fun c_3 => ?_) (fun c_3 => ?_)
  ·
    have ic_3 : ¬ ((ne : Nat) : Int) = 0 := tx_ne (nI_toInt (by omega)) (by decide) c_3
    refine lv_iconst (v := 0) hx hb dX8_cleared_18 (by decide) ?_
    refine lv_istore (lv' := [(4, .int 0), (3, .int (nI ne)), (2, .int (nI r)), (0, .ref h0), (1, .int (nI o))]) hx hb dX8_cleared_19 hl (by decide) rfl (fun ls hl => ?_)
    refine lv_iconst (v := 0) hx hb dX8_cleared_21 (by decide) ?_
    refine lv_istore (lv' := [(5, .int 0), (4, .int 0), (3, .int (nI ne)), (2, .int (nI r)), (0, .ref h0), (1, .int (nI o))]) hx hb dX8_cleared_22 hl (by decide) rfl (fun ls hl => ?_)
    obtain ⟨i, es_i⟩ : ∃ z : Nat, z = 0 := ⟨_, rfl⟩
    obtain ⟨x9, ex9⟩ : ∃ y : Int32, y = nI i := ⟨_, rfl⟩
    obtain ⟨e9, es_e9⟩ : ∃ z : Nat, z = 0 := ⟨_, rfl⟩
    obtain ⟨y9, ey9⟩ : ∃ y : Int32, y = nI e9 := ⟨_, rfl⟩
    obtain ⟨f2, ef_f2⟩ : ∃ z : Nat → Int32, z = a2 := ⟨_, rfl⟩
    obtain ⟨n9, en9⟩ : ∃ n : Nat, n = nz + 1 := ⟨_, rfl⟩
    replace hl : lv_has ls 6 [(5, .int x9), (4, .int y9), (3, .int (nI ne)), (2, .int (nI r)), (0, .ref h0), (1, .int (nI o))] := by subst ex9; subst es_i; subst ey9; subst es_e9; exact hl
    replace hP : va_P (dC, dI) vwCl [(q6, .inl (c6, 16, .inl a6)), (q7, .inl (c7, 16, .inl a7)), (h0, .inr (8, [.int th, .ref q1, .ref q2, .ref q3, .ref q4, v5, .ref q6, .ref q7, .ref q8, .ref q9, .ref q10, .ref q11, v12, v13, v14, v15, v16])), (q1, .inl (c1, 16, .inl a1)), (q2, .inl (c2, 67200, .inl f2)), (q3, .inl (c3, 16, .inl a3)), (q4, .inl (c4, 16, .inl a4)), (q8, .inl (c8, 16, .inl a8)), (q9, .inl (c9, 16, .inl a9)), (q10, .inl (c10, 16, .inl a10)), (q11, .inl (c11, 16, .inl a11))] H := by subst ef_f2; exact hP
    replace hD : va_D A [(q6, .inl (c6, 16, .inl a6)), (q7, .inl (c7, 16, .inl a7)), (h0, .inr (8, [.int th, .ref q1, .ref q2, .ref q3, .ref q4, v5, .ref q6, .ref q7, .ref q8, .ref q9, .ref q10, .ref q11, v12, v13, v14, v15, v16])), (q1, .inl (c1, 16, .inl a1)), (q2, .inl (c2, 67200, .inl f2)), (q3, .inl (c3, 16, .inl a3)), (q4, .inl (c4, 16, .inl a4)), (q8, .inl (c8, 16, .inl a8)), (q9, .inl (c9, 16, .inl a9)), (q10, .inl (c10, 16, .inl a10)), (q11, .inl (c11, 16, .inl a11))] := by subst ef_f2; exact hD
    have hi9 : i ≤ nz := by subst ex9; subst es_i; subst ey9; subst es_e9; subst ef_f2; subst en9; exact Nat.zero_le _
    have he9 : e9 ≤ i := by subst ex9; subst es_i; subst ey9; subst es_e9; subst ef_f2; subst en9; exact Nat.le_refl _
    have hn9 : nz + 1 ≤ i + n9 := by subst ex9; subst es_i; subst ey9; subst es_e9; subst ef_f2; subst en9; exact by omega
    have hv9 : outR a2 f2 r := by subst ex9; subst es_i; subst ey9; subst es_e9; subst ef_f2; subst en9; exact outR_rf
    clear en9 es_i es_e9 ef_f2
    induction n9 generalizing i x9 e9 y9 ls H locs f2 with
    | zero => exact absurd hn9 (by omega)
    | succ n9 ih =>
      subst ex9
      subst ey9
      refine lv_iload hx hb dX8_cleared_24 (lv_at hl 0 rfl) ?_
      refine lv_aload_n hx hb dX8_cleared_26 rfl (lv_at hl 4 rfl) ?_
      refine va_get (D := (dC, dI)) (ci := 8) (v := .ref q3) (C := RX8) (T := TX8) (N := 17) hx hb hts hi0_ hown hK hP 2 rfl rfl 3 (by decide) hw0_ (fun _ h9 => h9) rfl dX8_cleared_27 ?_
      refine lv_iload_n hx hb dX8_cleared_30 rfl (lv_at hl 3 rfl) ?_
      refine va_iald (i := nI r) hx hb hK hP 5 2 rfl rfl (vp_in_nI (by omega) (by omega)) dX8_cleared_31 ?_
      refine W.eq (g2 := F0 m 32 ls [.int (a3 r), .int (nI i)]) (by rw [nI_clamp (by omega)]) ?_
      refine W.eq (g2 := F0 m 32 ls [.int (nI nz), .int (nI i)]) (by rw [hs9]) ?_
      refine lv_icmp_ge (tgt := 83) hx hb dX8_cleared_32 (by decide) (fun c_4 => ?_) (fun c_4 => ?_)
      ·
        have ic_4 : ((nz : Nat) : Int) ≤ ((i : Nat) : Int) := tx_le (nI_toInt (by omega)) (nI_toInt (by omega)) c_4
        refine lv_aload_n hx hb dX8_cleared_83 rfl (lv_at hl 4 rfl) ?_
        refine va_get (D := (dC, dI)) (ci := 8) (v := .ref q3) (C := RX8) (T := TX8) (N := 17) hx hb hts hi0_ hown hK hP 2 rfl rfl 3 (by decide) hw0_ (fun _ h9 => h9) rfl dX8_cleared_84 ?_
        refine lv_iload_n hx hb dX8_cleared_87 rfl (lv_at hl 3 rfl) ?_
        refine lv_iload hx hb dX8_cleared_88 (lv_at hl 1 rfl) ?_
        refine va_iast (i := nI r) hx hb hK hP hD hS 5 2 rfl rfl (vp_in_nI (by omega) (by omega)) dX8_cleared_90 (fun H locs hP hD hS => ?_)
        rw [nI_clamp (by omega)] at hP hD
        replace hP : va_P (dC, dI) vwCl [(q6, .inl (c6, 16, .inl a6)), (q7, .inl (c7, 16, .inl a7)), (h0, .inr (8, [.int th, .ref q1, .ref q2, .ref q3, .ref q4, v5, .ref q6, .ref q7, .ref q8, .ref q9, .ref q10, .ref q11, v12, v13, v14, v15, v16])), (q1, .inl (c1, 16, .inl a1)), (q2, .inl (c2, 67200, .inl f2)), (q3, .inl (c3, 16, .inl (upd a3 r (nI e9)))), (q4, .inl (c4, 16, .inl a4)), (q8, .inl (c8, 16, .inl a8)), (q9, .inl (c9, 16, .inl a9)), (q10, .inl (c10, 16, .inl a10)), (q11, .inl (c11, 16, .inl a11))] H := hP
        replace hD : va_D A [(q6, .inl (c6, 16, .inl a6)), (q7, .inl (c7, 16, .inl a7)), (h0, .inr (8, [.int th, .ref q1, .ref q2, .ref q3, .ref q4, v5, .ref q6, .ref q7, .ref q8, .ref q9, .ref q10, .ref q11, v12, v13, v14, v15, v16])), (q1, .inl (c1, 16, .inl a1)), (q2, .inl (c2, 67200, .inl f2)), (q3, .inl (c3, 16, .inl (upd a3 r (nI e9)))), (q4, .inl (c4, 16, .inl a4)), (q8, .inl (c8, 16, .inl a8)), (q9, .inl (c9, 16, .inl a9)), (q10, .inl (c10, 16, .inl a10)), (q11, .inl (c11, 16, .inl a11))] := hD
        refine lv_aload_n hx hb dX8_cleared_91 rfl (lv_at hl 4 rfl) ?_
        refine va_get (D := (dC, dI)) (ci := 8) (v := .ref q7) (C := RX8) (T := TX8) (N := 17) hx hb hts hi0_ hown hK hP 2 rfl rfl 7 (by decide) hw1_ (fun _ h9 => h9) rfl dX8_cleared_92 ?_
        refine lv_iload_n hx hb dX8_cleared_95 rfl (lv_at hl 3 rfl) ?_
        refine lv_dup2_11 hx hb dX8_cleared_96 rfl rfl ?_
        refine va_iald (i := nI r) hx hb hK hP 1 5 rfl rfl (vp_in_nI (by omega) (by omega)) dX8_cleared_97 ?_
        refine W.eq (g2 := F0 m 98 ls [.int (a7 r), .int (nI r), .ref q7]) (by rw [nI_clamp (by omega)]) ?_
        refine lv_iconst (v := 1) hx hb dX8_cleared_98 (by decide) ?_
        refine lv_iadd hx hb dX8_cleared_99 ?_
        refine va_iast (i := nI r) hx hb hK hP hD hS 1 5 rfl rfl (vp_in_nI (by omega) (by omega)) dX8_cleared_100 (fun H locs hP hD hS => ?_)
        rw [nI_clamp (by omega)] at hP hD
        replace hP : va_P (dC, dI) vwCl [(q6, .inl (c6, 16, .inl a6)), (q7, .inl (c7, 16, .inl (upd a7 r ((a7 r) + 1)))), (h0, .inr (8, [.int th, .ref q1, .ref q2, .ref q3, .ref q4, v5, .ref q6, .ref q7, .ref q8, .ref q9, .ref q10, .ref q11, v12, v13, v14, v15, v16])), (q1, .inl (c1, 16, .inl a1)), (q2, .inl (c2, 67200, .inl f2)), (q3, .inl (c3, 16, .inl (upd a3 r (nI e9)))), (q4, .inl (c4, 16, .inl a4)), (q8, .inl (c8, 16, .inl a8)), (q9, .inl (c9, 16, .inl a9)), (q10, .inl (c10, 16, .inl a10)), (q11, .inl (c11, 16, .inl a11))] H := hP
        replace hD : va_D A [(q6, .inl (c6, 16, .inl a6)), (q7, .inl (c7, 16, .inl (upd a7 r ((a7 r) + 1)))), (h0, .inr (8, [.int th, .ref q1, .ref q2, .ref q3, .ref q4, v5, .ref q6, .ref q7, .ref q8, .ref q9, .ref q10, .ref q11, v12, v13, v14, v15, v16])), (q1, .inl (c1, 16, .inl a1)), (q2, .inl (c2, 67200, .inl f2)), (q3, .inl (c3, 16, .inl (upd a3 r (nI e9)))), (q4, .inl (c4, 16, .inl a4)), (q8, .inl (c8, 16, .inl a8)), (q9, .inl (c9, 16, .inl a9)), (q10, .inl (c10, 16, .inl a10)), (q11, .inl (c11, 16, .inl a11))] := hD
        refine lv_aload_n hx hb dX8_cleared_101 rfl (lv_at hl 4 rfl) ?_
        refine va_get (D := (dC, dI)) (ci := 8) (v := .ref q1) (C := RX8) (T := TX8) (N := 17) hx hb hts hi0_ hown hK hP 2 rfl rfl 1 (by decide) hw2_ (fun _ h9 => h9) rfl dX8_cleared_102 ?_
        refine lv_iload_n hx hb dX8_cleared_105 rfl (lv_at hl 3 rfl) ?_
        refine va_iald (i := nI r) hx hb hK hP 3 0 rfl rfl (vp_in_nI (by omega) (by omega)) dX8_cleared_106 ?_
        refine W.eq (g2 := F0 m 107 ls [.int (a1 r)]) (by rw [nI_clamp (by omega)]) ?_
        refine lv_iconst (v := 1) hx hb dX8_cleared_107 (by decide) ?_
        refine lv_icmp_ne (tgt := 149) hx hb dX8_cleared_108 (by decide) (fun c_5 => ?_) (fun c_5 => ?_)
        ·
          have ic_5 : ¬ (a1 r).toInt = 1 := tx_ne rfl (by decide) c_5
          refine lv_iload_n hx hb dX8_cleared_149 rfl (lv_at hl 2 rfl) ?_
          refine lv_i2l (v := (nI ne).toInt64) hx hb dX8_cleared_150 rfl ?_
          have hP9 := hP.sub (ws' := [(h0, .inr (8, [.int th, .ref q1, .ref q2, .ref q3, .ref q4, v5, .ref q6, .ref q7, .ref q8, .ref q9, .ref q10, .ref q11, v12, v13, v14, v15, v16])), (q1, .inl (c1, 16, .inl a1)), (q2, .inl (c2, 67200, .inl f2)), (q3, .inl (c3, 16, .inl (upd a3 r (nI e9)))), (q4, .inl (c4, 16, .inl a4)), (q6, .inl (c6, 16, .inl a6)), (q7, .inl (c7, 16, .inl (upd a7 r ((a7 r) + 1)))), (q8, .inl (c8, 16, .inl a8)), (q9, .inl (c9, 16, .inl a9)), (q10, .inl (c10, 16, .inl a10)), (q11, .inl (c11, 16, .inl a11))]) [2, 3, 4, 5, 6, 0, 1, 7, 8, 9, 10] rfl
          have hD9 := hD.sub (ws' := [(h0, .inr (8, [.int th, .ref q1, .ref q2, .ref q3, .ref q4, v5, .ref q6, .ref q7, .ref q8, .ref q9, .ref q10, .ref q11, v12, v13, v14, v15, v16])), (q1, .inl (c1, 16, .inl a1)), (q2, .inl (c2, 67200, .inl f2)), (q3, .inl (c3, 16, .inl (upd a3 r (nI e9)))), (q4, .inl (c4, 16, .inl a4)), (q6, .inl (c6, 16, .inl a6)), (q7, .inl (c7, 16, .inl (upd a7 r ((a7 r) + 1)))), (q8, .inl (c8, 16, .inl a8)), (q9, .inl (c9, 16, .inl a9)), (q10, .inl (c10, 16, .inl a10)), (q11, .inl (c11, 16, .inl a11))]) [2, 3, 4, 5, 6, 0, 1, 7, 8, 9, 10] (by decide) rfl
          have hK9 := hK.sub (tys' := [(c1, .int), (c2, .int), (c3, .int), (c4, .int), (c6, .int), (c7, .int), (c8, .int), (c9, .int), (c10, .int), (c11, .int)]) [0, 1, 2, 3, 4, 5, 6, 7, 8, 9] rfl
          refine W.widen (k := 0) (n := 0) (Nat.le_of_ble_eq_true rfl) (Nat.le_of_ble_eq_true rfl) ?_
          exact W.lret (v := (nI ne).toInt64) hx hb hr (fun t ht hW => ⟨⟨(nI ne).toInt64, (f2, (upd a3 r (nI e9)), (upd a7 r ((a7 r) + 1))), rfl, ⟨⟨1, by omega, rs_1 hv9 (fun _ _ => rfl)⟩, mo_us (hM8 _ (by omega))⟩, by rw [ht]; exact hP9, va_K.moved hW.alike hK9, hD9⟩, hS.F ht⟩) hS.2.2 dX8_cleared_151
        ·
          have ic_5 : (a1 r).toInt = 1 := tx_eq rfl (by decide) c_5
          obtain ⟨w1_, w2_, -, htb⟩ := hT9 (by omega) ic_5
          refine lv_iconst (v := 0) hx hb dX8_cleared_111 (by decide) ?_
          refine lv_istore (lv' := [(5, .int 0), (4, .int (nI e9)), (3, .int (nI ne)), (2, .int (nI r)), (0, .ref h0), (1, .int (nI o))]) hx hb dX8_cleared_112 hl (by decide) rfl (fun ls hl => ?_)
          obtain ⟨i8, es_i8⟩ : ∃ z : Nat, z = 0 := ⟨_, rfl⟩
          obtain ⟨x8, ex8⟩ : ∃ y : Int32, y = nI i8 := ⟨_, rfl⟩
          obtain ⟨f8, ef_f8⟩ : ∃ z : Nat → Int32, z = f2 := ⟨_, rfl⟩
          obtain ⟨n9B, en9⟩ : ∃ n : Nat, n = tb + 1 := ⟨_, rfl⟩
          replace hl : lv_has ls 6 [(5, .int x8), (4, .int (nI e9)), (3, .int (nI ne)), (2, .int (nI r)), (0, .ref h0), (1, .int (nI o))] := by subst ex8; subst es_i8; exact hl
          replace hP : va_P (dC, dI) vwCl [(q6, .inl (c6, 16, .inl a6)), (q7, .inl (c7, 16, .inl (upd a7 r ((a7 r) + 1)))), (h0, .inr (8, [.int th, .ref q1, .ref q2, .ref q3, .ref q4, v5, .ref q6, .ref q7, .ref q8, .ref q9, .ref q10, .ref q11, v12, v13, v14, v15, v16])), (q1, .inl (c1, 16, .inl a1)), (q2, .inl (c2, 67200, .inl f8)), (q3, .inl (c3, 16, .inl (upd a3 r (nI e9)))), (q4, .inl (c4, 16, .inl a4)), (q8, .inl (c8, 16, .inl a8)), (q9, .inl (c9, 16, .inl a9)), (q10, .inl (c10, 16, .inl a10)), (q11, .inl (c11, 16, .inl a11))] H := by subst ef_f8; exact hP
          replace hD : va_D A [(q6, .inl (c6, 16, .inl a6)), (q7, .inl (c7, 16, .inl (upd a7 r ((a7 r) + 1)))), (h0, .inr (8, [.int th, .ref q1, .ref q2, .ref q3, .ref q4, v5, .ref q6, .ref q7, .ref q8, .ref q9, .ref q10, .ref q11, v12, v13, v14, v15, v16])), (q1, .inl (c1, 16, .inl a1)), (q2, .inl (c2, 67200, .inl f8)), (q3, .inl (c3, 16, .inl (upd a3 r (nI e9)))), (q4, .inl (c4, 16, .inl a4)), (q8, .inl (c8, 16, .inl a8)), (q9, .inl (c9, 16, .inl a9)), (q10, .inl (c10, 16, .inl a10)), (q11, .inl (c11, 16, .inl a11))] := by subst ef_f8; exact hD
          have hi8 : i8 ≤ tb := by subst ex8; subst es_i8; subst ef_f8; subst en9; exact Nat.zero_le _
          have hn8b : tb + 1 ≤ i8 + n9B := by subst ex8; subst es_i8; subst ef_f8; subst en9; exact by omega
          have hv8 : outR a2 f8 r := by subst ex8; subst es_i8; subst ef_f8; subst en9; exact hv9
          clear en9 es_i8 ef_f8
          induction n9B generalizing i8 x8 ls H locs f8 with
          | zero => exact absurd hn8b (by omega)
          | succ n9B ihB =>
            subst ex8
            refine lv_iload hx hb dX8_cleared_114 (lv_at hl 0 rfl) ?_
            refine lv_aload_n hx hb dX8_cleared_116 rfl (lv_at hl 4 rfl) ?_
            refine va_get (D := (dC, dI)) (ci := 8) (v := .ref q6) (C := RX8) (T := TX8) (N := 17) hx hb hts hi0_ hown hK hP 2 rfl rfl 6 (by decide) hw3_ (fun _ h9 => h9) rfl dX8_cleared_117 ?_
            refine lv_iload_n hx hb dX8_cleared_120 rfl (lv_at hl 3 rfl) ?_
            refine va_iald (i := nI r) hx hb hK hP 0 4 rfl rfl (vp_in_nI (by omega) (by omega)) dX8_cleared_121 ?_
            refine W.eq (g2 := F0 m 122 ls [.int (a6 r), .int (nI i8)]) (by rw [nI_clamp (by omega)]) ?_
            refine W.eq (g2 := F0 m 122 ls [.int (nI tb), .int (nI i8)]) (by rw [htb]) ?_
            refine lv_icmp_ge (tgt := 149) hx hb dX8_cleared_122 (by decide) (fun c_6 => ?_) (fun c_6 => ?_)
            ·
              have ic_6 : ((tb : Nat) : Int) ≤ ((i8 : Nat) : Int) := tx_le (nI_toInt (by omega)) (nI_toInt (by omega)) c_6
              refine lv_iload_n hx hb dX8_cleared_149 rfl (lv_at hl 2 rfl) ?_
              refine lv_i2l (v := (nI ne).toInt64) hx hb dX8_cleared_150 rfl ?_
              have hP9 := hP.sub (ws' := [(h0, .inr (8, [.int th, .ref q1, .ref q2, .ref q3, .ref q4, v5, .ref q6, .ref q7, .ref q8, .ref q9, .ref q10, .ref q11, v12, v13, v14, v15, v16])), (q1, .inl (c1, 16, .inl a1)), (q2, .inl (c2, 67200, .inl f8)), (q3, .inl (c3, 16, .inl (upd a3 r (nI e9)))), (q4, .inl (c4, 16, .inl a4)), (q6, .inl (c6, 16, .inl a6)), (q7, .inl (c7, 16, .inl (upd a7 r ((a7 r) + 1)))), (q8, .inl (c8, 16, .inl a8)), (q9, .inl (c9, 16, .inl a9)), (q10, .inl (c10, 16, .inl a10)), (q11, .inl (c11, 16, .inl a11))]) [2, 3, 4, 5, 6, 0, 1, 7, 8, 9, 10] rfl
              have hD9 := hD.sub (ws' := [(h0, .inr (8, [.int th, .ref q1, .ref q2, .ref q3, .ref q4, v5, .ref q6, .ref q7, .ref q8, .ref q9, .ref q10, .ref q11, v12, v13, v14, v15, v16])), (q1, .inl (c1, 16, .inl a1)), (q2, .inl (c2, 67200, .inl f8)), (q3, .inl (c3, 16, .inl (upd a3 r (nI e9)))), (q4, .inl (c4, 16, .inl a4)), (q6, .inl (c6, 16, .inl a6)), (q7, .inl (c7, 16, .inl (upd a7 r ((a7 r) + 1)))), (q8, .inl (c8, 16, .inl a8)), (q9, .inl (c9, 16, .inl a9)), (q10, .inl (c10, 16, .inl a10)), (q11, .inl (c11, 16, .inl a11))]) [2, 3, 4, 5, 6, 0, 1, 7, 8, 9, 10] (by decide) rfl
              have hK9 := hK.sub (tys' := [(c1, .int), (c2, .int), (c3, .int), (c4, .int), (c6, .int), (c7, .int), (c8, .int), (c9, .int), (c10, .int), (c11, .int)]) [0, 1, 2, 3, 4, 5, 6, 7, 8, 9] rfl
              refine W.widen (k := 0) (n := 0) (Nat.le_of_ble_eq_true rfl) (Nat.le_of_ble_eq_true rfl) ?_
              exact W.lret (v := (nI ne).toInt64) hx hb hr (fun t ht hW => ⟨⟨(nI ne).toInt64, (f8, (upd a3 r (nI e9)), (upd a7 r ((a7 r) + 1))), rfl, ⟨⟨1, by omega, rs_1 hv8 (fun _ _ => rfl)⟩, mo_us (hM8 _ (by omega))⟩, by rw [ht]; exact hP9, va_K.moved hW.alike hK9, hD9⟩, hS.F ht⟩) hS.2.2 dX8_cleared_151
            ·
              have ic_6 : ((i8 : Nat) : Int) < ((tb : Nat) : Int) := tx_nle (nI_toInt (by omega)) (nI_toInt (by omega)) c_6
              refine lv_aload_n hx hb dX8_cleared_125 rfl (lv_at hl 4 rfl) ?_
              refine va_get (D := (dC, dI)) (ci := 8) (v := .ref q2) (C := RX8) (T := TX8) (N := 17) hx hb hts hi0_ hown hK hP 2 rfl rfl 2 (by decide) hw4_ (fun _ h9 => h9) rfl dX8_cleared_126 ?_
              refine lv_sipush (v := 4200) hx hb dX8_cleared_129 (by decide) ?_
              refine lv_iload_n hx hb dX8_cleared_132 rfl (lv_at hl 3 rfl) ?_
              refine lv_imul hx hb dX8_cleared_133 ?_
              refine lv_topi (fun z_7 ez_7 => ?_)
              obtain rfl : z_7 = nI (4200 * r) := ez_7.trans (by rw [show (4200 : Int32) = nI 4200 from rfl, pk_mul])
              refine lv_sipush (v := 2000) hx hb dX8_cleared_134 (by decide) ?_
              refine lv_iadd hx hb dX8_cleared_137 ?_
              refine lv_topi (fun z_8 ez_8 => ?_)
              obtain rfl : z_8 = nI ((4200 * r) + 2000) := ez_8.trans (by rw [show (2000 : Int32) = nI 2000 from rfl, nI_add])
              refine lv_iload hx hb dX8_cleared_138 (lv_at hl 0 rfl) ?_
              refine lv_iadd hx hb dX8_cleared_140 ?_
              refine lv_topi (fun z_9 ez_9 => ?_)
              obtain rfl : z_9 = nI (((4200 * r) + 2000) + i8) := ez_9.trans (by rw [nI_add])
              refine lv_iconst (v := 0) hx hb dX8_cleared_141 (by decide) ?_
              refine va_iast (i := nI (((4200 * r) + 2000) + i8)) hx hb hK hP hD hS 4 1 rfl rfl (vp_in_nI (by omega) (by omega)) dX8_cleared_142 (fun H locs hP hD hS => ?_)
              rw [nI_clamp (by omega)] at hP hD
              replace hP : va_P (dC, dI) vwCl [(q6, .inl (c6, 16, .inl a6)), (q7, .inl (c7, 16, .inl (upd a7 r ((a7 r) + 1)))), (h0, .inr (8, [.int th, .ref q1, .ref q2, .ref q3, .ref q4, v5, .ref q6, .ref q7, .ref q8, .ref q9, .ref q10, .ref q11, v12, v13, v14, v15, v16])), (q1, .inl (c1, 16, .inl a1)), (q2, .inl (c2, 67200, .inl (upd f8 (((4200 * r) + 2000) + i8) 0))), (q3, .inl (c3, 16, .inl (upd a3 r (nI e9)))), (q4, .inl (c4, 16, .inl a4)), (q8, .inl (c8, 16, .inl a8)), (q9, .inl (c9, 16, .inl a9)), (q10, .inl (c10, 16, .inl a10)), (q11, .inl (c11, 16, .inl a11))] H := hP
              replace hD : va_D A [(q6, .inl (c6, 16, .inl a6)), (q7, .inl (c7, 16, .inl (upd a7 r ((a7 r) + 1)))), (h0, .inr (8, [.int th, .ref q1, .ref q2, .ref q3, .ref q4, v5, .ref q6, .ref q7, .ref q8, .ref q9, .ref q10, .ref q11, v12, v13, v14, v15, v16])), (q1, .inl (c1, 16, .inl a1)), (q2, .inl (c2, 67200, .inl (upd f8 (((4200 * r) + 2000) + i8) 0))), (q3, .inl (c3, 16, .inl (upd a3 r (nI e9)))), (q4, .inl (c4, 16, .inl a4)), (q8, .inl (c8, 16, .inl a8)), (q9, .inl (c9, 16, .inl a9)), (q10, .inl (c10, 16, .inl a10)), (q11, .inl (c11, 16, .inl a11))] := hD
              refine lv_iinc (v := nI (i8 + 1)) (lv' := [(5, .int (nI (i8 + 1))), (4, .int (nI e9)), (3, .int (nI ne)), (2, .int (nI r)), (0, .ref h0), (1, .int (nI o))]) hx hb dX8_cleared_143 hl (k := 0) rfl (by rw [show Int32.ofInt 1 = nI 1 from rfl, nI_add]) (by decide) rfl (fun ls hl => ?_)
              refine lv_goto (tgt := 114) hx hb dX8_cleared_146 (by decide) ?_
              exact ihB (i8 := i8 + 1) (x8 := nI (i8 + 1)) (ex8 := rfl) (ls := ls) (f8 := (upd f8 (((4200 * r) + 2000) + i8) 0)) (H := H) (locs := locs) (hP := hP.sub (ws' := [(q6, .inl (c6, 16, .inl a6)), (q7, .inl (c7, 16, .inl (upd a7 r ((a7 r) + 1)))), (h0, .inr (8, [.int th, .ref q1, .ref q2, .ref q3, .ref q4, v5, .ref q6, .ref q7, .ref q8, .ref q9, .ref q10, .ref q11, v12, v13, v14, v15, v16])), (q1, .inl (c1, 16, .inl a1)), (q2, .inl (c2, 67200, .inl (upd f8 (((4200 * r) + 2000) + i8) 0))), (q3, .inl (c3, 16, .inl (upd a3 r (nI e9)))), (q4, .inl (c4, 16, .inl a4)), (q8, .inl (c8, 16, .inl a8)), (q9, .inl (c9, 16, .inl a9)), (q10, .inl (c10, 16, .inl a10)), (q11, .inl (c11, 16, .inl a11))]) [0, 1, 2, 3, 4, 5, 6, 7, 8, 9, 10] rfl) (hS := hS) (hD := hD.sub (ws' := [(q6, .inl (c6, 16, .inl a6)), (q7, .inl (c7, 16, .inl (upd a7 r ((a7 r) + 1)))), (h0, .inr (8, [.int th, .ref q1, .ref q2, .ref q3, .ref q4, v5, .ref q6, .ref q7, .ref q8, .ref q9, .ref q10, .ref q11, v12, v13, v14, v15, v16])), (q1, .inl (c1, 16, .inl a1)), (q2, .inl (c2, 67200, .inl (upd f8 (((4200 * r) + 2000) + i8) 0))), (q3, .inl (c3, 16, .inl (upd a3 r (nI e9)))), (q4, .inl (c4, 16, .inl a4)), (q8, .inl (c8, 16, .inl a8)), (q9, .inl (c9, 16, .inl a9)), (q10, .inl (c10, 16, .inl a10)), (q11, .inl (c11, 16, .inl a11))]) [0, 1, 2, 3, 4, 5, 6, 7, 8, 9, 10] (by decide) rfl) (hi8 := by omega) (hn8b := by omega) (hv8 := outR_up' hv8 (k := 2000 + i8) (by omega) (by omega)) (hl := lv_sub hl [0, 1, 2, 3, 4, 5] rfl)
      ·
        have ic_4 : ((i : Nat) : Int) < ((nz : Nat) : Int) := tx_nle (nI_toInt (by omega)) (nI_toInt (by omega)) c_4
        refine lv_aload_n hx hb dX8_cleared_35 rfl (lv_at hl 4 rfl) ?_
        refine lv_iload_n hx hb dX8_cleared_36 rfl (lv_at hl 5 rfl) ?_
        refine lv_aload_n hx hb dX8_cleared_37 rfl (lv_at hl 4 rfl) ?_
        refine lv_iload_n hx hb dX8_cleared_38 rfl (lv_at hl 3 rfl) ?_
        refine lv_iload hx hb dX8_cleared_39 (lv_at hl 0 rfl) ?_
        have hPc := hP.sub (ws' := [(h0, .inr (8, [.int th, .ref q1, .ref q2, .ref q3, .ref q4, v5, .ref q6, .ref q7, .ref q8, .ref q9, .ref q10, .ref q11, v12, v13, v14, v15, v16])), (q2, .inl (c2, 67200, .inl f2))]) [2, 4] rfl
        have hDc := hD.sub (ws' := [(h0, .inr (8, [.int th, .ref q1, .ref q2, .ref q3, .ref q4, v5, .ref q6, .ref q7, .ref q8, .ref q9, .ref q10, .ref q11, v12, v13, v14, v15, v16])), (q2, .inl (c2, 67200, .inl f2))]) [2, 4] (by decide) rfl
        have hKc := hK.sub (tys' := [(c2, .int)]) [1] rfl
        have hFc := va_free (wc := [(h0, .inr (8, [.int th, .ref q1, .ref q2, .ref q3, .ref q4, v5, .ref q6, .ref q7, .ref q8, .ref q9, .ref q10, .ref q11, v12, v13, v14, v15, v16])), (q2, .inl (c2, 67200, .inl f2))]) hD hS hA [2, 4] rfl
        refine va_calli (va_runV (As := [.int (nI r), .int (nI i)]) (rest := [.int (nI o), .ref h0]) ⟨hx, hb, hml, hown, hts⟩ (c_X8_key l  dC dI H.size h0 th q2 c2 f2 (.ref q1) (.ref q3) (.ref q4) v5 (.ref q6) (.ref q7) (.ref q8) (.ref q9) (.ref q10) (.ref q11) v12 v13 v14 v15 v16 r i hr9 (by omega)) (cwV 2 hts gX8_cleared_X8_key rfl rfl rfl (by decide +kernel) ⟨(Nat.le_of_ble_eq_true rfl), (Nat.le_of_ble_eq_true rfl)⟩) ⟨pk_blind, va_recv hKc hPc (ci := 8) (q0 := 0) rfl rfl, pk_call hPc hKc hDc⟩ rfl rfl hl.1 rfl (lv_room (Nat.le_of_ble_eq_true rfl)) dX8_cleared_41 ⟨(Nat.le_of_ble_eq_true rfl), (Nat.le_of_ble_eq_true rfl)⟩) hS (fun q _ h => hFc q h) hFc (fun r_10 ur_10 t H1 locs ht hvm hw hB hz1 hk1 hS => ?_)
        try dsimp only at hw
        obtain ⟨hP1, hK1, hD1⟩ := hB
        rw [ht] at hP1
        have hK1 := va_K.moved hvm.symm hK1
        obtain ⟨hP, hD⟩ := va_join (wr := [(q6, .inl (c6, 16, .inl a6)), (q7, .inl (c7, 16, .inl a7)), (q1, .inl (c1, 16, .inl a1)), (q3, .inl (c3, 16, .inl a3)), (q4, .inl (c4, 16, .inl a4)), (q8, .inl (c8, 16, .inl a8)), (q9, .inl (c9, 16, .inl a9)), (q10, .inl (c10, 16, .inl a10)), (q11, .inl (c11, 16, .inl a11))]) (w1 := [(h0, .inr (8, [.int th, .ref q1, .ref q2, .ref q3, .ref q4, v5, .ref q6, .ref q7, .ref q8, .ref q9, .ref q10, .ref q11, v12, v13, v14, v15, v16])), (q2, .inl (c2, 67200, .inl f2))]) hP hD [2, 4] [0, 1, 3, 5, 6, 7, 8, 9, 10] rfl rfl (by decide) (by decide) hk1 hFc hP1 hD1
        clear hk1 hz1 ht hPc hDc hKc hFc
        generalize H1 = H at hP hS ⊢
        replace hP : va_P (dC, dI) vwCl [(q6, .inl (c6, 16, .inl a6)), (q7, .inl (c7, 16, .inl a7)), (q1, .inl (c1, 16, .inl a1)), (q3, .inl (c3, 16, .inl a3)), (q4, .inl (c4, 16, .inl a4)), (q8, .inl (c8, 16, .inl a8)), (q9, .inl (c9, 16, .inl a9)), (q10, .inl (c10, 16, .inl a10)), (q11, .inl (c11, 16, .inl a11)), (h0, .inr (8, [.int th, .ref q1, .ref q2, .ref q3, .ref q4, v5, .ref q6, .ref q7, .ref q8, .ref q9, .ref q10, .ref q11, v12, v13, v14, v15, v16])), (q2, .inl (c2, 67200, .inl f2))] H := hP
        replace hD : va_D A [(q6, .inl (c6, 16, .inl a6)), (q7, .inl (c7, 16, .inl a7)), (q1, .inl (c1, 16, .inl a1)), (q3, .inl (c3, 16, .inl a3)), (q4, .inl (c4, 16, .inl a4)), (q8, .inl (c8, 16, .inl a8)), (q9, .inl (c9, 16, .inl a9)), (q10, .inl (c10, 16, .inl a10)), (q11, .inl (c11, 16, .inl a11)), (h0, .inr (8, [.int th, .ref q1, .ref q2, .ref q3, .ref q4, v5, .ref q6, .ref q7, .ref q8, .ref q9, .ref q10, .ref q11, v12, v13, v14, v15, v16])), (q2, .inl (c2, 67200, .inl f2))] := hD
        refine W.widen (k := 0) (n := 0) (Nat.le_of_ble_eq_true rfl) (Nat.le_of_ble_eq_true rfl) ?_
        obtain rfl : r_10 = f2 (4200 * r + i) := hw
        refine W.eq (g2 := F0 m 44 ls [.int (f2 (4200 * r + i)), .int (nI o), .ref h0]) rfl ?_
        have hPc := hP.sub (ws' := [(h0, .inr (8, [.int th, .ref q1, .ref q2, .ref q3, .ref q4, v5, .ref q6, .ref q7, .ref q8, .ref q9, .ref q10, .ref q11, v12, v13, v14, v15, v16])), (q1, .inl (c1, 16, .inl a1)), (q4, .inl (c4, 16, .inl a4)), (q8, .inl (c8, 16, .inl a8)), (q9, .inl (c9, 16, .inl a9)), (q10, .inl (c10, 16, .inl a10)), (q11, .inl (c11, 16, .inl a11))]) [9, 2, 4, 5, 6, 7, 8] rfl
        have hDc := hD.sub (ws' := [(h0, .inr (8, [.int th, .ref q1, .ref q2, .ref q3, .ref q4, v5, .ref q6, .ref q7, .ref q8, .ref q9, .ref q10, .ref q11, v12, v13, v14, v15, v16])), (q1, .inl (c1, 16, .inl a1)), (q4, .inl (c4, 16, .inl a4)), (q8, .inl (c8, 16, .inl a8)), (q9, .inl (c9, 16, .inl a9)), (q10, .inl (c10, 16, .inl a10)), (q11, .inl (c11, 16, .inl a11))]) [9, 2, 4, 5, 6, 7, 8] (by decide) rfl
        have hKc := hK.sub (tys' := [(c1, .int), (c4, .int), (c8, .int), (c9, .int), (c10, .int), (c11, .int)]) [0, 3, 6, 7, 8, 9] rfl
        have hFc := va_free (wc := [(h0, .inr (8, [.int th, .ref q1, .ref q2, .ref q3, .ref q4, v5, .ref q6, .ref q7, .ref q8, .ref q9, .ref q10, .ref q11, v12, v13, v14, v15, v16])), (q1, .inl (c1, 16, .inl a1)), (q4, .inl (c4, 16, .inl a4)), (q8, .inl (c8, 16, .inl a8)), (q9, .inl (c9, 16, .inl a9)), (q10, .inl (c10, 16, .inl a10)), (q11, .inl (c11, 16, .inl a11))]) hD hS hA [9, 2, 4, 5, 6, 7, 8] rfl
        refine va_calli (va_runV (As := [.int (nI o), .int (f2 (4200 * r + i))]) (rest := []) ⟨hx, hb, hml, hown, hts⟩ (c_X8_isWithin l  dC dI H.size h0 th q1 q4 q8 q9 q10 q11 c1 c4 c8 c9 c10 c11 a1 a4 a8 a9 a10 a11 (.ref q2) (.ref q3) v5 (.ref q6) (.ref q7) v12 v13 v14 v15 v16 o dep (f2 (4200 * r + i)) ho9 hF9 hd9) (cwV 2 hts gX8_cleared_X8_isWithin rfl rfl rfl (by decide +kernel) ⟨(Nat.le_of_ble_eq_true rfl), (Nat.le_of_ble_eq_true rfl)⟩) ⟨pk_blind, va_recv hKc hPc (ci := 8) (q0 := 0) rfl rfl, pk_call hPc hKc hDc⟩ rfl rfl hl.1 rfl (lv_room (Nat.le_of_ble_eq_true rfl)) dX8_cleared_44 ⟨(Nat.le_of_ble_eq_true rfl), (Nat.le_of_ble_eq_true rfl)⟩) hS (fun q _ h => hFc q h) hFc (fun r_11 ur_11 t H1 locs ht hvm hw hB hz1 hk1 hS => ?_)
        try dsimp only at hw
        obtain ⟨hP1, hK1, hD1⟩ := hB
        rw [ht] at hP1
        have hK1 := va_K.moved hvm.symm hK1
        obtain ⟨hP, hD⟩ := va_join (wr := [(q6, .inl (c6, 16, .inl a6)), (q7, .inl (c7, 16, .inl a7)), (q3, .inl (c3, 16, .inl a3)), (q2, .inl (c2, 67200, .inl f2))]) (w1 := [(h0, .inr (8, [.int th, .ref q1, .ref q2, .ref q3, .ref q4, v5, .ref q6, .ref q7, .ref q8, .ref q9, .ref q10, .ref q11, v12, v13, v14, v15, v16])), (q1, .inl (c1, 16, .inl a1)), (q4, .inl (c4, 16, .inl a4)), (q8, .inl (c8, 16, .inl a8)), (q9, .inl (c9, 16, .inl a9)), (q10, .inl (c10, 16, .inl a10)), (q11, .inl (c11, 16, .inl a11))]) hP hD [9, 2, 4, 5, 6, 7, 8] [0, 1, 3, 10] rfl rfl (by decide) (by decide) hk1 hFc hP1 hD1
        clear hk1 hz1 ht hPc hDc hKc hFc
        generalize H1 = H at hP hS ⊢
        replace hP : va_P (dC, dI) vwCl [(q6, .inl (c6, 16, .inl a6)), (q7, .inl (c7, 16, .inl a7)), (q3, .inl (c3, 16, .inl a3)), (q2, .inl (c2, 67200, .inl f2)), (h0, .inr (8, [.int th, .ref q1, .ref q2, .ref q3, .ref q4, v5, .ref q6, .ref q7, .ref q8, .ref q9, .ref q10, .ref q11, v12, v13, v14, v15, v16])), (q1, .inl (c1, 16, .inl a1)), (q4, .inl (c4, 16, .inl a4)), (q8, .inl (c8, 16, .inl a8)), (q9, .inl (c9, 16, .inl a9)), (q10, .inl (c10, 16, .inl a10)), (q11, .inl (c11, 16, .inl a11))] H := hP
        replace hD : va_D A [(q6, .inl (c6, 16, .inl a6)), (q7, .inl (c7, 16, .inl a7)), (q3, .inl (c3, 16, .inl a3)), (q2, .inl (c2, 67200, .inl f2)), (h0, .inr (8, [.int th, .ref q1, .ref q2, .ref q3, .ref q4, v5, .ref q6, .ref q7, .ref q8, .ref q9, .ref q10, .ref q11, v12, v13, v14, v15, v16])), (q1, .inl (c1, 16, .inl a1)), (q4, .inl (c4, 16, .inl a4)), (q8, .inl (c8, 16, .inl a8)), (q9, .inl (c9, 16, .inl a9)), (q10, .inl (c10, 16, .inl a10)), (q11, .inl (c11, 16, .inl a11))] := hD
        refine W.widen (k := 0) (n := 0) (Nat.le_of_ble_eq_true rfl) (Nat.le_of_ble_eq_true rfl) ?_
        obtain rfl : r_11 = tz (winN a1 a8 a11 a9 a10 a4 17 o (f2 (4200 * r + i))) := hw
        refine W.eq (g2 := F0 m 47 ls [.int (tz (winN a1 a8 a11 a9 a10 a4 17 o (f2 (4200 * r + i))))]) rfl ?_
        refine lv_if_eq (tgt := 53) hx hb dX8_cleared_47 (by decide) (fun c_12 => ?_) (fun c_12 => ?_)
        ·
          have ic_12 : (tz (winN a1 a8 a11 a9 a10 a4 17 o (f2 (4200 * r + i)))).toInt = 0 := tx_eq rfl (by decide) c_12
          refine lv_aload_n hx hb dX8_cleared_53 rfl (lv_at hl 4 rfl) ?_
          refine lv_iload_n hx hb dX8_cleared_54 rfl (lv_at hl 3 rfl) ?_
          refine lv_iload hx hb dX8_cleared_55 (lv_at hl 1 rfl) ?_
          refine lv_aload_n hx hb dX8_cleared_57 rfl (lv_at hl 4 rfl) ?_
          refine lv_iload_n hx hb dX8_cleared_58 rfl (lv_at hl 3 rfl) ?_
          refine lv_iload hx hb dX8_cleared_59 (lv_at hl 0 rfl) ?_
          have hPc := hP.sub (ws' := [(h0, .inr (8, [.int th, .ref q1, .ref q2, .ref q3, .ref q4, v5, .ref q6, .ref q7, .ref q8, .ref q9, .ref q10, .ref q11, v12, v13, v14, v15, v16])), (q2, .inl (c2, 67200, .inl f2))]) [4, 3] rfl
          have hDc := hD.sub (ws' := [(h0, .inr (8, [.int th, .ref q1, .ref q2, .ref q3, .ref q4, v5, .ref q6, .ref q7, .ref q8, .ref q9, .ref q10, .ref q11, v12, v13, v14, v15, v16])), (q2, .inl (c2, 67200, .inl f2))]) [4, 3] (by decide) rfl
          have hKc := hK.sub (tys' := [(c2, .int)]) [1] rfl
          have hFc := va_free (wc := [(h0, .inr (8, [.int th, .ref q1, .ref q2, .ref q3, .ref q4, v5, .ref q6, .ref q7, .ref q8, .ref q9, .ref q10, .ref q11, v12, v13, v14, v15, v16])), (q2, .inl (c2, 67200, .inl f2))]) hD hS hA [4, 3] rfl
          refine va_calli (va_runV (As := [.int (nI r), .int (nI i)]) (rest := [.int (nI e9), .int (nI r), .ref h0]) ⟨hx, hb, hml, hown, hts⟩ (c_X8_key l  dC dI H.size h0 th q2 c2 f2 (.ref q1) (.ref q3) (.ref q4) v5 (.ref q6) (.ref q7) (.ref q8) (.ref q9) (.ref q10) (.ref q11) v12 v13 v14 v15 v16 r i hr9 (by omega)) (cwV 2 hts gX8_cleared_X8_key rfl rfl rfl (by decide +kernel) ⟨(Nat.le_of_ble_eq_true rfl), (Nat.le_of_ble_eq_true rfl)⟩) ⟨pk_blind, va_recv hKc hPc (ci := 8) (q0 := 0) rfl rfl, pk_call hPc hKc hDc⟩ rfl rfl hl.1 rfl (lv_room (Nat.le_of_ble_eq_true rfl)) dX8_cleared_61 ⟨(Nat.le_of_ble_eq_true rfl), (Nat.le_of_ble_eq_true rfl)⟩) hS (fun q _ h => hFc q h) hFc (fun r_13 ur_13 t H1 locs ht hvm hw hB hz1 hk1 hS => ?_)
          try dsimp only at hw
          obtain ⟨hP1, hK1, hD1⟩ := hB
          rw [ht] at hP1
          have hK1 := va_K.moved hvm.symm hK1
          obtain ⟨hP, hD⟩ := va_join (wr := [(q6, .inl (c6, 16, .inl a6)), (q7, .inl (c7, 16, .inl a7)), (q3, .inl (c3, 16, .inl a3)), (q1, .inl (c1, 16, .inl a1)), (q4, .inl (c4, 16, .inl a4)), (q8, .inl (c8, 16, .inl a8)), (q9, .inl (c9, 16, .inl a9)), (q10, .inl (c10, 16, .inl a10)), (q11, .inl (c11, 16, .inl a11))]) (w1 := [(h0, .inr (8, [.int th, .ref q1, .ref q2, .ref q3, .ref q4, v5, .ref q6, .ref q7, .ref q8, .ref q9, .ref q10, .ref q11, v12, v13, v14, v15, v16])), (q2, .inl (c2, 67200, .inl f2))]) hP hD [4, 3] [0, 1, 2, 5, 6, 7, 8, 9, 10] rfl rfl (by decide) (by decide) hk1 hFc hP1 hD1
          clear hk1 hz1 ht hPc hDc hKc hFc
          generalize H1 = H at hP hS ⊢
          replace hP : va_P (dC, dI) vwCl [(q6, .inl (c6, 16, .inl a6)), (q7, .inl (c7, 16, .inl a7)), (q3, .inl (c3, 16, .inl a3)), (q1, .inl (c1, 16, .inl a1)), (q4, .inl (c4, 16, .inl a4)), (q8, .inl (c8, 16, .inl a8)), (q9, .inl (c9, 16, .inl a9)), (q10, .inl (c10, 16, .inl a10)), (q11, .inl (c11, 16, .inl a11)), (h0, .inr (8, [.int th, .ref q1, .ref q2, .ref q3, .ref q4, v5, .ref q6, .ref q7, .ref q8, .ref q9, .ref q10, .ref q11, v12, v13, v14, v15, v16])), (q2, .inl (c2, 67200, .inl f2))] H := hP
          replace hD : va_D A [(q6, .inl (c6, 16, .inl a6)), (q7, .inl (c7, 16, .inl a7)), (q3, .inl (c3, 16, .inl a3)), (q1, .inl (c1, 16, .inl a1)), (q4, .inl (c4, 16, .inl a4)), (q8, .inl (c8, 16, .inl a8)), (q9, .inl (c9, 16, .inl a9)), (q10, .inl (c10, 16, .inl a10)), (q11, .inl (c11, 16, .inl a11)), (h0, .inr (8, [.int th, .ref q1, .ref q2, .ref q3, .ref q4, v5, .ref q6, .ref q7, .ref q8, .ref q9, .ref q10, .ref q11, v12, v13, v14, v15, v16])), (q2, .inl (c2, 67200, .inl f2))] := hD
          refine W.widen (k := 0) (n := 0) (Nat.le_of_ble_eq_true rfl) (Nat.le_of_ble_eq_true rfl) ?_
          obtain rfl : r_13 = f2 (4200 * r + i) := hw
          refine W.eq (g2 := F0 m 64 ls [.int (f2 (4200 * r + i)), .int (nI e9), .int (nI r), .ref h0]) rfl ?_
          refine lv_aload_n hx hb dX8_cleared_64 rfl (lv_at hl 4 rfl) ?_
          refine lv_iload_n hx hb dX8_cleared_65 rfl (lv_at hl 3 rfl) ?_
          refine lv_iload hx hb dX8_cleared_66 (lv_at hl 0 rfl) ?_
          have hPc := hP.sub (ws' := [(h0, .inr (8, [.int th, .ref q1, .ref q2, .ref q3, .ref q4, v5, .ref q6, .ref q7, .ref q8, .ref q9, .ref q10, .ref q11, v12, v13, v14, v15, v16])), (q2, .inl (c2, 67200, .inl f2))]) [9, 10] rfl
          have hDc := hD.sub (ws' := [(h0, .inr (8, [.int th, .ref q1, .ref q2, .ref q3, .ref q4, v5, .ref q6, .ref q7, .ref q8, .ref q9, .ref q10, .ref q11, v12, v13, v14, v15, v16])), (q2, .inl (c2, 67200, .inl f2))]) [9, 10] (by decide) rfl
          have hKc := hK.sub (tys' := [(c2, .int)]) [1] rfl
          have hFc := va_free (wc := [(h0, .inr (8, [.int th, .ref q1, .ref q2, .ref q3, .ref q4, v5, .ref q6, .ref q7, .ref q8, .ref q9, .ref q10, .ref q11, v12, v13, v14, v15, v16])), (q2, .inl (c2, 67200, .inl f2))]) hD hS hA [9, 10] rfl
          refine va_calli (va_runV (As := [.int (nI r), .int (nI i)]) (rest := [.int (f2 (4200 * r + i)), .int (nI e9), .int (nI r), .ref h0]) ⟨hx, hb, hml, hown, hts⟩ (c_X8_value l  dC dI H.size h0 th q2 c2 f2 (.ref q1) (.ref q3) (.ref q4) v5 (.ref q6) (.ref q7) (.ref q8) (.ref q9) (.ref q10) (.ref q11) v12 v13 v14 v15 v16 r i hr9 (by omega)) (cwV 2 hts gX8_cleared_X8_value rfl rfl rfl (by decide +kernel) ⟨(Nat.le_of_ble_eq_true rfl), (Nat.le_of_ble_eq_true rfl)⟩) ⟨pk_blind, va_recv hKc hPc (ci := 8) (q0 := 0) rfl rfl, pk_call hPc hKc hDc⟩ rfl rfl hl.1 rfl (lv_room (Nat.le_of_ble_eq_true rfl)) dX8_cleared_68 ⟨(Nat.le_of_ble_eq_true rfl), (Nat.le_of_ble_eq_true rfl)⟩) hS (fun q _ h => hFc q h) hFc (fun r_14 ur_14 t H1 locs ht hvm hw hB hz1 hk1 hS => ?_)
          try dsimp only at hw
          obtain ⟨hP1, hK1, hD1⟩ := hB
          rw [ht] at hP1
          have hK1 := va_K.moved hvm.symm hK1
          obtain ⟨hP, hD⟩ := va_join (wr := [(q6, .inl (c6, 16, .inl a6)), (q7, .inl (c7, 16, .inl a7)), (q3, .inl (c3, 16, .inl a3)), (q1, .inl (c1, 16, .inl a1)), (q4, .inl (c4, 16, .inl a4)), (q8, .inl (c8, 16, .inl a8)), (q9, .inl (c9, 16, .inl a9)), (q10, .inl (c10, 16, .inl a10)), (q11, .inl (c11, 16, .inl a11))]) (w1 := [(h0, .inr (8, [.int th, .ref q1, .ref q2, .ref q3, .ref q4, v5, .ref q6, .ref q7, .ref q8, .ref q9, .ref q10, .ref q11, v12, v13, v14, v15, v16])), (q2, .inl (c2, 67200, .inl f2))]) hP hD [9, 10] [0, 1, 2, 3, 4, 5, 6, 7, 8] rfl rfl (by decide) (by decide) hk1 hFc hP1 hD1
          clear hk1 hz1 ht hPc hDc hKc hFc
          generalize H1 = H at hP hS ⊢
          replace hP : va_P (dC, dI) vwCl [(q6, .inl (c6, 16, .inl a6)), (q7, .inl (c7, 16, .inl a7)), (q3, .inl (c3, 16, .inl a3)), (q1, .inl (c1, 16, .inl a1)), (q4, .inl (c4, 16, .inl a4)), (q8, .inl (c8, 16, .inl a8)), (q9, .inl (c9, 16, .inl a9)), (q10, .inl (c10, 16, .inl a10)), (q11, .inl (c11, 16, .inl a11)), (h0, .inr (8, [.int th, .ref q1, .ref q2, .ref q3, .ref q4, v5, .ref q6, .ref q7, .ref q8, .ref q9, .ref q10, .ref q11, v12, v13, v14, v15, v16])), (q2, .inl (c2, 67200, .inl f2))] H := hP
          replace hD : va_D A [(q6, .inl (c6, 16, .inl a6)), (q7, .inl (c7, 16, .inl a7)), (q3, .inl (c3, 16, .inl a3)), (q1, .inl (c1, 16, .inl a1)), (q4, .inl (c4, 16, .inl a4)), (q8, .inl (c8, 16, .inl a8)), (q9, .inl (c9, 16, .inl a9)), (q10, .inl (c10, 16, .inl a10)), (q11, .inl (c11, 16, .inl a11)), (h0, .inr (8, [.int th, .ref q1, .ref q2, .ref q3, .ref q4, v5, .ref q6, .ref q7, .ref q8, .ref q9, .ref q10, .ref q11, v12, v13, v14, v15, v16])), (q2, .inl (c2, 67200, .inl f2))] := hD
          refine W.widen (k := 0) (n := 0) (Nat.le_of_ble_eq_true rfl) (Nat.le_of_ble_eq_true rfl) ?_
          obtain rfl : r_14 = f2 (4200 * r + 1000 + i) := hw
          refine W.eq (g2 := F0 m 71 ls [.int (f2 (4200 * r + 1000 + i)), .int (f2 (4200 * r + i)), .int (nI e9), .int (nI r), .ref h0]) rfl ?_
          have hPc := hP.sub (ws' := [(h0, .inr (8, [.int th, .ref q1, .ref q2, .ref q3, .ref q4, v5, .ref q6, .ref q7, .ref q8, .ref q9, .ref q10, .ref q11, v12, v13, v14, v15, v16])), (q2, .inl (c2, 67200, .inl f2))]) [9, 10] rfl
          have hDc := hD.sub (ws' := [(h0, .inr (8, [.int th, .ref q1, .ref q2, .ref q3, .ref q4, v5, .ref q6, .ref q7, .ref q8, .ref q9, .ref q10, .ref q11, v12, v13, v14, v15, v16])), (q2, .inl (c2, 67200, .inl f2))]) [9, 10] (by decide) rfl
          have hKc := hK.sub (tys' := [(c2, .int)]) [1] rfl
          have hFc := va_free (wc := [(h0, .inr (8, [.int th, .ref q1, .ref q2, .ref q3, .ref q4, v5, .ref q6, .ref q7, .ref q8, .ref q9, .ref q10, .ref q11, v12, v13, v14, v15, v16])), (q2, .inl (c2, 67200, .inl f2))]) hD hS hA [9, 10] rfl
          refine va_callv (va_runV (As := [.int (nI r), .int (nI e9), .int (f2 (4200 * r + i)), .int (f2 (4200 * r + 1000 + i))]) (rest := []) ⟨hx, hb, hml, hown, hts⟩ (c_X8_set l  dC dI H.size h0 th q2 c2 f2 (.ref q1) (.ref q3) (.ref q4) v5 (.ref q6) (.ref q7) (.ref q8) (.ref q9) (.ref q10) (.ref q11) v12 v13 v14 v15 v16 r e9 (f2 (4200 * r + i)) (f2 (4200 * r + 1000 + i)) hr9 (by omega)) (cwV 4 hts gX8_cleared_X8_set rfl rfl rfl (by decide +kernel) ⟨(Nat.le_of_ble_eq_true rfl), (Nat.le_of_ble_eq_true rfl)⟩) ⟨pk_blind, va_recv hKc hPc (ci := 8) (q0 := 0) rfl rfl, pk_call hPc hKc hDc⟩ rfl rfl hl.1 rfl (lv_room (Nat.le_of_ble_eq_true rfl)) dX8_cleared_71 ⟨(Nat.le_of_ble_eq_true rfl), (Nat.le_of_ble_eq_true rfl)⟩) hS (fun q _ h => hFc q h) hFc (fun ur_15 t H1 locs ht hvm hw hB hz1 hk1 hS => ?_)
          try dsimp only at hw
          have jr_15 := hw
          obtain ⟨hP1, hK1, hD1⟩ := hB
          rw [ht] at hP1
          have hK1 := va_K.moved hvm.symm hK1
          obtain ⟨hP, hD⟩ := va_join (wr := [(q6, .inl (c6, 16, .inl a6)), (q7, .inl (c7, 16, .inl a7)), (q3, .inl (c3, 16, .inl a3)), (q1, .inl (c1, 16, .inl a1)), (q4, .inl (c4, 16, .inl a4)), (q8, .inl (c8, 16, .inl a8)), (q9, .inl (c9, 16, .inl a9)), (q10, .inl (c10, 16, .inl a10)), (q11, .inl (c11, 16, .inl a11))]) (w1 := [(h0, .inr (8, [.int th, .ref q1, .ref q2, .ref q3, .ref q4, v5, .ref q6, .ref q7, .ref q8, .ref q9, .ref q10, .ref q11, v12, v13, v14, v15, v16])), (q2, .inl (c2, 67200, .inl (upd (upd f2 (4200 * r + e9) (f2 (4200 * r + i))) (4200 * r + 1000 + e9) (f2 (4200 * r + 1000 + i)))))]) hP hD [9, 10] [0, 1, 2, 3, 4, 5, 6, 7, 8] rfl rfl (by decide) (by decide) hk1 hFc hP1 hD1
          clear hk1 hz1 ht hPc hDc hKc hFc
          generalize H1 = H at hP hS ⊢
          replace hP : va_P (dC, dI) vwCl [(q6, .inl (c6, 16, .inl a6)), (q7, .inl (c7, 16, .inl a7)), (q3, .inl (c3, 16, .inl a3)), (q1, .inl (c1, 16, .inl a1)), (q4, .inl (c4, 16, .inl a4)), (q8, .inl (c8, 16, .inl a8)), (q9, .inl (c9, 16, .inl a9)), (q10, .inl (c10, 16, .inl a10)), (q11, .inl (c11, 16, .inl a11)), (h0, .inr (8, [.int th, .ref q1, .ref q2, .ref q3, .ref q4, v5, .ref q6, .ref q7, .ref q8, .ref q9, .ref q10, .ref q11, v12, v13, v14, v15, v16])), (q2, .inl (c2, 67200, .inl (upd (upd f2 (4200 * r + e9) (f2 (4200 * r + i))) (4200 * r + 1000 + e9) (f2 (4200 * r + 1000 + i)))))] H := hP
          replace hD : va_D A [(q6, .inl (c6, 16, .inl a6)), (q7, .inl (c7, 16, .inl a7)), (q3, .inl (c3, 16, .inl a3)), (q1, .inl (c1, 16, .inl a1)), (q4, .inl (c4, 16, .inl a4)), (q8, .inl (c8, 16, .inl a8)), (q9, .inl (c9, 16, .inl a9)), (q10, .inl (c10, 16, .inl a10)), (q11, .inl (c11, 16, .inl a11)), (h0, .inr (8, [.int th, .ref q1, .ref q2, .ref q3, .ref q4, v5, .ref q6, .ref q7, .ref q8, .ref q9, .ref q10, .ref q11, v12, v13, v14, v15, v16])), (q2, .inl (c2, 67200, .inl (upd (upd f2 (4200 * r + e9) (f2 (4200 * r + i))) (4200 * r + 1000 + e9) (f2 (4200 * r + 1000 + i)))))] := hD
          refine W.widen (k := 0) (n := 0) (Nat.le_of_ble_eq_true rfl) (Nat.le_of_ble_eq_true rfl) ?_
          refine W.eq (g2 := F0 m 74 ls []) rfl ?_
          refine lv_iinc (v := nI (e9 + 1)) (lv' := [(4, .int (nI (e9 + 1))), (5, .int (nI i)), (3, .int (nI ne)), (2, .int (nI r)), (0, .ref h0), (1, .int (nI o))]) hx hb dX8_cleared_74 hl (k := 1) rfl (by rw [show Int32.ofInt 1 = nI 1 from rfl, nI_add]) (by decide) rfl (fun ls hl => ?_)
          refine lv_iinc (v := nI (i + 1)) (lv' := [(5, .int (nI (i + 1))), (4, .int (nI (e9 + 1))), (3, .int (nI ne)), (2, .int (nI r)), (0, .ref h0), (1, .int (nI o))]) hx hb dX8_cleared_77 hl (k := 1) rfl (by rw [show Int32.ofInt 1 = nI 1 from rfl, nI_add]) (by decide) rfl (fun ls hl => ?_)
          refine lv_goto (tgt := 24) hx hb dX8_cleared_80 (by decide) ?_
          exact ih (i := i + 1) (x9 := nI (i + 1)) (ex9 := rfl) (e9 := e9 + 1) (y9 := nI (e9 + 1)) (ey9 := rfl) (ls := ls) (f2 := (upd (upd f2 (4200 * r + e9) (f2 (4200 * r + i))) (4200 * r + 1000 + e9) (f2 (4200 * r + 1000 + i)))) (H := H) (locs := locs) (hP := hP.sub (ws' := [(q6, .inl (c6, 16, .inl a6)), (q7, .inl (c7, 16, .inl a7)), (h0, .inr (8, [.int th, .ref q1, .ref q2, .ref q3, .ref q4, v5, .ref q6, .ref q7, .ref q8, .ref q9, .ref q10, .ref q11, v12, v13, v14, v15, v16])), (q1, .inl (c1, 16, .inl a1)), (q2, .inl (c2, 67200, .inl (upd (upd f2 (4200 * r + e9) (f2 (4200 * r + i))) (4200 * r + 1000 + e9) (f2 (4200 * r + 1000 + i))))), (q3, .inl (c3, 16, .inl a3)), (q4, .inl (c4, 16, .inl a4)), (q8, .inl (c8, 16, .inl a8)), (q9, .inl (c9, 16, .inl a9)), (q10, .inl (c10, 16, .inl a10)), (q11, .inl (c11, 16, .inl a11))]) [0, 1, 9, 3, 10, 2, 4, 5, 6, 7, 8] rfl) (hS := hS) (hD := hD.sub (ws' := [(q6, .inl (c6, 16, .inl a6)), (q7, .inl (c7, 16, .inl a7)), (h0, .inr (8, [.int th, .ref q1, .ref q2, .ref q3, .ref q4, v5, .ref q6, .ref q7, .ref q8, .ref q9, .ref q10, .ref q11, v12, v13, v14, v15, v16])), (q1, .inl (c1, 16, .inl a1)), (q2, .inl (c2, 67200, .inl (upd (upd f2 (4200 * r + e9) (f2 (4200 * r + i))) (4200 * r + 1000 + e9) (f2 (4200 * r + 1000 + i))))), (q3, .inl (c3, 16, .inl a3)), (q4, .inl (c4, 16, .inl a4)), (q8, .inl (c8, 16, .inl a8)), (q9, .inl (c9, 16, .inl a9)), (q10, .inl (c10, 16, .inl a10)), (q11, .inl (c11, 16, .inl a11))]) [0, 1, 9, 3, 10, 2, 4, 5, 6, 7, 8] (by decide) rfl) (hi9 := by omega) (he9 := by omega) (hn9 := by omega) (hv9 := outR_up' (outR_up hv9 (by omega)) (k := 1000 + e9) (by omega) (by omega)) (hl := lv_sub hl [0, 1, 2, 3, 4, 5] rfl)
        ·
          have ic_12 : ¬ (tz (winN a1 a8 a11 a9 a10 a4 17 o (f2 (4200 * r + i)))).toInt = 0 := tx_ne rfl (by decide) c_12
          refine lv_goto (tgt := 77) hx hb dX8_cleared_50 (by decide) ?_
          refine lv_iinc (v := nI (i + 1)) (lv' := [(5, .int (nI (i + 1))), (4, .int (nI e9)), (3, .int (nI ne)), (2, .int (nI r)), (0, .ref h0), (1, .int (nI o))]) hx hb dX8_cleared_77 hl (k := 0) rfl (by rw [show Int32.ofInt 1 = nI 1 from rfl, nI_add]) (by decide) rfl (fun ls hl => ?_)
          refine lv_goto (tgt := 24) hx hb dX8_cleared_80 (by decide) ?_
          exact ih (i := i + 1) (x9 := nI (i + 1)) (ex9 := rfl) (e9 := e9) (y9 := nI e9) (ey9 := rfl) (ls := ls) (f2 := f2) (H := H) (locs := locs) (hP := hP.sub (ws' := [(q6, .inl (c6, 16, .inl a6)), (q7, .inl (c7, 16, .inl a7)), (h0, .inr (8, [.int th, .ref q1, .ref q2, .ref q3, .ref q4, v5, .ref q6, .ref q7, .ref q8, .ref q9, .ref q10, .ref q11, v12, v13, v14, v15, v16])), (q1, .inl (c1, 16, .inl a1)), (q2, .inl (c2, 67200, .inl f2)), (q3, .inl (c3, 16, .inl a3)), (q4, .inl (c4, 16, .inl a4)), (q8, .inl (c8, 16, .inl a8)), (q9, .inl (c9, 16, .inl a9)), (q10, .inl (c10, 16, .inl a10)), (q11, .inl (c11, 16, .inl a11))]) [0, 1, 4, 5, 3, 2, 6, 7, 8, 9, 10] rfl) (hS := hS) (hD := hD.sub (ws' := [(q6, .inl (c6, 16, .inl a6)), (q7, .inl (c7, 16, .inl a7)), (h0, .inr (8, [.int th, .ref q1, .ref q2, .ref q3, .ref q4, v5, .ref q6, .ref q7, .ref q8, .ref q9, .ref q10, .ref q11, v12, v13, v14, v15, v16])), (q1, .inl (c1, 16, .inl a1)), (q2, .inl (c2, 67200, .inl f2)), (q3, .inl (c3, 16, .inl a3)), (q4, .inl (c4, 16, .inl a4)), (q8, .inl (c8, 16, .inl a8)), (q9, .inl (c9, 16, .inl a9)), (q10, .inl (c10, 16, .inl a10)), (q11, .inl (c11, 16, .inl a11))]) [0, 1, 4, 5, 3, 2, 6, 7, 8, 9, 10] (by decide) rfl) (hi9 := by omega) (he9 := by omega) (hn9 := by omega) (hv9 := hv9) (hl := lv_sub hl [0, 1, 2, 3, 4, 5] rfl)
  ·
    have ic_3 : ((ne : Nat) : Int) = 0 := tx_eq (nI_toInt (by omega)) (by decide) c_3
    refine lv_lconst (v := 0) hx hb dX8_cleared_16 (by decide) ?_
    have hP9 := hP.sub (ws' := [(h0, .inr (8, [.int th, .ref q1, .ref q2, .ref q3, .ref q4, v5, .ref q6, .ref q7, .ref q8, .ref q9, .ref q10, .ref q11, v12, v13, v14, v15, v16])), (q1, .inl (c1, 16, .inl a1)), (q2, .inl (c2, 67200, .inl a2)), (q3, .inl (c3, 16, .inl a3)), (q4, .inl (c4, 16, .inl a4)), (q6, .inl (c6, 16, .inl a6)), (q7, .inl (c7, 16, .inl a7)), (q8, .inl (c8, 16, .inl a8)), (q9, .inl (c9, 16, .inl a9)), (q10, .inl (c10, 16, .inl a10)), (q11, .inl (c11, 16, .inl a11))]) [2, 3, 4, 5, 6, 0, 1, 7, 8, 9, 10] rfl
    have hD9 := hD.sub (ws' := [(h0, .inr (8, [.int th, .ref q1, .ref q2, .ref q3, .ref q4, v5, .ref q6, .ref q7, .ref q8, .ref q9, .ref q10, .ref q11, v12, v13, v14, v15, v16])), (q1, .inl (c1, 16, .inl a1)), (q2, .inl (c2, 67200, .inl a2)), (q3, .inl (c3, 16, .inl a3)), (q4, .inl (c4, 16, .inl a4)), (q6, .inl (c6, 16, .inl a6)), (q7, .inl (c7, 16, .inl a7)), (q8, .inl (c8, 16, .inl a8)), (q9, .inl (c9, 16, .inl a9)), (q10, .inl (c10, 16, .inl a10)), (q11, .inl (c11, 16, .inl a11))]) [2, 3, 4, 5, 6, 0, 1, 7, 8, 9, 10] (by decide) rfl
    have hK9 := hK.sub (tys' := [(c1, .int), (c2, .int), (c3, .int), (c4, .int), (c6, .int), (c7, .int), (c8, .int), (c9, .int), (c10, .int), (c11, .int)]) [0, 1, 2, 3, 4, 5, 6, 7, 8, 9] rfl
    refine W.widen (k := 0) (n := 0) (Nat.le_of_ble_eq_true rfl) (Nat.le_of_ble_eq_true rfl) ?_
    exact W.lret (v := 0) hx hb hr (fun t ht hW => ⟨⟨0, (a2, a3, a7), rfl, ⟨⟨0, by omega, rs_rf⟩, hM9⟩, by rw [ht]; exact hP9, va_K.moved hW.alike hK9, hD9⟩, hS.F ht⟩) hS.2.2 dX8_cleared_17
set_option maxHeartbeats 4000000 in
set_option maxRecDepth 100000 in
/-- end -/
theorem c_X8_end (l : Launch) (dC : Nat → ClassId) (dI : Nat → Nat → Nat) (sz : Nat) (h0 : Nat) (th : Int32) (q1 : Nat) (q2 : Nat) (q3 : Nat) (q4 : Nat) (q5 : Nat) (q6 : Nat) (q7 : Nat) (q8 : Nat) (q9 : Nat) (q10 : Nat) (q11 : Nat) (c1 : ClassId) (c2 : ClassId) (c3 : ClassId) (c4 : ClassId) (c5 : ClassId) (c6 : ClassId) (c7 : ClassId) (c8 : ClassId) (c9 : ClassId) (c10 : ClassId) (c11 : ClassId) (a1 : Nat → Int32) (a2 : Nat → Int32) (a3 : Nat → Int32) (a4 : Nat → Int32) (a5 : Nat → Int32) (a6 : Nat → Int32) (a7 : Nat → Int32) (a8 : Nat → Int32) (a9 : Nat → Int32) (a10 : Nat → Int32) (a11 : Nat → Int32) (v12 : Value) (v13 : Value) (v14 : Value) (v15 : Value) (v16 : Value) (o : Nat) (dep : Nat → Nat) (r : Nat) (p1 : Int32) (ho9 : o < 16) (hF9 : rF a1 a8 dep) (hd9 : dep o < 17) (hrt9 : rtN a1 a8 17 o = r) (hM9 : mOK (a1 r) (a4 r) (a3 r) (a6 r)) : Met l yX8_end wsX8_end ({ frames := 5, cells := 0, slots := 0, locals := 190 }) (va_Pc [.ref h0, .int (nI o), .int p1] (pk_Pre (dC, dI) [(h0, .inr (8, [.int th, .ref q1, .ref q2, .ref q3, .ref q4, .ref q5, .ref q6, .ref q7, .ref q8, .ref q9, .ref q10, .ref q11, v12, v13, v14, v15, v16])), (q1, .inl (c1, 16, .inl a1)), (q2, .inl (c2, 67200, .inl a2)), (q3, .inl (c3, 16, .inl a3)), (q4, .inl (c4, 16, .inl a4)), (q5, .inl (c5, 16, .inl a5)), (q6, .inl (c6, 16, .inl a6)), (q7, .inl (c7, 16, .inl a7)), (q8, .inl (c8, 16, .inl a8)), (q9, .inl (c9, 16, .inl a9)), (q10, .inl (c10, 16, .inl a10)), (q11, .inl (c11, 16, .inl a11))] [(c1, .int), (c2, .int), (c3, .int), (c4, .int), (c5, .int), (c6, .int), (c7, .int), (c8, .int), (c9, .int), (c10, .int), (c11, .int)] sz)) (va_Ql (fun (x : Int64) (u : Int32 × (Nat → Int32) × (Nat → Int32) × (Nat → Int32)) => (∃ d : Nat, d ≤ 1 ∧ rsR r d a2 a3 a6 a7 u.2.1 u.2.2.1 a6 u.2.2.2) ∧ mOK (a1 r) (a4 r) (u.2.2.1 r) (a6 r)) (fun (u : Int32 × (Nat → Int32) × (Nat → Int32) × (Nat → Int32)) (t : State) => va_P (dC, dI) vwCl [(h0, .inr (8, [.int u.1, .ref q1, .ref q2, .ref q3, .ref q4, .ref q5, .ref q6, .ref q7, .ref q8, .ref q9, .ref q10, .ref q11, v12, v13, v14, v15, v16])), (q1, .inl (c1, 16, .inl a1)), (q2, .inl (c2, 67200, .inl u.2.1)), (q3, .inl (c3, 16, .inl u.2.2.1)), (q4, .inl (c4, 16, .inl a4)), (q5, .inl (c5, 16, .inl a5)), (q6, .inl (c6, 16, .inl a6)), (q7, .inl (c7, 16, .inl u.2.2.2)), (q8, .inl (c8, 16, .inl a8)), (q9, .inl (c9, 16, .inl a9)), (q10, .inl (c10, 16, .inl a10)), (q11, .inl (c11, 16, .inl a11))] t.heap ∧ va_K (dC, dI) vwCl [(c1, .int), (c2, .int), (c3, .int), (c4, .int), (c5, .int), (c6, .int), (c7, .int), (c8, .int), (c9, .int), (c10, .int), (c11, .int)] t ∧ va_D (va_A [(h0, .inr (8, [.int th, .ref q1, .ref q2, .ref q3, .ref q4, .ref q5, .ref q6, .ref q7, .ref q8, .ref q9, .ref q10, .ref q11, v12, v13, v14, v15, v16])), (q1, .inl (c1, 16, .inl a1)), (q2, .inl (c2, 67200, .inl a2)), (q3, .inl (c3, 16, .inl a3)), (q4, .inl (c4, 16, .inl a4)), (q5, .inl (c5, 16, .inl a5)), (q6, .inl (c6, 16, .inl a6)), (q7, .inl (c7, 16, .inl a7)), (q8, .inl (c8, 16, .inl a8)), (q9, .inl (c9, 16, .inl a9)), (q10, .inl (c10, 16, .inl a10)), (q11, .inl (c11, 16, .inl a11))] sz) [(h0, .inr (8, [.int u.1, .ref q1, .ref q2, .ref q3, .ref q4, .ref q5, .ref q6, .ref q7, .ref q8, .ref q9, .ref q10, .ref q11, v12, v13, v14, v15, v16])), (q1, .inl (c1, 16, .inl a1)), (q2, .inl (c2, 67200, .inl u.2.1)), (q3, .inl (c3, 16, .inl u.2.2.1)), (q4, .inl (c4, 16, .inl a4)), (q5, .inl (c5, 16, .inl a5)), (q6, .inl (c6, 16, .inl a6)), (q7, .inl (c7, 16, .inl u.2.2.2)), (q8, .inl (c8, 16, .inl a8)), (q9, .inl (c9, 16, .inl a9)), (q10, .inl (c10, 16, .inl a10)), (q11, .inl (c11, 16, .inl a11))]) (va_A [(h0, .inr (8, [.int th, .ref q1, .ref q2, .ref q3, .ref q4, .ref q5, .ref q6, .ref q7, .ref q8, .ref q9, .ref q10, .ref q11, v12, v13, v14, v15, v16])), (q1, .inl (c1, 16, .inl a1)), (q2, .inl (c2, 67200, .inl a2)), (q3, .inl (c3, 16, .inl a3)), (q4, .inl (c4, 16, .inl a4)), (q5, .inl (c5, 16, .inl a5)), (q6, .inl (c6, 16, .inl a6)), (q7, .inl (c7, 16, .inl a7)), (q8, .inl (c8, 16, .inl a8)), (q9, .inl (c9, 16, .inl a9)), (q10, .inl (c10, 16, .inl a10)), (q11, .inl (c11, 16, .inl a11))] sz)) 0 0 (va_A [(h0, .inr (8, [.int th, .ref q1, .ref q2, .ref q3, .ref q4, .ref q5, .ref q6, .ref q7, .ref q8, .ref q9, .ref q10, .ref q11, v12, v13, v14, v15, v16])), (q1, .inl (c1, 16, .inl a1)), (q2, .inl (c2, 67200, .inl a2)), (q3, .inl (c3, 16, .inl a3)), (q4, .inl (c4, 16, .inl a4)), (q5, .inl (c5, 16, .inl a5)), (q6, .inl (c6, 16, .inl a6)), (q7, .inl (c7, 16, .inl a7)), (q8, .inl (c8, 16, .inl a8)), (q9, .inl (c9, 16, .inl a9)), (q10, .inl (c10, 16, .inl a10)), (q11, .inl (c11, 16, .inl a11))] sz) := by
  refine Met.ofW (cc := cX8_end) (maxL := 7) (ret := (some .long)) (by decide) rfl ?_
  intro p e s m args below meth c s₁ B hml hv
  obtain ⟨rfl, hsz, hP, hK, hD0⟩ := hv
  have hx := B.exec
  have hb := B.bytes
  have hr := B.returns
  have hts := atoms_spec (ws := wsX8_end) B.pre
  have hown : s.vm.findClass RX8 = some m.cls := findClass_of_methodNamed B.named
  have hlocks := B.notSynchronized
  subst hsz
  have hD := hD0.self (sz := s.heap.size)
  generalize hAe : va_A [(h0, .inr (8, [.int th, .ref q1, .ref q2, .ref q3, .ref q4, .ref q5, .ref q6, .ref q7, .ref q8, .ref q9, .ref q10, .ref q11, v12, v13, v14, v15, v16])), (q1, .inl (c1, 16, .inl a1)), (q2, .inl (c2, 67200, .inl a2)), (q3, .inl (c3, 16, .inl a3)), (q4, .inl (c4, 16, .inl a4)), (q5, .inl (c5, 16, .inl a5)), (q6, .inl (c6, 16, .inl a6)), (q7, .inl (c7, 16, .inl a7)), (q8, .inl (c8, 16, .inl a8)), (q9, .inl (c9, 16, .inl a9)), (q10, .inl (c10, 16, .inl a10)), (q11, .inl (c11, 16, .inl a11))] s.heap.size = A at hD ⊢
  have hA : ∀ q : Nat, s.heap.size ≤ q → A q := fun q h => by rw [← hAe]; exact Or.inr h
  have hS : va_S A s.heap s.heap [] := va_S.rf
  have hP : va_P (dC, dI) vwCl [(h0, .inr (8, [.int th, .ref q1, .ref q2, .ref q3, .ref q4, .ref q5, .ref q6, .ref q7, .ref q8, .ref q9, .ref q10, .ref q11, v12, v13, v14, v15, v16])), (q1, .inl (c1, 16, .inl a1)), (q2, .inl (c2, 67200, .inl a2)), (q3, .inl (c3, 16, .inl a3)), (q4, .inl (c4, 16, .inl a4)), (q5, .inl (c5, 16, .inl a5)), (q6, .inl (c6, 16, .inl a6)), (q7, .inl (c7, 16, .inl a7)), (q8, .inl (c8, 16, .inl a8)), (q9, .inl (c9, 16, .inl a9)), (q10, .inl (c10, 16, .inl a10)), (q11, .inl (c11, 16, .inl a11))] s.heap := hP
  have hl := lv_entry ([.ref h0, .int (nI o), .int p1]) (n := 7) (Nat.le_of_ble_eq_true rfl)
  rw [lg_entry_eq]
  generalize (lg_sl ([.ref h0, .int (nI o), .int p1]) ++ List.replicate (7 - (lg_sl ([.ref h0, .int (nI o), .int p1])).length) Slot.unset).toArray = ls at hl ⊢
  have hl : lv_has ls 7 [(0, .ref h0), (1, .int (nI o)), (2, .int p1)] := hl

  obtain ⟨nz, tb, hs9, hz9, hT9, hM8⟩ := mo_go hM9
  have hn8 : (a3 r).toInt = (nz : Int) := by rw [hs9]; exact nI_toInt (by omega)
  refine lv_aload_n hx hb dX8_end_0 rfl (lv_at hl 0 rfl) ?_
  refine lv_iload_n hx hb dX8_end_1 rfl (lv_at hl 1 rfl) ?_
  have hPc := hP.sub (ws' := [(h0, .inr (8, [.int th, .ref q1, .ref q2, .ref q3, .ref q4, .ref q5, .ref q6, .ref q7, .ref q8, .ref q9, .ref q10, .ref q11, v12, v13, v14, v15, v16])), (q1, .inl (c1, 16, .inl a1)), (q2, .inl (c2, 67200, .inl a2)), (q3, .inl (c3, 16, .inl a3)), (q4, .inl (c4, 16, .inl a4)), (q8, .inl (c8, 16, .inl a8)), (q9, .inl (c9, 16, .inl a9)), (q10, .inl (c10, 16, .inl a10)), (q11, .inl (c11, 16, .inl a11))]) [0, 1, 2, 3, 4, 8, 9, 10, 11] rfl
  have hDc := hD.sub (ws' := [(h0, .inr (8, [.int th, .ref q1, .ref q2, .ref q3, .ref q4, .ref q5, .ref q6, .ref q7, .ref q8, .ref q9, .ref q10, .ref q11, v12, v13, v14, v15, v16])), (q1, .inl (c1, 16, .inl a1)), (q2, .inl (c2, 67200, .inl a2)), (q3, .inl (c3, 16, .inl a3)), (q4, .inl (c4, 16, .inl a4)), (q8, .inl (c8, 16, .inl a8)), (q9, .inl (c9, 16, .inl a9)), (q10, .inl (c10, 16, .inl a10)), (q11, .inl (c11, 16, .inl a11))]) [0, 1, 2, 3, 4, 8, 9, 10, 11] (by decide) rfl
  have hKc := hK.sub (tys' := [(c1, .int), (c2, .int), (c3, .int), (c4, .int), (c8, .int), (c9, .int), (c10, .int), (c11, .int)]) [0, 1, 2, 3, 7, 8, 9, 10] rfl
  have hFc := va_free (wc := [(h0, .inr (8, [.int th, .ref q1, .ref q2, .ref q3, .ref q4, .ref q5, .ref q6, .ref q7, .ref q8, .ref q9, .ref q10, .ref q11, v12, v13, v14, v15, v16])), (q1, .inl (c1, 16, .inl a1)), (q2, .inl (c2, 67200, .inl a2)), (q3, .inl (c3, 16, .inl a3)), (q4, .inl (c4, 16, .inl a4)), (q8, .inl (c8, 16, .inl a8)), (q9, .inl (c9, 16, .inl a9)), (q10, .inl (c10, 16, .inl a10)), (q11, .inl (c11, 16, .inl a11))]) hD hS hA [0, 1, 2, 3, 4, 8, 9, 10, 11] rfl
  refine va_calli (va_runV (As := [.int (nI o)]) (rest := []) ⟨hx, hb, hml, hown, hts⟩ (c_X8_entries l  dC dI s.heap.size h0 th q1 q2 q3 q4 q8 q9 q10 q11 c1 c2 c3 c4 c8 c9 c10 c11 a1 a2 a3 a4 a8 a9 a10 a11 (.ref q5) (.ref q6) (.ref q7) v12 v13 v14 v15 v16 o dep nz ho9 hF9 hd9 (by rw [hrt9]; exact hs9) hz9) (cwV 1 hts gX8_end_X8_entries rfl rfl rfl (by decide +kernel) ⟨(Nat.le_of_ble_eq_true rfl), (Nat.le_of_ble_eq_true rfl)⟩) ⟨pk_blind, va_recv hKc hPc (ci := 8) (q0 := 0) rfl rfl, pk_call hPc hKc hDc⟩ rfl rfl hl.1 rfl (lv_room (Nat.le_of_ble_eq_true rfl)) dX8_end_2 ⟨(Nat.le_of_ble_eq_true rfl), (Nat.le_of_ble_eq_true rfl)⟩) hS (fun q _ h => hFc q h) hFc (fun r_1 ur_1 t H1 locs ht hvm hw hB hz1 hk1 hS => ?_)
  try dsimp only at hw
  obtain ⟨ne, hne⟩ : ∃ n9 : Nat, n9 = cntN (inO a1 a2 a4 a8 a9 a10 a11 o) nz := ⟨_, rfl⟩
  have hne2 : ne ≤ nz := by rw [hne]; exact cnt_le _ _
  obtain ⟨hP1, hK1, hD1⟩ := hB
  rw [ht] at hP1
  have hK1 := va_K.moved hvm.symm hK1
  obtain ⟨hP, hD⟩ := va_join (wr := [(q5, .inl (c5, 16, .inl a5)), (q6, .inl (c6, 16, .inl a6)), (q7, .inl (c7, 16, .inl a7))]) (w1 := [(h0, .inr (8, [.int th, .ref q1, .ref q2, .ref q3, .ref q4, .ref q5, .ref q6, .ref q7, .ref q8, .ref q9, .ref q10, .ref q11, v12, v13, v14, v15, v16])), (q1, .inl (c1, 16, .inl a1)), (q2, .inl (c2, 67200, .inl a2)), (q3, .inl (c3, 16, .inl a3)), (q4, .inl (c4, 16, .inl a4)), (q8, .inl (c8, 16, .inl a8)), (q9, .inl (c9, 16, .inl a9)), (q10, .inl (c10, 16, .inl a10)), (q11, .inl (c11, 16, .inl a11))]) hP hD [0, 1, 2, 3, 4, 8, 9, 10, 11] [5, 6, 7] rfl rfl (by decide) (by decide) hk1 hFc hP1 hD1
  clear hk1 hz1 ht hPc hDc hKc hFc
  generalize H1 = H at hP hS ⊢
  replace hP : va_P (dC, dI) vwCl [(q5, .inl (c5, 16, .inl a5)), (q6, .inl (c6, 16, .inl a6)), (q7, .inl (c7, 16, .inl a7)), (h0, .inr (8, [.int th, .ref q1, .ref q2, .ref q3, .ref q4, .ref q5, .ref q6, .ref q7, .ref q8, .ref q9, .ref q10, .ref q11, v12, v13, v14, v15, v16])), (q1, .inl (c1, 16, .inl a1)), (q2, .inl (c2, 67200, .inl a2)), (q3, .inl (c3, 16, .inl a3)), (q4, .inl (c4, 16, .inl a4)), (q8, .inl (c8, 16, .inl a8)), (q9, .inl (c9, 16, .inl a9)), (q10, .inl (c10, 16, .inl a10)), (q11, .inl (c11, 16, .inl a11))] H := hP
  replace hD : va_D A [(q5, .inl (c5, 16, .inl a5)), (q6, .inl (c6, 16, .inl a6)), (q7, .inl (c7, 16, .inl a7)), (h0, .inr (8, [.int th, .ref q1, .ref q2, .ref q3, .ref q4, .ref q5, .ref q6, .ref q7, .ref q8, .ref q9, .ref q10, .ref q11, v12, v13, v14, v15, v16])), (q1, .inl (c1, 16, .inl a1)), (q2, .inl (c2, 67200, .inl a2)), (q3, .inl (c3, 16, .inl a3)), (q4, .inl (c4, 16, .inl a4)), (q8, .inl (c8, 16, .inl a8)), (q9, .inl (c9, 16, .inl a9)), (q10, .inl (c10, 16, .inl a10)), (q11, .inl (c11, 16, .inl a11))] := hD
  refine W.widen (k := 0) (n := 0) (Nat.le_of_ble_eq_true rfl) (Nat.le_of_ble_eq_true rfl) ?_
  obtain rfl : r_1 = nI ne := by rw [hne]; exact hw
  refine W.eq (g2 := F0 m 5 ls [.int (nI ne)]) rfl ?_
  refine lv_istore_n (lv' := [(3, .int (nI ne)), (0, .ref h0), (1, .int (nI o)), (2, .int p1)]) hx hb dX8_end_5 rfl hl (by decide) rfl (fun ls hl => ?_)
  refine lv_iload_n hx hb dX8_end_6 rfl (lv_at hl 0 rfl) ?_
  refine lv_if_ne (tgt := 17) hx hb dX8_end_7 (by decide) (fun c_2 => ?_) (fun c_2 => ?_)
  ·
    have ic_2 : ¬ ((ne : Nat) : Int) = 0 := tx_ne (nI_toInt (by omega)) (by decide) c_2
    refine lv_aload_n hx hb dX8_end_17 rfl (lv_at hl 1 rfl) ?_
    refine lv_iload_n hx hb dX8_end_18 rfl (lv_at hl 2 rfl) ?_
    have hPc := hP.sub (ws' := [(h0, .inr (8, [.int th, .ref q1, .ref q2, .ref q3, .ref q4, .ref q5, .ref q6, .ref q7, .ref q8, .ref q9, .ref q10, .ref q11, v12, v13, v14, v15, v16])), (q1, .inl (c1, 16, .inl a1)), (q8, .inl (c8, 16, .inl a8))]) [3, 4, 8] rfl
    have hDc := hD.sub (ws' := [(h0, .inr (8, [.int th, .ref q1, .ref q2, .ref q3, .ref q4, .ref q5, .ref q6, .ref q7, .ref q8, .ref q9, .ref q10, .ref q11, v12, v13, v14, v15, v16])), (q1, .inl (c1, 16, .inl a1)), (q8, .inl (c8, 16, .inl a8))]) [3, 4, 8] (by decide) rfl
    have hKc := hK.sub (tys' := [(c1, .int), (c8, .int)]) [0, 7] rfl
    have hFc := va_free (wc := [(h0, .inr (8, [.int th, .ref q1, .ref q2, .ref q3, .ref q4, .ref q5, .ref q6, .ref q7, .ref q8, .ref q9, .ref q10, .ref q11, v12, v13, v14, v15, v16])), (q1, .inl (c1, 16, .inl a1)), (q8, .inl (c8, 16, .inl a8))]) hD hS hA [3, 4, 8] rfl
    refine va_calli (va_runV (As := [.int (nI o)]) (rest := []) ⟨hx, hb, hml, hown, hts⟩ (c_X8_root l  dC dI H.size h0 th q1 q8 c1 c8 a1 a8 (.ref q2) (.ref q3) (.ref q4) (.ref q5) (.ref q6) (.ref q7) (.ref q9) (.ref q10) (.ref q11) v12 v13 v14 v15 v16 o dep ho9 hF9 hd9) (cwV 1 hts gX8_end_X8_root rfl rfl rfl (by decide +kernel) ⟨(Nat.le_of_ble_eq_true rfl), (Nat.le_of_ble_eq_true rfl)⟩) ⟨pk_blind, va_recv hKc hPc (ci := 8) (q0 := 0) rfl rfl, pk_call hPc hKc hDc⟩ rfl rfl hl.1 rfl (lv_room (Nat.le_of_ble_eq_true rfl)) dX8_end_19 ⟨(Nat.le_of_ble_eq_true rfl), (Nat.le_of_ble_eq_true rfl)⟩) hS (fun q _ h => hFc q h) hFc (fun r_3 ur_3 t H1 locs ht hvm hw hB hz1 hk1 hS => ?_)
    try dsimp only at hw
    obtain ⟨er_3, hr9, hr8⟩ := hw
    rw [hrt9] at er_3 hr9 hr8
    obtain ⟨hP1, hK1, hD1⟩ := hB
    rw [ht] at hP1
    have hK1 := va_K.moved hvm.symm hK1
    obtain ⟨hP, hD⟩ := va_join (wr := [(q5, .inl (c5, 16, .inl a5)), (q6, .inl (c6, 16, .inl a6)), (q7, .inl (c7, 16, .inl a7)), (q2, .inl (c2, 67200, .inl a2)), (q3, .inl (c3, 16, .inl a3)), (q4, .inl (c4, 16, .inl a4)), (q9, .inl (c9, 16, .inl a9)), (q10, .inl (c10, 16, .inl a10)), (q11, .inl (c11, 16, .inl a11))]) (w1 := [(h0, .inr (8, [.int th, .ref q1, .ref q2, .ref q3, .ref q4, .ref q5, .ref q6, .ref q7, .ref q8, .ref q9, .ref q10, .ref q11, v12, v13, v14, v15, v16])), (q1, .inl (c1, 16, .inl a1)), (q8, .inl (c8, 16, .inl a8))]) hP hD [3, 4, 8] [0, 1, 2, 5, 6, 7, 9, 10, 11] rfl rfl (by decide) (by decide) hk1 hFc hP1 hD1
    clear hk1 hz1 ht hPc hDc hKc hFc
    generalize H1 = H at hP hS ⊢
    replace hP : va_P (dC, dI) vwCl [(q5, .inl (c5, 16, .inl a5)), (q6, .inl (c6, 16, .inl a6)), (q7, .inl (c7, 16, .inl a7)), (q2, .inl (c2, 67200, .inl a2)), (q3, .inl (c3, 16, .inl a3)), (q4, .inl (c4, 16, .inl a4)), (q9, .inl (c9, 16, .inl a9)), (q10, .inl (c10, 16, .inl a10)), (q11, .inl (c11, 16, .inl a11)), (h0, .inr (8, [.int th, .ref q1, .ref q2, .ref q3, .ref q4, .ref q5, .ref q6, .ref q7, .ref q8, .ref q9, .ref q10, .ref q11, v12, v13, v14, v15, v16])), (q1, .inl (c1, 16, .inl a1)), (q8, .inl (c8, 16, .inl a8))] H := hP
    replace hD : va_D A [(q5, .inl (c5, 16, .inl a5)), (q6, .inl (c6, 16, .inl a6)), (q7, .inl (c7, 16, .inl a7)), (q2, .inl (c2, 67200, .inl a2)), (q3, .inl (c3, 16, .inl a3)), (q4, .inl (c4, 16, .inl a4)), (q9, .inl (c9, 16, .inl a9)), (q10, .inl (c10, 16, .inl a10)), (q11, .inl (c11, 16, .inl a11)), (h0, .inr (8, [.int th, .ref q1, .ref q2, .ref q3, .ref q4, .ref q5, .ref q6, .ref q7, .ref q8, .ref q9, .ref q10, .ref q11, v12, v13, v14, v15, v16])), (q1, .inl (c1, 16, .inl a1)), (q8, .inl (c8, 16, .inl a8))] := hD
    refine W.widen (k := 0) (n := 0) (Nat.le_of_ble_eq_true rfl) (Nat.le_of_ble_eq_true rfl) ?_
    subst er_3
    refine W.eq (g2 := F0 m 22 ls [.int (nI r)]) rfl ?_
    refine lv_istore (lv' := [(4, .int (nI r)), (3, .int (nI ne)), (0, .ref h0), (1, .int (nI o)), (2, .int p1)]) hx hb dX8_end_22 hl (by decide) rfl (fun ls hl => ?_)
    refine lv_aload_n hx hb dX8_end_24 rfl (lv_at hl 2 rfl) ?_
    refine lv_iload_n hx hb dX8_end_25 rfl (lv_at hl 3 rfl) ?_
    refine lv_iload_n hx hb dX8_end_26 rfl (lv_at hl 4 rfl) ?_
    refine lv_iconst (v := 2) hx hb dX8_end_27 (by decide) ?_
    refine lv_irem hx hb dX8_end_28 (by decide) ?_
    refine lv_if_ne (tgt := 36) hx hb dX8_end_29 (by decide) (fun c_4 => ?_) (fun c_4 => ?_)
    ·
      have ic_4 : ¬ (p1 - p1 / 2 * 2).toInt = 0 := tx_ne rfl (by decide) c_4
      refine lv_iload_n hx hb dX8_end_36 rfl (lv_at hl 1 rfl) ?_
      refine lv_iconst (v := 1) hx hb dX8_end_37 (by decide) ?_
      refine lv_isub hx hb dX8_end_38 ?_
      refine lv_topi (fun z_5 ez_5 => ?_)
      obtain rfl : z_5 = nI (ne - 1) := ez_5.trans (by rw [show (1 : Int32) = nI 1 from rfl, pk_sub (by omega)])
      have hPc := hP.sub (ws' := [(h0, .inr (8, [.int th, .ref q1, .ref q2, .ref q3, .ref q4, .ref q5, .ref q6, .ref q7, .ref q8, .ref q9, .ref q10, .ref q11, v12, v13, v14, v15, v16])), (q1, .inl (c1, 16, .inl a1)), (q2, .inl (c2, 67200, .inl a2)), (q3, .inl (c3, 16, .inl a3)), (q4, .inl (c4, 16, .inl a4)), (q8, .inl (c8, 16, .inl a8)), (q9, .inl (c9, 16, .inl a9)), (q10, .inl (c10, 16, .inl a10)), (q11, .inl (c11, 16, .inl a11))]) [9, 10, 3, 4, 5, 11, 6, 7, 8] rfl
      have hDc := hD.sub (ws' := [(h0, .inr (8, [.int th, .ref q1, .ref q2, .ref q3, .ref q4, .ref q5, .ref q6, .ref q7, .ref q8, .ref q9, .ref q10, .ref q11, v12, v13, v14, v15, v16])), (q1, .inl (c1, 16, .inl a1)), (q2, .inl (c2, 67200, .inl a2)), (q3, .inl (c3, 16, .inl a3)), (q4, .inl (c4, 16, .inl a4)), (q8, .inl (c8, 16, .inl a8)), (q9, .inl (c9, 16, .inl a9)), (q10, .inl (c10, 16, .inl a10)), (q11, .inl (c11, 16, .inl a11))]) [9, 10, 3, 4, 5, 11, 6, 7, 8] (by decide) rfl
      have hKc := hK.sub (tys' := [(c1, .int), (c2, .int), (c3, .int), (c4, .int), (c8, .int), (c9, .int), (c10, .int), (c11, .int)]) [0, 1, 2, 3, 7, 8, 9, 10] rfl
      have hFc := va_free (wc := [(h0, .inr (8, [.int th, .ref q1, .ref q2, .ref q3, .ref q4, .ref q5, .ref q6, .ref q7, .ref q8, .ref q9, .ref q10, .ref q11, v12, v13, v14, v15, v16])), (q1, .inl (c1, 16, .inl a1)), (q2, .inl (c2, 67200, .inl a2)), (q3, .inl (c3, 16, .inl a3)), (q4, .inl (c4, 16, .inl a4)), (q8, .inl (c8, 16, .inl a8)), (q9, .inl (c9, 16, .inl a9)), (q10, .inl (c10, 16, .inl a10)), (q11, .inl (c11, 16, .inl a11))]) hD hS hA [9, 10, 3, 4, 5, 11, 6, 7, 8] rfl
      refine va_calli (va_runV (As := [.int (nI o), .int (nI (ne - 1))]) (rest := []) ⟨hx, hb, hml, hown, hts⟩ (c_X8_nth l  dC dI H.size h0 th q1 q2 q3 q4 q8 q9 q10 q11 c1 c2 c3 c4 c8 c9 c10 c11 a1 a2 a3 a4 a8 a9 a10 a11 (.ref q5) (.ref q6) (.ref q7) v12 v13 v14 v15 v16 o dep nz (ne - 1) ho9 hF9 hd9 (by rw [hrt9]; exact hs9) hz9 (by rw [← hne]; omega)) (cwV 2 hts gX8_end_X8_nth rfl rfl rfl (by decide +kernel) ⟨(Nat.le_of_ble_eq_true rfl), (Nat.le_of_ble_eq_true rfl)⟩) ⟨pk_blind, va_recv hKc hPc (ci := 8) (q0 := 0) rfl rfl, pk_call hPc hKc hDc⟩ rfl rfl hl.1 rfl (lv_room (Nat.le_of_ble_eq_true rfl)) dX8_end_39 ⟨(Nat.le_of_ble_eq_true rfl), (Nat.le_of_ble_eq_true rfl)⟩) hS (fun q _ h => hFc q h) hFc (fun r_6 ur_6 t H1 locs ht hvm hw hB hz1 hk1 hS => ?_)
      try dsimp only at hw
      have jr_6 := hw
      obtain ⟨hP1, hK1, hD1⟩ := hB
      rw [ht] at hP1
      have hK1 := va_K.moved hvm.symm hK1
      obtain ⟨hP, hD⟩ := va_join (wr := [(q5, .inl (c5, 16, .inl a5)), (q6, .inl (c6, 16, .inl a6)), (q7, .inl (c7, 16, .inl a7))]) (w1 := [(h0, .inr (8, [.int th, .ref q1, .ref q2, .ref q3, .ref q4, .ref q5, .ref q6, .ref q7, .ref q8, .ref q9, .ref q10, .ref q11, v12, v13, v14, v15, v16])), (q1, .inl (c1, 16, .inl a1)), (q2, .inl (c2, 67200, .inl a2)), (q3, .inl (c3, 16, .inl a3)), (q4, .inl (c4, 16, .inl a4)), (q8, .inl (c8, 16, .inl a8)), (q9, .inl (c9, 16, .inl a9)), (q10, .inl (c10, 16, .inl a10)), (q11, .inl (c11, 16, .inl a11))]) hP hD [9, 10, 3, 4, 5, 11, 6, 7, 8] [0, 1, 2] rfl rfl (by decide) (by decide) hk1 hFc hP1 hD1
      clear hk1 hz1 ht hPc hDc hKc hFc
      generalize H1 = H at hP hS ⊢
      replace hP : va_P (dC, dI) vwCl [(q5, .inl (c5, 16, .inl a5)), (q6, .inl (c6, 16, .inl a6)), (q7, .inl (c7, 16, .inl a7)), (h0, .inr (8, [.int th, .ref q1, .ref q2, .ref q3, .ref q4, .ref q5, .ref q6, .ref q7, .ref q8, .ref q9, .ref q10, .ref q11, v12, v13, v14, v15, v16])), (q1, .inl (c1, 16, .inl a1)), (q2, .inl (c2, 67200, .inl a2)), (q3, .inl (c3, 16, .inl a3)), (q4, .inl (c4, 16, .inl a4)), (q8, .inl (c8, 16, .inl a8)), (q9, .inl (c9, 16, .inl a9)), (q10, .inl (c10, 16, .inl a10)), (q11, .inl (c11, 16, .inl a11))] H := hP
      replace hD : va_D A [(q5, .inl (c5, 16, .inl a5)), (q6, .inl (c6, 16, .inl a6)), (q7, .inl (c7, 16, .inl a7)), (h0, .inr (8, [.int th, .ref q1, .ref q2, .ref q3, .ref q4, .ref q5, .ref q6, .ref q7, .ref q8, .ref q9, .ref q10, .ref q11, v12, v13, v14, v15, v16])), (q1, .inl (c1, 16, .inl a1)), (q2, .inl (c2, 67200, .inl a2)), (q3, .inl (c3, 16, .inl a3)), (q4, .inl (c4, 16, .inl a4)), (q8, .inl (c8, 16, .inl a8)), (q9, .inl (c9, 16, .inl a9)), (q10, .inl (c10, 16, .inl a10)), (q11, .inl (c11, 16, .inl a11))] := hD
      refine W.widen (k := 0) (n := 0) (Nat.le_of_ble_eq_true rfl) (Nat.le_of_ble_eq_true rfl) ?_
      obtain ⟨k8, hk8, rfl, hk8b⟩ := jr_6
      refine W.eq (g2 := F0 m 42 ls [.int (nI k8)]) rfl ?_
      refine lv_istore (lv' := [(5, .int (nI k8)), (4, .int (nI r)), (3, .int (nI ne)), (0, .ref h0), (1, .int (nI o)), (2, .int p1)]) hx hb dX8_end_42 hl (by decide) rfl (fun ls hl => ?_)
      refine lv_aload_n hx hb dX8_end_44 rfl (lv_at hl 3 rfl) ?_
      refine lv_iload hx hb dX8_end_45 (lv_at hl 1 rfl) ?_
      refine lv_iload hx hb dX8_end_47 (lv_at hl 0 rfl) ?_
      have hPc := hP.sub (ws' := [(h0, .inr (8, [.int th, .ref q1, .ref q2, .ref q3, .ref q4, .ref q5, .ref q6, .ref q7, .ref q8, .ref q9, .ref q10, .ref q11, v12, v13, v14, v15, v16])), (q2, .inl (c2, 67200, .inl a2))]) [3, 5] rfl
      have hDc := hD.sub (ws' := [(h0, .inr (8, [.int th, .ref q1, .ref q2, .ref q3, .ref q4, .ref q5, .ref q6, .ref q7, .ref q8, .ref q9, .ref q10, .ref q11, v12, v13, v14, v15, v16])), (q2, .inl (c2, 67200, .inl a2))]) [3, 5] (by decide) rfl
      have hKc := hK.sub (tys' := [(c2, .int)]) [1] rfl
      have hFc := va_free (wc := [(h0, .inr (8, [.int th, .ref q1, .ref q2, .ref q3, .ref q4, .ref q5, .ref q6, .ref q7, .ref q8, .ref q9, .ref q10, .ref q11, v12, v13, v14, v15, v16])), (q2, .inl (c2, 67200, .inl a2))]) hD hS hA [3, 5] rfl
      refine va_calli (va_runV (As := [.int (nI r), .int (nI k8)]) (rest := []) ⟨hx, hb, hml, hown, hts⟩ (c_X8_key l  dC dI H.size h0 th q2 c2 a2 (.ref q1) (.ref q3) (.ref q4) (.ref q5) (.ref q6) (.ref q7) (.ref q8) (.ref q9) (.ref q10) (.ref q11) v12 v13 v14 v15 v16 r k8 hr9 (by omega)) (cwV 2 hts gX8_end_X8_key rfl rfl rfl (by decide +kernel) ⟨(Nat.le_of_ble_eq_true rfl), (Nat.le_of_ble_eq_true rfl)⟩) ⟨pk_blind, va_recv hKc hPc (ci := 8) (q0 := 0) rfl rfl, pk_call hPc hKc hDc⟩ rfl rfl hl.1 rfl (lv_room (Nat.le_of_ble_eq_true rfl)) dX8_end_49 ⟨(Nat.le_of_ble_eq_true rfl), (Nat.le_of_ble_eq_true rfl)⟩) hS (fun q _ h => hFc q h) hFc (fun r_7 ur_7 t H1 locs ht hvm hw hB hz1 hk1 hS => ?_)
      try dsimp only at hw
      obtain ⟨hP1, hK1, hD1⟩ := hB
      rw [ht] at hP1
      have hK1 := va_K.moved hvm.symm hK1
      obtain ⟨hP, hD⟩ := va_join (wr := [(q5, .inl (c5, 16, .inl a5)), (q6, .inl (c6, 16, .inl a6)), (q7, .inl (c7, 16, .inl a7)), (q1, .inl (c1, 16, .inl a1)), (q3, .inl (c3, 16, .inl a3)), (q4, .inl (c4, 16, .inl a4)), (q8, .inl (c8, 16, .inl a8)), (q9, .inl (c9, 16, .inl a9)), (q10, .inl (c10, 16, .inl a10)), (q11, .inl (c11, 16, .inl a11))]) (w1 := [(h0, .inr (8, [.int th, .ref q1, .ref q2, .ref q3, .ref q4, .ref q5, .ref q6, .ref q7, .ref q8, .ref q9, .ref q10, .ref q11, v12, v13, v14, v15, v16])), (q2, .inl (c2, 67200, .inl a2))]) hP hD [3, 5] [0, 1, 2, 4, 6, 7, 8, 9, 10, 11] rfl rfl (by decide) (by decide) hk1 hFc hP1 hD1
      clear hk1 hz1 ht hPc hDc hKc hFc
      generalize H1 = H at hP hS ⊢
      replace hP : va_P (dC, dI) vwCl [(q5, .inl (c5, 16, .inl a5)), (q6, .inl (c6, 16, .inl a6)), (q7, .inl (c7, 16, .inl a7)), (q1, .inl (c1, 16, .inl a1)), (q3, .inl (c3, 16, .inl a3)), (q4, .inl (c4, 16, .inl a4)), (q8, .inl (c8, 16, .inl a8)), (q9, .inl (c9, 16, .inl a9)), (q10, .inl (c10, 16, .inl a10)), (q11, .inl (c11, 16, .inl a11)), (h0, .inr (8, [.int th, .ref q1, .ref q2, .ref q3, .ref q4, .ref q5, .ref q6, .ref q7, .ref q8, .ref q9, .ref q10, .ref q11, v12, v13, v14, v15, v16])), (q2, .inl (c2, 67200, .inl a2))] H := hP
      replace hD : va_D A [(q5, .inl (c5, 16, .inl a5)), (q6, .inl (c6, 16, .inl a6)), (q7, .inl (c7, 16, .inl a7)), (q1, .inl (c1, 16, .inl a1)), (q3, .inl (c3, 16, .inl a3)), (q4, .inl (c4, 16, .inl a4)), (q8, .inl (c8, 16, .inl a8)), (q9, .inl (c9, 16, .inl a9)), (q10, .inl (c10, 16, .inl a10)), (q11, .inl (c11, 16, .inl a11)), (h0, .inr (8, [.int th, .ref q1, .ref q2, .ref q3, .ref q4, .ref q5, .ref q6, .ref q7, .ref q8, .ref q9, .ref q10, .ref q11, v12, v13, v14, v15, v16])), (q2, .inl (c2, 67200, .inl a2))] := hD
      refine W.widen (k := 0) (n := 0) (Nat.le_of_ble_eq_true rfl) (Nat.le_of_ble_eq_true rfl) ?_
      obtain rfl : r_7 = a2 (4200 * r + k8) := hw
      refine W.eq (g2 := F0 m 52 ls [.int (a2 (4200 * r + k8))]) rfl ?_
      refine lv_istore (lv' := [(6, .int (a2 (4200 * r + k8))), (5, .int (nI k8)), (4, .int (nI r)), (3, .int (nI ne)), (0, .ref h0), (1, .int (nI o)), (2, .int p1)]) hx hb dX8_end_52 hl (by decide) rfl (fun ls hl => ?_)
      refine lv_iload_n hx hb dX8_end_54 rfl (lv_at hl 6 rfl) ?_
      refine lv_bipush (v := 11) hx hb dX8_end_55 (by decide) ?_
      refine lv_icmp_le (tgt := 68) hx hb dX8_end_57 (by decide) (fun c_8 => ?_) (fun c_8 => ?_)
      ·
        have ic_8 : p1.toInt ≤ 11 := tx_le rfl (by decide) c_8
        refine lv_iload hx hb dX8_end_68 (lv_at hl 0 rfl) ?_
        refine lv_i2l (v := (a2 (4200 * r + k8)).toInt64) hx hb dX8_end_70 rfl ?_
        have hP9 := hP.sub (ws' := [(h0, .inr (8, [.int th, .ref q1, .ref q2, .ref q3, .ref q4, .ref q5, .ref q6, .ref q7, .ref q8, .ref q9, .ref q10, .ref q11, v12, v13, v14, v15, v16])), (q1, .inl (c1, 16, .inl a1)), (q2, .inl (c2, 67200, .inl a2)), (q3, .inl (c3, 16, .inl a3)), (q4, .inl (c4, 16, .inl a4)), (q5, .inl (c5, 16, .inl a5)), (q6, .inl (c6, 16, .inl a6)), (q7, .inl (c7, 16, .inl a7)), (q8, .inl (c8, 16, .inl a8)), (q9, .inl (c9, 16, .inl a9)), (q10, .inl (c10, 16, .inl a10)), (q11, .inl (c11, 16, .inl a11))]) [10, 3, 11, 4, 5, 0, 1, 2, 6, 7, 8, 9] rfl
        have hD9 := hD.sub (ws' := [(h0, .inr (8, [.int th, .ref q1, .ref q2, .ref q3, .ref q4, .ref q5, .ref q6, .ref q7, .ref q8, .ref q9, .ref q10, .ref q11, v12, v13, v14, v15, v16])), (q1, .inl (c1, 16, .inl a1)), (q2, .inl (c2, 67200, .inl a2)), (q3, .inl (c3, 16, .inl a3)), (q4, .inl (c4, 16, .inl a4)), (q5, .inl (c5, 16, .inl a5)), (q6, .inl (c6, 16, .inl a6)), (q7, .inl (c7, 16, .inl a7)), (q8, .inl (c8, 16, .inl a8)), (q9, .inl (c9, 16, .inl a9)), (q10, .inl (c10, 16, .inl a10)), (q11, .inl (c11, 16, .inl a11))]) [10, 3, 11, 4, 5, 0, 1, 2, 6, 7, 8, 9] (by decide) rfl
        have hK9 := hK.sub (tys' := [(c1, .int), (c2, .int), (c3, .int), (c4, .int), (c5, .int), (c6, .int), (c7, .int), (c8, .int), (c9, .int), (c10, .int), (c11, .int)]) [0, 1, 2, 3, 4, 5, 6, 7, 8, 9, 10] rfl
        refine W.widen (k := 0) (n := 0) (Nat.le_of_ble_eq_true rfl) (Nat.le_of_ble_eq_true rfl) ?_
        exact W.lret (v := (a2 (4200 * r + k8)).toInt64) hx hb hr (fun t ht hW => ⟨⟨(a2 (4200 * r + k8)).toInt64, (th, a2, a3, a7), rfl, ⟨⟨0, by omega, rs_rf⟩, hM9⟩, by rw [ht]; exact hP9, va_K.moved hW.alike hK9, hD9⟩, hS.F ht⟩) hS.2.2 dX8_end_71
      ·
        have ic_8 : 11 < p1.toInt := tx_nle rfl (by decide) c_8
        refine lv_aload_n hx hb dX8_end_60 rfl (lv_at hl 4 rfl) ?_
        refine lv_iload hx hb dX8_end_61 (lv_at hl 2 rfl) ?_
        refine lv_iload hx hb dX8_end_63 (lv_at hl 1 rfl) ?_
        have hPc := hP.sub (ws' := [(h0, .inr (8, [.int th, .ref q1, .ref q2, .ref q3, .ref q4, .ref q5, .ref q6, .ref q7, .ref q8, .ref q9, .ref q10, .ref q11, v12, v13, v14, v15, v16])), (q1, .inl (c1, 16, .inl a1)), (q2, .inl (c2, 67200, .inl a2)), (q3, .inl (c3, 16, .inl a3)), (q5, .inl (c5, 16, .inl a5)), (q6, .inl (c6, 16, .inl a6)), (q7, .inl (c7, 16, .inl a7))]) [10, 3, 11, 4, 0, 1, 2] rfl
        have hDc := hD.sub (ws' := [(h0, .inr (8, [.int th, .ref q1, .ref q2, .ref q3, .ref q4, .ref q5, .ref q6, .ref q7, .ref q8, .ref q9, .ref q10, .ref q11, v12, v13, v14, v15, v16])), (q1, .inl (c1, 16, .inl a1)), (q2, .inl (c2, 67200, .inl a2)), (q3, .inl (c3, 16, .inl a3)), (q5, .inl (c5, 16, .inl a5)), (q6, .inl (c6, 16, .inl a6)), (q7, .inl (c7, 16, .inl a7))]) [10, 3, 11, 4, 0, 1, 2] (by decide) rfl
        have hKc := hK.sub (tys' := [(c1, .int), (c2, .int), (c3, .int), (c5, .int), (c6, .int), (c7, .int)]) [0, 1, 2, 4, 5, 6] rfl
        have hFc := va_free (wc := [(h0, .inr (8, [.int th, .ref q1, .ref q2, .ref q3, .ref q4, .ref q5, .ref q6, .ref q7, .ref q8, .ref q9, .ref q10, .ref q11, v12, v13, v14, v15, v16])), (q1, .inl (c1, 16, .inl a1)), (q2, .inl (c2, 67200, .inl a2)), (q3, .inl (c3, 16, .inl a3)), (q5, .inl (c5, 16, .inl a5)), (q6, .inl (c6, 16, .inl a6)), (q7, .inl (c7, 16, .inl a7))]) hD hS hA [10, 3, 11, 4, 0, 1, 2] rfl
        refine va_callv (va_runV (As := [.int (nI r), .int (nI k8)]) (rest := []) ⟨hx, hb, hml, hown, hts⟩ (c_X8_goes l  dC dI H.size h0 th q1 q2 q3 q5 q6 q7 c1 c2 c3 c5 c6 c7 a1 a2 a3 a5 a6 a7 (.ref q4) (.ref q8) (.ref q9) (.ref q10) (.ref q11) v12 v13 v14 v15 v16 r k8 tb nz hr9 (by omega) hs9 hz9 (hT9 (by omega))) (cwV 2 hts gX8_end_X8_goes rfl rfl rfl (by decide +kernel) ⟨(Nat.le_of_ble_eq_true rfl), (Nat.le_of_ble_eq_true rfl)⟩) ⟨pk_blind, va_recv hKc hPc (ci := 8) (q0 := 0) rfl rfl, pk_call hPc hKc hDc⟩ rfl rfl hl.1 rfl (lv_room (Nat.le_of_ble_eq_true rfl)) dX8_end_65 ⟨(Nat.le_of_ble_eq_true rfl), (Nat.le_of_ble_eq_true rfl)⟩) hS (fun q _ h => hFc q h) hFc (fun ur_9 t H1 locs ht hvm hw hB hz1 hk1 hS => ?_)
        try dsimp only at hw
        have jr_9 := hw
        obtain ⟨hP1, hK1, hD1⟩ := hB
        rw [ht] at hP1
        have hK1 := va_K.moved hvm.symm hK1
        obtain ⟨hP, hD⟩ := va_join (wr := [(q4, .inl (c4, 16, .inl a4)), (q8, .inl (c8, 16, .inl a8)), (q9, .inl (c9, 16, .inl a9)), (q10, .inl (c10, 16, .inl a10)), (q11, .inl (c11, 16, .inl a11))]) (w1 := [(h0, .inr (8, [.int th, .ref q1, .ref q2, .ref q3, .ref q4, .ref q5, .ref q6, .ref q7, .ref q8, .ref q9, .ref q10, .ref q11, v12, v13, v14, v15, v16])), (q1, .inl (c1, 16, .inl a1)), (q2, .inl (c2, 67200, .inl ur_9)), (q3, .inl (c3, 16, .inl (upd a3 r (nI (nz - 1))))), (q5, .inl (c5, 16, .inl a5)), (q6, .inl (c6, 16, .inl a6)), (q7, .inl (c7, 16, .inl (upd a7 r (a7 r + 1))))]) hP hD [10, 3, 11, 4, 0, 1, 2] [5, 6, 7, 8, 9] rfl rfl (by decide) (by decide) hk1 hFc hP1 hD1
        clear hk1 hz1 ht hPc hDc hKc hFc
        generalize H1 = H at hP hS ⊢
        replace hP : va_P (dC, dI) vwCl [(q4, .inl (c4, 16, .inl a4)), (q8, .inl (c8, 16, .inl a8)), (q9, .inl (c9, 16, .inl a9)), (q10, .inl (c10, 16, .inl a10)), (q11, .inl (c11, 16, .inl a11)), (h0, .inr (8, [.int th, .ref q1, .ref q2, .ref q3, .ref q4, .ref q5, .ref q6, .ref q7, .ref q8, .ref q9, .ref q10, .ref q11, v12, v13, v14, v15, v16])), (q1, .inl (c1, 16, .inl a1)), (q2, .inl (c2, 67200, .inl ur_9)), (q3, .inl (c3, 16, .inl (upd a3 r (nI (nz - 1))))), (q5, .inl (c5, 16, .inl a5)), (q6, .inl (c6, 16, .inl a6)), (q7, .inl (c7, 16, .inl (upd a7 r (a7 r + 1))))] H := hP
        replace hD : va_D A [(q4, .inl (c4, 16, .inl a4)), (q8, .inl (c8, 16, .inl a8)), (q9, .inl (c9, 16, .inl a9)), (q10, .inl (c10, 16, .inl a10)), (q11, .inl (c11, 16, .inl a11)), (h0, .inr (8, [.int th, .ref q1, .ref q2, .ref q3, .ref q4, .ref q5, .ref q6, .ref q7, .ref q8, .ref q9, .ref q10, .ref q11, v12, v13, v14, v15, v16])), (q1, .inl (c1, 16, .inl a1)), (q2, .inl (c2, 67200, .inl ur_9)), (q3, .inl (c3, 16, .inl (upd a3 r (nI (nz - 1))))), (q5, .inl (c5, 16, .inl a5)), (q6, .inl (c6, 16, .inl a6)), (q7, .inl (c7, 16, .inl (upd a7 r (a7 r + 1))))] := hD
        refine W.widen (k := 0) (n := 0) (Nat.le_of_ble_eq_true rfl) (Nat.le_of_ble_eq_true rfl) ?_
        refine W.eq (g2 := F0 m 68 ls []) rfl ?_
        have jg := jr_9
        refine lv_iload hx hb dX8_end_68 (lv_at hl 0 rfl) ?_
        refine lv_i2l (v := (a2 (4200 * r + k8)).toInt64) hx hb dX8_end_70 rfl ?_
        have hP9 := hP.sub (ws' := [(h0, .inr (8, [.int th, .ref q1, .ref q2, .ref q3, .ref q4, .ref q5, .ref q6, .ref q7, .ref q8, .ref q9, .ref q10, .ref q11, v12, v13, v14, v15, v16])), (q1, .inl (c1, 16, .inl a1)), (q2, .inl (c2, 67200, .inl ur_9)), (q3, .inl (c3, 16, .inl (upd a3 r (nI (nz - 1))))), (q4, .inl (c4, 16, .inl a4)), (q5, .inl (c5, 16, .inl a5)), (q6, .inl (c6, 16, .inl a6)), (q7, .inl (c7, 16, .inl (upd a7 r (a7 r + 1)))), (q8, .inl (c8, 16, .inl a8)), (q9, .inl (c9, 16, .inl a9)), (q10, .inl (c10, 16, .inl a10)), (q11, .inl (c11, 16, .inl a11))]) [5, 6, 7, 8, 0, 9, 10, 11, 1, 2, 3, 4] rfl
        have hD9 := hD.sub (ws' := [(h0, .inr (8, [.int th, .ref q1, .ref q2, .ref q3, .ref q4, .ref q5, .ref q6, .ref q7, .ref q8, .ref q9, .ref q10, .ref q11, v12, v13, v14, v15, v16])), (q1, .inl (c1, 16, .inl a1)), (q2, .inl (c2, 67200, .inl ur_9)), (q3, .inl (c3, 16, .inl (upd a3 r (nI (nz - 1))))), (q4, .inl (c4, 16, .inl a4)), (q5, .inl (c5, 16, .inl a5)), (q6, .inl (c6, 16, .inl a6)), (q7, .inl (c7, 16, .inl (upd a7 r (a7 r + 1)))), (q8, .inl (c8, 16, .inl a8)), (q9, .inl (c9, 16, .inl a9)), (q10, .inl (c10, 16, .inl a10)), (q11, .inl (c11, 16, .inl a11))]) [5, 6, 7, 8, 0, 9, 10, 11, 1, 2, 3, 4] (by decide) rfl
        have hK9 := hK.sub (tys' := [(c1, .int), (c2, .int), (c3, .int), (c4, .int), (c5, .int), (c6, .int), (c7, .int), (c8, .int), (c9, .int), (c10, .int), (c11, .int)]) [0, 1, 2, 3, 4, 5, 6, 7, 8, 9, 10] rfl
        refine W.widen (k := 0) (n := 0) (Nat.le_of_ble_eq_true rfl) (Nat.le_of_ble_eq_true rfl) ?_
        exact W.lret (v := (a2 (4200 * r + k8)).toInt64) hx hb hr (fun t ht hW => ⟨⟨(a2 (4200 * r + k8)).toInt64, (th, ur_9, (upd a3 r (nI (nz - 1))), (upd a7 r (a7 r + 1))), rfl, ⟨⟨1, by omega, rs_1 jg.1 (fun _ _ => rfl)⟩, mo_us (hM8 _ (by omega))⟩, by rw [ht]; exact hP9, va_K.moved hW.alike hK9, hD9⟩, hS.F ht⟩) hS.2.2 dX8_end_71
    ·
      have ic_4 : (p1 - p1 / 2 * 2).toInt = 0 := tx_eq rfl (by decide) c_4
      refine lv_iconst (v := 0) hx hb dX8_end_32 (by decide) ?_
      refine lv_goto (tgt := 39) hx hb dX8_end_33 (by decide) ?_
      refine W.eq (g2 := F0 m 39 ls [.int (nI 0), .int (nI o), .ref h0]) rfl ?_
      have hPc := hP.sub (ws' := [(h0, .inr (8, [.int th, .ref q1, .ref q2, .ref q3, .ref q4, .ref q5, .ref q6, .ref q7, .ref q8, .ref q9, .ref q10, .ref q11, v12, v13, v14, v15, v16])), (q1, .inl (c1, 16, .inl a1)), (q2, .inl (c2, 67200, .inl a2)), (q3, .inl (c3, 16, .inl a3)), (q4, .inl (c4, 16, .inl a4)), (q8, .inl (c8, 16, .inl a8)), (q9, .inl (c9, 16, .inl a9)), (q10, .inl (c10, 16, .inl a10)), (q11, .inl (c11, 16, .inl a11))]) [9, 10, 3, 4, 5, 11, 6, 7, 8] rfl
      have hDc := hD.sub (ws' := [(h0, .inr (8, [.int th, .ref q1, .ref q2, .ref q3, .ref q4, .ref q5, .ref q6, .ref q7, .ref q8, .ref q9, .ref q10, .ref q11, v12, v13, v14, v15, v16])), (q1, .inl (c1, 16, .inl a1)), (q2, .inl (c2, 67200, .inl a2)), (q3, .inl (c3, 16, .inl a3)), (q4, .inl (c4, 16, .inl a4)), (q8, .inl (c8, 16, .inl a8)), (q9, .inl (c9, 16, .inl a9)), (q10, .inl (c10, 16, .inl a10)), (q11, .inl (c11, 16, .inl a11))]) [9, 10, 3, 4, 5, 11, 6, 7, 8] (by decide) rfl
      have hKc := hK.sub (tys' := [(c1, .int), (c2, .int), (c3, .int), (c4, .int), (c8, .int), (c9, .int), (c10, .int), (c11, .int)]) [0, 1, 2, 3, 7, 8, 9, 10] rfl
      have hFc := va_free (wc := [(h0, .inr (8, [.int th, .ref q1, .ref q2, .ref q3, .ref q4, .ref q5, .ref q6, .ref q7, .ref q8, .ref q9, .ref q10, .ref q11, v12, v13, v14, v15, v16])), (q1, .inl (c1, 16, .inl a1)), (q2, .inl (c2, 67200, .inl a2)), (q3, .inl (c3, 16, .inl a3)), (q4, .inl (c4, 16, .inl a4)), (q8, .inl (c8, 16, .inl a8)), (q9, .inl (c9, 16, .inl a9)), (q10, .inl (c10, 16, .inl a10)), (q11, .inl (c11, 16, .inl a11))]) hD hS hA [9, 10, 3, 4, 5, 11, 6, 7, 8] rfl
      refine va_calli (va_runV (As := [.int (nI o), .int (nI 0)]) (rest := []) ⟨hx, hb, hml, hown, hts⟩ (c_X8_nth l  dC dI H.size h0 th q1 q2 q3 q4 q8 q9 q10 q11 c1 c2 c3 c4 c8 c9 c10 c11 a1 a2 a3 a4 a8 a9 a10 a11 (.ref q5) (.ref q6) (.ref q7) v12 v13 v14 v15 v16 o dep nz 0 ho9 hF9 hd9 (by rw [hrt9]; exact hs9) hz9 (by rw [← hne]; omega)) (cwV 2 hts gX8_end_X8_nth rfl rfl rfl (by decide +kernel) ⟨(Nat.le_of_ble_eq_true rfl), (Nat.le_of_ble_eq_true rfl)⟩) ⟨pk_blind, va_recv hKc hPc (ci := 8) (q0 := 0) rfl rfl, pk_call hPc hKc hDc⟩ rfl rfl hl.1 rfl (lv_room (Nat.le_of_ble_eq_true rfl)) dX8_end_39 ⟨(Nat.le_of_ble_eq_true rfl), (Nat.le_of_ble_eq_true rfl)⟩) hS (fun q _ h => hFc q h) hFc (fun r_10 ur_10 t H1 locs ht hvm hw hB hz1 hk1 hS => ?_)
      try dsimp only at hw
      have jr_10 := hw
      obtain ⟨hP1, hK1, hD1⟩ := hB
      rw [ht] at hP1
      have hK1 := va_K.moved hvm.symm hK1
      obtain ⟨hP, hD⟩ := va_join (wr := [(q5, .inl (c5, 16, .inl a5)), (q6, .inl (c6, 16, .inl a6)), (q7, .inl (c7, 16, .inl a7))]) (w1 := [(h0, .inr (8, [.int th, .ref q1, .ref q2, .ref q3, .ref q4, .ref q5, .ref q6, .ref q7, .ref q8, .ref q9, .ref q10, .ref q11, v12, v13, v14, v15, v16])), (q1, .inl (c1, 16, .inl a1)), (q2, .inl (c2, 67200, .inl a2)), (q3, .inl (c3, 16, .inl a3)), (q4, .inl (c4, 16, .inl a4)), (q8, .inl (c8, 16, .inl a8)), (q9, .inl (c9, 16, .inl a9)), (q10, .inl (c10, 16, .inl a10)), (q11, .inl (c11, 16, .inl a11))]) hP hD [9, 10, 3, 4, 5, 11, 6, 7, 8] [0, 1, 2] rfl rfl (by decide) (by decide) hk1 hFc hP1 hD1
      clear hk1 hz1 ht hPc hDc hKc hFc
      generalize H1 = H at hP hS ⊢
      replace hP : va_P (dC, dI) vwCl [(q5, .inl (c5, 16, .inl a5)), (q6, .inl (c6, 16, .inl a6)), (q7, .inl (c7, 16, .inl a7)), (h0, .inr (8, [.int th, .ref q1, .ref q2, .ref q3, .ref q4, .ref q5, .ref q6, .ref q7, .ref q8, .ref q9, .ref q10, .ref q11, v12, v13, v14, v15, v16])), (q1, .inl (c1, 16, .inl a1)), (q2, .inl (c2, 67200, .inl a2)), (q3, .inl (c3, 16, .inl a3)), (q4, .inl (c4, 16, .inl a4)), (q8, .inl (c8, 16, .inl a8)), (q9, .inl (c9, 16, .inl a9)), (q10, .inl (c10, 16, .inl a10)), (q11, .inl (c11, 16, .inl a11))] H := hP
      replace hD : va_D A [(q5, .inl (c5, 16, .inl a5)), (q6, .inl (c6, 16, .inl a6)), (q7, .inl (c7, 16, .inl a7)), (h0, .inr (8, [.int th, .ref q1, .ref q2, .ref q3, .ref q4, .ref q5, .ref q6, .ref q7, .ref q8, .ref q9, .ref q10, .ref q11, v12, v13, v14, v15, v16])), (q1, .inl (c1, 16, .inl a1)), (q2, .inl (c2, 67200, .inl a2)), (q3, .inl (c3, 16, .inl a3)), (q4, .inl (c4, 16, .inl a4)), (q8, .inl (c8, 16, .inl a8)), (q9, .inl (c9, 16, .inl a9)), (q10, .inl (c10, 16, .inl a10)), (q11, .inl (c11, 16, .inl a11))] := hD
      refine W.widen (k := 0) (n := 0) (Nat.le_of_ble_eq_true rfl) (Nat.le_of_ble_eq_true rfl) ?_
      obtain ⟨k8, hk8, rfl, hk8b⟩ := jr_10
      refine W.eq (g2 := F0 m 42 ls [.int (nI k8)]) rfl ?_
      refine lv_istore (lv' := [(5, .int (nI k8)), (4, .int (nI r)), (3, .int (nI ne)), (0, .ref h0), (1, .int (nI o)), (2, .int p1)]) hx hb dX8_end_42 hl (by decide) rfl (fun ls hl => ?_)
      refine lv_aload_n hx hb dX8_end_44 rfl (lv_at hl 3 rfl) ?_
      refine lv_iload hx hb dX8_end_45 (lv_at hl 1 rfl) ?_
      refine lv_iload hx hb dX8_end_47 (lv_at hl 0 rfl) ?_
      have hPc := hP.sub (ws' := [(h0, .inr (8, [.int th, .ref q1, .ref q2, .ref q3, .ref q4, .ref q5, .ref q6, .ref q7, .ref q8, .ref q9, .ref q10, .ref q11, v12, v13, v14, v15, v16])), (q2, .inl (c2, 67200, .inl a2))]) [3, 5] rfl
      have hDc := hD.sub (ws' := [(h0, .inr (8, [.int th, .ref q1, .ref q2, .ref q3, .ref q4, .ref q5, .ref q6, .ref q7, .ref q8, .ref q9, .ref q10, .ref q11, v12, v13, v14, v15, v16])), (q2, .inl (c2, 67200, .inl a2))]) [3, 5] (by decide) rfl
      have hKc := hK.sub (tys' := [(c2, .int)]) [1] rfl
      have hFc := va_free (wc := [(h0, .inr (8, [.int th, .ref q1, .ref q2, .ref q3, .ref q4, .ref q5, .ref q6, .ref q7, .ref q8, .ref q9, .ref q10, .ref q11, v12, v13, v14, v15, v16])), (q2, .inl (c2, 67200, .inl a2))]) hD hS hA [3, 5] rfl
      refine va_calli (va_runV (As := [.int (nI r), .int (nI k8)]) (rest := []) ⟨hx, hb, hml, hown, hts⟩ (c_X8_key l  dC dI H.size h0 th q2 c2 a2 (.ref q1) (.ref q3) (.ref q4) (.ref q5) (.ref q6) (.ref q7) (.ref q8) (.ref q9) (.ref q10) (.ref q11) v12 v13 v14 v15 v16 r k8 hr9 (by omega)) (cwV 2 hts gX8_end_X8_key rfl rfl rfl (by decide +kernel) ⟨(Nat.le_of_ble_eq_true rfl), (Nat.le_of_ble_eq_true rfl)⟩) ⟨pk_blind, va_recv hKc hPc (ci := 8) (q0 := 0) rfl rfl, pk_call hPc hKc hDc⟩ rfl rfl hl.1 rfl (lv_room (Nat.le_of_ble_eq_true rfl)) dX8_end_49 ⟨(Nat.le_of_ble_eq_true rfl), (Nat.le_of_ble_eq_true rfl)⟩) hS (fun q _ h => hFc q h) hFc (fun r_11 ur_11 t H1 locs ht hvm hw hB hz1 hk1 hS => ?_)
      try dsimp only at hw
      obtain ⟨hP1, hK1, hD1⟩ := hB
      rw [ht] at hP1
      have hK1 := va_K.moved hvm.symm hK1
      obtain ⟨hP, hD⟩ := va_join (wr := [(q5, .inl (c5, 16, .inl a5)), (q6, .inl (c6, 16, .inl a6)), (q7, .inl (c7, 16, .inl a7)), (q1, .inl (c1, 16, .inl a1)), (q3, .inl (c3, 16, .inl a3)), (q4, .inl (c4, 16, .inl a4)), (q8, .inl (c8, 16, .inl a8)), (q9, .inl (c9, 16, .inl a9)), (q10, .inl (c10, 16, .inl a10)), (q11, .inl (c11, 16, .inl a11))]) (w1 := [(h0, .inr (8, [.int th, .ref q1, .ref q2, .ref q3, .ref q4, .ref q5, .ref q6, .ref q7, .ref q8, .ref q9, .ref q10, .ref q11, v12, v13, v14, v15, v16])), (q2, .inl (c2, 67200, .inl a2))]) hP hD [3, 5] [0, 1, 2, 4, 6, 7, 8, 9, 10, 11] rfl rfl (by decide) (by decide) hk1 hFc hP1 hD1
      clear hk1 hz1 ht hPc hDc hKc hFc
      generalize H1 = H at hP hS ⊢
      replace hP : va_P (dC, dI) vwCl [(q5, .inl (c5, 16, .inl a5)), (q6, .inl (c6, 16, .inl a6)), (q7, .inl (c7, 16, .inl a7)), (q1, .inl (c1, 16, .inl a1)), (q3, .inl (c3, 16, .inl a3)), (q4, .inl (c4, 16, .inl a4)), (q8, .inl (c8, 16, .inl a8)), (q9, .inl (c9, 16, .inl a9)), (q10, .inl (c10, 16, .inl a10)), (q11, .inl (c11, 16, .inl a11)), (h0, .inr (8, [.int th, .ref q1, .ref q2, .ref q3, .ref q4, .ref q5, .ref q6, .ref q7, .ref q8, .ref q9, .ref q10, .ref q11, v12, v13, v14, v15, v16])), (q2, .inl (c2, 67200, .inl a2))] H := hP
      replace hD : va_D A [(q5, .inl (c5, 16, .inl a5)), (q6, .inl (c6, 16, .inl a6)), (q7, .inl (c7, 16, .inl a7)), (q1, .inl (c1, 16, .inl a1)), (q3, .inl (c3, 16, .inl a3)), (q4, .inl (c4, 16, .inl a4)), (q8, .inl (c8, 16, .inl a8)), (q9, .inl (c9, 16, .inl a9)), (q10, .inl (c10, 16, .inl a10)), (q11, .inl (c11, 16, .inl a11)), (h0, .inr (8, [.int th, .ref q1, .ref q2, .ref q3, .ref q4, .ref q5, .ref q6, .ref q7, .ref q8, .ref q9, .ref q10, .ref q11, v12, v13, v14, v15, v16])), (q2, .inl (c2, 67200, .inl a2))] := hD
      refine W.widen (k := 0) (n := 0) (Nat.le_of_ble_eq_true rfl) (Nat.le_of_ble_eq_true rfl) ?_
      obtain rfl : r_11 = a2 (4200 * r + k8) := hw
      refine W.eq (g2 := F0 m 52 ls [.int (a2 (4200 * r + k8))]) rfl ?_
      refine lv_istore (lv' := [(6, .int (a2 (4200 * r + k8))), (5, .int (nI k8)), (4, .int (nI r)), (3, .int (nI ne)), (0, .ref h0), (1, .int (nI o)), (2, .int p1)]) hx hb dX8_end_52 hl (by decide) rfl (fun ls hl => ?_)
      refine lv_iload_n hx hb dX8_end_54 rfl (lv_at hl 6 rfl) ?_
      refine lv_bipush (v := 11) hx hb dX8_end_55 (by decide) ?_
      refine lv_icmp_le (tgt := 68) hx hb dX8_end_57 (by decide) (fun c_12 => ?_) (fun c_12 => ?_)
      ·
        have ic_12 : p1.toInt ≤ 11 := tx_le rfl (by decide) c_12
        refine lv_iload hx hb dX8_end_68 (lv_at hl 0 rfl) ?_
        refine lv_i2l (v := (a2 (4200 * r + k8)).toInt64) hx hb dX8_end_70 rfl ?_
        have hP9 := hP.sub (ws' := [(h0, .inr (8, [.int th, .ref q1, .ref q2, .ref q3, .ref q4, .ref q5, .ref q6, .ref q7, .ref q8, .ref q9, .ref q10, .ref q11, v12, v13, v14, v15, v16])), (q1, .inl (c1, 16, .inl a1)), (q2, .inl (c2, 67200, .inl a2)), (q3, .inl (c3, 16, .inl a3)), (q4, .inl (c4, 16, .inl a4)), (q5, .inl (c5, 16, .inl a5)), (q6, .inl (c6, 16, .inl a6)), (q7, .inl (c7, 16, .inl a7)), (q8, .inl (c8, 16, .inl a8)), (q9, .inl (c9, 16, .inl a9)), (q10, .inl (c10, 16, .inl a10)), (q11, .inl (c11, 16, .inl a11))]) [10, 3, 11, 4, 5, 0, 1, 2, 6, 7, 8, 9] rfl
        have hD9 := hD.sub (ws' := [(h0, .inr (8, [.int th, .ref q1, .ref q2, .ref q3, .ref q4, .ref q5, .ref q6, .ref q7, .ref q8, .ref q9, .ref q10, .ref q11, v12, v13, v14, v15, v16])), (q1, .inl (c1, 16, .inl a1)), (q2, .inl (c2, 67200, .inl a2)), (q3, .inl (c3, 16, .inl a3)), (q4, .inl (c4, 16, .inl a4)), (q5, .inl (c5, 16, .inl a5)), (q6, .inl (c6, 16, .inl a6)), (q7, .inl (c7, 16, .inl a7)), (q8, .inl (c8, 16, .inl a8)), (q9, .inl (c9, 16, .inl a9)), (q10, .inl (c10, 16, .inl a10)), (q11, .inl (c11, 16, .inl a11))]) [10, 3, 11, 4, 5, 0, 1, 2, 6, 7, 8, 9] (by decide) rfl
        have hK9 := hK.sub (tys' := [(c1, .int), (c2, .int), (c3, .int), (c4, .int), (c5, .int), (c6, .int), (c7, .int), (c8, .int), (c9, .int), (c10, .int), (c11, .int)]) [0, 1, 2, 3, 4, 5, 6, 7, 8, 9, 10] rfl
        refine W.widen (k := 0) (n := 0) (Nat.le_of_ble_eq_true rfl) (Nat.le_of_ble_eq_true rfl) ?_
        exact W.lret (v := (a2 (4200 * r + k8)).toInt64) hx hb hr (fun t ht hW => ⟨⟨(a2 (4200 * r + k8)).toInt64, (th, a2, a3, a7), rfl, ⟨⟨0, by omega, rs_rf⟩, hM9⟩, by rw [ht]; exact hP9, va_K.moved hW.alike hK9, hD9⟩, hS.F ht⟩) hS.2.2 dX8_end_71
      ·
        have ic_12 : 11 < p1.toInt := tx_nle rfl (by decide) c_12
        refine lv_aload_n hx hb dX8_end_60 rfl (lv_at hl 4 rfl) ?_
        refine lv_iload hx hb dX8_end_61 (lv_at hl 2 rfl) ?_
        refine lv_iload hx hb dX8_end_63 (lv_at hl 1 rfl) ?_
        have hPc := hP.sub (ws' := [(h0, .inr (8, [.int th, .ref q1, .ref q2, .ref q3, .ref q4, .ref q5, .ref q6, .ref q7, .ref q8, .ref q9, .ref q10, .ref q11, v12, v13, v14, v15, v16])), (q1, .inl (c1, 16, .inl a1)), (q2, .inl (c2, 67200, .inl a2)), (q3, .inl (c3, 16, .inl a3)), (q5, .inl (c5, 16, .inl a5)), (q6, .inl (c6, 16, .inl a6)), (q7, .inl (c7, 16, .inl a7))]) [10, 3, 11, 4, 0, 1, 2] rfl
        have hDc := hD.sub (ws' := [(h0, .inr (8, [.int th, .ref q1, .ref q2, .ref q3, .ref q4, .ref q5, .ref q6, .ref q7, .ref q8, .ref q9, .ref q10, .ref q11, v12, v13, v14, v15, v16])), (q1, .inl (c1, 16, .inl a1)), (q2, .inl (c2, 67200, .inl a2)), (q3, .inl (c3, 16, .inl a3)), (q5, .inl (c5, 16, .inl a5)), (q6, .inl (c6, 16, .inl a6)), (q7, .inl (c7, 16, .inl a7))]) [10, 3, 11, 4, 0, 1, 2] (by decide) rfl
        have hKc := hK.sub (tys' := [(c1, .int), (c2, .int), (c3, .int), (c5, .int), (c6, .int), (c7, .int)]) [0, 1, 2, 4, 5, 6] rfl
        have hFc := va_free (wc := [(h0, .inr (8, [.int th, .ref q1, .ref q2, .ref q3, .ref q4, .ref q5, .ref q6, .ref q7, .ref q8, .ref q9, .ref q10, .ref q11, v12, v13, v14, v15, v16])), (q1, .inl (c1, 16, .inl a1)), (q2, .inl (c2, 67200, .inl a2)), (q3, .inl (c3, 16, .inl a3)), (q5, .inl (c5, 16, .inl a5)), (q6, .inl (c6, 16, .inl a6)), (q7, .inl (c7, 16, .inl a7))]) hD hS hA [10, 3, 11, 4, 0, 1, 2] rfl
        refine va_callv (va_runV (As := [.int (nI r), .int (nI k8)]) (rest := []) ⟨hx, hb, hml, hown, hts⟩ (c_X8_goes l  dC dI H.size h0 th q1 q2 q3 q5 q6 q7 c1 c2 c3 c5 c6 c7 a1 a2 a3 a5 a6 a7 (.ref q4) (.ref q8) (.ref q9) (.ref q10) (.ref q11) v12 v13 v14 v15 v16 r k8 tb nz hr9 (by omega) hs9 hz9 (hT9 (by omega))) (cwV 2 hts gX8_end_X8_goes rfl rfl rfl (by decide +kernel) ⟨(Nat.le_of_ble_eq_true rfl), (Nat.le_of_ble_eq_true rfl)⟩) ⟨pk_blind, va_recv hKc hPc (ci := 8) (q0 := 0) rfl rfl, pk_call hPc hKc hDc⟩ rfl rfl hl.1 rfl (lv_room (Nat.le_of_ble_eq_true rfl)) dX8_end_65 ⟨(Nat.le_of_ble_eq_true rfl), (Nat.le_of_ble_eq_true rfl)⟩) hS (fun q _ h => hFc q h) hFc (fun ur_13 t H1 locs ht hvm hw hB hz1 hk1 hS => ?_)
        try dsimp only at hw
        have jr_13 := hw
        obtain ⟨hP1, hK1, hD1⟩ := hB
        rw [ht] at hP1
        have hK1 := va_K.moved hvm.symm hK1
        obtain ⟨hP, hD⟩ := va_join (wr := [(q4, .inl (c4, 16, .inl a4)), (q8, .inl (c8, 16, .inl a8)), (q9, .inl (c9, 16, .inl a9)), (q10, .inl (c10, 16, .inl a10)), (q11, .inl (c11, 16, .inl a11))]) (w1 := [(h0, .inr (8, [.int th, .ref q1, .ref q2, .ref q3, .ref q4, .ref q5, .ref q6, .ref q7, .ref q8, .ref q9, .ref q10, .ref q11, v12, v13, v14, v15, v16])), (q1, .inl (c1, 16, .inl a1)), (q2, .inl (c2, 67200, .inl ur_13)), (q3, .inl (c3, 16, .inl (upd a3 r (nI (nz - 1))))), (q5, .inl (c5, 16, .inl a5)), (q6, .inl (c6, 16, .inl a6)), (q7, .inl (c7, 16, .inl (upd a7 r (a7 r + 1))))]) hP hD [10, 3, 11, 4, 0, 1, 2] [5, 6, 7, 8, 9] rfl rfl (by decide) (by decide) hk1 hFc hP1 hD1
        clear hk1 hz1 ht hPc hDc hKc hFc
        generalize H1 = H at hP hS ⊢
        replace hP : va_P (dC, dI) vwCl [(q4, .inl (c4, 16, .inl a4)), (q8, .inl (c8, 16, .inl a8)), (q9, .inl (c9, 16, .inl a9)), (q10, .inl (c10, 16, .inl a10)), (q11, .inl (c11, 16, .inl a11)), (h0, .inr (8, [.int th, .ref q1, .ref q2, .ref q3, .ref q4, .ref q5, .ref q6, .ref q7, .ref q8, .ref q9, .ref q10, .ref q11, v12, v13, v14, v15, v16])), (q1, .inl (c1, 16, .inl a1)), (q2, .inl (c2, 67200, .inl ur_13)), (q3, .inl (c3, 16, .inl (upd a3 r (nI (nz - 1))))), (q5, .inl (c5, 16, .inl a5)), (q6, .inl (c6, 16, .inl a6)), (q7, .inl (c7, 16, .inl (upd a7 r (a7 r + 1))))] H := hP
        replace hD : va_D A [(q4, .inl (c4, 16, .inl a4)), (q8, .inl (c8, 16, .inl a8)), (q9, .inl (c9, 16, .inl a9)), (q10, .inl (c10, 16, .inl a10)), (q11, .inl (c11, 16, .inl a11)), (h0, .inr (8, [.int th, .ref q1, .ref q2, .ref q3, .ref q4, .ref q5, .ref q6, .ref q7, .ref q8, .ref q9, .ref q10, .ref q11, v12, v13, v14, v15, v16])), (q1, .inl (c1, 16, .inl a1)), (q2, .inl (c2, 67200, .inl ur_13)), (q3, .inl (c3, 16, .inl (upd a3 r (nI (nz - 1))))), (q5, .inl (c5, 16, .inl a5)), (q6, .inl (c6, 16, .inl a6)), (q7, .inl (c7, 16, .inl (upd a7 r (a7 r + 1))))] := hD
        refine W.widen (k := 0) (n := 0) (Nat.le_of_ble_eq_true rfl) (Nat.le_of_ble_eq_true rfl) ?_
        refine W.eq (g2 := F0 m 68 ls []) rfl ?_
        have jg := jr_13
        refine lv_iload hx hb dX8_end_68 (lv_at hl 0 rfl) ?_
        refine lv_i2l (v := (a2 (4200 * r + k8)).toInt64) hx hb dX8_end_70 rfl ?_
        have hP9 := hP.sub (ws' := [(h0, .inr (8, [.int th, .ref q1, .ref q2, .ref q3, .ref q4, .ref q5, .ref q6, .ref q7, .ref q8, .ref q9, .ref q10, .ref q11, v12, v13, v14, v15, v16])), (q1, .inl (c1, 16, .inl a1)), (q2, .inl (c2, 67200, .inl ur_13)), (q3, .inl (c3, 16, .inl (upd a3 r (nI (nz - 1))))), (q4, .inl (c4, 16, .inl a4)), (q5, .inl (c5, 16, .inl a5)), (q6, .inl (c6, 16, .inl a6)), (q7, .inl (c7, 16, .inl (upd a7 r (a7 r + 1)))), (q8, .inl (c8, 16, .inl a8)), (q9, .inl (c9, 16, .inl a9)), (q10, .inl (c10, 16, .inl a10)), (q11, .inl (c11, 16, .inl a11))]) [5, 6, 7, 8, 0, 9, 10, 11, 1, 2, 3, 4] rfl
        have hD9 := hD.sub (ws' := [(h0, .inr (8, [.int th, .ref q1, .ref q2, .ref q3, .ref q4, .ref q5, .ref q6, .ref q7, .ref q8, .ref q9, .ref q10, .ref q11, v12, v13, v14, v15, v16])), (q1, .inl (c1, 16, .inl a1)), (q2, .inl (c2, 67200, .inl ur_13)), (q3, .inl (c3, 16, .inl (upd a3 r (nI (nz - 1))))), (q4, .inl (c4, 16, .inl a4)), (q5, .inl (c5, 16, .inl a5)), (q6, .inl (c6, 16, .inl a6)), (q7, .inl (c7, 16, .inl (upd a7 r (a7 r + 1)))), (q8, .inl (c8, 16, .inl a8)), (q9, .inl (c9, 16, .inl a9)), (q10, .inl (c10, 16, .inl a10)), (q11, .inl (c11, 16, .inl a11))]) [5, 6, 7, 8, 0, 9, 10, 11, 1, 2, 3, 4] (by decide) rfl
        have hK9 := hK.sub (tys' := [(c1, .int), (c2, .int), (c3, .int), (c4, .int), (c5, .int), (c6, .int), (c7, .int), (c8, .int), (c9, .int), (c10, .int), (c11, .int)]) [0, 1, 2, 3, 4, 5, 6, 7, 8, 9, 10] rfl
        refine W.widen (k := 0) (n := 0) (Nat.le_of_ble_eq_true rfl) (Nat.le_of_ble_eq_true rfl) ?_
        exact W.lret (v := (a2 (4200 * r + k8)).toInt64) hx hb hr (fun t ht hW => ⟨⟨(a2 (4200 * r + k8)).toInt64, (th, ur_13, (upd a3 r (nI (nz - 1))), (upd a7 r (a7 r + 1))), rfl, ⟨⟨1, by omega, rs_1 jg.1 (fun _ _ => rfl)⟩, mo_us (hM8 _ (by omega))⟩, by rw [ht]; exact hP9, va_K.moved hW.alike hK9, hD9⟩, hS.F ht⟩) hS.2.2 dX8_end_71
  ·
    have ic_2 : ((ne : Nat) : Int) = 0 := tx_eq (nI_toInt (by omega)) (by decide) c_2
    refine lv_aload_n hx hb dX8_end_10 rfl (lv_at hl 1 rfl) ?_
    refine lv_iconst (v := 1) hx hb dX8_end_11 (by decide) ?_
    have hPc := hP.sub (ws' := [(h0, .inr (8, [.int th, .ref q1, .ref q2, .ref q3, .ref q4, .ref q5, .ref q6, .ref q7, .ref q8, .ref q9, .ref q10, .ref q11, v12, v13, v14, v15, v16]))]) [3] rfl
    have hDc := hD.sub (ws' := [(h0, .inr (8, [.int th, .ref q1, .ref q2, .ref q3, .ref q4, .ref q5, .ref q6, .ref q7, .ref q8, .ref q9, .ref q10, .ref q11, v12, v13, v14, v15, v16]))]) [3] (by decide) rfl
    have hKc := hK.sub (tys' := []) [] rfl
    have hFc := va_free (wc := [(h0, .inr (8, [.int th, .ref q1, .ref q2, .ref q3, .ref q4, .ref q5, .ref q6, .ref q7, .ref q8, .ref q9, .ref q10, .ref q11, v12, v13, v14, v15, v16]))]) hD hS hA [3] rfl
    refine va_calli (va_runV (As := [.int 1]) (rest := []) ⟨hx, hb, hml, hown, hts⟩ (c_X8_refuse l  dC dI H.size h0 th (.ref q1) (.ref q2) (.ref q3) (.ref q4) (.ref q5) (.ref q6) (.ref q7) (.ref q8) (.ref q9) (.ref q10) (.ref q11) v12 v13 v14 v15 v16 1) (cwV 1 hts gX8_end_X8_refuse rfl rfl rfl (by decide +kernel) ⟨(Nat.le_of_ble_eq_true rfl), (Nat.le_of_ble_eq_true rfl)⟩) ⟨pk_blind, va_recv hKc hPc (ci := 8) (q0 := 0) rfl rfl, pk_call hPc hKc hDc⟩ rfl rfl hl.1 rfl (lv_room (Nat.le_of_ble_eq_true rfl)) dX8_end_12 ⟨(Nat.le_of_ble_eq_true rfl), (Nat.le_of_ble_eq_true rfl)⟩) hS (fun q _ h => hFc q h) hFc (fun r_14 ur_14 t H1 locs ht hvm hw hB hz1 hk1 hS => ?_)
    try dsimp only at hw
    obtain ⟨hP1, hK1, hD1⟩ := hB
    rw [ht] at hP1
    have hK1 := va_K.moved hvm.symm hK1
    obtain ⟨hP, hD⟩ := va_join (wr := [(q5, .inl (c5, 16, .inl a5)), (q6, .inl (c6, 16, .inl a6)), (q7, .inl (c7, 16, .inl a7)), (q1, .inl (c1, 16, .inl a1)), (q2, .inl (c2, 67200, .inl a2)), (q3, .inl (c3, 16, .inl a3)), (q4, .inl (c4, 16, .inl a4)), (q8, .inl (c8, 16, .inl a8)), (q9, .inl (c9, 16, .inl a9)), (q10, .inl (c10, 16, .inl a10)), (q11, .inl (c11, 16, .inl a11))]) (w1 := [(h0, .inr (8, [.int 1, .ref q1, .ref q2, .ref q3, .ref q4, .ref q5, .ref q6, .ref q7, .ref q8, .ref q9, .ref q10, .ref q11, v12, v13, v14, v15, v16]))]) hP hD [3] [0, 1, 2, 4, 5, 6, 7, 8, 9, 10, 11] rfl rfl (by decide) (by decide) hk1 hFc hP1 hD1
    clear hk1 hz1 ht hPc hDc hKc hFc
    generalize H1 = H at hP hS ⊢
    replace hP : va_P (dC, dI) vwCl [(q5, .inl (c5, 16, .inl a5)), (q6, .inl (c6, 16, .inl a6)), (q7, .inl (c7, 16, .inl a7)), (q1, .inl (c1, 16, .inl a1)), (q2, .inl (c2, 67200, .inl a2)), (q3, .inl (c3, 16, .inl a3)), (q4, .inl (c4, 16, .inl a4)), (q8, .inl (c8, 16, .inl a8)), (q9, .inl (c9, 16, .inl a9)), (q10, .inl (c10, 16, .inl a10)), (q11, .inl (c11, 16, .inl a11)), (h0, .inr (8, [.int 1, .ref q1, .ref q2, .ref q3, .ref q4, .ref q5, .ref q6, .ref q7, .ref q8, .ref q9, .ref q10, .ref q11, v12, v13, v14, v15, v16]))] H := hP
    replace hD : va_D A [(q5, .inl (c5, 16, .inl a5)), (q6, .inl (c6, 16, .inl a6)), (q7, .inl (c7, 16, .inl a7)), (q1, .inl (c1, 16, .inl a1)), (q2, .inl (c2, 67200, .inl a2)), (q3, .inl (c3, 16, .inl a3)), (q4, .inl (c4, 16, .inl a4)), (q8, .inl (c8, 16, .inl a8)), (q9, .inl (c9, 16, .inl a9)), (q10, .inl (c10, 16, .inl a10)), (q11, .inl (c11, 16, .inl a11)), (h0, .inr (8, [.int 1, .ref q1, .ref q2, .ref q3, .ref q4, .ref q5, .ref q6, .ref q7, .ref q8, .ref q9, .ref q10, .ref q11, v12, v13, v14, v15, v16]))] := hD
    refine W.widen (k := 0) (n := 0) (Nat.le_of_ble_eq_true rfl) (Nat.le_of_ble_eq_true rfl) ?_
    obtain rfl : r_14 = 0 := hw
    refine W.eq (g2 := F0 m 15 ls [.int 0]) rfl ?_
    refine lv_i2l (v := (0 : Int32).toInt64) hx hb dX8_end_15 rfl ?_
    have hP9 := hP.sub (ws' := [(h0, .inr (8, [.int 1, .ref q1, .ref q2, .ref q3, .ref q4, .ref q5, .ref q6, .ref q7, .ref q8, .ref q9, .ref q10, .ref q11, v12, v13, v14, v15, v16])), (q1, .inl (c1, 16, .inl a1)), (q2, .inl (c2, 67200, .inl a2)), (q3, .inl (c3, 16, .inl a3)), (q4, .inl (c4, 16, .inl a4)), (q5, .inl (c5, 16, .inl a5)), (q6, .inl (c6, 16, .inl a6)), (q7, .inl (c7, 16, .inl a7)), (q8, .inl (c8, 16, .inl a8)), (q9, .inl (c9, 16, .inl a9)), (q10, .inl (c10, 16, .inl a10)), (q11, .inl (c11, 16, .inl a11))]) [11, 3, 4, 5, 6, 0, 1, 2, 7, 8, 9, 10] rfl
    have hD9 := hD.sub (ws' := [(h0, .inr (8, [.int 1, .ref q1, .ref q2, .ref q3, .ref q4, .ref q5, .ref q6, .ref q7, .ref q8, .ref q9, .ref q10, .ref q11, v12, v13, v14, v15, v16])), (q1, .inl (c1, 16, .inl a1)), (q2, .inl (c2, 67200, .inl a2)), (q3, .inl (c3, 16, .inl a3)), (q4, .inl (c4, 16, .inl a4)), (q5, .inl (c5, 16, .inl a5)), (q6, .inl (c6, 16, .inl a6)), (q7, .inl (c7, 16, .inl a7)), (q8, .inl (c8, 16, .inl a8)), (q9, .inl (c9, 16, .inl a9)), (q10, .inl (c10, 16, .inl a10)), (q11, .inl (c11, 16, .inl a11))]) [11, 3, 4, 5, 6, 0, 1, 2, 7, 8, 9, 10] (by decide) rfl
    have hK9 := hK.sub (tys' := [(c1, .int), (c2, .int), (c3, .int), (c4, .int), (c5, .int), (c6, .int), (c7, .int), (c8, .int), (c9, .int), (c10, .int), (c11, .int)]) [0, 1, 2, 3, 4, 5, 6, 7, 8, 9, 10] rfl
    refine W.widen (k := 0) (n := 0) (Nat.le_of_ble_eq_true rfl) (Nat.le_of_ble_eq_true rfl) ?_
    exact W.lret (v := (0 : Int32).toInt64) hx hb hr (fun t ht hW => ⟨⟨(0 : Int32).toInt64, (1, a2, a3, a7), rfl, ⟨⟨0, by omega, rs_rf⟩, hM9⟩, by rw [ht]; exact hP9, va_K.moved hW.alike hK9, hD9⟩, hS.F ht⟩) hS.2.2 dX8_end_16
