theorem dX8_view_0 : decode cX8_view 0 = .ok (.aload_n 0, 1) := by decide +kernel
theorem dX8_view_1 : decode cX8_view 1 = .ok (.iload_n 1, 1) := by decide +kernel
set_option maxRecDepth 20000 in
theorem ggX8_view_X8_isThere : GoodIn wsX8_view wsX8_isThere := goodIn_r _ [11, 1, 12, 13, 10, 14, 52, 53, 54, 55, 56, 57, 58, 59, 60, 61, 62, 63, 64, 65, 66, 67, 68] rfl (by decide +kernel)
set_option maxRecDepth 20000 in
theorem gX8_view_X8_isThere : GoodIn wsX8_view (wsV RX8 80 RX8 yX8_isThere wsX8_isThere) := goodIn_app (goodIn_of _ (by decide +kernel)) ggX8_view_X8_isThere
theorem dX8_view_2 : decode cX8_view 2 = .ok (.invokevirtual 80, 3) := by decide +kernel
theorem dX8_view_5 : decode cX8_view 5 = .ok (.ifCond .ne 9, 3) := by decide +kernel
theorem dX8_view_71 : decode cX8_view 71 = .ok (.aload_n 0, 1) := by decide +kernel
set_option maxRecDepth 20000 in
theorem ggX8_view_X8_free : GoodIn wsX8_view wsX8_free := goodIn_r _ [44, 1, 52, 53, 54, 55, 56, 57, 58, 59, 60, 61, 62, 63, 64, 65, 66, 67, 68] rfl (by decide +kernel)
set_option maxRecDepth 20000 in
theorem gX8_view_X8_free : GoodIn wsX8_view (wsV RX8 72 RX8 yX8_free wsX8_free) := goodIn_app (goodIn_of _ (by decide +kernel)) ggX8_view_X8_free
theorem dX8_view_72 : decode cX8_view 72 = .ok (.invokevirtual 72, 3) := by decide +kernel
theorem dX8_view_75 : decode cX8_view 75 = .ok (.istore 5, 2) := by decide +kernel
theorem dX8_view_77 : decode cX8_view 77 = .ok (.iload 5, 2) := by decide +kernel
theorem dX8_view_79 : decode cX8_view 79 = .ok (.ifCond .ge 9, 3) := by decide +kernel
theorem dX8_view_88 : decode cX8_view 88 = .ok (.aload_n 0, 1) := by decide +kernel
theorem dX8_view_89 : decode cX8_view 89 = .ok (.iconst 0, 1) := by decide +kernel
theorem dX8_view_90 : decode cX8_view 90 = .ok (.putfield 60, 3) := by decide +kernel
theorem dX8_view_93 : decode cX8_view 93 = .ok (.aload_n 0, 1) := by decide +kernel
theorem dX8_view_94 : decode cX8_view 94 = .ok (.iload 5, 2) := by decide +kernel
theorem dX8_view_96 : decode cX8_view 96 = .ok (.iconst 4, 1) := by decide +kernel
set_option maxRecDepth 20000 in
theorem ggX8_view_X8_born : GoodIn wsX8_view wsX8_born := goodIn_r _ [48, 1, 49, 50, 51, 3, 52, 53, 54, 55, 56, 57, 58, 59, 60, 61, 62, 63, 64, 65, 66, 67, 68] rfl (by decide +kernel)
set_option maxRecDepth 20000 in
theorem gX8_view_X8_born : GoodIn wsX8_view (wsV RX8 76 RX8 yX8_born wsX8_born) := goodIn_app (goodIn_of _ (by decide +kernel)) ggX8_view_X8_born
theorem dX8_view_97 : decode cX8_view 97 = .ok (.invokevirtual 76, 3) := by decide +kernel
theorem dX8_view_100 : decode cX8_view 100 = .ok (.pop, 1) := by decide +kernel
theorem dX8_view_101 : decode cX8_view 101 = .ok (.aload_n 0, 1) := by decide +kernel
theorem dX8_view_102 : decode cX8_view 102 = .ok (.getfield 32, 3) := by decide +kernel
theorem dX8_view_105 : decode cX8_view 105 = .ok (.iload 5, 2) := by decide +kernel
theorem dX8_view_107 : decode cX8_view 107 = .ok (.iload_n 1, 1) := by decide +kernel
theorem dX8_view_108 : decode cX8_view 108 = .ok (.iastore, 1) := by decide +kernel
theorem dX8_view_109 : decode cX8_view 109 = .ok (.aload_n 0, 1) := by decide +kernel
theorem dX8_view_110 : decode cX8_view 110 = .ok (.getfield 41, 3) := by decide +kernel
theorem dX8_view_113 : decode cX8_view 113 = .ok (.iload 5, 2) := by decide +kernel
theorem dX8_view_115 : decode cX8_view 115 = .ok (.iload_n 2, 1) := by decide +kernel
theorem dX8_view_116 : decode cX8_view 116 = .ok (.iastore, 1) := by decide +kernel
theorem dX8_view_117 : decode cX8_view 117 = .ok (.aload_n 0, 1) := by decide +kernel
theorem dX8_view_118 : decode cX8_view 118 = .ok (.getfield 35, 3) := by decide +kernel
theorem dX8_view_121 : decode cX8_view 121 = .ok (.iload 5, 2) := by decide +kernel
theorem dX8_view_123 : decode cX8_view 123 = .ok (.iload_n 3, 1) := by decide +kernel
theorem dX8_view_124 : decode cX8_view 124 = .ok (.iastore, 1) := by decide +kernel
theorem dX8_view_125 : decode cX8_view 125 = .ok (.aload_n 0, 1) := by decide +kernel
theorem dX8_view_126 : decode cX8_view 126 = .ok (.getfield 38, 3) := by decide +kernel
theorem dX8_view_129 : decode cX8_view 129 = .ok (.iload 5, 2) := by decide +kernel
theorem dX8_view_131 : decode cX8_view 131 = .ok (.iload 4, 2) := by decide +kernel
theorem dX8_view_133 : decode cX8_view 133 = .ok (.iastore, 1) := by decide +kernel
theorem dX8_view_134 : decode cX8_view 134 = .ok (.iload 5, 2) := by decide +kernel
theorem dX8_view_136 : decode cX8_view 136 = .ok (.ireturn, 1) := by decide +kernel
theorem dX8_view_82 : decode cX8_view 82 = .ok (.aload_n 0, 1) := by decide +kernel
theorem dX8_view_83 : decode cX8_view 83 = .ok (.iconst 4, 1) := by decide +kernel
set_option maxRecDepth 20000 in
theorem ggX8_view_X8_refuse : GoodIn wsX8_view wsX8_refuse := goodIn_r _ [18, 2, 52, 53, 54, 55, 56, 57, 58, 59, 60, 61, 62, 63, 64, 65, 66, 67, 68] rfl (by decide +kernel)
set_option maxRecDepth 20000 in
theorem gX8_view_X8_refuse : GoodIn wsX8_view (wsV RX8 68 RX8 yX8_refuse wsX8_refuse) := goodIn_app (goodIn_of _ (by decide +kernel)) ggX8_view_X8_refuse
theorem dX8_view_84 : decode cX8_view 84 = .ok (.invokevirtual 68, 3) := by decide +kernel
theorem dX8_view_87 : decode cX8_view 87 = .ok (.ireturn, 1) := by decide +kernel
theorem dX8_view_40 : decode cX8_view 40 = .ok (.iload_n 2, 1) := by decide +kernel
theorem dX8_view_41 : decode cX8_view 41 = .ok (.iconst 1, 1) := by decide +kernel
theorem dX8_view_42 : decode cX8_view 42 = .ok (.iconst 4, 1) := by decide +kernel
set_option maxRecDepth 20000 in
theorem ggX8_view_X8_in : GoodIn wsX8_view wsX8_in := goodIn_r _ [14] rfl (by decide +kernel)
set_option maxRecDepth 20000 in
theorem gX8_view_X8_in : GoodIn wsX8_view (va_wsS RX8 64 yX8_in wsX8_in) := goodIn_app (goodIn_of _ (by decide +kernel)) ggX8_view_X8_in
theorem dX8_view_43 : decode cX8_view 43 = .ok (.invokestatic 64, 3) := by decide +kernel
theorem dX8_view_46 : decode cX8_view 46 = .ok (.ifCond .eq 19, 3) := by decide +kernel
theorem dX8_view_65 : decode cX8_view 65 = .ok (.aload_n 0, 1) := by decide +kernel
theorem dX8_view_66 : decode cX8_view 66 = .ok (.iconst 3, 1) := by decide +kernel
theorem dX8_view_67 : decode cX8_view 67 = .ok (.invokevirtual 68, 3) := by decide +kernel
theorem dX8_view_70 : decode cX8_view 70 = .ok (.ireturn, 1) := by decide +kernel
theorem dX8_view_49 : decode cX8_view 49 = .ok (.iload_n 2, 1) := by decide +kernel
theorem dX8_view_50 : decode cX8_view 50 = .ok (.iconst 1, 1) := by decide +kernel
theorem dX8_view_51 : decode cX8_view 51 = .ok (.if_icmp .ne 20, 3) := by decide +kernel
theorem dX8_view_54 : decode cX8_view 54 = .ok (.aload_n 0, 1) := by decide +kernel
theorem dX8_view_55 : decode cX8_view 55 = .ok (.iload_n 1, 1) := by decide +kernel
theorem dX8_view_56 : decode cX8_view 56 = .ok (.iload 4, 2) := by decide +kernel
theorem dX8_view_58 : decode cX8_view 58 = .ok (.iload_n 3, 1) := by decide +kernel
set_option maxRecDepth 20000 in
theorem ggX8_view_X8_ordered : GoodIn wsX8_view wsX8_ordered := goodIn_r _ [22, 23, 24, 25, 26, 10, 27, 1, 3, 28, 29, 30, 31, 32, 33, 34, 35, 36, 37, 38, 39, 40, 4, 52, 53, 54, 55, 56, 57, 58, 59, 60, 61, 62, 63, 64, 65, 66, 67, 68] rfl (by decide +kernel)
set_option maxRecDepth 20000 in
theorem gX8_view_X8_ordered : GoodIn wsX8_view (wsV RX8 105 RX8 yX8_ordered wsX8_ordered) := goodIn_app (goodIn_of _ (by decide +kernel)) ggX8_view_X8_ordered
theorem dX8_view_59 : decode cX8_view 59 = .ok (.invokevirtual 105, 3) := by decide +kernel
theorem dX8_view_62 : decode cX8_view 62 = .ok (.ifCond .ge 9, 3) := by decide +kernel
theorem dX8_view_14 : decode cX8_view 14 = .ok (.aload_n 0, 1) := by decide +kernel
theorem dX8_view_15 : decode cX8_view 15 = .ok (.getfield 7, 3) := by decide +kernel
theorem dX8_view_18 : decode cX8_view 18 = .ok (.iload_n 1, 1) := by decide +kernel
theorem dX8_view_19 : decode cX8_view 19 = .ok (.iaload, 1) := by decide +kernel
theorem dX8_view_20 : decode cX8_view 20 = .ok (.iconst 3, 1) := by decide +kernel
theorem dX8_view_21 : decode cX8_view 21 = .ok (.if_icmp .eq 19, 3) := by decide +kernel
theorem dX8_view_24 : decode cX8_view 24 = .ok (.aload_n 0, 1) := by decide +kernel
theorem dX8_view_25 : decode cX8_view 25 = .ok (.getfield 7, 3) := by decide +kernel
theorem dX8_view_28 : decode cX8_view 28 = .ok (.iload_n 1, 1) := by decide +kernel
theorem dX8_view_29 : decode cX8_view 29 = .ok (.iaload, 1) := by decide +kernel
theorem dX8_view_30 : decode cX8_view 30 = .ok (.iconst 4, 1) := by decide +kernel
theorem dX8_view_31 : decode cX8_view 31 = .ok (.if_icmp .eq 9, 3) := by decide +kernel
theorem dX8_view_34 : decode cX8_view 34 = .ok (.aload_n 0, 1) := by decide +kernel
theorem dX8_view_35 : decode cX8_view 35 = .ok (.iconst 2, 1) := by decide +kernel
theorem dX8_view_36 : decode cX8_view 36 = .ok (.invokevirtual 68, 3) := by decide +kernel
theorem dX8_view_39 : decode cX8_view 39 = .ok (.ireturn, 1) := by decide +kernel
theorem dX8_view_8 : decode cX8_view 8 = .ok (.aload_n 0, 1) := by decide +kernel
theorem dX8_view_9 : decode cX8_view 9 = .ok (.iconst 1, 1) := by decide +kernel
theorem dX8_view_10 : decode cX8_view 10 = .ok (.invokevirtual 68, 3) := by decide +kernel
theorem dX8_view_13 : decode cX8_view 13 = .ok (.ireturn, 1) := by decide +kernel
theorem dX8_cursor_0 : decode cX8_cursor 0 = .ok (.aload_n 0, 1) := by decide +kernel
theorem dX8_cursor_1 : decode cX8_cursor 1 = .ok (.iload_n 1, 1) := by decide +kernel
set_option maxRecDepth 20000 in
theorem ggX8_cursor_X8_isThere : GoodIn wsX8_cursor wsX8_isThere := goodIn_r _ [11, 12, 13, 14, 10, 15, 38, 39, 40, 41, 42, 43, 44, 45, 46, 47, 48, 49, 50, 51, 52, 53, 54] rfl (by decide +kernel)
set_option maxRecDepth 20000 in
theorem gX8_cursor_X8_isThere : GoodIn wsX8_cursor (wsV RX8 80 RX8 yX8_isThere wsX8_isThere) := goodIn_app (goodIn_of _ (by decide +kernel)) ggX8_cursor_X8_isThere
theorem dX8_cursor_2 : decode cX8_cursor 2 = .ok (.invokevirtual 80, 3) := by decide +kernel
theorem dX8_cursor_5 : decode cX8_cursor 5 = .ok (.ifCond .ne 9, 3) := by decide +kernel
theorem dX8_cursor_14 : decode cX8_cursor 14 = .ok (.aload_n 0, 1) := by decide +kernel
theorem dX8_cursor_15 : decode cX8_cursor 15 = .ok (.iload_n 1, 1) := by decide +kernel
set_option maxRecDepth 20000 in
theorem ggX8_cursor_X8_isMap : GoodIn wsX8_cursor wsX8_isMap := goodIn_r _ [23, 12, 38, 39, 40, 41, 42, 43, 44, 45, 46, 47, 48, 49, 50, 51, 52, 53, 54] rfl (by decide +kernel)
set_option maxRecDepth 20000 in
theorem gX8_cursor_X8_isMap : GoodIn wsX8_cursor (wsV RX8 143 RX8 yX8_isMap wsX8_isMap) := goodIn_app (goodIn_of _ (by decide +kernel)) ggX8_cursor_X8_isMap
theorem dX8_cursor_16 : decode cX8_cursor 16 = .ok (.invokevirtual 143, 3) := by decide +kernel
theorem dX8_cursor_19 : decode cX8_cursor 19 = .ok (.ifCond .ne 9, 3) := by decide +kernel
theorem dX8_cursor_28 : decode cX8_cursor 28 = .ok (.aload_n 0, 1) := by decide +kernel
set_option maxRecDepth 20000 in
theorem ggX8_cursor_X8_free : GoodIn wsX8_cursor wsX8_free := goodIn_r _ [27, 12, 38, 39, 40, 41, 42, 43, 44, 45, 46, 47, 48, 49, 50, 51, 52, 53, 54] rfl (by decide +kernel)
set_option maxRecDepth 20000 in
theorem gX8_cursor_X8_free : GoodIn wsX8_cursor (wsV RX8 72 RX8 yX8_free wsX8_free) := goodIn_app (goodIn_of _ (by decide +kernel)) ggX8_cursor_X8_free
theorem dX8_cursor_29 : decode cX8_cursor 29 = .ok (.invokevirtual 72, 3) := by decide +kernel
theorem dX8_cursor_32 : decode cX8_cursor 32 = .ok (.istore_n 2, 1) := by decide +kernel
theorem dX8_cursor_33 : decode cX8_cursor 33 = .ok (.iload_n 2, 1) := by decide +kernel
theorem dX8_cursor_34 : decode cX8_cursor 34 = .ok (.ifCond .ge 9, 3) := by decide +kernel
theorem dX8_cursor_43 : decode cX8_cursor 43 = .ok (.aload_n 0, 1) := by decide +kernel
theorem dX8_cursor_44 : decode cX8_cursor 44 = .ok (.iconst 0, 1) := by decide +kernel
theorem dX8_cursor_45 : decode cX8_cursor 45 = .ok (.putfield 60, 3) := by decide +kernel
theorem dX8_cursor_48 : decode cX8_cursor 48 = .ok (.aload_n 0, 1) := by decide +kernel
theorem dX8_cursor_49 : decode cX8_cursor 49 = .ok (.iload_n 2, 1) := by decide +kernel
theorem dX8_cursor_50 : decode cX8_cursor 50 = .ok (.iconst 5, 1) := by decide +kernel
set_option maxRecDepth 20000 in
theorem ggX8_cursor_X8_born : GoodIn wsX8_cursor wsX8_born := goodIn_r _ [31, 12, 32, 33, 6, 2, 38, 39, 40, 41, 42, 43, 44, 45, 46, 47, 48, 49, 50, 51, 52, 53, 54] rfl (by decide +kernel)
set_option maxRecDepth 20000 in
theorem gX8_cursor_X8_born : GoodIn wsX8_cursor (wsV RX8 76 RX8 yX8_born wsX8_born) := goodIn_app (goodIn_of _ (by decide +kernel)) ggX8_cursor_X8_born
theorem dX8_cursor_51 : decode cX8_cursor 51 = .ok (.invokevirtual 76, 3) := by decide +kernel
theorem dX8_cursor_54 : decode cX8_cursor 54 = .ok (.pop, 1) := by decide +kernel
theorem dX8_cursor_55 : decode cX8_cursor 55 = .ok (.aload_n 0, 1) := by decide +kernel
theorem dX8_cursor_56 : decode cX8_cursor 56 = .ok (.getfield 32, 3) := by decide +kernel
theorem dX8_cursor_59 : decode cX8_cursor 59 = .ok (.iload_n 2, 1) := by decide +kernel
theorem dX8_cursor_60 : decode cX8_cursor 60 = .ok (.iload_n 1, 1) := by decide +kernel
theorem dX8_cursor_61 : decode cX8_cursor 61 = .ok (.iastore, 1) := by decide +kernel
theorem dX8_cursor_62 : decode cX8_cursor 62 = .ok (.aload_n 0, 1) := by decide +kernel
theorem dX8_cursor_63 : decode cX8_cursor 63 = .ok (.getfield 35, 3) := by decide +kernel
theorem dX8_cursor_66 : decode cX8_cursor 66 = .ok (.iload_n 2, 1) := by decide +kernel
theorem dX8_cursor_67 : decode cX8_cursor 67 = .ok (.iconst 0, 1) := by decide +kernel
theorem dX8_cursor_68 : decode cX8_cursor 68 = .ok (.iastore, 1) := by decide +kernel
theorem dX8_cursor_69 : decode cX8_cursor 69 = .ok (.aload_n 0, 1) := by decide +kernel
theorem dX8_cursor_70 : decode cX8_cursor 70 = .ok (.getfield 38, 3) := by decide +kernel
theorem dX8_cursor_73 : decode cX8_cursor 73 = .ok (.iload_n 2, 1) := by decide +kernel
theorem dX8_cursor_74 : decode cX8_cursor 74 = .ok (.iconst 0, 1) := by decide +kernel
theorem dX8_cursor_75 : decode cX8_cursor 75 = .ok (.iastore, 1) := by decide +kernel
theorem dX8_cursor_76 : decode cX8_cursor 76 = .ok (.aload_n 0, 1) := by decide +kernel
theorem dX8_cursor_77 : decode cX8_cursor 77 = .ok (.getfield 44, 3) := by decide +kernel
theorem dX8_cursor_80 : decode cX8_cursor 80 = .ok (.iload_n 2, 1) := by decide +kernel
theorem dX8_cursor_81 : decode cX8_cursor 81 = .ok (.aload_n 0, 1) := by decide +kernel
theorem dX8_cursor_82 : decode cX8_cursor 82 = .ok (.getfield 29, 3) := by decide +kernel
theorem dX8_cursor_85 : decode cX8_cursor 85 = .ok (.aload_n 0, 1) := by decide +kernel
theorem dX8_cursor_86 : decode cX8_cursor 86 = .ok (.iload_n 1, 1) := by decide +kernel
set_option maxRecDepth 20000 in
theorem ggX8_cursor_X8_root : GoodIn wsX8_cursor wsX8_root := goodIn_r _ [37, 12, 2, 38, 39, 40, 41, 42, 43, 44, 45, 46, 47, 48, 49, 50, 51, 52, 53, 54] rfl (by decide +kernel)
set_option maxRecDepth 20000 in
theorem gX8_cursor_X8_root : GoodIn wsX8_cursor (wsV RX8 95 RX8 yX8_root wsX8_root) := goodIn_app (goodIn_of _ (by decide +kernel)) ggX8_cursor_X8_root
theorem dX8_cursor_87 : decode cX8_cursor 87 = .ok (.invokevirtual 95, 3) := by decide +kernel
theorem dX8_cursor_90 : decode cX8_cursor 90 = .ok (.iaload, 1) := by decide +kernel
theorem dX8_cursor_91 : decode cX8_cursor 91 = .ok (.iastore, 1) := by decide +kernel
theorem dX8_cursor_92 : decode cX8_cursor 92 = .ok (.iload_n 2, 1) := by decide +kernel
theorem dX8_cursor_93 : decode cX8_cursor 93 = .ok (.ireturn, 1) := by decide +kernel
theorem dX8_cursor_37 : decode cX8_cursor 37 = .ok (.aload_n 0, 1) := by decide +kernel
theorem dX8_cursor_38 : decode cX8_cursor 38 = .ok (.iconst 3, 1) := by decide +kernel
set_option maxRecDepth 20000 in
theorem ggX8_cursor_X8_refuse : GoodIn wsX8_cursor wsX8_refuse := goodIn_r _ [19, 1, 38, 39, 40, 41, 42, 43, 44, 45, 46, 47, 48, 49, 50, 51, 52, 53, 54] rfl (by decide +kernel)
set_option maxRecDepth 20000 in
theorem gX8_cursor_X8_refuse : GoodIn wsX8_cursor (wsV RX8 68 RX8 yX8_refuse wsX8_refuse) := goodIn_app (goodIn_of _ (by decide +kernel)) ggX8_cursor_X8_refuse
theorem dX8_cursor_39 : decode cX8_cursor 39 = .ok (.invokevirtual 68, 3) := by decide +kernel
theorem dX8_cursor_42 : decode cX8_cursor 42 = .ok (.ireturn, 1) := by decide +kernel
theorem dX8_cursor_22 : decode cX8_cursor 22 = .ok (.aload_n 0, 1) := by decide +kernel
theorem dX8_cursor_23 : decode cX8_cursor 23 = .ok (.iconst 2, 1) := by decide +kernel
theorem dX8_cursor_24 : decode cX8_cursor 24 = .ok (.invokevirtual 68, 3) := by decide +kernel
theorem dX8_cursor_27 : decode cX8_cursor 27 = .ok (.ireturn, 1) := by decide +kernel
theorem dX8_cursor_8 : decode cX8_cursor 8 = .ok (.aload_n 0, 1) := by decide +kernel
theorem dX8_cursor_9 : decode cX8_cursor 9 = .ok (.iconst 1, 1) := by decide +kernel
theorem dX8_cursor_10 : decode cX8_cursor 10 = .ok (.invokevirtual 68, 3) := by decide +kernel
theorem dX8_cursor_13 : decode cX8_cursor 13 = .ok (.ireturn, 1) := by decide +kernel
set_option maxHeartbeats 4000000 in
set_option maxRecDepth 100000 in
/-- view -/
theorem c_X8_view (l : Launch) (dC : Nat → ClassId) (dI : Nat → Nat → Nat) (sz : Nat) (h0 : Nat) (th : Int32) (q1 : Nat) (q3 : Nat) (q4 : Nat) (q6 : Nat) (q7 : Nat) (q8 : Nat) (q9 : Nat) (q10 : Nat) (q11 : Nat) (c1 : ClassId) (c3 : ClassId) (c4 : ClassId) (c6 : ClassId) (c7 : ClassId) (c8 : ClassId) (c9 : ClassId) (c10 : ClassId) (c11 : ClassId) (a1 : Nat → Int32) (a3 : Nat → Int32) (a4 : Nat → Int32) (a6 : Nat → Int32) (a7 : Nat → Int32) (a8 : Nat → Int32) (a9 : Nat → Int32) (a10 : Nat → Int32) (a11 : Nat → Int32) (v2 : Value) (v5 : Value) (v12 : Value) (v13 : Value) (v14 : Value) (v15 : Value) (v16 : Value) (dep : Nat → Nat) (p0 : Int32) (p1 : Int32) (p2 : Int32) (p3 : Int32) (hF9 : rF a1 a8 dep) (hda : ∀ o : Nat, o < 16 → dep o < 17) : Met l yX8_view wsX8_view ({ frames := 4, cells := 0, slots := 0, locals := 150 }) (va_Pc [.ref h0, .int p0, .int p1, .int p2, .int p3] (pk_Pre (dC, dI) [(h0, .inr (8, [.int th, .ref q1, v2, .ref q3, .ref q4, v5, .ref q6, .ref q7, .ref q8, .ref q9, .ref q10, .ref q11, v12, v13, v14, v15, v16])), (q1, .inl (c1, 16, .inl a1)), (q3, .inl (c3, 16, .inl a3)), (q4, .inl (c4, 16, .inl a4)), (q6, .inl (c6, 16, .inl a6)), (q7, .inl (c7, 16, .inl a7)), (q8, .inl (c8, 16, .inl a8)), (q9, .inl (c9, 16, .inl a9)), (q10, .inl (c10, 16, .inl a10)), (q11, .inl (c11, 16, .inl a11))] [(c1, .int), (c3, .int), (c4, .int), (c6, .int), (c7, .int), (c8, .int), (c9, .int), (c10, .int), (c11, .int)] sz)) (va_Qi (fun (x : Int32) (u : Int32 × (Nat → Int32) × (Nat → Int32) × (Nat → Int32) × (Nat → Int32) × (Nat → Int32) × (Nat → Int32) × (Nat → Int32) × (Nat → Int32)) => ∃ (c : Int32) (o xx : Nat), vwR a1 a4 a8 a11 p0 p1 p2 p3 c o xx ∧ u.1 = c ∧ (c = 0 → x = nI xx ∧ u.2.1 = upd a1 xx 4 ∧ u.2.2.1 = upd a3 xx 0 ∧ u.2.2.2.1 = upd a6 xx 0 ∧ u.2.2.2.2.1 = upd a7 xx 0 ∧ u.2.2.2.2.2.1 = upd (upd a8 xx (-1)) xx (nI o) ∧ u.2.2.2.2.2.2.1 = upd a9 xx p2 ∧ u.2.2.2.2.2.2.2.1 = upd a10 xx p3 ∧ u.2.2.2.2.2.2.2.2 = upd a11 xx p1) ∧ (¬ c = 0 → x = 0 ∧ u.2.1 = a1 ∧ u.2.2.1 = a3 ∧ u.2.2.2.1 = a6 ∧ u.2.2.2.2.1 = a7 ∧ u.2.2.2.2.2.1 = a8 ∧ u.2.2.2.2.2.2.1 = a9 ∧ u.2.2.2.2.2.2.2.1 = a10 ∧ u.2.2.2.2.2.2.2.2 = a11)) (fun (u : Int32 × (Nat → Int32) × (Nat → Int32) × (Nat → Int32) × (Nat → Int32) × (Nat → Int32) × (Nat → Int32) × (Nat → Int32) × (Nat → Int32)) (t : State) => va_P (dC, dI) vwCl [(h0, .inr (8, [.int u.1, .ref q1, v2, .ref q3, .ref q4, v5, .ref q6, .ref q7, .ref q8, .ref q9, .ref q10, .ref q11, v12, v13, v14, v15, v16])), (q1, .inl (c1, 16, .inl u.2.1)), (q3, .inl (c3, 16, .inl u.2.2.1)), (q4, .inl (c4, 16, .inl a4)), (q6, .inl (c6, 16, .inl u.2.2.2.1)), (q7, .inl (c7, 16, .inl u.2.2.2.2.1)), (q8, .inl (c8, 16, .inl u.2.2.2.2.2.1)), (q9, .inl (c9, 16, .inl u.2.2.2.2.2.2.1)), (q10, .inl (c10, 16, .inl u.2.2.2.2.2.2.2.1)), (q11, .inl (c11, 16, .inl u.2.2.2.2.2.2.2.2))] t.heap ∧ va_K (dC, dI) vwCl [(c1, .int), (c3, .int), (c4, .int), (c6, .int), (c7, .int), (c8, .int), (c9, .int), (c10, .int), (c11, .int)] t ∧ va_D (va_A [(h0, .inr (8, [.int th, .ref q1, v2, .ref q3, .ref q4, v5, .ref q6, .ref q7, .ref q8, .ref q9, .ref q10, .ref q11, v12, v13, v14, v15, v16])), (q1, .inl (c1, 16, .inl a1)), (q3, .inl (c3, 16, .inl a3)), (q4, .inl (c4, 16, .inl a4)), (q6, .inl (c6, 16, .inl a6)), (q7, .inl (c7, 16, .inl a7)), (q8, .inl (c8, 16, .inl a8)), (q9, .inl (c9, 16, .inl a9)), (q10, .inl (c10, 16, .inl a10)), (q11, .inl (c11, 16, .inl a11))] sz) [(h0, .inr (8, [.int u.1, .ref q1, v2, .ref q3, .ref q4, v5, .ref q6, .ref q7, .ref q8, .ref q9, .ref q10, .ref q11, v12, v13, v14, v15, v16])), (q1, .inl (c1, 16, .inl u.2.1)), (q3, .inl (c3, 16, .inl u.2.2.1)), (q4, .inl (c4, 16, .inl a4)), (q6, .inl (c6, 16, .inl u.2.2.2.1)), (q7, .inl (c7, 16, .inl u.2.2.2.2.1)), (q8, .inl (c8, 16, .inl u.2.2.2.2.2.1)), (q9, .inl (c9, 16, .inl u.2.2.2.2.2.2.1)), (q10, .inl (c10, 16, .inl u.2.2.2.2.2.2.2.1)), (q11, .inl (c11, 16, .inl u.2.2.2.2.2.2.2.2))]) (va_A [(h0, .inr (8, [.int th, .ref q1, v2, .ref q3, .ref q4, v5, .ref q6, .ref q7, .ref q8, .ref q9, .ref q10, .ref q11, v12, v13, v14, v15, v16])), (q1, .inl (c1, 16, .inl a1)), (q3, .inl (c3, 16, .inl a3)), (q4, .inl (c4, 16, .inl a4)), (q6, .inl (c6, 16, .inl a6)), (q7, .inl (c7, 16, .inl a7)), (q8, .inl (c8, 16, .inl a8)), (q9, .inl (c9, 16, .inl a9)), (q10, .inl (c10, 16, .inl a10)), (q11, .inl (c11, 16, .inl a11))] sz)) 0 0 (va_A [(h0, .inr (8, [.int th, .ref q1, v2, .ref q3, .ref q4, v5, .ref q6, .ref q7, .ref q8, .ref q9, .ref q10, .ref q11, v12, v13, v14, v15, v16])), (q1, .inl (c1, 16, .inl a1)), (q3, .inl (c3, 16, .inl a3)), (q4, .inl (c4, 16, .inl a4)), (q6, .inl (c6, 16, .inl a6)), (q7, .inl (c7, 16, .inl a7)), (q8, .inl (c8, 16, .inl a8)), (q9, .inl (c9, 16, .inl a9)), (q10, .inl (c10, 16, .inl a10)), (q11, .inl (c11, 16, .inl a11))] sz) := by
  refine Met.ofW (cc := cX8_view) (maxL := 6) (ret := (some .int)) (by decide) rfl ?_
  intro p e s m args below meth c s₁ B hml hv
  obtain ⟨rfl, hsz, hP, hK, hD0⟩ := hv
  have hx := B.exec
  have hb := B.bytes
  have hr := B.returns
  have hts := atoms_spec (ws := wsX8_view) B.pre
  have hown : s.vm.findClass RX8 = some m.cls := findClass_of_methodNamed B.named
  have hlocks := B.notSynchronized
  subst hsz
  have hD := hD0.self (sz := s.heap.size)
  generalize hAe : va_A [(h0, .inr (8, [.int th, .ref q1, v2, .ref q3, .ref q4, v5, .ref q6, .ref q7, .ref q8, .ref q9, .ref q10, .ref q11, v12, v13, v14, v15, v16])), (q1, .inl (c1, 16, .inl a1)), (q3, .inl (c3, 16, .inl a3)), (q4, .inl (c4, 16, .inl a4)), (q6, .inl (c6, 16, .inl a6)), (q7, .inl (c7, 16, .inl a7)), (q8, .inl (c8, 16, .inl a8)), (q9, .inl (c9, 16, .inl a9)), (q10, .inl (c10, 16, .inl a10)), (q11, .inl (c11, 16, .inl a11))] s.heap.size = A at hD ⊢
  have hA : ∀ q : Nat, s.heap.size ≤ q → A q := fun q h => by rw [← hAe]; exact Or.inr h
  have hS : va_S A s.heap s.heap [] := va_S.rf
  have hP : va_P (dC, dI) vwCl [(h0, .inr (8, [.int th, .ref q1, v2, .ref q3, .ref q4, v5, .ref q6, .ref q7, .ref q8, .ref q9, .ref q10, .ref q11, v12, v13, v14, v15, v16])), (q1, .inl (c1, 16, .inl a1)), (q3, .inl (c3, 16, .inl a3)), (q4, .inl (c4, 16, .inl a4)), (q6, .inl (c6, 16, .inl a6)), (q7, .inl (c7, 16, .inl a7)), (q8, .inl (c8, 16, .inl a8)), (q9, .inl (c9, 16, .inl a9)), (q10, .inl (c10, 16, .inl a10)), (q11, .inl (c11, 16, .inl a11))] s.heap := hP
  have hl := lv_entry ([.ref h0, .int p0, .int p1, .int p2, .int p3]) (n := 6) (Nat.le_of_ble_eq_true rfl)
  rw [lg_entry_eq]
  generalize (lg_sl ([.ref h0, .int p0, .int p1, .int p2, .int p3]) ++ List.replicate (6 - (lg_sl ([.ref h0, .int p0, .int p1, .int p2, .int p3])).length) Slot.unset).toArray = ls at hl ⊢
  have hl : lv_has ls 6 [(0, .ref h0), (1, .int p0), (2, .int p1), (3, .int p2), (4, .int p3)] := hl
  have hw0_ := hts (.fieldLink RX8 60 "KeyAtlasModel" "thrown" "I") (List.mem_of_getElem? (l := wsX8_view) (i := 2) rfl)
  have hw1_ := hts (.fieldLink RX8 32 "KeyAtlasModel" "parent" "[I") (List.mem_of_getElem? (l := wsX8_view) (i := 3) rfl)
  have hw2_ := hts (.fieldLink RX8 41 "KeyAtlasModel" "way" "[I") (List.mem_of_getElem? (l := wsX8_view) (i := 4) rfl)
  have hw3_ := hts (.fieldLink RX8 35 "KeyAtlasModel" "from" "[I") (List.mem_of_getElem? (l := wsX8_view) (i := 5) rfl)
  have hw4_ := hts (.fieldLink RX8 38 "KeyAtlasModel" "to" "[I") (List.mem_of_getElem? (l := wsX8_view) (i := 6) rfl)
  have hw5_ := hts (.fieldLink RX8 7 "KeyAtlasModel" "kind" "[I") (List.mem_of_getElem? (l := wsX8_view) (i := 1) rfl)
  have hi0_ : ∀ w ∈ u_ws RX8 TX8 17, w ∈ wsX8_view := fun w h => List.mem_cons_of_mem _ (List.mem_append_right _ h)
  refine lv_aload_n hx hb dX8_view_0 rfl (lv_at hl 0 rfl) ?_
  refine lv_iload_n hx hb dX8_view_1 rfl (lv_at hl 1 rfl) ?_
  have hPc := hP.sub (ws' := [(h0, .inr (8, [.int th, .ref q1, v2, .ref q3, .ref q4, v5, .ref q6, .ref q7, .ref q8, .ref q9, .ref q10, .ref q11, v12, v13, v14, v15, v16])), (q1, .inl (c1, 16, .inl a1))]) [0, 1] rfl
  have hDc := hD.sub (ws' := [(h0, .inr (8, [.int th, .ref q1, v2, .ref q3, .ref q4, v5, .ref q6, .ref q7, .ref q8, .ref q9, .ref q10, .ref q11, v12, v13, v14, v15, v16])), (q1, .inl (c1, 16, .inl a1))]) [0, 1] (by decide) rfl
  have hKc := hK.sub (tys' := [(c1, .int)]) [0] rfl
  have hFc := va_free (wc := [(h0, .inr (8, [.int th, .ref q1, v2, .ref q3, .ref q4, v5, .ref q6, .ref q7, .ref q8, .ref q9, .ref q10, .ref q11, v12, v13, v14, v15, v16])), (q1, .inl (c1, 16, .inl a1))]) hD hS hA [0, 1] rfl
  refine va_calli (va_runV (As := [.int p0]) (rest := []) ⟨hx, hb, hml, hown, hts⟩ (c_X8_isThere l  dC dI s.heap.size h0 th q1 c1 a1 v2 (.ref q3) (.ref q4) v5 (.ref q6) (.ref q7) (.ref q8) (.ref q9) (.ref q10) (.ref q11) v12 v13 v14 v15 v16 p0) (cwV 1 hts gX8_view_X8_isThere rfl rfl rfl (by decide +kernel) ⟨(Nat.le_of_ble_eq_true rfl), (Nat.le_of_ble_eq_true rfl)⟩) ⟨pk_blind, va_recv hKc hPc (ci := 8) (q0 := 0) rfl rfl, pk_call hPc hKc hDc⟩ rfl rfl hl.1 rfl (lv_room (Nat.le_of_ble_eq_true rfl)) dX8_view_2 ⟨(Nat.le_of_ble_eq_true rfl), (Nat.le_of_ble_eq_true rfl)⟩) hS (fun q _ h => hFc q h) hFc (fun r_1 ur_1 t H1 locs ht hvm hw hB hz1 hk1 hS => ?_)
  try dsimp only at hw
  have jr_1 := hw
  obtain ⟨hP1, hK1, hD1⟩ := hB
  rw [ht] at hP1
  have hK1 := va_K.moved hvm.symm hK1
  obtain ⟨hP, hD⟩ := va_join (wr := [(q3, .inl (c3, 16, .inl a3)), (q4, .inl (c4, 16, .inl a4)), (q6, .inl (c6, 16, .inl a6)), (q7, .inl (c7, 16, .inl a7)), (q8, .inl (c8, 16, .inl a8)), (q9, .inl (c9, 16, .inl a9)), (q10, .inl (c10, 16, .inl a10)), (q11, .inl (c11, 16, .inl a11))]) (w1 := [(h0, .inr (8, [.int th, .ref q1, v2, .ref q3, .ref q4, v5, .ref q6, .ref q7, .ref q8, .ref q9, .ref q10, .ref q11, v12, v13, v14, v15, v16])), (q1, .inl (c1, 16, .inl a1))]) hP hD [0, 1] [2, 3, 4, 5, 6, 7, 8, 9] rfl rfl (by decide) (by decide) hk1 hFc hP1 hD1
  clear hk1 hz1 ht hPc hDc hKc hFc
  generalize H1 = H at hP hS ⊢
  replace hP : va_P (dC, dI) vwCl [(q3, .inl (c3, 16, .inl a3)), (q4, .inl (c4, 16, .inl a4)), (q6, .inl (c6, 16, .inl a6)), (q7, .inl (c7, 16, .inl a7)), (q8, .inl (c8, 16, .inl a8)), (q9, .inl (c9, 16, .inl a9)), (q10, .inl (c10, 16, .inl a10)), (q11, .inl (c11, 16, .inl a11)), (h0, .inr (8, [.int th, .ref q1, v2, .ref q3, .ref q4, v5, .ref q6, .ref q7, .ref q8, .ref q9, .ref q10, .ref q11, v12, v13, v14, v15, v16])), (q1, .inl (c1, 16, .inl a1))] H := hP
  replace hD : va_D A [(q3, .inl (c3, 16, .inl a3)), (q4, .inl (c4, 16, .inl a4)), (q6, .inl (c6, 16, .inl a6)), (q7, .inl (c7, 16, .inl a7)), (q8, .inl (c8, 16, .inl a8)), (q9, .inl (c9, 16, .inl a9)), (q10, .inl (c10, 16, .inl a10)), (q11, .inl (c11, 16, .inl a11)), (h0, .inr (8, [.int th, .ref q1, v2, .ref q3, .ref q4, v5, .ref q6, .ref q7, .ref q8, .ref q9, .ref q10, .ref q11, v12, v13, v14, v15, v16])), (q1, .inl (c1, 16, .inl a1))] := hD
  refine W.widen (k := 0) (n := 0) (Nat.le_of_ble_eq_true rfl) (Nat.le_of_ble_eq_true rfl) ?_
  refine W.eq (g2 := F0 m 5 ls [.int r_1]) rfl ?_
  refine lv_if_ne (tgt := 14) hx hb dX8_view_5 (by decide) (fun c_2 => ?_) (fun c_2 => ?_)
  ·
    have ic_2 : ¬ r_1.toInt = 0 := tx_ne rfl (by decide) c_2
    obtain ⟨o, ho9, rfl, hko⟩ := (jr_1.resolve_right (fun h => absurd h.1 ic_2)).2
    refine w_join (α := Array Slot × Heap × List Loc) (hh := fun jv => jv.2.1) (lc := fun jv => jv.2.2) (F := fun jv => F0 m 40 (jv.1) []) (Pre := fun jv => lv_has (jv.1) 6 [(0, .ref h0), (1, .int (nI o)), (2, .int p1), (3, .int p2), (4, .int p3)] ∧ va_P (dC, dI) vwCl [(q3, .inl (c3, 16, .inl a3)), (q4, .inl (c4, 16, .inl a4)), (q6, .inl (c6, 16, .inl a6)), (q7, .inl (c7, 16, .inl a7)), (q8, .inl (c8, 16, .inl a8)), (q9, .inl (c9, 16, .inl a9)), (q10, .inl (c10, 16, .inl a10)), (q11, .inl (c11, 16, .inl a11)), (h0, .inr (8, [.int th, .ref q1, v2, .ref q3, .ref q4, v5, .ref q6, .ref q7, .ref q8, .ref q9, .ref q10, .ref q11, v12, v13, v14, v15, v16])), (q1, .inl (c1, 16, .inl a1))] (jv.2.1) ∧ va_S A s.heap (jv.2.1) (jv.2.2) ∧ ((a1 o).toInt = 3 ∨ (a1 o).toInt = 4)) (fun jv ha9 => ?_) (fun jn40 => ?_)
    ·
      obtain ⟨ls, H, locs⟩ := jv
      obtain ⟨hl, hP, hS, h34⟩ := ha9
      replace hl : lv_has ls 6 [(0, .ref h0), (1, .int (nI o)), (2, .int p1), (3, .int p2), (4, .int p3)] := hl
      replace hP : va_P (dC, dI) vwCl [(q3, .inl (c3, 16, .inl a3)), (q4, .inl (c4, 16, .inl a4)), (q6, .inl (c6, 16, .inl a6)), (q7, .inl (c7, 16, .inl a7)), (q8, .inl (c8, 16, .inl a8)), (q9, .inl (c9, 16, .inl a9)), (q10, .inl (c10, 16, .inl a10)), (q11, .inl (c11, 16, .inl a11)), (h0, .inr (8, [.int th, .ref q1, v2, .ref q3, .ref q4, v5, .ref q6, .ref q7, .ref q8, .ref q9, .ref q10, .ref q11, v12, v13, v14, v15, v16])), (q1, .inl (c1, 16, .inl a1))] H := hP
      replace hS : va_S A s.heap H locs := hS
      replace h34 : (a1 o).toInt = 3 ∨ (a1 o).toInt = 4 := h34
      show W p l e _ s m _ below meth c H locs _ _ _ (F0 m 40 ls [])
      refine w_join (α := Array Slot × Heap × List Loc) (hh := fun jv => jv.2.1) (lc := fun jv => jv.2.2) (F := fun jv => F0 m 71 (jv.1) []) (Pre := fun jv => lv_has (jv.1) 6 [(0, .ref h0), (1, .int (nI o)), (2, .int p1), (3, .int p2), (4, .int p3)] ∧ va_P (dC, dI) vwCl [(q3, .inl (c3, 16, .inl a3)), (q4, .inl (c4, 16, .inl a4)), (q6, .inl (c6, 16, .inl a6)), (q7, .inl (c7, 16, .inl a7)), (q8, .inl (c8, 16, .inl a8)), (q9, .inl (c9, 16, .inl a9)), (q10, .inl (c10, 16, .inl a10)), (q11, .inl (c11, 16, .inl a11)), (h0, .inr (8, [.int th, .ref q1, v2, .ref q3, .ref q4, v5, .ref q6, .ref q7, .ref q8, .ref q9, .ref q10, .ref q11, v12, v13, v14, v15, v16])), (q1, .inl (c1, 16, .inl a1))] (jv.2.1) ∧ va_S A s.heap (jv.2.1) (jv.2.2) ∧ (¬ vwB a1 a4 a8 a11 o p1 p2 p3)) (fun jv ha9 => ?_) (fun jn71 => ?_)
      ·
        obtain ⟨ls, H, locs⟩ := jv
        obtain ⟨hl, hP, hS, hbad⟩ := ha9
        replace hl : lv_has ls 6 [(0, .ref h0), (1, .int (nI o)), (2, .int p1), (3, .int p2), (4, .int p3)] := hl
        replace hP : va_P (dC, dI) vwCl [(q3, .inl (c3, 16, .inl a3)), (q4, .inl (c4, 16, .inl a4)), (q6, .inl (c6, 16, .inl a6)), (q7, .inl (c7, 16, .inl a7)), (q8, .inl (c8, 16, .inl a8)), (q9, .inl (c9, 16, .inl a9)), (q10, .inl (c10, 16, .inl a10)), (q11, .inl (c11, 16, .inl a11)), (h0, .inr (8, [.int th, .ref q1, v2, .ref q3, .ref q4, v5, .ref q6, .ref q7, .ref q8, .ref q9, .ref q10, .ref q11, v12, v13, v14, v15, v16])), (q1, .inl (c1, 16, .inl a1))] H := hP
        replace hS : va_S A s.heap H locs := hS
        replace hbad : ¬ vwB a1 a4 a8 a11 o p1 p2 p3 := hbad
        show W p l e _ s m _ below meth c H locs _ _ _ (F0 m 71 ls [])
        refine lv_aload_n hx hb dX8_view_71 rfl (lv_at hl 0 rfl) ?_
        have hPc := hP.sub (ws' := [(h0, .inr (8, [.int th, .ref q1, v2, .ref q3, .ref q4, v5, .ref q6, .ref q7, .ref q8, .ref q9, .ref q10, .ref q11, v12, v13, v14, v15, v16])), (q1, .inl (c1, 16, .inl a1))]) [8, 9] rfl
        have hDc := hD.sub (ws' := [(h0, .inr (8, [.int th, .ref q1, v2, .ref q3, .ref q4, v5, .ref q6, .ref q7, .ref q8, .ref q9, .ref q10, .ref q11, v12, v13, v14, v15, v16])), (q1, .inl (c1, 16, .inl a1))]) [8, 9] (by decide) rfl
        have hKc := hK.sub (tys' := [(c1, .int)]) [0] rfl
        have hFc := va_free (wc := [(h0, .inr (8, [.int th, .ref q1, v2, .ref q3, .ref q4, v5, .ref q6, .ref q7, .ref q8, .ref q9, .ref q10, .ref q11, v12, v13, v14, v15, v16])), (q1, .inl (c1, 16, .inl a1))]) hD hS hA [8, 9] rfl
        refine va_calli (va_runV (As := []) (rest := []) ⟨hx, hb, hml, hown, hts⟩ (c_X8_free l  dC dI H.size h0 th q1 c1 a1 v2 (.ref q3) (.ref q4) v5 (.ref q6) (.ref q7) (.ref q8) (.ref q9) (.ref q10) (.ref q11) v12 v13 v14 v15 v16) (cwV 0 hts gX8_view_X8_free rfl rfl rfl (by decide +kernel) ⟨(Nat.le_of_ble_eq_true rfl), (Nat.le_of_ble_eq_true rfl)⟩) ⟨pk_blind, va_recv hKc hPc (ci := 8) (q0 := 0) rfl rfl, pk_call hPc hKc hDc⟩ rfl rfl hl.1 rfl (lv_room (Nat.le_of_ble_eq_true rfl)) dX8_view_72 ⟨(Nat.le_of_ble_eq_true rfl), (Nat.le_of_ble_eq_true rfl)⟩) hS (fun q _ h => hFc q h) hFc (fun r_3 ur_3 t H1 locs ht hvm hw hB hz1 hk1 hS => ?_)
        try dsimp only at hw
        have jr_3 := hw
        obtain ⟨hP1, hK1, hD1⟩ := hB
        rw [ht] at hP1
        have hK1 := va_K.moved hvm.symm hK1
        obtain ⟨hP, hD⟩ := va_join (wr := [(q3, .inl (c3, 16, .inl a3)), (q4, .inl (c4, 16, .inl a4)), (q6, .inl (c6, 16, .inl a6)), (q7, .inl (c7, 16, .inl a7)), (q8, .inl (c8, 16, .inl a8)), (q9, .inl (c9, 16, .inl a9)), (q10, .inl (c10, 16, .inl a10)), (q11, .inl (c11, 16, .inl a11))]) (w1 := [(h0, .inr (8, [.int th, .ref q1, v2, .ref q3, .ref q4, v5, .ref q6, .ref q7, .ref q8, .ref q9, .ref q10, .ref q11, v12, v13, v14, v15, v16])), (q1, .inl (c1, 16, .inl a1))]) hP hD [8, 9] [0, 1, 2, 3, 4, 5, 6, 7] rfl rfl (by decide) (by decide) hk1 hFc hP1 hD1
        clear hk1 hz1 ht hPc hDc hKc hFc
        generalize H1 = H at hP hS ⊢
        replace hP : va_P (dC, dI) vwCl [(q3, .inl (c3, 16, .inl a3)), (q4, .inl (c4, 16, .inl a4)), (q6, .inl (c6, 16, .inl a6)), (q7, .inl (c7, 16, .inl a7)), (q8, .inl (c8, 16, .inl a8)), (q9, .inl (c9, 16, .inl a9)), (q10, .inl (c10, 16, .inl a10)), (q11, .inl (c11, 16, .inl a11)), (h0, .inr (8, [.int th, .ref q1, v2, .ref q3, .ref q4, v5, .ref q6, .ref q7, .ref q8, .ref q9, .ref q10, .ref q11, v12, v13, v14, v15, v16])), (q1, .inl (c1, 16, .inl a1))] H := hP
        replace hD : va_D A [(q3, .inl (c3, 16, .inl a3)), (q4, .inl (c4, 16, .inl a4)), (q6, .inl (c6, 16, .inl a6)), (q7, .inl (c7, 16, .inl a7)), (q8, .inl (c8, 16, .inl a8)), (q9, .inl (c9, 16, .inl a9)), (q10, .inl (c10, 16, .inl a10)), (q11, .inl (c11, 16, .inl a11)), (h0, .inr (8, [.int th, .ref q1, v2, .ref q3, .ref q4, v5, .ref q6, .ref q7, .ref q8, .ref q9, .ref q10, .ref q11, v12, v13, v14, v15, v16])), (q1, .inl (c1, 16, .inl a1))] := hD
        refine W.widen (k := 0) (n := 0) (Nat.le_of_ble_eq_true rfl) (Nat.le_of_ble_eq_true rfl) ?_
        refine W.eq (g2 := F0 m 75 ls [.int r_3]) rfl ?_
        refine lv_istore (lv' := [(5, .int r_3), (0, .ref h0), (1, .int (nI o)), (2, .int p1), (3, .int p2), (4, .int p3)]) hx hb dX8_view_75 hl (by decide) rfl (fun ls hl => ?_)
        refine lv_iload hx hb dX8_view_77 (lv_at hl 0 rfl) ?_
        refine lv_if_ge (tgt := 88) hx hb dX8_view_79 (by decide) (fun c_4 => ?_) (fun c_4 => ?_)
        ·
          have ic_4 : 0 ≤ r_3.toInt := tx_le (by decide) rfl c_4
          obtain ⟨xx, hxx, rfl, hx1, hx2⟩ := jr_3.resolve_left (fun h => by rw [h.1] at ic_4; exact absurd ic_4 (by decide))
          refine lv_aload_n hx hb dX8_view_88 rfl (lv_at hl 1 rfl) ?_
          refine lv_iconst (v := 0) hx hb dX8_view_89 (by decide) ?_
          refine va_put (D := (dC, dI)) (ci := 8) (v := .int 0) (ty := .int) (C := RX8) (T := TX8) (N := 17) hx hb hts hi0_ tyX8 tyX8_ok nmX8 hown hK hP hD hS 8 rfl rfl 0 (by decide) hw0_ (fun _ h9 => h9) rfl (by decide +kernel) rfl rfl (Nat.le_of_ble_eq_true rfl) dX8_view_90 (fun H locs hP hD hS => ?_)
          replace hP : va_P (dC, dI) vwCl [(q3, .inl (c3, 16, .inl a3)), (q4, .inl (c4, 16, .inl a4)), (q6, .inl (c6, 16, .inl a6)), (q7, .inl (c7, 16, .inl a7)), (q8, .inl (c8, 16, .inl a8)), (q9, .inl (c9, 16, .inl a9)), (q10, .inl (c10, 16, .inl a10)), (q11, .inl (c11, 16, .inl a11)), (h0, .inr (8, [.int 0, .ref q1, v2, .ref q3, .ref q4, v5, .ref q6, .ref q7, .ref q8, .ref q9, .ref q10, .ref q11, v12, v13, v14, v15, v16])), (q1, .inl (c1, 16, .inl a1))] H := hP
          replace hD : va_D A [(q3, .inl (c3, 16, .inl a3)), (q4, .inl (c4, 16, .inl a4)), (q6, .inl (c6, 16, .inl a6)), (q7, .inl (c7, 16, .inl a7)), (q8, .inl (c8, 16, .inl a8)), (q9, .inl (c9, 16, .inl a9)), (q10, .inl (c10, 16, .inl a10)), (q11, .inl (c11, 16, .inl a11)), (h0, .inr (8, [.int 0, .ref q1, v2, .ref q3, .ref q4, v5, .ref q6, .ref q7, .ref q8, .ref q9, .ref q10, .ref q11, v12, v13, v14, v15, v16])), (q1, .inl (c1, 16, .inl a1))] := hD
          refine lv_aload_n hx hb dX8_view_93 rfl (lv_at hl 1 rfl) ?_
          refine lv_iload hx hb dX8_view_94 (lv_at hl 0 rfl) ?_
          refine lv_iconst (v := 4) hx hb dX8_view_96 (by decide) ?_
          have hPc := hP.sub (ws' := [(h0, .inr (8, [.int 0, .ref q1, v2, .ref q3, .ref q4, v5, .ref q6, .ref q7, .ref q8, .ref q9, .ref q10, .ref q11, v12, v13, v14, v15, v16])), (q1, .inl (c1, 16, .inl a1)), (q3, .inl (c3, 16, .inl a3)), (q6, .inl (c6, 16, .inl a6)), (q7, .inl (c7, 16, .inl a7)), (q8, .inl (c8, 16, .inl a8))]) [8, 9, 0, 2, 3, 4] rfl
          have hDc := hD.sub (ws' := [(h0, .inr (8, [.int 0, .ref q1, v2, .ref q3, .ref q4, v5, .ref q6, .ref q7, .ref q8, .ref q9, .ref q10, .ref q11, v12, v13, v14, v15, v16])), (q1, .inl (c1, 16, .inl a1)), (q3, .inl (c3, 16, .inl a3)), (q6, .inl (c6, 16, .inl a6)), (q7, .inl (c7, 16, .inl a7)), (q8, .inl (c8, 16, .inl a8))]) [8, 9, 0, 2, 3, 4] (by decide) rfl
          have hKc := hK.sub (tys' := [(c1, .int), (c3, .int), (c6, .int), (c7, .int), (c8, .int)]) [0, 1, 3, 4, 5] rfl
          have hFc := va_free (wc := [(h0, .inr (8, [.int 0, .ref q1, v2, .ref q3, .ref q4, v5, .ref q6, .ref q7, .ref q8, .ref q9, .ref q10, .ref q11, v12, v13, v14, v15, v16])), (q1, .inl (c1, 16, .inl a1)), (q3, .inl (c3, 16, .inl a3)), (q6, .inl (c6, 16, .inl a6)), (q7, .inl (c7, 16, .inl a7)), (q8, .inl (c8, 16, .inl a8))]) hD hS hA [8, 9, 0, 2, 3, 4] rfl
          refine va_calli (va_runV (As := [.int (nI xx), .int 4]) (rest := []) ⟨hx, hb, hml, hown, hts⟩ (c_X8_born l  dC dI H.size h0 0 q1 q3 q6 q7 q8 c1 c3 c6 c7 c8 a1 a3 a6 a7 a8 v2 (.ref q4) v5 (.ref q9) (.ref q10) (.ref q11) v12 v13 v14 v15 v16 xx 4 (by omega)) (cwV 2 hts gX8_view_X8_born rfl rfl rfl (by decide +kernel) ⟨(Nat.le_of_ble_eq_true rfl), (Nat.le_of_ble_eq_true rfl)⟩) ⟨pk_blind, va_recv hKc hPc (ci := 8) (q0 := 0) rfl rfl, pk_call hPc hKc hDc⟩ rfl rfl hl.1 rfl (lv_room (Nat.le_of_ble_eq_true rfl)) dX8_view_97 ⟨(Nat.le_of_ble_eq_true rfl), (Nat.le_of_ble_eq_true rfl)⟩) hS (fun q _ h => hFc q h) hFc (fun r_5 ur_5 t H1 locs ht hvm hw hB hz1 hk1 hS => ?_)
          try dsimp only at hw
          have jr_5 := hw
          obtain ⟨hP1, hK1, hD1⟩ := hB
          rw [ht] at hP1
          have hK1 := va_K.moved hvm.symm hK1
          obtain ⟨hP, hD⟩ := va_join (wr := [(q4, .inl (c4, 16, .inl a4)), (q9, .inl (c9, 16, .inl a9)), (q10, .inl (c10, 16, .inl a10)), (q11, .inl (c11, 16, .inl a11))]) (w1 := [(h0, .inr (8, [.int 0, .ref q1, v2, .ref q3, .ref q4, v5, .ref q6, .ref q7, .ref q8, .ref q9, .ref q10, .ref q11, v12, v13, v14, v15, v16])), (q1, .inl (c1, 16, .inl (upd a1 xx 4))), (q3, .inl (c3, 16, .inl (upd a3 xx 0))), (q6, .inl (c6, 16, .inl (upd a6 xx 0))), (q7, .inl (c7, 16, .inl (upd a7 xx 0))), (q8, .inl (c8, 16, .inl (upd a8 xx (-1))))]) hP hD [8, 9, 0, 2, 3, 4] [1, 5, 6, 7] rfl rfl (by decide) (by decide) hk1 hFc hP1 hD1
          clear hk1 hz1 ht hPc hDc hKc hFc
          generalize H1 = H at hP hS ⊢
          replace hP : va_P (dC, dI) vwCl [(q4, .inl (c4, 16, .inl a4)), (q9, .inl (c9, 16, .inl a9)), (q10, .inl (c10, 16, .inl a10)), (q11, .inl (c11, 16, .inl a11)), (h0, .inr (8, [.int 0, .ref q1, v2, .ref q3, .ref q4, v5, .ref q6, .ref q7, .ref q8, .ref q9, .ref q10, .ref q11, v12, v13, v14, v15, v16])), (q1, .inl (c1, 16, .inl (upd a1 xx 4))), (q3, .inl (c3, 16, .inl (upd a3 xx 0))), (q6, .inl (c6, 16, .inl (upd a6 xx 0))), (q7, .inl (c7, 16, .inl (upd a7 xx 0))), (q8, .inl (c8, 16, .inl (upd a8 xx (-1))))] H := hP
          replace hD : va_D A [(q4, .inl (c4, 16, .inl a4)), (q9, .inl (c9, 16, .inl a9)), (q10, .inl (c10, 16, .inl a10)), (q11, .inl (c11, 16, .inl a11)), (h0, .inr (8, [.int 0, .ref q1, v2, .ref q3, .ref q4, v5, .ref q6, .ref q7, .ref q8, .ref q9, .ref q10, .ref q11, v12, v13, v14, v15, v16])), (q1, .inl (c1, 16, .inl (upd a1 xx 4))), (q3, .inl (c3, 16, .inl (upd a3 xx 0))), (q6, .inl (c6, 16, .inl (upd a6 xx 0))), (q7, .inl (c7, 16, .inl (upd a7 xx 0))), (q8, .inl (c8, 16, .inl (upd a8 xx (-1))))] := hD
          refine W.widen (k := 0) (n := 0) (Nat.le_of_ble_eq_true rfl) (Nat.le_of_ble_eq_true rfl) ?_
          refine W.eq (g2 := F0 m 100 ls [.int r_5]) rfl ?_
          refine lv_pop hx hb dX8_view_100 rfl ?_
          refine lv_aload_n hx hb dX8_view_101 rfl (lv_at hl 1 rfl) ?_
          refine va_get (D := (dC, dI)) (ci := 8) (v := .ref q8) (C := RX8) (T := TX8) (N := 17) hx hb hts hi0_ hown hK hP 4 rfl rfl 8 (by decide) hw1_ (fun _ h9 => h9) rfl dX8_view_102 ?_
          refine lv_iload hx hb dX8_view_105 (lv_at hl 0 rfl) ?_
          refine lv_iload_n hx hb dX8_view_107 rfl (lv_at hl 2 rfl) ?_
          refine va_iast (i := nI xx) hx hb hK hP hD hS 9 5 rfl rfl (vp_in_nI (by omega) (by omega)) dX8_view_108 (fun H locs hP hD hS => ?_)
          rw [nI_clamp (by omega)] at hP hD
          replace hP : va_P (dC, dI) vwCl [(q4, .inl (c4, 16, .inl a4)), (q9, .inl (c9, 16, .inl a9)), (q10, .inl (c10, 16, .inl a10)), (q11, .inl (c11, 16, .inl a11)), (h0, .inr (8, [.int 0, .ref q1, v2, .ref q3, .ref q4, v5, .ref q6, .ref q7, .ref q8, .ref q9, .ref q10, .ref q11, v12, v13, v14, v15, v16])), (q1, .inl (c1, 16, .inl (upd a1 xx 4))), (q3, .inl (c3, 16, .inl (upd a3 xx 0))), (q6, .inl (c6, 16, .inl (upd a6 xx 0))), (q7, .inl (c7, 16, .inl (upd a7 xx 0))), (q8, .inl (c8, 16, .inl (upd (upd a8 xx (-1)) xx (nI o))))] H := hP
          replace hD : va_D A [(q4, .inl (c4, 16, .inl a4)), (q9, .inl (c9, 16, .inl a9)), (q10, .inl (c10, 16, .inl a10)), (q11, .inl (c11, 16, .inl a11)), (h0, .inr (8, [.int 0, .ref q1, v2, .ref q3, .ref q4, v5, .ref q6, .ref q7, .ref q8, .ref q9, .ref q10, .ref q11, v12, v13, v14, v15, v16])), (q1, .inl (c1, 16, .inl (upd a1 xx 4))), (q3, .inl (c3, 16, .inl (upd a3 xx 0))), (q6, .inl (c6, 16, .inl (upd a6 xx 0))), (q7, .inl (c7, 16, .inl (upd a7 xx 0))), (q8, .inl (c8, 16, .inl (upd (upd a8 xx (-1)) xx (nI o))))] := hD
          refine lv_aload_n hx hb dX8_view_109 rfl (lv_at hl 1 rfl) ?_
          refine va_get (D := (dC, dI)) (ci := 8) (v := .ref q11) (C := RX8) (T := TX8) (N := 17) hx hb hts hi0_ hown hK hP 4 rfl rfl 11 (by decide) hw2_ (fun _ h9 => h9) rfl dX8_view_110 ?_
          refine lv_iload hx hb dX8_view_113 (lv_at hl 0 rfl) ?_
          refine lv_iload_n hx hb dX8_view_115 rfl (lv_at hl 3 rfl) ?_
          refine va_iast (i := nI xx) hx hb hK hP hD hS 3 8 rfl rfl (vp_in_nI (by omega) (by omega)) dX8_view_116 (fun H locs hP hD hS => ?_)
          rw [nI_clamp (by omega)] at hP hD
          replace hP : va_P (dC, dI) vwCl [(q4, .inl (c4, 16, .inl a4)), (q9, .inl (c9, 16, .inl a9)), (q10, .inl (c10, 16, .inl a10)), (q11, .inl (c11, 16, .inl (upd a11 xx p1))), (h0, .inr (8, [.int 0, .ref q1, v2, .ref q3, .ref q4, v5, .ref q6, .ref q7, .ref q8, .ref q9, .ref q10, .ref q11, v12, v13, v14, v15, v16])), (q1, .inl (c1, 16, .inl (upd a1 xx 4))), (q3, .inl (c3, 16, .inl (upd a3 xx 0))), (q6, .inl (c6, 16, .inl (upd a6 xx 0))), (q7, .inl (c7, 16, .inl (upd a7 xx 0))), (q8, .inl (c8, 16, .inl (upd (upd a8 xx (-1)) xx (nI o))))] H := hP
          replace hD : va_D A [(q4, .inl (c4, 16, .inl a4)), (q9, .inl (c9, 16, .inl a9)), (q10, .inl (c10, 16, .inl a10)), (q11, .inl (c11, 16, .inl (upd a11 xx p1))), (h0, .inr (8, [.int 0, .ref q1, v2, .ref q3, .ref q4, v5, .ref q6, .ref q7, .ref q8, .ref q9, .ref q10, .ref q11, v12, v13, v14, v15, v16])), (q1, .inl (c1, 16, .inl (upd a1 xx 4))), (q3, .inl (c3, 16, .inl (upd a3 xx 0))), (q6, .inl (c6, 16, .inl (upd a6 xx 0))), (q7, .inl (c7, 16, .inl (upd a7 xx 0))), (q8, .inl (c8, 16, .inl (upd (upd a8 xx (-1)) xx (nI o))))] := hD
          refine lv_aload_n hx hb dX8_view_117 rfl (lv_at hl 1 rfl) ?_
          refine va_get (D := (dC, dI)) (ci := 8) (v := .ref q9) (C := RX8) (T := TX8) (N := 17) hx hb hts hi0_ hown hK hP 4 rfl rfl 9 (by decide) hw3_ (fun _ h9 => h9) rfl dX8_view_118 ?_
          refine lv_iload hx hb dX8_view_121 (lv_at hl 0 rfl) ?_
          refine lv_iload_n hx hb dX8_view_123 rfl (lv_at hl 4 rfl) ?_
          refine va_iast (i := nI xx) hx hb hK hP hD hS 1 6 rfl rfl (vp_in_nI (by omega) (by omega)) dX8_view_124 (fun H locs hP hD hS => ?_)
          rw [nI_clamp (by omega)] at hP hD
          replace hP : va_P (dC, dI) vwCl [(q4, .inl (c4, 16, .inl a4)), (q9, .inl (c9, 16, .inl (upd a9 xx p2))), (q10, .inl (c10, 16, .inl a10)), (q11, .inl (c11, 16, .inl (upd a11 xx p1))), (h0, .inr (8, [.int 0, .ref q1, v2, .ref q3, .ref q4, v5, .ref q6, .ref q7, .ref q8, .ref q9, .ref q10, .ref q11, v12, v13, v14, v15, v16])), (q1, .inl (c1, 16, .inl (upd a1 xx 4))), (q3, .inl (c3, 16, .inl (upd a3 xx 0))), (q6, .inl (c6, 16, .inl (upd a6 xx 0))), (q7, .inl (c7, 16, .inl (upd a7 xx 0))), (q8, .inl (c8, 16, .inl (upd (upd a8 xx (-1)) xx (nI o))))] H := hP
          replace hD : va_D A [(q4, .inl (c4, 16, .inl a4)), (q9, .inl (c9, 16, .inl (upd a9 xx p2))), (q10, .inl (c10, 16, .inl a10)), (q11, .inl (c11, 16, .inl (upd a11 xx p1))), (h0, .inr (8, [.int 0, .ref q1, v2, .ref q3, .ref q4, v5, .ref q6, .ref q7, .ref q8, .ref q9, .ref q10, .ref q11, v12, v13, v14, v15, v16])), (q1, .inl (c1, 16, .inl (upd a1 xx 4))), (q3, .inl (c3, 16, .inl (upd a3 xx 0))), (q6, .inl (c6, 16, .inl (upd a6 xx 0))), (q7, .inl (c7, 16, .inl (upd a7 xx 0))), (q8, .inl (c8, 16, .inl (upd (upd a8 xx (-1)) xx (nI o))))] := hD
          refine lv_aload_n hx hb dX8_view_125 rfl (lv_at hl 1 rfl) ?_
          refine va_get (D := (dC, dI)) (ci := 8) (v := .ref q10) (C := RX8) (T := TX8) (N := 17) hx hb hts hi0_ hown hK hP 4 rfl rfl 10 (by decide) hw4_ (fun _ h9 => h9) rfl dX8_view_126 ?_
          refine lv_iload hx hb dX8_view_129 (lv_at hl 0 rfl) ?_
          refine lv_iload hx hb dX8_view_131 (lv_at hl 5 rfl) ?_
          refine va_iast (i := nI xx) hx hb hK hP hD hS 2 7 rfl rfl (vp_in_nI (by omega) (by omega)) dX8_view_133 (fun H locs hP hD hS => ?_)
          rw [nI_clamp (by omega)] at hP hD
          replace hP : va_P (dC, dI) vwCl [(q4, .inl (c4, 16, .inl a4)), (q9, .inl (c9, 16, .inl (upd a9 xx p2))), (q10, .inl (c10, 16, .inl (upd a10 xx p3))), (q11, .inl (c11, 16, .inl (upd a11 xx p1))), (h0, .inr (8, [.int 0, .ref q1, v2, .ref q3, .ref q4, v5, .ref q6, .ref q7, .ref q8, .ref q9, .ref q10, .ref q11, v12, v13, v14, v15, v16])), (q1, .inl (c1, 16, .inl (upd a1 xx 4))), (q3, .inl (c3, 16, .inl (upd a3 xx 0))), (q6, .inl (c6, 16, .inl (upd a6 xx 0))), (q7, .inl (c7, 16, .inl (upd a7 xx 0))), (q8, .inl (c8, 16, .inl (upd (upd a8 xx (-1)) xx (nI o))))] H := hP
          replace hD : va_D A [(q4, .inl (c4, 16, .inl a4)), (q9, .inl (c9, 16, .inl (upd a9 xx p2))), (q10, .inl (c10, 16, .inl (upd a10 xx p3))), (q11, .inl (c11, 16, .inl (upd a11 xx p1))), (h0, .inr (8, [.int 0, .ref q1, v2, .ref q3, .ref q4, v5, .ref q6, .ref q7, .ref q8, .ref q9, .ref q10, .ref q11, v12, v13, v14, v15, v16])), (q1, .inl (c1, 16, .inl (upd a1 xx 4))), (q3, .inl (c3, 16, .inl (upd a3 xx 0))), (q6, .inl (c6, 16, .inl (upd a6 xx 0))), (q7, .inl (c7, 16, .inl (upd a7 xx 0))), (q8, .inl (c8, 16, .inl (upd (upd a8 xx (-1)) xx (nI o))))] := hD
          refine lv_iload hx hb dX8_view_134 (lv_at hl 0 rfl) ?_
          have hP9 := hP.sub (ws' := [(h0, .inr (8, [.int 0, .ref q1, v2, .ref q3, .ref q4, v5, .ref q6, .ref q7, .ref q8, .ref q9, .ref q10, .ref q11, v12, v13, v14, v15, v16])), (q1, .inl (c1, 16, .inl (upd a1 xx 4))), (q3, .inl (c3, 16, .inl (upd a3 xx 0))), (q4, .inl (c4, 16, .inl a4)), (q6, .inl (c6, 16, .inl (upd a6 xx 0))), (q7, .inl (c7, 16, .inl (upd a7 xx 0))), (q8, .inl (c8, 16, .inl (upd (upd a8 xx (-1)) xx (nI o)))), (q9, .inl (c9, 16, .inl (upd a9 xx p2))), (q10, .inl (c10, 16, .inl (upd a10 xx p3))), (q11, .inl (c11, 16, .inl (upd a11 xx p1)))]) [4, 5, 6, 0, 7, 8, 9, 1, 2, 3] rfl
          have hD9 := hD.sub (ws' := [(h0, .inr (8, [.int 0, .ref q1, v2, .ref q3, .ref q4, v5, .ref q6, .ref q7, .ref q8, .ref q9, .ref q10, .ref q11, v12, v13, v14, v15, v16])), (q1, .inl (c1, 16, .inl (upd a1 xx 4))), (q3, .inl (c3, 16, .inl (upd a3 xx 0))), (q4, .inl (c4, 16, .inl a4)), (q6, .inl (c6, 16, .inl (upd a6 xx 0))), (q7, .inl (c7, 16, .inl (upd a7 xx 0))), (q8, .inl (c8, 16, .inl (upd (upd a8 xx (-1)) xx (nI o)))), (q9, .inl (c9, 16, .inl (upd a9 xx p2))), (q10, .inl (c10, 16, .inl (upd a10 xx p3))), (q11, .inl (c11, 16, .inl (upd a11 xx p1)))]) [4, 5, 6, 0, 7, 8, 9, 1, 2, 3] (by decide) rfl
          have hK9 := hK.sub (tys' := [(c1, .int), (c3, .int), (c4, .int), (c6, .int), (c7, .int), (c8, .int), (c9, .int), (c10, .int), (c11, .int)]) [0, 1, 2, 3, 4, 5, 6, 7, 8] rfl
          refine W.widen (k := 0) (n := 0) (Nat.le_of_ble_eq_true rfl) (Nat.le_of_ble_eq_true rfl) ?_
          exact W.iret (v := nI xx) hx hb hr (fun t ht hW => ⟨⟨nI xx, (0, (upd a1 xx 4), (upd a3 xx 0), (upd a6 xx 0), (upd a7 xx 0), (upd (upd a8 xx (-1)) xx (nI o)), (upd a9 xx p2), (upd a10 xx p3), (upd a11 xx p1)), rfl, ⟨0, o, xx, by unfold vwR; exact Or.inr ⟨ho9, rfl, hko, Or.inr ⟨h34, Or.inr ⟨hbad, Or.inr ⟨rfl, hxx, hx1, hx2⟩⟩⟩⟩, rfl, fun _ => ⟨rfl, rfl, rfl, rfl, rfl, rfl, rfl, rfl, rfl⟩, fun h => absurd rfl h⟩, by rw [ht]; exact hP9, va_K.moved hW.alike hK9, hD9⟩, hS.F ht⟩) hS.2.2 dX8_view_136
        ·
          have ic_4 : r_3.toInt < 0 := tx_nle (by decide) rfl c_4
          have hfull : fullO a1 := (jr_3.resolve_right (fun ⟨o, h1, h2, _⟩ => by rw [h2, nI_toInt (by omega)] at ic_4; omega)).2
          refine lv_aload_n hx hb dX8_view_82 rfl (lv_at hl 1 rfl) ?_
          refine lv_iconst (v := 4) hx hb dX8_view_83 (by decide) ?_
          have hPc := hP.sub (ws' := [(h0, .inr (8, [.int th, .ref q1, v2, .ref q3, .ref q4, v5, .ref q6, .ref q7, .ref q8, .ref q9, .ref q10, .ref q11, v12, v13, v14, v15, v16]))]) [8] rfl
          have hDc := hD.sub (ws' := [(h0, .inr (8, [.int th, .ref q1, v2, .ref q3, .ref q4, v5, .ref q6, .ref q7, .ref q8, .ref q9, .ref q10, .ref q11, v12, v13, v14, v15, v16]))]) [8] (by decide) rfl
          have hKc := hK.sub (tys' := []) [] rfl
          have hFc := va_free (wc := [(h0, .inr (8, [.int th, .ref q1, v2, .ref q3, .ref q4, v5, .ref q6, .ref q7, .ref q8, .ref q9, .ref q10, .ref q11, v12, v13, v14, v15, v16]))]) hD hS hA [8] rfl
          refine va_calli (va_runV (As := [.int 4]) (rest := []) ⟨hx, hb, hml, hown, hts⟩ (c_X8_refuse l  dC dI H.size h0 th (.ref q1) v2 (.ref q3) (.ref q4) v5 (.ref q6) (.ref q7) (.ref q8) (.ref q9) (.ref q10) (.ref q11) v12 v13 v14 v15 v16 4) (cwV 1 hts gX8_view_X8_refuse rfl rfl rfl (by decide +kernel) ⟨(Nat.le_of_ble_eq_true rfl), (Nat.le_of_ble_eq_true rfl)⟩) ⟨pk_blind, va_recv hKc hPc (ci := 8) (q0 := 0) rfl rfl, pk_call hPc hKc hDc⟩ rfl rfl hl.1 rfl (lv_room (Nat.le_of_ble_eq_true rfl)) dX8_view_84 ⟨(Nat.le_of_ble_eq_true rfl), (Nat.le_of_ble_eq_true rfl)⟩) hS (fun q _ h => hFc q h) hFc (fun r_6 ur_6 t H1 locs ht hvm hw hB hz1 hk1 hS => ?_)
          try dsimp only at hw
          obtain ⟨hP1, hK1, hD1⟩ := hB
          rw [ht] at hP1
          have hK1 := va_K.moved hvm.symm hK1
          obtain ⟨hP, hD⟩ := va_join (wr := [(q3, .inl (c3, 16, .inl a3)), (q4, .inl (c4, 16, .inl a4)), (q6, .inl (c6, 16, .inl a6)), (q7, .inl (c7, 16, .inl a7)), (q8, .inl (c8, 16, .inl a8)), (q9, .inl (c9, 16, .inl a9)), (q10, .inl (c10, 16, .inl a10)), (q11, .inl (c11, 16, .inl a11)), (q1, .inl (c1, 16, .inl a1))]) (w1 := [(h0, .inr (8, [.int 4, .ref q1, v2, .ref q3, .ref q4, v5, .ref q6, .ref q7, .ref q8, .ref q9, .ref q10, .ref q11, v12, v13, v14, v15, v16]))]) hP hD [8] [0, 1, 2, 3, 4, 5, 6, 7, 9] rfl rfl (by decide) (by decide) hk1 hFc hP1 hD1
          clear hk1 hz1 ht hPc hDc hKc hFc
          generalize H1 = H at hP hS ⊢
          replace hP : va_P (dC, dI) vwCl [(q3, .inl (c3, 16, .inl a3)), (q4, .inl (c4, 16, .inl a4)), (q6, .inl (c6, 16, .inl a6)), (q7, .inl (c7, 16, .inl a7)), (q8, .inl (c8, 16, .inl a8)), (q9, .inl (c9, 16, .inl a9)), (q10, .inl (c10, 16, .inl a10)), (q11, .inl (c11, 16, .inl a11)), (q1, .inl (c1, 16, .inl a1)), (h0, .inr (8, [.int 4, .ref q1, v2, .ref q3, .ref q4, v5, .ref q6, .ref q7, .ref q8, .ref q9, .ref q10, .ref q11, v12, v13, v14, v15, v16]))] H := hP
          replace hD : va_D A [(q3, .inl (c3, 16, .inl a3)), (q4, .inl (c4, 16, .inl a4)), (q6, .inl (c6, 16, .inl a6)), (q7, .inl (c7, 16, .inl a7)), (q8, .inl (c8, 16, .inl a8)), (q9, .inl (c9, 16, .inl a9)), (q10, .inl (c10, 16, .inl a10)), (q11, .inl (c11, 16, .inl a11)), (q1, .inl (c1, 16, .inl a1)), (h0, .inr (8, [.int 4, .ref q1, v2, .ref q3, .ref q4, v5, .ref q6, .ref q7, .ref q8, .ref q9, .ref q10, .ref q11, v12, v13, v14, v15, v16]))] := hD
          refine W.widen (k := 0) (n := 0) (Nat.le_of_ble_eq_true rfl) (Nat.le_of_ble_eq_true rfl) ?_
          obtain rfl : r_6 = 0 := hw
          refine W.eq (g2 := F0 m 87 ls [.int 0]) rfl ?_
          have hP9 := hP.sub (ws' := [(h0, .inr (8, [.int 4, .ref q1, v2, .ref q3, .ref q4, v5, .ref q6, .ref q7, .ref q8, .ref q9, .ref q10, .ref q11, v12, v13, v14, v15, v16])), (q1, .inl (c1, 16, .inl a1)), (q3, .inl (c3, 16, .inl a3)), (q4, .inl (c4, 16, .inl a4)), (q6, .inl (c6, 16, .inl a6)), (q7, .inl (c7, 16, .inl a7)), (q8, .inl (c8, 16, .inl a8)), (q9, .inl (c9, 16, .inl a9)), (q10, .inl (c10, 16, .inl a10)), (q11, .inl (c11, 16, .inl a11))]) [9, 8, 0, 1, 2, 3, 4, 5, 6, 7] rfl
          have hD9 := hD.sub (ws' := [(h0, .inr (8, [.int 4, .ref q1, v2, .ref q3, .ref q4, v5, .ref q6, .ref q7, .ref q8, .ref q9, .ref q10, .ref q11, v12, v13, v14, v15, v16])), (q1, .inl (c1, 16, .inl a1)), (q3, .inl (c3, 16, .inl a3)), (q4, .inl (c4, 16, .inl a4)), (q6, .inl (c6, 16, .inl a6)), (q7, .inl (c7, 16, .inl a7)), (q8, .inl (c8, 16, .inl a8)), (q9, .inl (c9, 16, .inl a9)), (q10, .inl (c10, 16, .inl a10)), (q11, .inl (c11, 16, .inl a11))]) [9, 8, 0, 1, 2, 3, 4, 5, 6, 7] (by decide) rfl
          have hK9 := hK.sub (tys' := [(c1, .int), (c3, .int), (c4, .int), (c6, .int), (c7, .int), (c8, .int), (c9, .int), (c10, .int), (c11, .int)]) [0, 1, 2, 3, 4, 5, 6, 7, 8] rfl
          refine W.widen (k := 0) (n := 0) (Nat.le_of_ble_eq_true rfl) (Nat.le_of_ble_eq_true rfl) ?_
          exact W.iret (v := 0) hx hb hr (fun t ht hW => ⟨⟨0, (4, a1, a3, a6, a7, a8, a9, a10, a11), rfl, ⟨4, o, 0, by unfold vwR; exact Or.inr ⟨ho9, rfl, hko, Or.inr ⟨h34, Or.inr ⟨hbad, Or.inl ⟨rfl, hfull⟩⟩⟩⟩, rfl, fun h => absurd h (by decide), fun _ => ⟨rfl, rfl, rfl, rfl, rfl, rfl, rfl, rfl, rfl⟩⟩, by rw [ht]; exact hP9, va_K.moved hW.alike hK9, hD9⟩, hS.F ht⟩) hS.2.2 dX8_view_87
      ·
        refine lv_iload_n hx hb dX8_view_40 rfl (lv_at hl 2 rfl) ?_
        refine lv_iconst (v := 1) hx hb dX8_view_41 (by decide) ?_
        refine lv_iconst (v := 4) hx hb dX8_view_42 (by decide) ?_
        have hPc := hP.sub (ws' := []) [] rfl
        have hDc := hD.sub (ws' := []) [] (by decide) rfl
        have hKc := hK.sub (tys' := []) [] rfl
        have hFc := va_free (wc := []) hD hS hA [] rfl
        refine va_calli (va_runS (As := [.int p1, .int 1, .int 4]) (rest := []) ⟨hx, hb, hml, hown, hts⟩ (c_X8_in l  dC dI H.size p1 1 4 p1.toInt 1 4 rfl (by decide) (by decide)) (va_cwS 3 hts gX8_view_X8_in rfl rfl rfl (by decide +kernel) ⟨(Nat.le_of_ble_eq_true rfl), (Nat.le_of_ble_eq_true rfl)⟩) ⟨pk_blind, pk_call hPc hKc hDc⟩ rfl rfl hl.1 rfl (lv_room (Nat.le_of_ble_eq_true rfl)) dX8_view_43 ⟨(Nat.le_of_ble_eq_true rfl), (Nat.le_of_ble_eq_true rfl)⟩) hS (fun q _ h => hFc q h) hFc (fun r_7 ur_7 t H1 locs ht hvm hw hB hz1 hk1 hS => ?_)
        try dsimp only at hw
        have jr_7 := hw
        obtain ⟨hP, hD⟩ := va_join (wr := [(q3, .inl (c3, 16, .inl a3)), (q4, .inl (c4, 16, .inl a4)), (q6, .inl (c6, 16, .inl a6)), (q7, .inl (c7, 16, .inl a7)), (q8, .inl (c8, 16, .inl a8)), (q9, .inl (c9, 16, .inl a9)), (q10, .inl (c10, 16, .inl a10)), (q11, .inl (c11, 16, .inl a11)), (h0, .inr (8, [.int th, .ref q1, v2, .ref q3, .ref q4, v5, .ref q6, .ref q7, .ref q8, .ref q9, .ref q10, .ref q11, v12, v13, v14, v15, v16])), (q1, .inl (c1, 16, .inl a1))]) (w1 := []) hP hD [] [0, 1, 2, 3, 4, 5, 6, 7, 8, 9] rfl rfl (by decide) (by decide) hk1 hFc tx_P0 tx_D0
        clear hk1 hz1 ht hPc hDc hKc hFc
        generalize H1 = H at hP hS ⊢
        replace hP : va_P (dC, dI) vwCl [(q3, .inl (c3, 16, .inl a3)), (q4, .inl (c4, 16, .inl a4)), (q6, .inl (c6, 16, .inl a6)), (q7, .inl (c7, 16, .inl a7)), (q8, .inl (c8, 16, .inl a8)), (q9, .inl (c9, 16, .inl a9)), (q10, .inl (c10, 16, .inl a10)), (q11, .inl (c11, 16, .inl a11)), (h0, .inr (8, [.int th, .ref q1, v2, .ref q3, .ref q4, v5, .ref q6, .ref q7, .ref q8, .ref q9, .ref q10, .ref q11, v12, v13, v14, v15, v16])), (q1, .inl (c1, 16, .inl a1))] H := hP
        replace hD : va_D A [(q3, .inl (c3, 16, .inl a3)), (q4, .inl (c4, 16, .inl a4)), (q6, .inl (c6, 16, .inl a6)), (q7, .inl (c7, 16, .inl a7)), (q8, .inl (c8, 16, .inl a8)), (q9, .inl (c9, 16, .inl a9)), (q10, .inl (c10, 16, .inl a10)), (q11, .inl (c11, 16, .inl a11)), (h0, .inr (8, [.int th, .ref q1, v2, .ref q3, .ref q4, v5, .ref q6, .ref q7, .ref q8, .ref q9, .ref q10, .ref q11, v12, v13, v14, v15, v16])), (q1, .inl (c1, 16, .inl a1))] := hD
        refine W.widen (k := 0) (n := 0) (Nat.le_of_ble_eq_true rfl) (Nat.le_of_ble_eq_true rfl) ?_
        refine W.eq (g2 := F0 m 46 ls [.int r_7]) rfl ?_
        refine lv_if_eq (tgt := 65) hx hb dX8_view_46 (by decide) (fun c_8 => ?_) (fun c_8 => ?_)
        ·
          have ic_8 : r_7.toInt = 0 := tx_eq rfl (by decide) c_8
          have hbad : vwB a1 a4 a8 a11 o p1 p2 p3 := by unfold vwB; omega
          refine lv_aload_n hx hb dX8_view_65 rfl (lv_at hl 0 rfl) ?_
          refine lv_iconst (v := 3) hx hb dX8_view_66 (by decide) ?_
          have hPc := hP.sub (ws' := [(h0, .inr (8, [.int th, .ref q1, v2, .ref q3, .ref q4, v5, .ref q6, .ref q7, .ref q8, .ref q9, .ref q10, .ref q11, v12, v13, v14, v15, v16]))]) [8] rfl
          have hDc := hD.sub (ws' := [(h0, .inr (8, [.int th, .ref q1, v2, .ref q3, .ref q4, v5, .ref q6, .ref q7, .ref q8, .ref q9, .ref q10, .ref q11, v12, v13, v14, v15, v16]))]) [8] (by decide) rfl
          have hKc := hK.sub (tys' := []) [] rfl
          have hFc := va_free (wc := [(h0, .inr (8, [.int th, .ref q1, v2, .ref q3, .ref q4, v5, .ref q6, .ref q7, .ref q8, .ref q9, .ref q10, .ref q11, v12, v13, v14, v15, v16]))]) hD hS hA [8] rfl
          refine va_calli (va_runV (As := [.int 3]) (rest := []) ⟨hx, hb, hml, hown, hts⟩ (c_X8_refuse l  dC dI H.size h0 th (.ref q1) v2 (.ref q3) (.ref q4) v5 (.ref q6) (.ref q7) (.ref q8) (.ref q9) (.ref q10) (.ref q11) v12 v13 v14 v15 v16 3) (cwV 1 hts gX8_view_X8_refuse rfl rfl rfl (by decide +kernel) ⟨(Nat.le_of_ble_eq_true rfl), (Nat.le_of_ble_eq_true rfl)⟩) ⟨pk_blind, va_recv hKc hPc (ci := 8) (q0 := 0) rfl rfl, pk_call hPc hKc hDc⟩ rfl rfl hl.1 rfl (lv_room (Nat.le_of_ble_eq_true rfl)) dX8_view_67 ⟨(Nat.le_of_ble_eq_true rfl), (Nat.le_of_ble_eq_true rfl)⟩) hS (fun q _ h => hFc q h) hFc (fun r_9 ur_9 t H1 locs ht hvm hw hB hz1 hk1 hS => ?_)
          try dsimp only at hw
          obtain ⟨hP1, hK1, hD1⟩ := hB
          rw [ht] at hP1
          have hK1 := va_K.moved hvm.symm hK1
          obtain ⟨hP, hD⟩ := va_join (wr := [(q3, .inl (c3, 16, .inl a3)), (q4, .inl (c4, 16, .inl a4)), (q6, .inl (c6, 16, .inl a6)), (q7, .inl (c7, 16, .inl a7)), (q8, .inl (c8, 16, .inl a8)), (q9, .inl (c9, 16, .inl a9)), (q10, .inl (c10, 16, .inl a10)), (q11, .inl (c11, 16, .inl a11)), (q1, .inl (c1, 16, .inl a1))]) (w1 := [(h0, .inr (8, [.int 3, .ref q1, v2, .ref q3, .ref q4, v5, .ref q6, .ref q7, .ref q8, .ref q9, .ref q10, .ref q11, v12, v13, v14, v15, v16]))]) hP hD [8] [0, 1, 2, 3, 4, 5, 6, 7, 9] rfl rfl (by decide) (by decide) hk1 hFc hP1 hD1
          clear hk1 hz1 ht hPc hDc hKc hFc
          generalize H1 = H at hP hS ⊢
          replace hP : va_P (dC, dI) vwCl [(q3, .inl (c3, 16, .inl a3)), (q4, .inl (c4, 16, .inl a4)), (q6, .inl (c6, 16, .inl a6)), (q7, .inl (c7, 16, .inl a7)), (q8, .inl (c8, 16, .inl a8)), (q9, .inl (c9, 16, .inl a9)), (q10, .inl (c10, 16, .inl a10)), (q11, .inl (c11, 16, .inl a11)), (q1, .inl (c1, 16, .inl a1)), (h0, .inr (8, [.int 3, .ref q1, v2, .ref q3, .ref q4, v5, .ref q6, .ref q7, .ref q8, .ref q9, .ref q10, .ref q11, v12, v13, v14, v15, v16]))] H := hP
          replace hD : va_D A [(q3, .inl (c3, 16, .inl a3)), (q4, .inl (c4, 16, .inl a4)), (q6, .inl (c6, 16, .inl a6)), (q7, .inl (c7, 16, .inl a7)), (q8, .inl (c8, 16, .inl a8)), (q9, .inl (c9, 16, .inl a9)), (q10, .inl (c10, 16, .inl a10)), (q11, .inl (c11, 16, .inl a11)), (q1, .inl (c1, 16, .inl a1)), (h0, .inr (8, [.int 3, .ref q1, v2, .ref q3, .ref q4, v5, .ref q6, .ref q7, .ref q8, .ref q9, .ref q10, .ref q11, v12, v13, v14, v15, v16]))] := hD
          refine W.widen (k := 0) (n := 0) (Nat.le_of_ble_eq_true rfl) (Nat.le_of_ble_eq_true rfl) ?_
          obtain rfl : r_9 = 0 := hw
          refine W.eq (g2 := F0 m 70 ls [.int 0]) rfl ?_
          have hP9 := hP.sub (ws' := [(h0, .inr (8, [.int 3, .ref q1, v2, .ref q3, .ref q4, v5, .ref q6, .ref q7, .ref q8, .ref q9, .ref q10, .ref q11, v12, v13, v14, v15, v16])), (q1, .inl (c1, 16, .inl a1)), (q3, .inl (c3, 16, .inl a3)), (q4, .inl (c4, 16, .inl a4)), (q6, .inl (c6, 16, .inl a6)), (q7, .inl (c7, 16, .inl a7)), (q8, .inl (c8, 16, .inl a8)), (q9, .inl (c9, 16, .inl a9)), (q10, .inl (c10, 16, .inl a10)), (q11, .inl (c11, 16, .inl a11))]) [9, 8, 0, 1, 2, 3, 4, 5, 6, 7] rfl
          have hD9 := hD.sub (ws' := [(h0, .inr (8, [.int 3, .ref q1, v2, .ref q3, .ref q4, v5, .ref q6, .ref q7, .ref q8, .ref q9, .ref q10, .ref q11, v12, v13, v14, v15, v16])), (q1, .inl (c1, 16, .inl a1)), (q3, .inl (c3, 16, .inl a3)), (q4, .inl (c4, 16, .inl a4)), (q6, .inl (c6, 16, .inl a6)), (q7, .inl (c7, 16, .inl a7)), (q8, .inl (c8, 16, .inl a8)), (q9, .inl (c9, 16, .inl a9)), (q10, .inl (c10, 16, .inl a10)), (q11, .inl (c11, 16, .inl a11))]) [9, 8, 0, 1, 2, 3, 4, 5, 6, 7] (by decide) rfl
          have hK9 := hK.sub (tys' := [(c1, .int), (c3, .int), (c4, .int), (c6, .int), (c7, .int), (c8, .int), (c9, .int), (c10, .int), (c11, .int)]) [0, 1, 2, 3, 4, 5, 6, 7, 8] rfl
          refine W.widen (k := 0) (n := 0) (Nat.le_of_ble_eq_true rfl) (Nat.le_of_ble_eq_true rfl) ?_
          exact W.iret (v := 0) hx hb hr (fun t ht hW => ⟨⟨0, (3, a1, a3, a6, a7, a8, a9, a10, a11), rfl, ⟨3, o, 0, by unfold vwR; exact Or.inr ⟨ho9, rfl, hko, Or.inr ⟨h34, Or.inl ⟨rfl, hbad⟩⟩⟩, rfl, fun h => absurd h (by decide), fun _ => ⟨rfl, rfl, rfl, rfl, rfl, rfl, rfl, rfl, rfl⟩⟩, by rw [ht]; exact hP9, va_K.moved hW.alike hK9, hD9⟩, hS.F ht⟩) hS.2.2 dX8_view_70
        ·
          have ic_8 : ¬ r_7.toInt = 0 := tx_ne rfl (by decide) c_8
          refine lv_iload_n hx hb dX8_view_49 rfl (lv_at hl 2 rfl) ?_
          refine lv_iconst (v := 1) hx hb dX8_view_50 (by decide) ?_
          refine lv_icmp_ne (tgt := 71) hx hb dX8_view_51 (by decide) (fun c_10 => ?_) (fun c_10 => ?_)
          ·
            have ic_10 : ¬ p1.toInt = 1 := tx_ne rfl (by decide) c_10
            have fj0_ : ¬ vwB a1 a4 a8 a11 o p1 p2 p3 := by unfold vwB; omega
            exact jn71 (ls, H, locs) ⟨lv_sub hl [0, 1, 2, 3, 4] rfl, hP.sub [0, 1, 2, 3, 4, 5, 6, 7, 8, 9] rfl, hS, fj0_⟩
          ·
            have ic_10 : p1.toInt = 1 := tx_eq rfl (by decide) c_10
            refine lv_aload_n hx hb dX8_view_54 rfl (lv_at hl 0 rfl) ?_
            refine lv_iload_n hx hb dX8_view_55 rfl (lv_at hl 1 rfl) ?_
            refine lv_iload hx hb dX8_view_56 (lv_at hl 4 rfl) ?_
            refine lv_iload_n hx hb dX8_view_58 rfl (lv_at hl 3 rfl) ?_
            have hPc := hP.sub (ws' := [(h0, .inr (8, [.int th, .ref q1, v2, .ref q3, .ref q4, v5, .ref q6, .ref q7, .ref q8, .ref q9, .ref q10, .ref q11, v12, v13, v14, v15, v16])), (q1, .inl (c1, 16, .inl a1)), (q4, .inl (c4, 16, .inl a4)), (q8, .inl (c8, 16, .inl a8)), (q11, .inl (c11, 16, .inl a11))]) [8, 9, 1, 4, 7] rfl
            have hDc := hD.sub (ws' := [(h0, .inr (8, [.int th, .ref q1, v2, .ref q3, .ref q4, v5, .ref q6, .ref q7, .ref q8, .ref q9, .ref q10, .ref q11, v12, v13, v14, v15, v16])), (q1, .inl (c1, 16, .inl a1)), (q4, .inl (c4, 16, .inl a4)), (q8, .inl (c8, 16, .inl a8)), (q11, .inl (c11, 16, .inl a11))]) [8, 9, 1, 4, 7] (by decide) rfl
            have hKc := hK.sub (tys' := [(c1, .int), (c4, .int), (c8, .int), (c11, .int)]) [0, 2, 5, 8] rfl
            have hFc := va_free (wc := [(h0, .inr (8, [.int th, .ref q1, v2, .ref q3, .ref q4, v5, .ref q6, .ref q7, .ref q8, .ref q9, .ref q10, .ref q11, v12, v13, v14, v15, v16])), (q1, .inl (c1, 16, .inl a1)), (q4, .inl (c4, 16, .inl a4)), (q8, .inl (c8, 16, .inl a8)), (q11, .inl (c11, 16, .inl a11))]) hD hS hA [8, 9, 1, 4, 7] rfl
            refine va_calli (va_runV (As := [.int (nI o), .int p3, .int p2]) (rest := []) ⟨hx, hb, hml, hown, hts⟩ (c_X8_ordered l  dC dI H.size h0 th q1 q4 q8 q11 c1 c4 c8 c11 a1 a4 a8 a11 v2 (.ref q3) v5 (.ref q6) (.ref q7) (.ref q9) (.ref q10) v12 v13 v14 v15 v16 o dep p3 p2 ho9 hF9 (hda o ho9)) (cwV 3 hts gX8_view_X8_ordered rfl rfl rfl (by decide +kernel) ⟨(Nat.le_of_ble_eq_true rfl), (Nat.le_of_ble_eq_true rfl)⟩) ⟨pk_blind, va_recv hKc hPc (ci := 8) (q0 := 0) rfl rfl, pk_call hPc hKc hDc⟩ rfl rfl hl.1 rfl (lv_room (Nat.le_of_ble_eq_true rfl)) dX8_view_59 ⟨(Nat.le_of_ble_eq_true rfl), (Nat.le_of_ble_eq_true rfl)⟩) hS (fun q _ h => hFc q h) hFc (fun r_11 ur_11 t H1 locs ht hvm hw hB hz1 hk1 hS => ?_)
            try dsimp only at hw
            have jr_11 := hw
            obtain ⟨hP1, hK1, hD1⟩ := hB
            rw [ht] at hP1
            have hK1 := va_K.moved hvm.symm hK1
            obtain ⟨hP, hD⟩ := va_join (wr := [(q3, .inl (c3, 16, .inl a3)), (q6, .inl (c6, 16, .inl a6)), (q7, .inl (c7, 16, .inl a7)), (q9, .inl (c9, 16, .inl a9)), (q10, .inl (c10, 16, .inl a10))]) (w1 := [(h0, .inr (8, [.int th, .ref q1, v2, .ref q3, .ref q4, v5, .ref q6, .ref q7, .ref q8, .ref q9, .ref q10, .ref q11, v12, v13, v14, v15, v16])), (q1, .inl (c1, 16, .inl a1)), (q4, .inl (c4, 16, .inl a4)), (q8, .inl (c8, 16, .inl a8)), (q11, .inl (c11, 16, .inl a11))]) hP hD [8, 9, 1, 4, 7] [0, 2, 3, 5, 6] rfl rfl (by decide) (by decide) hk1 hFc hP1 hD1
            clear hk1 hz1 ht hPc hDc hKc hFc
            generalize H1 = H at hP hS ⊢
            replace hP : va_P (dC, dI) vwCl [(q3, .inl (c3, 16, .inl a3)), (q6, .inl (c6, 16, .inl a6)), (q7, .inl (c7, 16, .inl a7)), (q9, .inl (c9, 16, .inl a9)), (q10, .inl (c10, 16, .inl a10)), (h0, .inr (8, [.int th, .ref q1, v2, .ref q3, .ref q4, v5, .ref q6, .ref q7, .ref q8, .ref q9, .ref q10, .ref q11, v12, v13, v14, v15, v16])), (q1, .inl (c1, 16, .inl a1)), (q4, .inl (c4, 16, .inl a4)), (q8, .inl (c8, 16, .inl a8)), (q11, .inl (c11, 16, .inl a11))] H := hP
            replace hD : va_D A [(q3, .inl (c3, 16, .inl a3)), (q6, .inl (c6, 16, .inl a6)), (q7, .inl (c7, 16, .inl a7)), (q9, .inl (c9, 16, .inl a9)), (q10, .inl (c10, 16, .inl a10)), (h0, .inr (8, [.int th, .ref q1, v2, .ref q3, .ref q4, v5, .ref q6, .ref q7, .ref q8, .ref q9, .ref q10, .ref q11, v12, v13, v14, v15, v16])), (q1, .inl (c1, 16, .inl a1)), (q4, .inl (c4, 16, .inl a4)), (q8, .inl (c8, 16, .inl a8)), (q11, .inl (c11, 16, .inl a11))] := hD
            refine W.widen (k := 0) (n := 0) (Nat.le_of_ble_eq_true rfl) (Nat.le_of_ble_eq_true rfl) ?_
            refine W.eq (g2 := F0 m 62 ls [.int r_11]) rfl ?_
            refine lv_if_ge (tgt := 71) hx hb dX8_view_62 (by decide) (fun c_12 => ?_) (fun c_12 => ?_)
            ·
              have ic_12 : 0 ≤ r_11.toInt := tx_le (by decide) rfl c_12
              have fj0_ : ¬ vwB a1 a4 a8 a11 o p1 p2 p3 := by unfold vwB; rw [← jr_11]; omega
              exact jn71 (ls, H, locs) ⟨lv_sub hl [0, 1, 2, 3, 4] rfl, hP.sub [0, 7, 1, 2, 8, 3, 4, 9, 5, 6] rfl, hS, fj0_⟩
            ·
              have ic_12 : r_11.toInt < 0 := tx_nle (by decide) rfl c_12
              have hbad : vwB a1 a4 a8 a11 o p1 p2 p3 := by unfold vwB; rw [← jr_11]; omega
              refine lv_aload_n hx hb dX8_view_65 rfl (lv_at hl 0 rfl) ?_
              refine lv_iconst (v := 3) hx hb dX8_view_66 (by decide) ?_
              have hPc := hP.sub (ws' := [(h0, .inr (8, [.int th, .ref q1, v2, .ref q3, .ref q4, v5, .ref q6, .ref q7, .ref q8, .ref q9, .ref q10, .ref q11, v12, v13, v14, v15, v16]))]) [5] rfl
              have hDc := hD.sub (ws' := [(h0, .inr (8, [.int th, .ref q1, v2, .ref q3, .ref q4, v5, .ref q6, .ref q7, .ref q8, .ref q9, .ref q10, .ref q11, v12, v13, v14, v15, v16]))]) [5] (by decide) rfl
              have hKc := hK.sub (tys' := []) [] rfl
              have hFc := va_free (wc := [(h0, .inr (8, [.int th, .ref q1, v2, .ref q3, .ref q4, v5, .ref q6, .ref q7, .ref q8, .ref q9, .ref q10, .ref q11, v12, v13, v14, v15, v16]))]) hD hS hA [5] rfl
              refine va_calli (va_runV (As := [.int 3]) (rest := []) ⟨hx, hb, hml, hown, hts⟩ (c_X8_refuse l  dC dI H.size h0 th (.ref q1) v2 (.ref q3) (.ref q4) v5 (.ref q6) (.ref q7) (.ref q8) (.ref q9) (.ref q10) (.ref q11) v12 v13 v14 v15 v16 3) (cwV 1 hts gX8_view_X8_refuse rfl rfl rfl (by decide +kernel) ⟨(Nat.le_of_ble_eq_true rfl), (Nat.le_of_ble_eq_true rfl)⟩) ⟨pk_blind, va_recv hKc hPc (ci := 8) (q0 := 0) rfl rfl, pk_call hPc hKc hDc⟩ rfl rfl hl.1 rfl (lv_room (Nat.le_of_ble_eq_true rfl)) dX8_view_67 ⟨(Nat.le_of_ble_eq_true rfl), (Nat.le_of_ble_eq_true rfl)⟩) hS (fun q _ h => hFc q h) hFc (fun r_13 ur_13 t H1 locs ht hvm hw hB hz1 hk1 hS => ?_)
              try dsimp only at hw
              obtain ⟨hP1, hK1, hD1⟩ := hB
              rw [ht] at hP1
              have hK1 := va_K.moved hvm.symm hK1
              obtain ⟨hP, hD⟩ := va_join (wr := [(q3, .inl (c3, 16, .inl a3)), (q6, .inl (c6, 16, .inl a6)), (q7, .inl (c7, 16, .inl a7)), (q9, .inl (c9, 16, .inl a9)), (q10, .inl (c10, 16, .inl a10)), (q1, .inl (c1, 16, .inl a1)), (q4, .inl (c4, 16, .inl a4)), (q8, .inl (c8, 16, .inl a8)), (q11, .inl (c11, 16, .inl a11))]) (w1 := [(h0, .inr (8, [.int 3, .ref q1, v2, .ref q3, .ref q4, v5, .ref q6, .ref q7, .ref q8, .ref q9, .ref q10, .ref q11, v12, v13, v14, v15, v16]))]) hP hD [5] [0, 1, 2, 3, 4, 6, 7, 8, 9] rfl rfl (by decide) (by decide) hk1 hFc hP1 hD1
              clear hk1 hz1 ht hPc hDc hKc hFc
              generalize H1 = H at hP hS ⊢
              replace hP : va_P (dC, dI) vwCl [(q3, .inl (c3, 16, .inl a3)), (q6, .inl (c6, 16, .inl a6)), (q7, .inl (c7, 16, .inl a7)), (q9, .inl (c9, 16, .inl a9)), (q10, .inl (c10, 16, .inl a10)), (q1, .inl (c1, 16, .inl a1)), (q4, .inl (c4, 16, .inl a4)), (q8, .inl (c8, 16, .inl a8)), (q11, .inl (c11, 16, .inl a11)), (h0, .inr (8, [.int 3, .ref q1, v2, .ref q3, .ref q4, v5, .ref q6, .ref q7, .ref q8, .ref q9, .ref q10, .ref q11, v12, v13, v14, v15, v16]))] H := hP
              replace hD : va_D A [(q3, .inl (c3, 16, .inl a3)), (q6, .inl (c6, 16, .inl a6)), (q7, .inl (c7, 16, .inl a7)), (q9, .inl (c9, 16, .inl a9)), (q10, .inl (c10, 16, .inl a10)), (q1, .inl (c1, 16, .inl a1)), (q4, .inl (c4, 16, .inl a4)), (q8, .inl (c8, 16, .inl a8)), (q11, .inl (c11, 16, .inl a11)), (h0, .inr (8, [.int 3, .ref q1, v2, .ref q3, .ref q4, v5, .ref q6, .ref q7, .ref q8, .ref q9, .ref q10, .ref q11, v12, v13, v14, v15, v16]))] := hD
              refine W.widen (k := 0) (n := 0) (Nat.le_of_ble_eq_true rfl) (Nat.le_of_ble_eq_true rfl) ?_
              obtain rfl : r_13 = 0 := hw
              refine W.eq (g2 := F0 m 70 ls [.int 0]) rfl ?_
              have hP9 := hP.sub (ws' := [(h0, .inr (8, [.int 3, .ref q1, v2, .ref q3, .ref q4, v5, .ref q6, .ref q7, .ref q8, .ref q9, .ref q10, .ref q11, v12, v13, v14, v15, v16])), (q1, .inl (c1, 16, .inl a1)), (q3, .inl (c3, 16, .inl a3)), (q4, .inl (c4, 16, .inl a4)), (q6, .inl (c6, 16, .inl a6)), (q7, .inl (c7, 16, .inl a7)), (q8, .inl (c8, 16, .inl a8)), (q9, .inl (c9, 16, .inl a9)), (q10, .inl (c10, 16, .inl a10)), (q11, .inl (c11, 16, .inl a11))]) [9, 5, 0, 6, 1, 2, 7, 3, 4, 8] rfl
              have hD9 := hD.sub (ws' := [(h0, .inr (8, [.int 3, .ref q1, v2, .ref q3, .ref q4, v5, .ref q6, .ref q7, .ref q8, .ref q9, .ref q10, .ref q11, v12, v13, v14, v15, v16])), (q1, .inl (c1, 16, .inl a1)), (q3, .inl (c3, 16, .inl a3)), (q4, .inl (c4, 16, .inl a4)), (q6, .inl (c6, 16, .inl a6)), (q7, .inl (c7, 16, .inl a7)), (q8, .inl (c8, 16, .inl a8)), (q9, .inl (c9, 16, .inl a9)), (q10, .inl (c10, 16, .inl a10)), (q11, .inl (c11, 16, .inl a11))]) [9, 5, 0, 6, 1, 2, 7, 3, 4, 8] (by decide) rfl
              have hK9 := hK.sub (tys' := [(c1, .int), (c3, .int), (c4, .int), (c6, .int), (c7, .int), (c8, .int), (c9, .int), (c10, .int), (c11, .int)]) [0, 1, 2, 3, 4, 5, 6, 7, 8] rfl
              refine W.widen (k := 0) (n := 0) (Nat.le_of_ble_eq_true rfl) (Nat.le_of_ble_eq_true rfl) ?_
              exact W.iret (v := 0) hx hb hr (fun t ht hW => ⟨⟨0, (3, a1, a3, a6, a7, a8, a9, a10, a11), rfl, ⟨3, o, 0, by unfold vwR; exact Or.inr ⟨ho9, rfl, hko, Or.inr ⟨h34, Or.inl ⟨rfl, hbad⟩⟩⟩, rfl, fun h => absurd h (by decide), fun _ => ⟨rfl, rfl, rfl, rfl, rfl, rfl, rfl, rfl, rfl⟩⟩, by rw [ht]; exact hP9, va_K.moved hW.alike hK9, hD9⟩, hS.F ht⟩) hS.2.2 dX8_view_70
    ·
      refine lv_aload_n hx hb dX8_view_14 rfl (lv_at hl 0 rfl) ?_
      refine va_get (D := (dC, dI)) (ci := 8) (v := .ref q1) (C := RX8) (T := TX8) (N := 17) hx hb hts hi0_ hown hK hP 8 rfl rfl 1 (by decide) hw5_ (fun _ h9 => h9) rfl dX8_view_15 ?_
      refine lv_iload_n hx hb dX8_view_18 rfl (lv_at hl 1 rfl) ?_
      refine va_iald (i := nI o) hx hb hK hP 9 0 rfl rfl (vp_in_nI (by omega) (by omega)) dX8_view_19 ?_
      refine W.eq (g2 := F0 m 20 ls [.int (a1 o)]) (by rw [nI_clamp (by omega)]) ?_
      refine lv_iconst (v := 3) hx hb dX8_view_20 (by decide) ?_
      refine lv_icmp_eq (tgt := 40) hx hb dX8_view_21 (by decide) (fun c_14 => ?_) (fun c_14 => ?_)
      ·
        have ic_14 : (a1 o).toInt = 3 := tx_eq rfl (by decide) c_14
        have fj0_ : (a1 o).toInt = 3 ∨ (a1 o).toInt = 4 := by omega
        exact jn40 (ls, H, locs) ⟨lv_sub hl [0, 1, 2, 3, 4] rfl, hP.sub [0, 1, 2, 3, 4, 5, 6, 7, 8, 9] rfl, hS, fj0_⟩
      ·
        have ic_14 : ¬ (a1 o).toInt = 3 := tx_ne rfl (by decide) c_14
        refine lv_aload_n hx hb dX8_view_24 rfl (lv_at hl 0 rfl) ?_
        refine va_get (D := (dC, dI)) (ci := 8) (v := .ref q1) (C := RX8) (T := TX8) (N := 17) hx hb hts hi0_ hown hK hP 8 rfl rfl 1 (by decide) hw5_ (fun _ h9 => h9) rfl dX8_view_25 ?_
        refine lv_iload_n hx hb dX8_view_28 rfl (lv_at hl 1 rfl) ?_
        refine va_iald (i := nI o) hx hb hK hP 9 0 rfl rfl (vp_in_nI (by omega) (by omega)) dX8_view_29 ?_
        refine W.eq (g2 := F0 m 30 ls [.int (a1 o)]) (by rw [nI_clamp (by omega)]) ?_
        refine lv_iconst (v := 4) hx hb dX8_view_30 (by decide) ?_
        refine lv_icmp_eq (tgt := 40) hx hb dX8_view_31 (by decide) (fun c_15 => ?_) (fun c_15 => ?_)
        ·
          have ic_15 : (a1 o).toInt = 4 := tx_eq rfl (by decide) c_15
          have fj0_ : (a1 o).toInt = 3 ∨ (a1 o).toInt = 4 := by omega
          exact jn40 (ls, H, locs) ⟨lv_sub hl [0, 1, 2, 3, 4] rfl, hP.sub [0, 1, 2, 3, 4, 5, 6, 7, 8, 9] rfl, hS, fj0_⟩
        ·
          have ic_15 : ¬ (a1 o).toInt = 4 := tx_ne rfl (by decide) c_15
          refine lv_aload_n hx hb dX8_view_34 rfl (lv_at hl 0 rfl) ?_
          refine lv_iconst (v := 2) hx hb dX8_view_35 (by decide) ?_
          have hPc := hP.sub (ws' := [(h0, .inr (8, [.int th, .ref q1, v2, .ref q3, .ref q4, v5, .ref q6, .ref q7, .ref q8, .ref q9, .ref q10, .ref q11, v12, v13, v14, v15, v16]))]) [8] rfl
          have hDc := hD.sub (ws' := [(h0, .inr (8, [.int th, .ref q1, v2, .ref q3, .ref q4, v5, .ref q6, .ref q7, .ref q8, .ref q9, .ref q10, .ref q11, v12, v13, v14, v15, v16]))]) [8] (by decide) rfl
          have hKc := hK.sub (tys' := []) [] rfl
          have hFc := va_free (wc := [(h0, .inr (8, [.int th, .ref q1, v2, .ref q3, .ref q4, v5, .ref q6, .ref q7, .ref q8, .ref q9, .ref q10, .ref q11, v12, v13, v14, v15, v16]))]) hD hS hA [8] rfl
          refine va_calli (va_runV (As := [.int 2]) (rest := []) ⟨hx, hb, hml, hown, hts⟩ (c_X8_refuse l  dC dI H.size h0 th (.ref q1) v2 (.ref q3) (.ref q4) v5 (.ref q6) (.ref q7) (.ref q8) (.ref q9) (.ref q10) (.ref q11) v12 v13 v14 v15 v16 2) (cwV 1 hts gX8_view_X8_refuse rfl rfl rfl (by decide +kernel) ⟨(Nat.le_of_ble_eq_true rfl), (Nat.le_of_ble_eq_true rfl)⟩) ⟨pk_blind, va_recv hKc hPc (ci := 8) (q0 := 0) rfl rfl, pk_call hPc hKc hDc⟩ rfl rfl hl.1 rfl (lv_room (Nat.le_of_ble_eq_true rfl)) dX8_view_36 ⟨(Nat.le_of_ble_eq_true rfl), (Nat.le_of_ble_eq_true rfl)⟩) hS (fun q _ h => hFc q h) hFc (fun r_16 ur_16 t H1 locs ht hvm hw hB hz1 hk1 hS => ?_)
          try dsimp only at hw
          obtain ⟨hP1, hK1, hD1⟩ := hB
          rw [ht] at hP1
          have hK1 := va_K.moved hvm.symm hK1
          obtain ⟨hP, hD⟩ := va_join (wr := [(q3, .inl (c3, 16, .inl a3)), (q4, .inl (c4, 16, .inl a4)), (q6, .inl (c6, 16, .inl a6)), (q7, .inl (c7, 16, .inl a7)), (q8, .inl (c8, 16, .inl a8)), (q9, .inl (c9, 16, .inl a9)), (q10, .inl (c10, 16, .inl a10)), (q11, .inl (c11, 16, .inl a11)), (q1, .inl (c1, 16, .inl a1))]) (w1 := [(h0, .inr (8, [.int 2, .ref q1, v2, .ref q3, .ref q4, v5, .ref q6, .ref q7, .ref q8, .ref q9, .ref q10, .ref q11, v12, v13, v14, v15, v16]))]) hP hD [8] [0, 1, 2, 3, 4, 5, 6, 7, 9] rfl rfl (by decide) (by decide) hk1 hFc hP1 hD1
          clear hk1 hz1 ht hPc hDc hKc hFc
          generalize H1 = H at hP hS ⊢
          replace hP : va_P (dC, dI) vwCl [(q3, .inl (c3, 16, .inl a3)), (q4, .inl (c4, 16, .inl a4)), (q6, .inl (c6, 16, .inl a6)), (q7, .inl (c7, 16, .inl a7)), (q8, .inl (c8, 16, .inl a8)), (q9, .inl (c9, 16, .inl a9)), (q10, .inl (c10, 16, .inl a10)), (q11, .inl (c11, 16, .inl a11)), (q1, .inl (c1, 16, .inl a1)), (h0, .inr (8, [.int 2, .ref q1, v2, .ref q3, .ref q4, v5, .ref q6, .ref q7, .ref q8, .ref q9, .ref q10, .ref q11, v12, v13, v14, v15, v16]))] H := hP
          replace hD : va_D A [(q3, .inl (c3, 16, .inl a3)), (q4, .inl (c4, 16, .inl a4)), (q6, .inl (c6, 16, .inl a6)), (q7, .inl (c7, 16, .inl a7)), (q8, .inl (c8, 16, .inl a8)), (q9, .inl (c9, 16, .inl a9)), (q10, .inl (c10, 16, .inl a10)), (q11, .inl (c11, 16, .inl a11)), (q1, .inl (c1, 16, .inl a1)), (h0, .inr (8, [.int 2, .ref q1, v2, .ref q3, .ref q4, v5, .ref q6, .ref q7, .ref q8, .ref q9, .ref q10, .ref q11, v12, v13, v14, v15, v16]))] := hD
          refine W.widen (k := 0) (n := 0) (Nat.le_of_ble_eq_true rfl) (Nat.le_of_ble_eq_true rfl) ?_
          obtain rfl : r_16 = 0 := hw
          refine W.eq (g2 := F0 m 39 ls [.int 0]) rfl ?_
          have hP9 := hP.sub (ws' := [(h0, .inr (8, [.int 2, .ref q1, v2, .ref q3, .ref q4, v5, .ref q6, .ref q7, .ref q8, .ref q9, .ref q10, .ref q11, v12, v13, v14, v15, v16])), (q1, .inl (c1, 16, .inl a1)), (q3, .inl (c3, 16, .inl a3)), (q4, .inl (c4, 16, .inl a4)), (q6, .inl (c6, 16, .inl a6)), (q7, .inl (c7, 16, .inl a7)), (q8, .inl (c8, 16, .inl a8)), (q9, .inl (c9, 16, .inl a9)), (q10, .inl (c10, 16, .inl a10)), (q11, .inl (c11, 16, .inl a11))]) [9, 8, 0, 1, 2, 3, 4, 5, 6, 7] rfl
          have hD9 := hD.sub (ws' := [(h0, .inr (8, [.int 2, .ref q1, v2, .ref q3, .ref q4, v5, .ref q6, .ref q7, .ref q8, .ref q9, .ref q10, .ref q11, v12, v13, v14, v15, v16])), (q1, .inl (c1, 16, .inl a1)), (q3, .inl (c3, 16, .inl a3)), (q4, .inl (c4, 16, .inl a4)), (q6, .inl (c6, 16, .inl a6)), (q7, .inl (c7, 16, .inl a7)), (q8, .inl (c8, 16, .inl a8)), (q9, .inl (c9, 16, .inl a9)), (q10, .inl (c10, 16, .inl a10)), (q11, .inl (c11, 16, .inl a11))]) [9, 8, 0, 1, 2, 3, 4, 5, 6, 7] (by decide) rfl
          have hK9 := hK.sub (tys' := [(c1, .int), (c3, .int), (c4, .int), (c6, .int), (c7, .int), (c8, .int), (c9, .int), (c10, .int), (c11, .int)]) [0, 1, 2, 3, 4, 5, 6, 7, 8] rfl
          refine W.widen (k := 0) (n := 0) (Nat.le_of_ble_eq_true rfl) (Nat.le_of_ble_eq_true rfl) ?_
          exact W.iret (v := 0) hx hb hr (fun t ht hW => ⟨⟨0, (2, a1, a3, a6, a7, a8, a9, a10, a11), rfl, ⟨2, o, 0, by unfold vwR; exact Or.inr ⟨ho9, rfl, hko, Or.inl ⟨rfl, by omega, by omega⟩⟩, rfl, fun h => absurd h (by decide), fun _ => ⟨rfl, rfl, rfl, rfl, rfl, rfl, rfl, rfl, rfl⟩⟩, by rw [ht]; exact hP9, va_K.moved hW.alike hK9, hD9⟩, hS.F ht⟩) hS.2.2 dX8_view_39
  ·
    have ic_2 : r_1.toInt = 0 := tx_eq rfl (by decide) c_2
    refine lv_aload_n hx hb dX8_view_8 rfl (lv_at hl 0 rfl) ?_
    refine lv_iconst (v := 1) hx hb dX8_view_9 (by decide) ?_
    have hPc := hP.sub (ws' := [(h0, .inr (8, [.int th, .ref q1, v2, .ref q3, .ref q4, v5, .ref q6, .ref q7, .ref q8, .ref q9, .ref q10, .ref q11, v12, v13, v14, v15, v16]))]) [8] rfl
    have hDc := hD.sub (ws' := [(h0, .inr (8, [.int th, .ref q1, v2, .ref q3, .ref q4, v5, .ref q6, .ref q7, .ref q8, .ref q9, .ref q10, .ref q11, v12, v13, v14, v15, v16]))]) [8] (by decide) rfl
    have hKc := hK.sub (tys' := []) [] rfl
    have hFc := va_free (wc := [(h0, .inr (8, [.int th, .ref q1, v2, .ref q3, .ref q4, v5, .ref q6, .ref q7, .ref q8, .ref q9, .ref q10, .ref q11, v12, v13, v14, v15, v16]))]) hD hS hA [8] rfl
    refine va_calli (va_runV (As := [.int 1]) (rest := []) ⟨hx, hb, hml, hown, hts⟩ (c_X8_refuse l  dC dI H.size h0 th (.ref q1) v2 (.ref q3) (.ref q4) v5 (.ref q6) (.ref q7) (.ref q8) (.ref q9) (.ref q10) (.ref q11) v12 v13 v14 v15 v16 1) (cwV 1 hts gX8_view_X8_refuse rfl rfl rfl (by decide +kernel) ⟨(Nat.le_of_ble_eq_true rfl), (Nat.le_of_ble_eq_true rfl)⟩) ⟨pk_blind, va_recv hKc hPc (ci := 8) (q0 := 0) rfl rfl, pk_call hPc hKc hDc⟩ rfl rfl hl.1 rfl (lv_room (Nat.le_of_ble_eq_true rfl)) dX8_view_10 ⟨(Nat.le_of_ble_eq_true rfl), (Nat.le_of_ble_eq_true rfl)⟩) hS (fun q _ h => hFc q h) hFc (fun r_17 ur_17 t H1 locs ht hvm hw hB hz1 hk1 hS => ?_)
    try dsimp only at hw
    obtain ⟨hP1, hK1, hD1⟩ := hB
    rw [ht] at hP1
    have hK1 := va_K.moved hvm.symm hK1
    obtain ⟨hP, hD⟩ := va_join (wr := [(q3, .inl (c3, 16, .inl a3)), (q4, .inl (c4, 16, .inl a4)), (q6, .inl (c6, 16, .inl a6)), (q7, .inl (c7, 16, .inl a7)), (q8, .inl (c8, 16, .inl a8)), (q9, .inl (c9, 16, .inl a9)), (q10, .inl (c10, 16, .inl a10)), (q11, .inl (c11, 16, .inl a11)), (q1, .inl (c1, 16, .inl a1))]) (w1 := [(h0, .inr (8, [.int 1, .ref q1, v2, .ref q3, .ref q4, v5, .ref q6, .ref q7, .ref q8, .ref q9, .ref q10, .ref q11, v12, v13, v14, v15, v16]))]) hP hD [8] [0, 1, 2, 3, 4, 5, 6, 7, 9] rfl rfl (by decide) (by decide) hk1 hFc hP1 hD1
    clear hk1 hz1 ht hPc hDc hKc hFc
    generalize H1 = H at hP hS ⊢
    replace hP : va_P (dC, dI) vwCl [(q3, .inl (c3, 16, .inl a3)), (q4, .inl (c4, 16, .inl a4)), (q6, .inl (c6, 16, .inl a6)), (q7, .inl (c7, 16, .inl a7)), (q8, .inl (c8, 16, .inl a8)), (q9, .inl (c9, 16, .inl a9)), (q10, .inl (c10, 16, .inl a10)), (q11, .inl (c11, 16, .inl a11)), (q1, .inl (c1, 16, .inl a1)), (h0, .inr (8, [.int 1, .ref q1, v2, .ref q3, .ref q4, v5, .ref q6, .ref q7, .ref q8, .ref q9, .ref q10, .ref q11, v12, v13, v14, v15, v16]))] H := hP
    replace hD : va_D A [(q3, .inl (c3, 16, .inl a3)), (q4, .inl (c4, 16, .inl a4)), (q6, .inl (c6, 16, .inl a6)), (q7, .inl (c7, 16, .inl a7)), (q8, .inl (c8, 16, .inl a8)), (q9, .inl (c9, 16, .inl a9)), (q10, .inl (c10, 16, .inl a10)), (q11, .inl (c11, 16, .inl a11)), (q1, .inl (c1, 16, .inl a1)), (h0, .inr (8, [.int 1, .ref q1, v2, .ref q3, .ref q4, v5, .ref q6, .ref q7, .ref q8, .ref q9, .ref q10, .ref q11, v12, v13, v14, v15, v16]))] := hD
    refine W.widen (k := 0) (n := 0) (Nat.le_of_ble_eq_true rfl) (Nat.le_of_ble_eq_true rfl) ?_
    obtain rfl : r_17 = 0 := hw
    refine W.eq (g2 := F0 m 13 ls [.int 0]) rfl ?_
    have hP9 := hP.sub (ws' := [(h0, .inr (8, [.int 1, .ref q1, v2, .ref q3, .ref q4, v5, .ref q6, .ref q7, .ref q8, .ref q9, .ref q10, .ref q11, v12, v13, v14, v15, v16])), (q1, .inl (c1, 16, .inl a1)), (q3, .inl (c3, 16, .inl a3)), (q4, .inl (c4, 16, .inl a4)), (q6, .inl (c6, 16, .inl a6)), (q7, .inl (c7, 16, .inl a7)), (q8, .inl (c8, 16, .inl a8)), (q9, .inl (c9, 16, .inl a9)), (q10, .inl (c10, 16, .inl a10)), (q11, .inl (c11, 16, .inl a11))]) [9, 8, 0, 1, 2, 3, 4, 5, 6, 7] rfl
    have hD9 := hD.sub (ws' := [(h0, .inr (8, [.int 1, .ref q1, v2, .ref q3, .ref q4, v5, .ref q6, .ref q7, .ref q8, .ref q9, .ref q10, .ref q11, v12, v13, v14, v15, v16])), (q1, .inl (c1, 16, .inl a1)), (q3, .inl (c3, 16, .inl a3)), (q4, .inl (c4, 16, .inl a4)), (q6, .inl (c6, 16, .inl a6)), (q7, .inl (c7, 16, .inl a7)), (q8, .inl (c8, 16, .inl a8)), (q9, .inl (c9, 16, .inl a9)), (q10, .inl (c10, 16, .inl a10)), (q11, .inl (c11, 16, .inl a11))]) [9, 8, 0, 1, 2, 3, 4, 5, 6, 7] (by decide) rfl
    have hK9 := hK.sub (tys' := [(c1, .int), (c3, .int), (c4, .int), (c6, .int), (c7, .int), (c8, .int), (c9, .int), (c10, .int), (c11, .int)]) [0, 1, 2, 3, 4, 5, 6, 7, 8] rfl
    refine W.widen (k := 0) (n := 0) (Nat.le_of_ble_eq_true rfl) (Nat.le_of_ble_eq_true rfl) ?_
    exact W.iret (v := 0) hx hb hr (fun t ht hW => ⟨⟨0, (1, a1, a3, a6, a7, a8, a9, a10, a11), rfl, ⟨1, 0, 0, by unfold vwR; exact Or.inl ⟨rfl, (jr_1.resolve_left (fun h => absurd ic_2 (by rw [h.1]; decide))).2⟩, rfl, fun h => absurd h (by decide), fun _ => ⟨rfl, rfl, rfl, rfl, rfl, rfl, rfl, rfl, rfl⟩⟩, by rw [ht]; exact hP9, va_K.moved hW.alike hK9, hD9⟩, hS.F ht⟩) hS.2.2 dX8_view_13
set_option maxHeartbeats 4000000 in
set_option maxRecDepth 100000 in
/-- cursor -/
theorem c_X8_cursor (l : Launch) (dC : Nat → ClassId) (dI : Nat → Nat → Nat) (sz : Nat) (h0 : Nat) (th : Int32) (q1 : Nat) (q3 : Nat) (q6 : Nat) (q7 : Nat) (q8 : Nat) (q9 : Nat) (q10 : Nat) (q12 : Nat) (c1 : ClassId) (c3 : ClassId) (c6 : ClassId) (c7 : ClassId) (c8 : ClassId) (c9 : ClassId) (c10 : ClassId) (c12 : ClassId) (a1 : Nat → Int32) (a3 : Nat → Int32) (a6 : Nat → Int32) (a7 : Nat → Int32) (a8 : Nat → Int32) (a9 : Nat → Int32) (a10 : Nat → Int32) (a12 : Nat → Int32) (v2 : Value) (v4 : Value) (v5 : Value) (v11 : Value) (v13 : Value) (v14 : Value) (v15 : Value) (v16 : Value) (dep : Nat → Nat) (p0 : Int32) (hF9 : rF a1 a8 dep) (hda : ∀ o : Nat, o < 16 → dep o < 17) : Met l yX8_cursor wsX8_cursor ({ frames := 3, cells := 0, slots := 0, locals := 110 }) (va_Pc [.ref h0, .int p0] (pk_Pre (dC, dI) [(h0, .inr (8, [.int th, .ref q1, v2, .ref q3, v4, v5, .ref q6, .ref q7, .ref q8, .ref q9, .ref q10, v11, .ref q12, v13, v14, v15, v16])), (q1, .inl (c1, 16, .inl a1)), (q3, .inl (c3, 16, .inl a3)), (q6, .inl (c6, 16, .inl a6)), (q7, .inl (c7, 16, .inl a7)), (q8, .inl (c8, 16, .inl a8)), (q9, .inl (c9, 16, .inl a9)), (q10, .inl (c10, 16, .inl a10)), (q12, .inl (c12, 16, .inl a12))] [(c1, .int), (c3, .int), (c6, .int), (c7, .int), (c8, .int), (c9, .int), (c10, .int), (c12, .int)] sz)) (va_Qi (fun (x : Int32) (u : Int32 × (Nat → Int32) × (Nat → Int32) × (Nat → Int32) × (Nat → Int32) × (Nat → Int32) × (Nat → Int32) × (Nat → Int32) × (Nat → Int32)) => ∃ (c : Int32) (o xx : Nat), cuR a1 p0 c o xx ∧ u.1 = c ∧ (c = 0 → x = nI xx ∧ u.2.1 = upd a1 xx 5 ∧ u.2.2.1 = upd a3 xx 0 ∧ u.2.2.2.1 = upd a6 xx 0 ∧ u.2.2.2.2.1 = upd a7 xx 0 ∧ u.2.2.2.2.2.1 = upd (upd a8 xx (-1)) xx (nI o) ∧ u.2.2.2.2.2.2.1 = upd a9 xx 0 ∧ u.2.2.2.2.2.2.2.1 = upd a10 xx 0 ∧ u.2.2.2.2.2.2.2.2 = upd a12 xx ((upd a7 xx 0) (rtN (upd a1 xx 5) (upd (upd a8 xx (-1)) xx (nI o)) 17 o))) ∧ (¬ c = 0 → x = 0 ∧ u.2.1 = a1 ∧ u.2.2.1 = a3 ∧ u.2.2.2.1 = a6 ∧ u.2.2.2.2.1 = a7 ∧ u.2.2.2.2.2.1 = a8 ∧ u.2.2.2.2.2.2.1 = a9 ∧ u.2.2.2.2.2.2.2.1 = a10 ∧ u.2.2.2.2.2.2.2.2 = a12)) (fun (u : Int32 × (Nat → Int32) × (Nat → Int32) × (Nat → Int32) × (Nat → Int32) × (Nat → Int32) × (Nat → Int32) × (Nat → Int32) × (Nat → Int32)) (t : State) => va_P (dC, dI) vwCl [(h0, .inr (8, [.int u.1, .ref q1, v2, .ref q3, v4, v5, .ref q6, .ref q7, .ref q8, .ref q9, .ref q10, v11, .ref q12, v13, v14, v15, v16])), (q1, .inl (c1, 16, .inl u.2.1)), (q3, .inl (c3, 16, .inl u.2.2.1)), (q6, .inl (c6, 16, .inl u.2.2.2.1)), (q7, .inl (c7, 16, .inl u.2.2.2.2.1)), (q8, .inl (c8, 16, .inl u.2.2.2.2.2.1)), (q9, .inl (c9, 16, .inl u.2.2.2.2.2.2.1)), (q10, .inl (c10, 16, .inl u.2.2.2.2.2.2.2.1)), (q12, .inl (c12, 16, .inl u.2.2.2.2.2.2.2.2))] t.heap ∧ va_K (dC, dI) vwCl [(c1, .int), (c3, .int), (c6, .int), (c7, .int), (c8, .int), (c9, .int), (c10, .int), (c12, .int)] t ∧ va_D (va_A [(h0, .inr (8, [.int th, .ref q1, v2, .ref q3, v4, v5, .ref q6, .ref q7, .ref q8, .ref q9, .ref q10, v11, .ref q12, v13, v14, v15, v16])), (q1, .inl (c1, 16, .inl a1)), (q3, .inl (c3, 16, .inl a3)), (q6, .inl (c6, 16, .inl a6)), (q7, .inl (c7, 16, .inl a7)), (q8, .inl (c8, 16, .inl a8)), (q9, .inl (c9, 16, .inl a9)), (q10, .inl (c10, 16, .inl a10)), (q12, .inl (c12, 16, .inl a12))] sz) [(h0, .inr (8, [.int u.1, .ref q1, v2, .ref q3, v4, v5, .ref q6, .ref q7, .ref q8, .ref q9, .ref q10, v11, .ref q12, v13, v14, v15, v16])), (q1, .inl (c1, 16, .inl u.2.1)), (q3, .inl (c3, 16, .inl u.2.2.1)), (q6, .inl (c6, 16, .inl u.2.2.2.1)), (q7, .inl (c7, 16, .inl u.2.2.2.2.1)), (q8, .inl (c8, 16, .inl u.2.2.2.2.2.1)), (q9, .inl (c9, 16, .inl u.2.2.2.2.2.2.1)), (q10, .inl (c10, 16, .inl u.2.2.2.2.2.2.2.1)), (q12, .inl (c12, 16, .inl u.2.2.2.2.2.2.2.2))]) (va_A [(h0, .inr (8, [.int th, .ref q1, v2, .ref q3, v4, v5, .ref q6, .ref q7, .ref q8, .ref q9, .ref q10, v11, .ref q12, v13, v14, v15, v16])), (q1, .inl (c1, 16, .inl a1)), (q3, .inl (c3, 16, .inl a3)), (q6, .inl (c6, 16, .inl a6)), (q7, .inl (c7, 16, .inl a7)), (q8, .inl (c8, 16, .inl a8)), (q9, .inl (c9, 16, .inl a9)), (q10, .inl (c10, 16, .inl a10)), (q12, .inl (c12, 16, .inl a12))] sz)) 0 0 (va_A [(h0, .inr (8, [.int th, .ref q1, v2, .ref q3, v4, v5, .ref q6, .ref q7, .ref q8, .ref q9, .ref q10, v11, .ref q12, v13, v14, v15, v16])), (q1, .inl (c1, 16, .inl a1)), (q3, .inl (c3, 16, .inl a3)), (q6, .inl (c6, 16, .inl a6)), (q7, .inl (c7, 16, .inl a7)), (q8, .inl (c8, 16, .inl a8)), (q9, .inl (c9, 16, .inl a9)), (q10, .inl (c10, 16, .inl a10)), (q12, .inl (c12, 16, .inl a12))] sz) := by
  refine Met.ofW (cc := cX8_cursor) (maxL := 3) (ret := (some .int)) (by decide) rfl ?_
  intro p e s m args below meth c s₁ B hml hv
  obtain ⟨rfl, hsz, hP, hK, hD0⟩ := hv
  have hx := B.exec
  have hb := B.bytes
  have hr := B.returns
  have hts := atoms_spec (ws := wsX8_cursor) B.pre
  have hown : s.vm.findClass RX8 = some m.cls := findClass_of_methodNamed B.named
  have hlocks := B.notSynchronized
  subst hsz
  have hD := hD0.self (sz := s.heap.size)
  generalize hAe : va_A [(h0, .inr (8, [.int th, .ref q1, v2, .ref q3, v4, v5, .ref q6, .ref q7, .ref q8, .ref q9, .ref q10, v11, .ref q12, v13, v14, v15, v16])), (q1, .inl (c1, 16, .inl a1)), (q3, .inl (c3, 16, .inl a3)), (q6, .inl (c6, 16, .inl a6)), (q7, .inl (c7, 16, .inl a7)), (q8, .inl (c8, 16, .inl a8)), (q9, .inl (c9, 16, .inl a9)), (q10, .inl (c10, 16, .inl a10)), (q12, .inl (c12, 16, .inl a12))] s.heap.size = A at hD ⊢
  have hA : ∀ q : Nat, s.heap.size ≤ q → A q := fun q h => by rw [← hAe]; exact Or.inr h
  have hS : va_S A s.heap s.heap [] := va_S.rf
  have hP : va_P (dC, dI) vwCl [(h0, .inr (8, [.int th, .ref q1, v2, .ref q3, v4, v5, .ref q6, .ref q7, .ref q8, .ref q9, .ref q10, v11, .ref q12, v13, v14, v15, v16])), (q1, .inl (c1, 16, .inl a1)), (q3, .inl (c3, 16, .inl a3)), (q6, .inl (c6, 16, .inl a6)), (q7, .inl (c7, 16, .inl a7)), (q8, .inl (c8, 16, .inl a8)), (q9, .inl (c9, 16, .inl a9)), (q10, .inl (c10, 16, .inl a10)), (q12, .inl (c12, 16, .inl a12))] s.heap := hP
  have hl := lv_entry ([.ref h0, .int p0]) (n := 3) (Nat.le_of_ble_eq_true rfl)
  rw [lg_entry_eq]
  generalize (lg_sl ([.ref h0, .int p0]) ++ List.replicate (3 - (lg_sl ([.ref h0, .int p0])).length) Slot.unset).toArray = ls at hl ⊢
  have hl : lv_has ls 3 [(0, .ref h0), (1, .int p0)] := hl
  have hw0_ := hts (.fieldLink RX8 60 "KeyAtlasModel" "thrown" "I") (List.mem_of_getElem? (l := wsX8_cursor) (i := 1) rfl)
  have hw1_ := hts (.fieldLink RX8 32 "KeyAtlasModel" "parent" "[I") (List.mem_of_getElem? (l := wsX8_cursor) (i := 2) rfl)
  have hw2_ := hts (.fieldLink RX8 35 "KeyAtlasModel" "from" "[I") (List.mem_of_getElem? (l := wsX8_cursor) (i := 3) rfl)
  have hw3_ := hts (.fieldLink RX8 38 "KeyAtlasModel" "to" "[I") (List.mem_of_getElem? (l := wsX8_cursor) (i := 4) rfl)
  have hw4_ := hts (.fieldLink RX8 44 "KeyAtlasModel" "seen" "[I") (List.mem_of_getElem? (l := wsX8_cursor) (i := 5) rfl)
  have hw5_ := hts (.fieldLink RX8 29 "KeyAtlasModel" "changes" "[I") (List.mem_of_getElem? (l := wsX8_cursor) (i := 6) rfl)
  have hi0_ : ∀ w ∈ u_ws RX8 TX8 17, w ∈ wsX8_cursor := fun w h => List.mem_cons_of_mem _ (List.mem_append_right _ h)
  refine lv_aload_n hx hb dX8_cursor_0 rfl (lv_at hl 0 rfl) ?_
  refine lv_iload_n hx hb dX8_cursor_1 rfl (lv_at hl 1 rfl) ?_
  have hPc := hP.sub (ws' := [(h0, .inr (8, [.int th, .ref q1, v2, .ref q3, v4, v5, .ref q6, .ref q7, .ref q8, .ref q9, .ref q10, v11, .ref q12, v13, v14, v15, v16])), (q1, .inl (c1, 16, .inl a1))]) [0, 1] rfl
  have hDc := hD.sub (ws' := [(h0, .inr (8, [.int th, .ref q1, v2, .ref q3, v4, v5, .ref q6, .ref q7, .ref q8, .ref q9, .ref q10, v11, .ref q12, v13, v14, v15, v16])), (q1, .inl (c1, 16, .inl a1))]) [0, 1] (by decide) rfl
  have hKc := hK.sub (tys' := [(c1, .int)]) [0] rfl
  have hFc := va_free (wc := [(h0, .inr (8, [.int th, .ref q1, v2, .ref q3, v4, v5, .ref q6, .ref q7, .ref q8, .ref q9, .ref q10, v11, .ref q12, v13, v14, v15, v16])), (q1, .inl (c1, 16, .inl a1))]) hD hS hA [0, 1] rfl
  refine va_calli (va_runV (As := [.int p0]) (rest := []) ⟨hx, hb, hml, hown, hts⟩ (c_X8_isThere l  dC dI s.heap.size h0 th q1 c1 a1 v2 (.ref q3) v4 v5 (.ref q6) (.ref q7) (.ref q8) (.ref q9) (.ref q10) v11 (.ref q12) v13 v14 v15 v16 p0) (cwV 1 hts gX8_cursor_X8_isThere rfl rfl rfl (by decide +kernel) ⟨(Nat.le_of_ble_eq_true rfl), (Nat.le_of_ble_eq_true rfl)⟩) ⟨pk_blind, va_recv hKc hPc (ci := 8) (q0 := 0) rfl rfl, pk_call hPc hKc hDc⟩ rfl rfl hl.1 rfl (lv_room (Nat.le_of_ble_eq_true rfl)) dX8_cursor_2 ⟨(Nat.le_of_ble_eq_true rfl), (Nat.le_of_ble_eq_true rfl)⟩) hS (fun q _ h => hFc q h) hFc (fun r_1 ur_1 t H1 locs ht hvm hw hB hz1 hk1 hS => ?_)
  try dsimp only at hw
  have jr_1 := hw
  obtain ⟨hP1, hK1, hD1⟩ := hB
  rw [ht] at hP1
  have hK1 := va_K.moved hvm.symm hK1
  obtain ⟨hP, hD⟩ := va_join (wr := [(q3, .inl (c3, 16, .inl a3)), (q6, .inl (c6, 16, .inl a6)), (q7, .inl (c7, 16, .inl a7)), (q8, .inl (c8, 16, .inl a8)), (q9, .inl (c9, 16, .inl a9)), (q10, .inl (c10, 16, .inl a10)), (q12, .inl (c12, 16, .inl a12))]) (w1 := [(h0, .inr (8, [.int th, .ref q1, v2, .ref q3, v4, v5, .ref q6, .ref q7, .ref q8, .ref q9, .ref q10, v11, .ref q12, v13, v14, v15, v16])), (q1, .inl (c1, 16, .inl a1))]) hP hD [0, 1] [2, 3, 4, 5, 6, 7, 8] rfl rfl (by decide) (by decide) hk1 hFc hP1 hD1
  clear hk1 hz1 ht hPc hDc hKc hFc
  generalize H1 = H at hP hS ⊢
  replace hP : va_P (dC, dI) vwCl [(q3, .inl (c3, 16, .inl a3)), (q6, .inl (c6, 16, .inl a6)), (q7, .inl (c7, 16, .inl a7)), (q8, .inl (c8, 16, .inl a8)), (q9, .inl (c9, 16, .inl a9)), (q10, .inl (c10, 16, .inl a10)), (q12, .inl (c12, 16, .inl a12)), (h0, .inr (8, [.int th, .ref q1, v2, .ref q3, v4, v5, .ref q6, .ref q7, .ref q8, .ref q9, .ref q10, v11, .ref q12, v13, v14, v15, v16])), (q1, .inl (c1, 16, .inl a1))] H := hP
  replace hD : va_D A [(q3, .inl (c3, 16, .inl a3)), (q6, .inl (c6, 16, .inl a6)), (q7, .inl (c7, 16, .inl a7)), (q8, .inl (c8, 16, .inl a8)), (q9, .inl (c9, 16, .inl a9)), (q10, .inl (c10, 16, .inl a10)), (q12, .inl (c12, 16, .inl a12)), (h0, .inr (8, [.int th, .ref q1, v2, .ref q3, v4, v5, .ref q6, .ref q7, .ref q8, .ref q9, .ref q10, v11, .ref q12, v13, v14, v15, v16])), (q1, .inl (c1, 16, .inl a1))] := hD
  refine W.widen (k := 0) (n := 0) (Nat.le_of_ble_eq_true rfl) (Nat.le_of_ble_eq_true rfl) ?_
  refine W.eq (g2 := F0 m 5 ls [.int r_1]) rfl ?_
  refine lv_if_ne (tgt := 14) hx hb dX8_cursor_5 (by decide) (fun c_2 => ?_) (fun c_2 => ?_)
  ·
    have ic_2 : ¬ r_1.toInt = 0 := tx_ne rfl (by decide) c_2
    obtain ⟨o, ho9, rfl, hko⟩ := (jr_1.resolve_right (fun h => absurd h.1 ic_2)).2
    refine lv_aload_n hx hb dX8_cursor_14 rfl (lv_at hl 0 rfl) ?_
    refine lv_iload_n hx hb dX8_cursor_15 rfl (lv_at hl 1 rfl) ?_
    have hPc := hP.sub (ws' := [(h0, .inr (8, [.int th, .ref q1, v2, .ref q3, v4, v5, .ref q6, .ref q7, .ref q8, .ref q9, .ref q10, v11, .ref q12, v13, v14, v15, v16])), (q1, .inl (c1, 16, .inl a1))]) [7, 8] rfl
    have hDc := hD.sub (ws' := [(h0, .inr (8, [.int th, .ref q1, v2, .ref q3, v4, v5, .ref q6, .ref q7, .ref q8, .ref q9, .ref q10, v11, .ref q12, v13, v14, v15, v16])), (q1, .inl (c1, 16, .inl a1))]) [7, 8] (by decide) rfl
    have hKc := hK.sub (tys' := [(c1, .int)]) [0] rfl
    have hFc := va_free (wc := [(h0, .inr (8, [.int th, .ref q1, v2, .ref q3, v4, v5, .ref q6, .ref q7, .ref q8, .ref q9, .ref q10, v11, .ref q12, v13, v14, v15, v16])), (q1, .inl (c1, 16, .inl a1))]) hD hS hA [7, 8] rfl
    refine va_calli (va_runV (As := [.int (nI o)]) (rest := []) ⟨hx, hb, hml, hown, hts⟩ (c_X8_isMap l  dC dI H.size h0 th q1 c1 a1 v2 (.ref q3) v4 v5 (.ref q6) (.ref q7) (.ref q8) (.ref q9) (.ref q10) v11 (.ref q12) v13 v14 v15 v16 o ho9) (cwV 1 hts gX8_cursor_X8_isMap rfl rfl rfl (by decide +kernel) ⟨(Nat.le_of_ble_eq_true rfl), (Nat.le_of_ble_eq_true rfl)⟩) ⟨pk_blind, va_recv hKc hPc (ci := 8) (q0 := 0) rfl rfl, pk_call hPc hKc hDc⟩ rfl rfl hl.1 rfl (lv_room (Nat.le_of_ble_eq_true rfl)) dX8_cursor_16 ⟨(Nat.le_of_ble_eq_true rfl), (Nat.le_of_ble_eq_true rfl)⟩) hS (fun q _ h => hFc q h) hFc (fun r_3 ur_3 t H1 locs ht hvm hw hB hz1 hk1 hS => ?_)
    try dsimp only at hw
    have jr_3 := hw
    obtain ⟨hP1, hK1, hD1⟩ := hB
    rw [ht] at hP1
    have hK1 := va_K.moved hvm.symm hK1
    obtain ⟨hP, hD⟩ := va_join (wr := [(q3, .inl (c3, 16, .inl a3)), (q6, .inl (c6, 16, .inl a6)), (q7, .inl (c7, 16, .inl a7)), (q8, .inl (c8, 16, .inl a8)), (q9, .inl (c9, 16, .inl a9)), (q10, .inl (c10, 16, .inl a10)), (q12, .inl (c12, 16, .inl a12))]) (w1 := [(h0, .inr (8, [.int th, .ref q1, v2, .ref q3, v4, v5, .ref q6, .ref q7, .ref q8, .ref q9, .ref q10, v11, .ref q12, v13, v14, v15, v16])), (q1, .inl (c1, 16, .inl a1))]) hP hD [7, 8] [0, 1, 2, 3, 4, 5, 6] rfl rfl (by decide) (by decide) hk1 hFc hP1 hD1
    clear hk1 hz1 ht hPc hDc hKc hFc
    generalize H1 = H at hP hS ⊢
    replace hP : va_P (dC, dI) vwCl [(q3, .inl (c3, 16, .inl a3)), (q6, .inl (c6, 16, .inl a6)), (q7, .inl (c7, 16, .inl a7)), (q8, .inl (c8, 16, .inl a8)), (q9, .inl (c9, 16, .inl a9)), (q10, .inl (c10, 16, .inl a10)), (q12, .inl (c12, 16, .inl a12)), (h0, .inr (8, [.int th, .ref q1, v2, .ref q3, v4, v5, .ref q6, .ref q7, .ref q8, .ref q9, .ref q10, v11, .ref q12, v13, v14, v15, v16])), (q1, .inl (c1, 16, .inl a1))] H := hP
    replace hD : va_D A [(q3, .inl (c3, 16, .inl a3)), (q6, .inl (c6, 16, .inl a6)), (q7, .inl (c7, 16, .inl a7)), (q8, .inl (c8, 16, .inl a8)), (q9, .inl (c9, 16, .inl a9)), (q10, .inl (c10, 16, .inl a10)), (q12, .inl (c12, 16, .inl a12)), (h0, .inr (8, [.int th, .ref q1, v2, .ref q3, v4, v5, .ref q6, .ref q7, .ref q8, .ref q9, .ref q10, v11, .ref q12, v13, v14, v15, v16])), (q1, .inl (c1, 16, .inl a1))] := hD
    refine W.widen (k := 0) (n := 0) (Nat.le_of_ble_eq_true rfl) (Nat.le_of_ble_eq_true rfl) ?_
    refine W.eq (g2 := F0 m 19 ls [.int r_3]) rfl ?_
    refine lv_if_ne (tgt := 28) hx hb dX8_cursor_19 (by decide) (fun c_4 => ?_) (fun c_4 => ?_)
    ·
      have ic_4 : ¬ r_3.toInt = 0 := tx_ne rfl (by decide) c_4
      have hmo : 1 ≤ (a1 o).toInt ∧ (a1 o).toInt ≤ 4 := by omega
      refine lv_aload_n hx hb dX8_cursor_28 rfl (lv_at hl 0 rfl) ?_
      have hPc := hP.sub (ws' := [(h0, .inr (8, [.int th, .ref q1, v2, .ref q3, v4, v5, .ref q6, .ref q7, .ref q8, .ref q9, .ref q10, v11, .ref q12, v13, v14, v15, v16])), (q1, .inl (c1, 16, .inl a1))]) [7, 8] rfl
      have hDc := hD.sub (ws' := [(h0, .inr (8, [.int th, .ref q1, v2, .ref q3, v4, v5, .ref q6, .ref q7, .ref q8, .ref q9, .ref q10, v11, .ref q12, v13, v14, v15, v16])), (q1, .inl (c1, 16, .inl a1))]) [7, 8] (by decide) rfl
      have hKc := hK.sub (tys' := [(c1, .int)]) [0] rfl
      have hFc := va_free (wc := [(h0, .inr (8, [.int th, .ref q1, v2, .ref q3, v4, v5, .ref q6, .ref q7, .ref q8, .ref q9, .ref q10, v11, .ref q12, v13, v14, v15, v16])), (q1, .inl (c1, 16, .inl a1))]) hD hS hA [7, 8] rfl
      refine va_calli (va_runV (As := []) (rest := []) ⟨hx, hb, hml, hown, hts⟩ (c_X8_free l  dC dI H.size h0 th q1 c1 a1 v2 (.ref q3) v4 v5 (.ref q6) (.ref q7) (.ref q8) (.ref q9) (.ref q10) v11 (.ref q12) v13 v14 v15 v16) (cwV 0 hts gX8_cursor_X8_free rfl rfl rfl (by decide +kernel) ⟨(Nat.le_of_ble_eq_true rfl), (Nat.le_of_ble_eq_true rfl)⟩) ⟨pk_blind, va_recv hKc hPc (ci := 8) (q0 := 0) rfl rfl, pk_call hPc hKc hDc⟩ rfl rfl hl.1 rfl (lv_room (Nat.le_of_ble_eq_true rfl)) dX8_cursor_29 ⟨(Nat.le_of_ble_eq_true rfl), (Nat.le_of_ble_eq_true rfl)⟩) hS (fun q _ h => hFc q h) hFc (fun r_5 ur_5 t H1 locs ht hvm hw hB hz1 hk1 hS => ?_)
      try dsimp only at hw
      have jr_5 := hw
      obtain ⟨hP1, hK1, hD1⟩ := hB
      rw [ht] at hP1
      have hK1 := va_K.moved hvm.symm hK1
      obtain ⟨hP, hD⟩ := va_join (wr := [(q3, .inl (c3, 16, .inl a3)), (q6, .inl (c6, 16, .inl a6)), (q7, .inl (c7, 16, .inl a7)), (q8, .inl (c8, 16, .inl a8)), (q9, .inl (c9, 16, .inl a9)), (q10, .inl (c10, 16, .inl a10)), (q12, .inl (c12, 16, .inl a12))]) (w1 := [(h0, .inr (8, [.int th, .ref q1, v2, .ref q3, v4, v5, .ref q6, .ref q7, .ref q8, .ref q9, .ref q10, v11, .ref q12, v13, v14, v15, v16])), (q1, .inl (c1, 16, .inl a1))]) hP hD [7, 8] [0, 1, 2, 3, 4, 5, 6] rfl rfl (by decide) (by decide) hk1 hFc hP1 hD1
      clear hk1 hz1 ht hPc hDc hKc hFc
      generalize H1 = H at hP hS ⊢
      replace hP : va_P (dC, dI) vwCl [(q3, .inl (c3, 16, .inl a3)), (q6, .inl (c6, 16, .inl a6)), (q7, .inl (c7, 16, .inl a7)), (q8, .inl (c8, 16, .inl a8)), (q9, .inl (c9, 16, .inl a9)), (q10, .inl (c10, 16, .inl a10)), (q12, .inl (c12, 16, .inl a12)), (h0, .inr (8, [.int th, .ref q1, v2, .ref q3, v4, v5, .ref q6, .ref q7, .ref q8, .ref q9, .ref q10, v11, .ref q12, v13, v14, v15, v16])), (q1, .inl (c1, 16, .inl a1))] H := hP
      replace hD : va_D A [(q3, .inl (c3, 16, .inl a3)), (q6, .inl (c6, 16, .inl a6)), (q7, .inl (c7, 16, .inl a7)), (q8, .inl (c8, 16, .inl a8)), (q9, .inl (c9, 16, .inl a9)), (q10, .inl (c10, 16, .inl a10)), (q12, .inl (c12, 16, .inl a12)), (h0, .inr (8, [.int th, .ref q1, v2, .ref q3, v4, v5, .ref q6, .ref q7, .ref q8, .ref q9, .ref q10, v11, .ref q12, v13, v14, v15, v16])), (q1, .inl (c1, 16, .inl a1))] := hD
      refine W.widen (k := 0) (n := 0) (Nat.le_of_ble_eq_true rfl) (Nat.le_of_ble_eq_true rfl) ?_
      refine W.eq (g2 := F0 m 32 ls [.int r_5]) rfl ?_
      refine lv_istore_n (lv' := [(2, .int r_5), (0, .ref h0), (1, .int (nI o))]) hx hb dX8_cursor_32 rfl hl (by decide) rfl (fun ls hl => ?_)
      refine lv_iload_n hx hb dX8_cursor_33 rfl (lv_at hl 0 rfl) ?_
      refine lv_if_ge (tgt := 43) hx hb dX8_cursor_34 (by decide) (fun c_6 => ?_) (fun c_6 => ?_)
      ·
        have ic_6 : 0 ≤ r_5.toInt := tx_le (by decide) rfl c_6
        obtain ⟨xx, hxx, rfl, hx1, hx2⟩ := jr_5.resolve_left (fun h => by rw [h.1] at ic_6; exact absurd ic_6 (by decide))
        refine lv_aload_n hx hb dX8_cursor_43 rfl (lv_at hl 1 rfl) ?_
        refine lv_iconst (v := 0) hx hb dX8_cursor_44 (by decide) ?_
        refine va_put (D := (dC, dI)) (ci := 8) (v := .int 0) (ty := .int) (C := RX8) (T := TX8) (N := 17) hx hb hts hi0_ tyX8 tyX8_ok nmX8 hown hK hP hD hS 7 rfl rfl 0 (by decide) hw0_ (fun _ h9 => h9) rfl (by decide +kernel) rfl rfl (Nat.le_of_ble_eq_true rfl) dX8_cursor_45 (fun H locs hP hD hS => ?_)
        replace hP : va_P (dC, dI) vwCl [(q3, .inl (c3, 16, .inl a3)), (q6, .inl (c6, 16, .inl a6)), (q7, .inl (c7, 16, .inl a7)), (q8, .inl (c8, 16, .inl a8)), (q9, .inl (c9, 16, .inl a9)), (q10, .inl (c10, 16, .inl a10)), (q12, .inl (c12, 16, .inl a12)), (h0, .inr (8, [.int 0, .ref q1, v2, .ref q3, v4, v5, .ref q6, .ref q7, .ref q8, .ref q9, .ref q10, v11, .ref q12, v13, v14, v15, v16])), (q1, .inl (c1, 16, .inl a1))] H := hP
        replace hD : va_D A [(q3, .inl (c3, 16, .inl a3)), (q6, .inl (c6, 16, .inl a6)), (q7, .inl (c7, 16, .inl a7)), (q8, .inl (c8, 16, .inl a8)), (q9, .inl (c9, 16, .inl a9)), (q10, .inl (c10, 16, .inl a10)), (q12, .inl (c12, 16, .inl a12)), (h0, .inr (8, [.int 0, .ref q1, v2, .ref q3, v4, v5, .ref q6, .ref q7, .ref q8, .ref q9, .ref q10, v11, .ref q12, v13, v14, v15, v16])), (q1, .inl (c1, 16, .inl a1))] := hD
        refine lv_aload_n hx hb dX8_cursor_48 rfl (lv_at hl 1 rfl) ?_
        refine lv_iload_n hx hb dX8_cursor_49 rfl (lv_at hl 0 rfl) ?_
        refine lv_iconst (v := 5) hx hb dX8_cursor_50 (by decide) ?_
        have hPc := hP.sub (ws' := [(h0, .inr (8, [.int 0, .ref q1, v2, .ref q3, v4, v5, .ref q6, .ref q7, .ref q8, .ref q9, .ref q10, v11, .ref q12, v13, v14, v15, v16])), (q1, .inl (c1, 16, .inl a1)), (q3, .inl (c3, 16, .inl a3)), (q6, .inl (c6, 16, .inl a6)), (q7, .inl (c7, 16, .inl a7)), (q8, .inl (c8, 16, .inl a8))]) [7, 8, 0, 1, 2, 3] rfl
        have hDc := hD.sub (ws' := [(h0, .inr (8, [.int 0, .ref q1, v2, .ref q3, v4, v5, .ref q6, .ref q7, .ref q8, .ref q9, .ref q10, v11, .ref q12, v13, v14, v15, v16])), (q1, .inl (c1, 16, .inl a1)), (q3, .inl (c3, 16, .inl a3)), (q6, .inl (c6, 16, .inl a6)), (q7, .inl (c7, 16, .inl a7)), (q8, .inl (c8, 16, .inl a8))]) [7, 8, 0, 1, 2, 3] (by decide) rfl
        have hKc := hK.sub (tys' := [(c1, .int), (c3, .int), (c6, .int), (c7, .int), (c8, .int)]) [0, 1, 2, 3, 4] rfl
        have hFc := va_free (wc := [(h0, .inr (8, [.int 0, .ref q1, v2, .ref q3, v4, v5, .ref q6, .ref q7, .ref q8, .ref q9, .ref q10, v11, .ref q12, v13, v14, v15, v16])), (q1, .inl (c1, 16, .inl a1)), (q3, .inl (c3, 16, .inl a3)), (q6, .inl (c6, 16, .inl a6)), (q7, .inl (c7, 16, .inl a7)), (q8, .inl (c8, 16, .inl a8))]) hD hS hA [7, 8, 0, 1, 2, 3] rfl
        refine va_calli (va_runV (As := [.int (nI xx), .int 5]) (rest := []) ⟨hx, hb, hml, hown, hts⟩ (c_X8_born l  dC dI H.size h0 0 q1 q3 q6 q7 q8 c1 c3 c6 c7 c8 a1 a3 a6 a7 a8 v2 v4 v5 (.ref q9) (.ref q10) v11 (.ref q12) v13 v14 v15 v16 xx 5 (by omega)) (cwV 2 hts gX8_cursor_X8_born rfl rfl rfl (by decide +kernel) ⟨(Nat.le_of_ble_eq_true rfl), (Nat.le_of_ble_eq_true rfl)⟩) ⟨pk_blind, va_recv hKc hPc (ci := 8) (q0 := 0) rfl rfl, pk_call hPc hKc hDc⟩ rfl rfl hl.1 rfl (lv_room (Nat.le_of_ble_eq_true rfl)) dX8_cursor_51 ⟨(Nat.le_of_ble_eq_true rfl), (Nat.le_of_ble_eq_true rfl)⟩) hS (fun q _ h => hFc q h) hFc (fun r_7 ur_7 t H1 locs ht hvm hw hB hz1 hk1 hS => ?_)
        try dsimp only at hw
        have jr_7 := hw
        obtain ⟨hP1, hK1, hD1⟩ := hB
        rw [ht] at hP1
        have hK1 := va_K.moved hvm.symm hK1
        obtain ⟨hP, hD⟩ := va_join (wr := [(q9, .inl (c9, 16, .inl a9)), (q10, .inl (c10, 16, .inl a10)), (q12, .inl (c12, 16, .inl a12))]) (w1 := [(h0, .inr (8, [.int 0, .ref q1, v2, .ref q3, v4, v5, .ref q6, .ref q7, .ref q8, .ref q9, .ref q10, v11, .ref q12, v13, v14, v15, v16])), (q1, .inl (c1, 16, .inl (upd a1 xx 5))), (q3, .inl (c3, 16, .inl (upd a3 xx 0))), (q6, .inl (c6, 16, .inl (upd a6 xx 0))), (q7, .inl (c7, 16, .inl (upd a7 xx 0))), (q8, .inl (c8, 16, .inl (upd a8 xx (-1))))]) hP hD [7, 8, 0, 1, 2, 3] [4, 5, 6] rfl rfl (by decide) (by decide) hk1 hFc hP1 hD1
        clear hk1 hz1 ht hPc hDc hKc hFc
        generalize H1 = H at hP hS ⊢
        replace hP : va_P (dC, dI) vwCl [(q9, .inl (c9, 16, .inl a9)), (q10, .inl (c10, 16, .inl a10)), (q12, .inl (c12, 16, .inl a12)), (h0, .inr (8, [.int 0, .ref q1, v2, .ref q3, v4, v5, .ref q6, .ref q7, .ref q8, .ref q9, .ref q10, v11, .ref q12, v13, v14, v15, v16])), (q1, .inl (c1, 16, .inl (upd a1 xx 5))), (q3, .inl (c3, 16, .inl (upd a3 xx 0))), (q6, .inl (c6, 16, .inl (upd a6 xx 0))), (q7, .inl (c7, 16, .inl (upd a7 xx 0))), (q8, .inl (c8, 16, .inl (upd a8 xx (-1))))] H := hP
        replace hD : va_D A [(q9, .inl (c9, 16, .inl a9)), (q10, .inl (c10, 16, .inl a10)), (q12, .inl (c12, 16, .inl a12)), (h0, .inr (8, [.int 0, .ref q1, v2, .ref q3, v4, v5, .ref q6, .ref q7, .ref q8, .ref q9, .ref q10, v11, .ref q12, v13, v14, v15, v16])), (q1, .inl (c1, 16, .inl (upd a1 xx 5))), (q3, .inl (c3, 16, .inl (upd a3 xx 0))), (q6, .inl (c6, 16, .inl (upd a6 xx 0))), (q7, .inl (c7, 16, .inl (upd a7 xx 0))), (q8, .inl (c8, 16, .inl (upd a8 xx (-1))))] := hD
        refine W.widen (k := 0) (n := 0) (Nat.le_of_ble_eq_true rfl) (Nat.le_of_ble_eq_true rfl) ?_
        refine W.eq (g2 := F0 m 54 ls [.int r_7]) rfl ?_
        refine lv_pop hx hb dX8_cursor_54 rfl ?_
        refine lv_aload_n hx hb dX8_cursor_55 rfl (lv_at hl 1 rfl) ?_
        refine va_get (D := (dC, dI)) (ci := 8) (v := .ref q8) (C := RX8) (T := TX8) (N := 17) hx hb hts hi0_ hown hK hP 3 rfl rfl 8 (by decide) hw1_ (fun _ h9 => h9) rfl dX8_cursor_56 ?_
        refine lv_iload_n hx hb dX8_cursor_59 rfl (lv_at hl 0 rfl) ?_
        refine lv_iload_n hx hb dX8_cursor_60 rfl (lv_at hl 2 rfl) ?_
        refine va_iast (i := nI xx) hx hb hK hP hD hS 8 4 rfl rfl (vp_in_nI (by omega) (by omega)) dX8_cursor_61 (fun H locs hP hD hS => ?_)
        rw [nI_clamp (by omega)] at hP hD
        replace hP : va_P (dC, dI) vwCl [(q9, .inl (c9, 16, .inl a9)), (q10, .inl (c10, 16, .inl a10)), (q12, .inl (c12, 16, .inl a12)), (h0, .inr (8, [.int 0, .ref q1, v2, .ref q3, v4, v5, .ref q6, .ref q7, .ref q8, .ref q9, .ref q10, v11, .ref q12, v13, v14, v15, v16])), (q1, .inl (c1, 16, .inl (upd a1 xx 5))), (q3, .inl (c3, 16, .inl (upd a3 xx 0))), (q6, .inl (c6, 16, .inl (upd a6 xx 0))), (q7, .inl (c7, 16, .inl (upd a7 xx 0))), (q8, .inl (c8, 16, .inl (upd (upd a8 xx (-1)) xx (nI o))))] H := hP
        replace hD : va_D A [(q9, .inl (c9, 16, .inl a9)), (q10, .inl (c10, 16, .inl a10)), (q12, .inl (c12, 16, .inl a12)), (h0, .inr (8, [.int 0, .ref q1, v2, .ref q3, v4, v5, .ref q6, .ref q7, .ref q8, .ref q9, .ref q10, v11, .ref q12, v13, v14, v15, v16])), (q1, .inl (c1, 16, .inl (upd a1 xx 5))), (q3, .inl (c3, 16, .inl (upd a3 xx 0))), (q6, .inl (c6, 16, .inl (upd a6 xx 0))), (q7, .inl (c7, 16, .inl (upd a7 xx 0))), (q8, .inl (c8, 16, .inl (upd (upd a8 xx (-1)) xx (nI o))))] := hD
        refine lv_aload_n hx hb dX8_cursor_62 rfl (lv_at hl 1 rfl) ?_
        refine va_get (D := (dC, dI)) (ci := 8) (v := .ref q9) (C := RX8) (T := TX8) (N := 17) hx hb hts hi0_ hown hK hP 3 rfl rfl 9 (by decide) hw2_ (fun _ h9 => h9) rfl dX8_cursor_63 ?_
        refine lv_iload_n hx hb dX8_cursor_66 rfl (lv_at hl 0 rfl) ?_
        refine lv_iconst (v := 0) hx hb dX8_cursor_67 (by decide) ?_
        refine va_iast (i := nI xx) hx hb hK hP hD hS 0 5 rfl rfl (vp_in_nI (by omega) (by omega)) dX8_cursor_68 (fun H locs hP hD hS => ?_)
        rw [nI_clamp (by omega)] at hP hD
        replace hP : va_P (dC, dI) vwCl [(q9, .inl (c9, 16, .inl (upd a9 xx 0))), (q10, .inl (c10, 16, .inl a10)), (q12, .inl (c12, 16, .inl a12)), (h0, .inr (8, [.int 0, .ref q1, v2, .ref q3, v4, v5, .ref q6, .ref q7, .ref q8, .ref q9, .ref q10, v11, .ref q12, v13, v14, v15, v16])), (q1, .inl (c1, 16, .inl (upd a1 xx 5))), (q3, .inl (c3, 16, .inl (upd a3 xx 0))), (q6, .inl (c6, 16, .inl (upd a6 xx 0))), (q7, .inl (c7, 16, .inl (upd a7 xx 0))), (q8, .inl (c8, 16, .inl (upd (upd a8 xx (-1)) xx (nI o))))] H := hP
        replace hD : va_D A [(q9, .inl (c9, 16, .inl (upd a9 xx 0))), (q10, .inl (c10, 16, .inl a10)), (q12, .inl (c12, 16, .inl a12)), (h0, .inr (8, [.int 0, .ref q1, v2, .ref q3, v4, v5, .ref q6, .ref q7, .ref q8, .ref q9, .ref q10, v11, .ref q12, v13, v14, v15, v16])), (q1, .inl (c1, 16, .inl (upd a1 xx 5))), (q3, .inl (c3, 16, .inl (upd a3 xx 0))), (q6, .inl (c6, 16, .inl (upd a6 xx 0))), (q7, .inl (c7, 16, .inl (upd a7 xx 0))), (q8, .inl (c8, 16, .inl (upd (upd a8 xx (-1)) xx (nI o))))] := hD
        refine lv_aload_n hx hb dX8_cursor_69 rfl (lv_at hl 1 rfl) ?_
        refine va_get (D := (dC, dI)) (ci := 8) (v := .ref q10) (C := RX8) (T := TX8) (N := 17) hx hb hts hi0_ hown hK hP 3 rfl rfl 10 (by decide) hw3_ (fun _ h9 => h9) rfl dX8_cursor_70 ?_
        refine lv_iload_n hx hb dX8_cursor_73 rfl (lv_at hl 0 rfl) ?_
        refine lv_iconst (v := 0) hx hb dX8_cursor_74 (by decide) ?_
        refine va_iast (i := nI xx) hx hb hK hP hD hS 1 6 rfl rfl (vp_in_nI (by omega) (by omega)) dX8_cursor_75 (fun H locs hP hD hS => ?_)
        rw [nI_clamp (by omega)] at hP hD
        replace hP : va_P (dC, dI) vwCl [(q9, .inl (c9, 16, .inl (upd a9 xx 0))), (q10, .inl (c10, 16, .inl (upd a10 xx 0))), (q12, .inl (c12, 16, .inl a12)), (h0, .inr (8, [.int 0, .ref q1, v2, .ref q3, v4, v5, .ref q6, .ref q7, .ref q8, .ref q9, .ref q10, v11, .ref q12, v13, v14, v15, v16])), (q1, .inl (c1, 16, .inl (upd a1 xx 5))), (q3, .inl (c3, 16, .inl (upd a3 xx 0))), (q6, .inl (c6, 16, .inl (upd a6 xx 0))), (q7, .inl (c7, 16, .inl (upd a7 xx 0))), (q8, .inl (c8, 16, .inl (upd (upd a8 xx (-1)) xx (nI o))))] H := hP
        replace hD : va_D A [(q9, .inl (c9, 16, .inl (upd a9 xx 0))), (q10, .inl (c10, 16, .inl (upd a10 xx 0))), (q12, .inl (c12, 16, .inl a12)), (h0, .inr (8, [.int 0, .ref q1, v2, .ref q3, v4, v5, .ref q6, .ref q7, .ref q8, .ref q9, .ref q10, v11, .ref q12, v13, v14, v15, v16])), (q1, .inl (c1, 16, .inl (upd a1 xx 5))), (q3, .inl (c3, 16, .inl (upd a3 xx 0))), (q6, .inl (c6, 16, .inl (upd a6 xx 0))), (q7, .inl (c7, 16, .inl (upd a7 xx 0))), (q8, .inl (c8, 16, .inl (upd (upd a8 xx (-1)) xx (nI o))))] := hD
        refine lv_aload_n hx hb dX8_cursor_76 rfl (lv_at hl 1 rfl) ?_
        refine va_get (D := (dC, dI)) (ci := 8) (v := .ref q12) (C := RX8) (T := TX8) (N := 17) hx hb hts hi0_ hown hK hP 3 rfl rfl 12 (by decide) hw4_ (fun _ h9 => h9) rfl dX8_cursor_77 ?_
        refine lv_iload_n hx hb dX8_cursor_80 rfl (lv_at hl 0 rfl) ?_
        refine lv_aload_n hx hb dX8_cursor_81 rfl (lv_at hl 1 rfl) ?_
        refine va_get (D := (dC, dI)) (ci := 8) (v := .ref q7) (C := RX8) (T := TX8) (N := 17) hx hb hts hi0_ hown hK hP 3 rfl rfl 7 (by decide) hw5_ (fun _ h9 => h9) rfl dX8_cursor_82 ?_
        refine lv_aload_n hx hb dX8_cursor_85 rfl (lv_at hl 1 rfl) ?_
        refine lv_iload_n hx hb dX8_cursor_86 rfl (lv_at hl 2 rfl) ?_
        have hPc := hP.sub (ws' := [(h0, .inr (8, [.int 0, .ref q1, v2, .ref q3, v4, v5, .ref q6, .ref q7, .ref q8, .ref q9, .ref q10, v11, .ref q12, v13, v14, v15, v16])), (q1, .inl (c1, 16, .inl (upd a1 xx 5))), (q8, .inl (c8, 16, .inl (upd (upd a8 xx (-1)) xx (nI o))))]) [3, 4, 8] rfl
        have hDc := hD.sub (ws' := [(h0, .inr (8, [.int 0, .ref q1, v2, .ref q3, v4, v5, .ref q6, .ref q7, .ref q8, .ref q9, .ref q10, v11, .ref q12, v13, v14, v15, v16])), (q1, .inl (c1, 16, .inl (upd a1 xx 5))), (q8, .inl (c8, 16, .inl (upd (upd a8 xx (-1)) xx (nI o))))]) [3, 4, 8] (by decide) rfl
        have hKc := hK.sub (tys' := [(c1, .int), (c8, .int)]) [0, 4] rfl
        have hFc := va_free (wc := [(h0, .inr (8, [.int 0, .ref q1, v2, .ref q3, v4, v5, .ref q6, .ref q7, .ref q8, .ref q9, .ref q10, v11, .ref q12, v13, v14, v15, v16])), (q1, .inl (c1, 16, .inl (upd a1 xx 5))), (q8, .inl (c8, 16, .inl (upd (upd a8 xx (-1)) xx (nI o))))]) hD hS hA [3, 4, 8] rfl
        refine va_calli (va_runV (As := [.int (nI o)]) (rest := [.ref q7, .int (nI xx), .ref q12]) ⟨hx, hb, hml, hown, hts⟩ (c_X8_root l  dC dI H.size h0 0 q1 q8 c1 c8 (upd a1 xx 5) (upd (upd a8 xx (-1)) xx (nI o)) v2 (.ref q3) v4 v5 (.ref q6) (.ref q7) (.ref q9) (.ref q10) v11 (.ref q12) v13 v14 v15 v16 o (depU dep xx o) ho9 (rF_new hF9 ho9 hx1 hmo (fun h => absurd h (by decide))) (depU_o (fun h => by rw [h] at hmo; omega) (hda o ho9))) (cwV 1 hts gX8_cursor_X8_root rfl rfl rfl (by decide +kernel) ⟨(Nat.le_of_ble_eq_true rfl), (Nat.le_of_ble_eq_true rfl)⟩) ⟨pk_blind, va_recv hKc hPc (ci := 8) (q0 := 0) rfl rfl, pk_call hPc hKc hDc⟩ rfl rfl hl.1 rfl (lv_room (Nat.le_of_ble_eq_true rfl)) dX8_cursor_87 ⟨(Nat.le_of_ble_eq_true rfl), (Nat.le_of_ble_eq_true rfl)⟩) hS (fun q _ h => hFc q h) hFc (fun r_8 ur_8 t H1 locs ht hvm hw hB hz1 hk1 hS => ?_)
        try dsimp only at hw
        have jr_8 := hw
        obtain ⟨hP1, hK1, hD1⟩ := hB
        rw [ht] at hP1
        have hK1 := va_K.moved hvm.symm hK1
        obtain ⟨hP, hD⟩ := va_join (wr := [(q9, .inl (c9, 16, .inl (upd a9 xx 0))), (q10, .inl (c10, 16, .inl (upd a10 xx 0))), (q12, .inl (c12, 16, .inl a12)), (q3, .inl (c3, 16, .inl (upd a3 xx 0))), (q6, .inl (c6, 16, .inl (upd a6 xx 0))), (q7, .inl (c7, 16, .inl (upd a7 xx 0)))]) (w1 := [(h0, .inr (8, [.int 0, .ref q1, v2, .ref q3, v4, v5, .ref q6, .ref q7, .ref q8, .ref q9, .ref q10, v11, .ref q12, v13, v14, v15, v16])), (q1, .inl (c1, 16, .inl (upd a1 xx 5))), (q8, .inl (c8, 16, .inl (upd (upd a8 xx (-1)) xx (nI o))))]) hP hD [3, 4, 8] [0, 1, 2, 5, 6, 7] rfl rfl (by decide) (by decide) hk1 hFc hP1 hD1
        clear hk1 hz1 ht hPc hDc hKc hFc
        generalize H1 = H at hP hS ⊢
        replace hP : va_P (dC, dI) vwCl [(q9, .inl (c9, 16, .inl (upd a9 xx 0))), (q10, .inl (c10, 16, .inl (upd a10 xx 0))), (q12, .inl (c12, 16, .inl a12)), (q3, .inl (c3, 16, .inl (upd a3 xx 0))), (q6, .inl (c6, 16, .inl (upd a6 xx 0))), (q7, .inl (c7, 16, .inl (upd a7 xx 0))), (h0, .inr (8, [.int 0, .ref q1, v2, .ref q3, v4, v5, .ref q6, .ref q7, .ref q8, .ref q9, .ref q10, v11, .ref q12, v13, v14, v15, v16])), (q1, .inl (c1, 16, .inl (upd a1 xx 5))), (q8, .inl (c8, 16, .inl (upd (upd a8 xx (-1)) xx (nI o))))] H := hP
        replace hD : va_D A [(q9, .inl (c9, 16, .inl (upd a9 xx 0))), (q10, .inl (c10, 16, .inl (upd a10 xx 0))), (q12, .inl (c12, 16, .inl a12)), (q3, .inl (c3, 16, .inl (upd a3 xx 0))), (q6, .inl (c6, 16, .inl (upd a6 xx 0))), (q7, .inl (c7, 16, .inl (upd a7 xx 0))), (h0, .inr (8, [.int 0, .ref q1, v2, .ref q3, v4, v5, .ref q6, .ref q7, .ref q8, .ref q9, .ref q10, v11, .ref q12, v13, v14, v15, v16])), (q1, .inl (c1, 16, .inl (upd a1 xx 5))), (q8, .inl (c8, 16, .inl (upd (upd a8 xx (-1)) xx (nI o))))] := hD
        refine W.widen (k := 0) (n := 0) (Nat.le_of_ble_eq_true rfl) (Nat.le_of_ble_eq_true rfl) ?_
        obtain ⟨rfl, hr9, -⟩ := jr_8
        refine W.eq (g2 := F0 m 90 ls [.int (nI (rtN (upd a1 xx 5) (upd (upd a8 xx (-1)) xx (nI o)) 17 o)), .ref q7, .int (nI xx), .ref q12]) rfl ?_
        refine va_iald (i := nI (rtN (upd a1 xx 5) (upd (upd a8 xx (-1)) xx (nI o)) 17 o)) hx hb hK hP 5 3 rfl rfl (vp_in_nI (by omega) (by omega)) dX8_cursor_90 ?_
        refine W.eq (g2 := F0 m 91 ls [.int ((upd a7 xx 0) (rtN (upd a1 xx 5) (upd (upd a8 xx (-1)) xx (nI o)) 17 o)), .int (nI xx), .ref q12]) (by rw [nI_clamp (by omega)]) ?_
        refine va_iast (i := nI xx) hx hb hK hP hD hS 2 7 rfl rfl (vp_in_nI (by omega) (by omega)) dX8_cursor_91 (fun H locs hP hD hS => ?_)
        rw [nI_clamp (by omega)] at hP hD
        replace hP : va_P (dC, dI) vwCl [(q9, .inl (c9, 16, .inl (upd a9 xx 0))), (q10, .inl (c10, 16, .inl (upd a10 xx 0))), (q12, .inl (c12, 16, .inl (upd a12 xx ((upd a7 xx 0) (rtN (upd a1 xx 5) (upd (upd a8 xx (-1)) xx (nI o)) 17 o))))), (q3, .inl (c3, 16, .inl (upd a3 xx 0))), (q6, .inl (c6, 16, .inl (upd a6 xx 0))), (q7, .inl (c7, 16, .inl (upd a7 xx 0))), (h0, .inr (8, [.int 0, .ref q1, v2, .ref q3, v4, v5, .ref q6, .ref q7, .ref q8, .ref q9, .ref q10, v11, .ref q12, v13, v14, v15, v16])), (q1, .inl (c1, 16, .inl (upd a1 xx 5))), (q8, .inl (c8, 16, .inl (upd (upd a8 xx (-1)) xx (nI o))))] H := hP
        replace hD : va_D A [(q9, .inl (c9, 16, .inl (upd a9 xx 0))), (q10, .inl (c10, 16, .inl (upd a10 xx 0))), (q12, .inl (c12, 16, .inl (upd a12 xx ((upd a7 xx 0) (rtN (upd a1 xx 5) (upd (upd a8 xx (-1)) xx (nI o)) 17 o))))), (q3, .inl (c3, 16, .inl (upd a3 xx 0))), (q6, .inl (c6, 16, .inl (upd a6 xx 0))), (q7, .inl (c7, 16, .inl (upd a7 xx 0))), (h0, .inr (8, [.int 0, .ref q1, v2, .ref q3, v4, v5, .ref q6, .ref q7, .ref q8, .ref q9, .ref q10, v11, .ref q12, v13, v14, v15, v16])), (q1, .inl (c1, 16, .inl (upd a1 xx 5))), (q8, .inl (c8, 16, .inl (upd (upd a8 xx (-1)) xx (nI o))))] := hD
        refine lv_iload_n hx hb dX8_cursor_92 rfl (lv_at hl 0 rfl) ?_
        have hP9 := hP.sub (ws' := [(h0, .inr (8, [.int 0, .ref q1, v2, .ref q3, v4, v5, .ref q6, .ref q7, .ref q8, .ref q9, .ref q10, v11, .ref q12, v13, v14, v15, v16])), (q1, .inl (c1, 16, .inl (upd a1 xx 5))), (q3, .inl (c3, 16, .inl (upd a3 xx 0))), (q6, .inl (c6, 16, .inl (upd a6 xx 0))), (q7, .inl (c7, 16, .inl (upd a7 xx 0))), (q8, .inl (c8, 16, .inl (upd (upd a8 xx (-1)) xx (nI o)))), (q9, .inl (c9, 16, .inl (upd a9 xx 0))), (q10, .inl (c10, 16, .inl (upd a10 xx 0))), (q12, .inl (c12, 16, .inl (upd a12 xx ((upd a7 xx 0) (rtN (upd a1 xx 5) (upd (upd a8 xx (-1)) xx (nI o)) 17 o)))))]) [6, 7, 3, 4, 5, 8, 0, 1, 2] rfl
        have hD9 := hD.sub (ws' := [(h0, .inr (8, [.int 0, .ref q1, v2, .ref q3, v4, v5, .ref q6, .ref q7, .ref q8, .ref q9, .ref q10, v11, .ref q12, v13, v14, v15, v16])), (q1, .inl (c1, 16, .inl (upd a1 xx 5))), (q3, .inl (c3, 16, .inl (upd a3 xx 0))), (q6, .inl (c6, 16, .inl (upd a6 xx 0))), (q7, .inl (c7, 16, .inl (upd a7 xx 0))), (q8, .inl (c8, 16, .inl (upd (upd a8 xx (-1)) xx (nI o)))), (q9, .inl (c9, 16, .inl (upd a9 xx 0))), (q10, .inl (c10, 16, .inl (upd a10 xx 0))), (q12, .inl (c12, 16, .inl (upd a12 xx ((upd a7 xx 0) (rtN (upd a1 xx 5) (upd (upd a8 xx (-1)) xx (nI o)) 17 o)))))]) [6, 7, 3, 4, 5, 8, 0, 1, 2] (by decide) rfl
        have hK9 := hK.sub (tys' := [(c1, .int), (c3, .int), (c6, .int), (c7, .int), (c8, .int), (c9, .int), (c10, .int), (c12, .int)]) [0, 1, 2, 3, 4, 5, 6, 7] rfl
        refine W.widen (k := 0) (n := 0) (Nat.le_of_ble_eq_true rfl) (Nat.le_of_ble_eq_true rfl) ?_
        exact W.iret (v := nI xx) hx hb hr (fun t ht hW => ⟨⟨nI xx, (0, (upd a1 xx 5), (upd a3 xx 0), (upd a6 xx 0), (upd a7 xx 0), (upd (upd a8 xx (-1)) xx (nI o)), (upd a9 xx 0), (upd a10 xx 0), (upd a12 xx ((upd a7 xx 0) (rtN (upd a1 xx 5) (upd (upd a8 xx (-1)) xx (nI o)) 17 o)))), rfl, ⟨0, o, xx, by unfold cuR; exact Or.inr ⟨ho9, rfl, hko, Or.inr ⟨hmo, Or.inr ⟨rfl, hxx, hx1, hx2⟩⟩⟩, rfl, fun _ => ⟨rfl, rfl, rfl, rfl, rfl, rfl, rfl, rfl, rfl⟩, fun h => absurd rfl h⟩, by rw [ht]; exact hP9, va_K.moved hW.alike hK9, hD9⟩, hS.F ht⟩) hS.2.2 dX8_cursor_93
      ·
        have ic_6 : r_5.toInt < 0 := tx_nle (by decide) rfl c_6
        have hfull : fullO a1 := (jr_5.resolve_right (fun ⟨o, h1, h2, _⟩ => by rw [h2, nI_toInt (by omega)] at ic_6; omega)).2
        refine lv_aload_n hx hb dX8_cursor_37 rfl (lv_at hl 1 rfl) ?_
        refine lv_iconst (v := 3) hx hb dX8_cursor_38 (by decide) ?_
        have hPc := hP.sub (ws' := [(h0, .inr (8, [.int th, .ref q1, v2, .ref q3, v4, v5, .ref q6, .ref q7, .ref q8, .ref q9, .ref q10, v11, .ref q12, v13, v14, v15, v16]))]) [7] rfl
        have hDc := hD.sub (ws' := [(h0, .inr (8, [.int th, .ref q1, v2, .ref q3, v4, v5, .ref q6, .ref q7, .ref q8, .ref q9, .ref q10, v11, .ref q12, v13, v14, v15, v16]))]) [7] (by decide) rfl
        have hKc := hK.sub (tys' := []) [] rfl
        have hFc := va_free (wc := [(h0, .inr (8, [.int th, .ref q1, v2, .ref q3, v4, v5, .ref q6, .ref q7, .ref q8, .ref q9, .ref q10, v11, .ref q12, v13, v14, v15, v16]))]) hD hS hA [7] rfl
        refine va_calli (va_runV (As := [.int 3]) (rest := []) ⟨hx, hb, hml, hown, hts⟩ (c_X8_refuse l  dC dI H.size h0 th (.ref q1) v2 (.ref q3) v4 v5 (.ref q6) (.ref q7) (.ref q8) (.ref q9) (.ref q10) v11 (.ref q12) v13 v14 v15 v16 3) (cwV 1 hts gX8_cursor_X8_refuse rfl rfl rfl (by decide +kernel) ⟨(Nat.le_of_ble_eq_true rfl), (Nat.le_of_ble_eq_true rfl)⟩) ⟨pk_blind, va_recv hKc hPc (ci := 8) (q0 := 0) rfl rfl, pk_call hPc hKc hDc⟩ rfl rfl hl.1 rfl (lv_room (Nat.le_of_ble_eq_true rfl)) dX8_cursor_39 ⟨(Nat.le_of_ble_eq_true rfl), (Nat.le_of_ble_eq_true rfl)⟩) hS (fun q _ h => hFc q h) hFc (fun r_9 ur_9 t H1 locs ht hvm hw hB hz1 hk1 hS => ?_)
        try dsimp only at hw
        obtain ⟨hP1, hK1, hD1⟩ := hB
        rw [ht] at hP1
        have hK1 := va_K.moved hvm.symm hK1
        obtain ⟨hP, hD⟩ := va_join (wr := [(q3, .inl (c3, 16, .inl a3)), (q6, .inl (c6, 16, .inl a6)), (q7, .inl (c7, 16, .inl a7)), (q8, .inl (c8, 16, .inl a8)), (q9, .inl (c9, 16, .inl a9)), (q10, .inl (c10, 16, .inl a10)), (q12, .inl (c12, 16, .inl a12)), (q1, .inl (c1, 16, .inl a1))]) (w1 := [(h0, .inr (8, [.int 3, .ref q1, v2, .ref q3, v4, v5, .ref q6, .ref q7, .ref q8, .ref q9, .ref q10, v11, .ref q12, v13, v14, v15, v16]))]) hP hD [7] [0, 1, 2, 3, 4, 5, 6, 8] rfl rfl (by decide) (by decide) hk1 hFc hP1 hD1
        clear hk1 hz1 ht hPc hDc hKc hFc
        generalize H1 = H at hP hS ⊢
        replace hP : va_P (dC, dI) vwCl [(q3, .inl (c3, 16, .inl a3)), (q6, .inl (c6, 16, .inl a6)), (q7, .inl (c7, 16, .inl a7)), (q8, .inl (c8, 16, .inl a8)), (q9, .inl (c9, 16, .inl a9)), (q10, .inl (c10, 16, .inl a10)), (q12, .inl (c12, 16, .inl a12)), (q1, .inl (c1, 16, .inl a1)), (h0, .inr (8, [.int 3, .ref q1, v2, .ref q3, v4, v5, .ref q6, .ref q7, .ref q8, .ref q9, .ref q10, v11, .ref q12, v13, v14, v15, v16]))] H := hP
        replace hD : va_D A [(q3, .inl (c3, 16, .inl a3)), (q6, .inl (c6, 16, .inl a6)), (q7, .inl (c7, 16, .inl a7)), (q8, .inl (c8, 16, .inl a8)), (q9, .inl (c9, 16, .inl a9)), (q10, .inl (c10, 16, .inl a10)), (q12, .inl (c12, 16, .inl a12)), (q1, .inl (c1, 16, .inl a1)), (h0, .inr (8, [.int 3, .ref q1, v2, .ref q3, v4, v5, .ref q6, .ref q7, .ref q8, .ref q9, .ref q10, v11, .ref q12, v13, v14, v15, v16]))] := hD
        refine W.widen (k := 0) (n := 0) (Nat.le_of_ble_eq_true rfl) (Nat.le_of_ble_eq_true rfl) ?_
        obtain rfl : r_9 = 0 := hw
        refine W.eq (g2 := F0 m 42 ls [.int 0]) rfl ?_
        have hP9 := hP.sub (ws' := [(h0, .inr (8, [.int 3, .ref q1, v2, .ref q3, v4, v5, .ref q6, .ref q7, .ref q8, .ref q9, .ref q10, v11, .ref q12, v13, v14, v15, v16])), (q1, .inl (c1, 16, .inl a1)), (q3, .inl (c3, 16, .inl a3)), (q6, .inl (c6, 16, .inl a6)), (q7, .inl (c7, 16, .inl a7)), (q8, .inl (c8, 16, .inl a8)), (q9, .inl (c9, 16, .inl a9)), (q10, .inl (c10, 16, .inl a10)), (q12, .inl (c12, 16, .inl a12))]) [8, 7, 0, 1, 2, 3, 4, 5, 6] rfl
        have hD9 := hD.sub (ws' := [(h0, .inr (8, [.int 3, .ref q1, v2, .ref q3, v4, v5, .ref q6, .ref q7, .ref q8, .ref q9, .ref q10, v11, .ref q12, v13, v14, v15, v16])), (q1, .inl (c1, 16, .inl a1)), (q3, .inl (c3, 16, .inl a3)), (q6, .inl (c6, 16, .inl a6)), (q7, .inl (c7, 16, .inl a7)), (q8, .inl (c8, 16, .inl a8)), (q9, .inl (c9, 16, .inl a9)), (q10, .inl (c10, 16, .inl a10)), (q12, .inl (c12, 16, .inl a12))]) [8, 7, 0, 1, 2, 3, 4, 5, 6] (by decide) rfl
        have hK9 := hK.sub (tys' := [(c1, .int), (c3, .int), (c6, .int), (c7, .int), (c8, .int), (c9, .int), (c10, .int), (c12, .int)]) [0, 1, 2, 3, 4, 5, 6, 7] rfl
        refine W.widen (k := 0) (n := 0) (Nat.le_of_ble_eq_true rfl) (Nat.le_of_ble_eq_true rfl) ?_
        exact W.iret (v := 0) hx hb hr (fun t ht hW => ⟨⟨0, (3, a1, a3, a6, a7, a8, a9, a10, a12), rfl, ⟨3, o, 0, by unfold cuR; exact Or.inr ⟨ho9, rfl, hko, Or.inr ⟨hmo, Or.inl ⟨rfl, hfull⟩⟩⟩, rfl, fun h => absurd h (by decide), fun _ => ⟨rfl, rfl, rfl, rfl, rfl, rfl, rfl, rfl, rfl⟩⟩, by rw [ht]; exact hP9, va_K.moved hW.alike hK9, hD9⟩, hS.F ht⟩) hS.2.2 dX8_cursor_42
    ·
      have ic_4 : r_3.toInt = 0 := tx_eq rfl (by decide) c_4
      refine lv_aload_n hx hb dX8_cursor_22 rfl (lv_at hl 0 rfl) ?_
      refine lv_iconst (v := 2) hx hb dX8_cursor_23 (by decide) ?_
      have hPc := hP.sub (ws' := [(h0, .inr (8, [.int th, .ref q1, v2, .ref q3, v4, v5, .ref q6, .ref q7, .ref q8, .ref q9, .ref q10, v11, .ref q12, v13, v14, v15, v16]))]) [7] rfl
      have hDc := hD.sub (ws' := [(h0, .inr (8, [.int th, .ref q1, v2, .ref q3, v4, v5, .ref q6, .ref q7, .ref q8, .ref q9, .ref q10, v11, .ref q12, v13, v14, v15, v16]))]) [7] (by decide) rfl
      have hKc := hK.sub (tys' := []) [] rfl
      have hFc := va_free (wc := [(h0, .inr (8, [.int th, .ref q1, v2, .ref q3, v4, v5, .ref q6, .ref q7, .ref q8, .ref q9, .ref q10, v11, .ref q12, v13, v14, v15, v16]))]) hD hS hA [7] rfl
      refine va_calli (va_runV (As := [.int 2]) (rest := []) ⟨hx, hb, hml, hown, hts⟩ (c_X8_refuse l  dC dI H.size h0 th (.ref q1) v2 (.ref q3) v4 v5 (.ref q6) (.ref q7) (.ref q8) (.ref q9) (.ref q10) v11 (.ref q12) v13 v14 v15 v16 2) (cwV 1 hts gX8_cursor_X8_refuse rfl rfl rfl (by decide +kernel) ⟨(Nat.le_of_ble_eq_true rfl), (Nat.le_of_ble_eq_true rfl)⟩) ⟨pk_blind, va_recv hKc hPc (ci := 8) (q0 := 0) rfl rfl, pk_call hPc hKc hDc⟩ rfl rfl hl.1 rfl (lv_room (Nat.le_of_ble_eq_true rfl)) dX8_cursor_24 ⟨(Nat.le_of_ble_eq_true rfl), (Nat.le_of_ble_eq_true rfl)⟩) hS (fun q _ h => hFc q h) hFc (fun r_10 ur_10 t H1 locs ht hvm hw hB hz1 hk1 hS => ?_)
      try dsimp only at hw
      obtain ⟨hP1, hK1, hD1⟩ := hB
      rw [ht] at hP1
      have hK1 := va_K.moved hvm.symm hK1
      obtain ⟨hP, hD⟩ := va_join (wr := [(q3, .inl (c3, 16, .inl a3)), (q6, .inl (c6, 16, .inl a6)), (q7, .inl (c7, 16, .inl a7)), (q8, .inl (c8, 16, .inl a8)), (q9, .inl (c9, 16, .inl a9)), (q10, .inl (c10, 16, .inl a10)), (q12, .inl (c12, 16, .inl a12)), (q1, .inl (c1, 16, .inl a1))]) (w1 := [(h0, .inr (8, [.int 2, .ref q1, v2, .ref q3, v4, v5, .ref q6, .ref q7, .ref q8, .ref q9, .ref q10, v11, .ref q12, v13, v14, v15, v16]))]) hP hD [7] [0, 1, 2, 3, 4, 5, 6, 8] rfl rfl (by decide) (by decide) hk1 hFc hP1 hD1
      clear hk1 hz1 ht hPc hDc hKc hFc
      generalize H1 = H at hP hS ⊢
      replace hP : va_P (dC, dI) vwCl [(q3, .inl (c3, 16, .inl a3)), (q6, .inl (c6, 16, .inl a6)), (q7, .inl (c7, 16, .inl a7)), (q8, .inl (c8, 16, .inl a8)), (q9, .inl (c9, 16, .inl a9)), (q10, .inl (c10, 16, .inl a10)), (q12, .inl (c12, 16, .inl a12)), (q1, .inl (c1, 16, .inl a1)), (h0, .inr (8, [.int 2, .ref q1, v2, .ref q3, v4, v5, .ref q6, .ref q7, .ref q8, .ref q9, .ref q10, v11, .ref q12, v13, v14, v15, v16]))] H := hP
      replace hD : va_D A [(q3, .inl (c3, 16, .inl a3)), (q6, .inl (c6, 16, .inl a6)), (q7, .inl (c7, 16, .inl a7)), (q8, .inl (c8, 16, .inl a8)), (q9, .inl (c9, 16, .inl a9)), (q10, .inl (c10, 16, .inl a10)), (q12, .inl (c12, 16, .inl a12)), (q1, .inl (c1, 16, .inl a1)), (h0, .inr (8, [.int 2, .ref q1, v2, .ref q3, v4, v5, .ref q6, .ref q7, .ref q8, .ref q9, .ref q10, v11, .ref q12, v13, v14, v15, v16]))] := hD
      refine W.widen (k := 0) (n := 0) (Nat.le_of_ble_eq_true rfl) (Nat.le_of_ble_eq_true rfl) ?_
      obtain rfl : r_10 = 0 := hw
      refine W.eq (g2 := F0 m 27 ls [.int 0]) rfl ?_
      have hP9 := hP.sub (ws' := [(h0, .inr (8, [.int 2, .ref q1, v2, .ref q3, v4, v5, .ref q6, .ref q7, .ref q8, .ref q9, .ref q10, v11, .ref q12, v13, v14, v15, v16])), (q1, .inl (c1, 16, .inl a1)), (q3, .inl (c3, 16, .inl a3)), (q6, .inl (c6, 16, .inl a6)), (q7, .inl (c7, 16, .inl a7)), (q8, .inl (c8, 16, .inl a8)), (q9, .inl (c9, 16, .inl a9)), (q10, .inl (c10, 16, .inl a10)), (q12, .inl (c12, 16, .inl a12))]) [8, 7, 0, 1, 2, 3, 4, 5, 6] rfl
      have hD9 := hD.sub (ws' := [(h0, .inr (8, [.int 2, .ref q1, v2, .ref q3, v4, v5, .ref q6, .ref q7, .ref q8, .ref q9, .ref q10, v11, .ref q12, v13, v14, v15, v16])), (q1, .inl (c1, 16, .inl a1)), (q3, .inl (c3, 16, .inl a3)), (q6, .inl (c6, 16, .inl a6)), (q7, .inl (c7, 16, .inl a7)), (q8, .inl (c8, 16, .inl a8)), (q9, .inl (c9, 16, .inl a9)), (q10, .inl (c10, 16, .inl a10)), (q12, .inl (c12, 16, .inl a12))]) [8, 7, 0, 1, 2, 3, 4, 5, 6] (by decide) rfl
      have hK9 := hK.sub (tys' := [(c1, .int), (c3, .int), (c6, .int), (c7, .int), (c8, .int), (c9, .int), (c10, .int), (c12, .int)]) [0, 1, 2, 3, 4, 5, 6, 7] rfl
      refine W.widen (k := 0) (n := 0) (Nat.le_of_ble_eq_true rfl) (Nat.le_of_ble_eq_true rfl) ?_
      exact W.iret (v := 0) hx hb hr (fun t ht hW => ⟨⟨0, (2, a1, a3, a6, a7, a8, a9, a10, a12), rfl, ⟨2, o, 0, by unfold cuR; exact Or.inr ⟨ho9, rfl, hko, Or.inl ⟨rfl, by omega⟩⟩, rfl, fun h => absurd h (by decide), fun _ => ⟨rfl, rfl, rfl, rfl, rfl, rfl, rfl, rfl, rfl⟩⟩, by rw [ht]; exact hP9, va_K.moved hW.alike hK9, hD9⟩, hS.F ht⟩) hS.2.2 dX8_cursor_27
  ·
    have ic_2 : r_1.toInt = 0 := tx_eq rfl (by decide) c_2
    refine lv_aload_n hx hb dX8_cursor_8 rfl (lv_at hl 0 rfl) ?_
    refine lv_iconst (v := 1) hx hb dX8_cursor_9 (by decide) ?_
    have hPc := hP.sub (ws' := [(h0, .inr (8, [.int th, .ref q1, v2, .ref q3, v4, v5, .ref q6, .ref q7, .ref q8, .ref q9, .ref q10, v11, .ref q12, v13, v14, v15, v16]))]) [7] rfl
    have hDc := hD.sub (ws' := [(h0, .inr (8, [.int th, .ref q1, v2, .ref q3, v4, v5, .ref q6, .ref q7, .ref q8, .ref q9, .ref q10, v11, .ref q12, v13, v14, v15, v16]))]) [7] (by decide) rfl
    have hKc := hK.sub (tys' := []) [] rfl
    have hFc := va_free (wc := [(h0, .inr (8, [.int th, .ref q1, v2, .ref q3, v4, v5, .ref q6, .ref q7, .ref q8, .ref q9, .ref q10, v11, .ref q12, v13, v14, v15, v16]))]) hD hS hA [7] rfl
    refine va_calli (va_runV (As := [.int 1]) (rest := []) ⟨hx, hb, hml, hown, hts⟩ (c_X8_refuse l  dC dI H.size h0 th (.ref q1) v2 (.ref q3) v4 v5 (.ref q6) (.ref q7) (.ref q8) (.ref q9) (.ref q10) v11 (.ref q12) v13 v14 v15 v16 1) (cwV 1 hts gX8_cursor_X8_refuse rfl rfl rfl (by decide +kernel) ⟨(Nat.le_of_ble_eq_true rfl), (Nat.le_of_ble_eq_true rfl)⟩) ⟨pk_blind, va_recv hKc hPc (ci := 8) (q0 := 0) rfl rfl, pk_call hPc hKc hDc⟩ rfl rfl hl.1 rfl (lv_room (Nat.le_of_ble_eq_true rfl)) dX8_cursor_10 ⟨(Nat.le_of_ble_eq_true rfl), (Nat.le_of_ble_eq_true rfl)⟩) hS (fun q _ h => hFc q h) hFc (fun r_11 ur_11 t H1 locs ht hvm hw hB hz1 hk1 hS => ?_)
    try dsimp only at hw
    obtain ⟨hP1, hK1, hD1⟩ := hB
    rw [ht] at hP1
    have hK1 := va_K.moved hvm.symm hK1
    obtain ⟨hP, hD⟩ := va_join (wr := [(q3, .inl (c3, 16, .inl a3)), (q6, .inl (c6, 16, .inl a6)), (q7, .inl (c7, 16, .inl a7)), (q8, .inl (c8, 16, .inl a8)), (q9, .inl (c9, 16, .inl a9)), (q10, .inl (c10, 16, .inl a10)), (q12, .inl (c12, 16, .inl a12)), (q1, .inl (c1, 16, .inl a1))]) (w1 := [(h0, .inr (8, [.int 1, .ref q1, v2, .ref q3, v4, v5, .ref q6, .ref q7, .ref q8, .ref q9, .ref q10, v11, .ref q12, v13, v14, v15, v16]))]) hP hD [7] [0, 1, 2, 3, 4, 5, 6, 8] rfl rfl (by decide) (by decide) hk1 hFc hP1 hD1
    clear hk1 hz1 ht hPc hDc hKc hFc
    generalize H1 = H at hP hS ⊢
    replace hP : va_P (dC, dI) vwCl [(q3, .inl (c3, 16, .inl a3)), (q6, .inl (c6, 16, .inl a6)), (q7, .inl (c7, 16, .inl a7)), (q8, .inl (c8, 16, .inl a8)), (q9, .inl (c9, 16, .inl a9)), (q10, .inl (c10, 16, .inl a10)), (q12, .inl (c12, 16, .inl a12)), (q1, .inl (c1, 16, .inl a1)), (h0, .inr (8, [.int 1, .ref q1, v2, .ref q3, v4, v5, .ref q6, .ref q7, .ref q8, .ref q9, .ref q10, v11, .ref q12, v13, v14, v15, v16]))] H := hP
    replace hD : va_D A [(q3, .inl (c3, 16, .inl a3)), (q6, .inl (c6, 16, .inl a6)), (q7, .inl (c7, 16, .inl a7)), (q8, .inl (c8, 16, .inl a8)), (q9, .inl (c9, 16, .inl a9)), (q10, .inl (c10, 16, .inl a10)), (q12, .inl (c12, 16, .inl a12)), (q1, .inl (c1, 16, .inl a1)), (h0, .inr (8, [.int 1, .ref q1, v2, .ref q3, v4, v5, .ref q6, .ref q7, .ref q8, .ref q9, .ref q10, v11, .ref q12, v13, v14, v15, v16]))] := hD
    refine W.widen (k := 0) (n := 0) (Nat.le_of_ble_eq_true rfl) (Nat.le_of_ble_eq_true rfl) ?_
    obtain rfl : r_11 = 0 := hw
    refine W.eq (g2 := F0 m 13 ls [.int 0]) rfl ?_
    have hP9 := hP.sub (ws' := [(h0, .inr (8, [.int 1, .ref q1, v2, .ref q3, v4, v5, .ref q6, .ref q7, .ref q8, .ref q9, .ref q10, v11, .ref q12, v13, v14, v15, v16])), (q1, .inl (c1, 16, .inl a1)), (q3, .inl (c3, 16, .inl a3)), (q6, .inl (c6, 16, .inl a6)), (q7, .inl (c7, 16, .inl a7)), (q8, .inl (c8, 16, .inl a8)), (q9, .inl (c9, 16, .inl a9)), (q10, .inl (c10, 16, .inl a10)), (q12, .inl (c12, 16, .inl a12))]) [8, 7, 0, 1, 2, 3, 4, 5, 6] rfl
    have hD9 := hD.sub (ws' := [(h0, .inr (8, [.int 1, .ref q1, v2, .ref q3, v4, v5, .ref q6, .ref q7, .ref q8, .ref q9, .ref q10, v11, .ref q12, v13, v14, v15, v16])), (q1, .inl (c1, 16, .inl a1)), (q3, .inl (c3, 16, .inl a3)), (q6, .inl (c6, 16, .inl a6)), (q7, .inl (c7, 16, .inl a7)), (q8, .inl (c8, 16, .inl a8)), (q9, .inl (c9, 16, .inl a9)), (q10, .inl (c10, 16, .inl a10)), (q12, .inl (c12, 16, .inl a12))]) [8, 7, 0, 1, 2, 3, 4, 5, 6] (by decide) rfl
    have hK9 := hK.sub (tys' := [(c1, .int), (c3, .int), (c6, .int), (c7, .int), (c8, .int), (c9, .int), (c10, .int), (c12, .int)]) [0, 1, 2, 3, 4, 5, 6, 7] rfl
    refine W.widen (k := 0) (n := 0) (Nat.le_of_ble_eq_true rfl) (Nat.le_of_ble_eq_true rfl) ?_
    exact W.iret (v := 0) hx hb hr (fun t ht hW => ⟨⟨0, (1, a1, a3, a6, a7, a8, a9, a10, a12), rfl, ⟨1, 0, 0, by unfold cuR; exact Or.inl ⟨rfl, (jr_1.resolve_left (fun h => absurd ic_2 (by rw [h.1]; decide))).2⟩, rfl, fun h => absurd h (by decide), fun _ => ⟨rfl, rfl, rfl, rfl, rfl, rfl, rfl, rfl, rfl⟩⟩, by rw [ht]; exact hP9, va_K.moved hW.alike hK9, hD9⟩, hS.F ht⟩) hS.2.2 dX8_cursor_13
