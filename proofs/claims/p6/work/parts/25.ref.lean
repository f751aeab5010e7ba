theorem dX8_item_0 : decode cX8_item 0 = .ok (.aload_n 0, 1) := by decide +kernel
theorem dX8_item_1 : decode cX8_item 1 = .ok (.iload_n 1, 1) := by decide +kernel
set_option maxRecDepth 20000 in
theorem ggX8_item_X8_isThere : GoodIn wsX8_item wsX8_isThere := goodIn_r _ [6, 7, 8, 9, 5, 10, 67, 68, 69, 70, 71, 72, 73, 74, 75, 76, 77, 78, 79, 80, 81, 82, 83] rfl (by decide +kernel)
set_option maxRecDepth 20000 in
theorem gX8_item_X8_isThere : GoodIn wsX8_item (wsV RX8 80 RX8 yX8_isThere wsX8_isThere) := goodIn_app (goodIn_of _ (by decide +kernel)) ggX8_item_X8_isThere
theorem dX8_item_2 : decode cX8_item 2 = .ok (.invokevirtual 80, 3) := by decide +kernel
theorem dX8_item_5 : decode cX8_item 5 = .ok (.ifCond .ne 10, 3) := by decide +kernel
theorem dX8_item_15 : decode cX8_item 15 = .ok (.aload_n 0, 1) := by decide +kernel
theorem dX8_item_16 : decode cX8_item 16 = .ok (.iload_n 1, 1) := by decide +kernel
set_option maxRecDepth 20000 in
theorem ggX8_item_X8_isMap : GoodIn wsX8_item wsX8_isMap := goodIn_r _ [18, 7, 67, 68, 69, 70, 71, 72, 73, 74, 75, 76, 77, 78, 79, 80, 81, 82, 83] rfl (by decide +kernel)
set_option maxRecDepth 20000 in
theorem gX8_item_X8_isMap : GoodIn wsX8_item (wsV RX8 143 RX8 yX8_isMap wsX8_isMap) := goodIn_app (goodIn_of _ (by decide +kernel)) ggX8_item_X8_isMap
theorem dX8_item_17 : decode cX8_item 17 = .ok (.invokevirtual 143, 3) := by decide +kernel
theorem dX8_item_20 : decode cX8_item 20 = .ok (.ifCond .ne 10, 3) := by decide +kernel
theorem dX8_item_30 : decode cX8_item 30 = .ok (.iload_n 3, 1) := by decide +kernel
theorem dX8_item_31 : decode cX8_item 31 = .ok (.iconst 0, 1) := by decide +kernel
theorem dX8_item_32 : decode cX8_item 32 = .ok (.iconst 1, 1) := by decide +kernel
set_option maxRecDepth 20000 in
theorem ggX8_item_X8_in : GoodIn wsX8_item wsX8_in := goodIn_r _ [10] rfl (by decide +kernel)
set_option maxRecDepth 20000 in
theorem gX8_item_X8_in : GoodIn wsX8_item (va_wsS RX8 64 yX8_in wsX8_in) := goodIn_app (goodIn_of _ (by decide +kernel)) ggX8_item_X8_in
theorem dX8_item_33 : decode cX8_item 33 = .ok (.invokestatic 64, 3) := by decide +kernel
theorem dX8_item_36 : decode cX8_item 36 = .ok (.ifCond .ne 10, 3) := by decide +kernel
theorem dX8_item_46 : decode cX8_item 46 = .ok (.iload_n 2, 1) := by decide +kernel
theorem dX8_item_47 : decode cX8_item 47 = .ok (.iconst 0, 1) := by decide +kernel
theorem dX8_item_48 : decode cX8_item 48 = .ok (.aload_n 0, 1) := by decide +kernel
theorem dX8_item_49 : decode cX8_item 49 = .ok (.iload_n 1, 1) := by decide +kernel
set_option maxRecDepth 20000 in
theorem ggX8_item_X8_entries : GoodIn wsX8_item wsX8_entries := goodIn_r _ [22, 23, 24, 25, 26, 5, 27, 7, 28, 29, 30, 31, 32, 33, 34, 35, 36, 37, 38, 39, 40, 41, 42, 43, 44, 45, 46, 47, 48, 49, 50, 51, 52, 53, 54, 55, 56, 57, 58, 67, 68, 69, 70, 71, 72, 73, 74, 75, 76, 77, 78, 79, 80, 81, 82, 83] rfl (by decide +kernel)
set_option maxRecDepth 20000 in
theorem gX8_item_X8_entries : GoodIn wsX8_item (wsV RX8 158 RX8 yX8_entries wsX8_entries) := goodIn_app (goodIn_of _ (by decide +kernel)) ggX8_item_X8_entries
theorem dX8_item_50 : decode cX8_item 50 = .ok (.invokevirtual 158, 3) := by decide +kernel
theorem dX8_item_53 : decode cX8_item 53 = .ok (.iconst 1, 1) := by decide +kernel
theorem dX8_item_54 : decode cX8_item 54 = .ok (.isub, 1) := by decide +kernel
theorem dX8_item_55 : decode cX8_item 55 = .ok (.invokestatic 64, 3) := by decide +kernel
theorem dX8_item_58 : decode cX8_item 58 = .ok (.ifCond .ne 10, 3) := by decide +kernel
theorem dX8_item_68 : decode cX8_item 68 = .ok (.aload_n 0, 1) := by decide +kernel
theorem dX8_item_69 : decode cX8_item 69 = .ok (.iconst 0, 1) := by decide +kernel
theorem dX8_item_70 : decode cX8_item 70 = .ok (.putfield 60, 3) := by decide +kernel
theorem dX8_item_73 : decode cX8_item 73 = .ok (.aload_n 0, 1) := by decide +kernel
theorem dX8_item_74 : decode cX8_item 74 = .ok (.iload_n 1, 1) := by decide +kernel
theorem dX8_item_75 : decode cX8_item 75 = .ok (.iload_n 2, 1) := by decide +kernel
set_option maxRecDepth 20000 in
theorem ggX8_item_X8_nth : GoodIn wsX8_item wsX8_nth := goodIn_r _ [62, 23, 24, 25, 26, 5, 27, 7, 28, 55, 56, 57, 58, 38, 29, 30, 31, 32, 33, 34, 35, 36, 37, 39, 40, 41, 42, 43, 44, 45, 46, 47, 48, 49, 50, 51, 52, 53, 54, 67, 68, 69, 70, 71, 72, 73, 74, 75, 76, 77, 78, 79, 80, 81, 82, 83] rfl (by decide +kernel)
set_option maxRecDepth 20000 in
theorem gX8_item_X8_nth : GoodIn wsX8_item (wsV RX8 188 RX8 yX8_nth wsX8_nth) := goodIn_app (goodIn_of _ (by decide +kernel)) ggX8_item_X8_nth
theorem dX8_item_76 : decode cX8_item 76 = .ok (.invokevirtual 188, 3) := by decide +kernel
theorem dX8_item_79 : decode cX8_item 79 = .ok (.istore 4, 2) := by decide +kernel
theorem dX8_item_81 : decode cX8_item 81 = .ok (.iload_n 3, 1) := by decide +kernel
theorem dX8_item_82 : decode cX8_item 82 = .ok (.ifCond .ne 18, 3) := by decide +kernel
theorem dX8_item_100 : decode cX8_item 100 = .ok (.aload_n 0, 1) := by decide +kernel
theorem dX8_item_101 : decode cX8_item 101 = .ok (.aload_n 0, 1) := by decide +kernel
theorem dX8_item_102 : decode cX8_item 102 = .ok (.iload_n 1, 1) := by decide +kernel
set_option maxRecDepth 20000 in
theorem ggX8_item_X8_root : GoodIn wsX8_item wsX8_root := goodIn_r _ [27, 7, 28, 67, 68, 69, 70, 71, 72, 73, 74, 75, 76, 77, 78, 79, 80, 81, 82, 83] rfl (by decide +kernel)
set_option maxRecDepth 20000 in
theorem gX8_item_X8_root : GoodIn wsX8_item (wsV RX8 95 RX8 yX8_root wsX8_root) := goodIn_app (goodIn_of _ (by decide +kernel)) ggX8_item_X8_root
theorem dX8_item_103 : decode cX8_item 103 = .ok (.invokevirtual 95, 3) := by decide +kernel
theorem dX8_item_106 : decode cX8_item 106 = .ok (.iload 4, 2) := by decide +kernel
set_option maxRecDepth 20000 in
theorem ggX8_item_X8_value : GoodIn wsX8_item wsX8_value := goodIn_r _ [66, 33, 67, 68, 69, 70, 71, 72, 73, 74, 75, 76, 77, 78, 79, 80, 81, 82, 83] rfl (by decide +kernel)
set_option maxRecDepth 20000 in
theorem gX8_item_X8_value : GoodIn wsX8_item (wsV RX8 118 RX8 yX8_value wsX8_value) := goodIn_app (goodIn_of _ (by decide +kernel)) ggX8_item_X8_value
theorem dX8_item_108 : decode cX8_item 108 = .ok (.invokevirtual 118, 3) := by decide +kernel
theorem dX8_item_111 : decode cX8_item 111 = .ok (.i2l, 1) := by decide +kernel
theorem dX8_item_112 : decode cX8_item 112 = .ok (.lreturn, 1) := by decide +kernel
theorem dX8_item_85 : decode cX8_item 85 = .ok (.aload_n 0, 1) := by decide +kernel
theorem dX8_item_86 : decode cX8_item 86 = .ok (.aload_n 0, 1) := by decide +kernel
theorem dX8_item_87 : decode cX8_item 87 = .ok (.iload_n 1, 1) := by decide +kernel
theorem dX8_item_88 : decode cX8_item 88 = .ok (.invokevirtual 95, 3) := by decide +kernel
theorem dX8_item_91 : decode cX8_item 91 = .ok (.iload 4, 2) := by decide +kernel
set_option maxRecDepth 20000 in
theorem ggX8_item_X8_key : GoodIn wsX8_item wsX8_key := goodIn_r _ [32, 33, 67, 68, 69, 70, 71, 72, 73, 74, 75, 76, 77, 78, 79, 80, 81, 82, 83] rfl (by decide +kernel)
set_option maxRecDepth 20000 in
theorem gX8_item_X8_key : GoodIn wsX8_item (wsV RX8 111 RX8 yX8_key wsX8_key) := goodIn_app (goodIn_of _ (by decide +kernel)) ggX8_item_X8_key
theorem dX8_item_93 : decode cX8_item 93 = .ok (.invokevirtual 111, 3) := by decide +kernel
theorem dX8_item_96 : decode cX8_item 96 = .ok (.i2l, 1) := by decide +kernel
theorem dX8_item_97 : decode cX8_item 97 = .ok (.goto 15, 3) := by decide +kernel
theorem dX8_item_61 : decode cX8_item 61 = .ok (.aload_n 0, 1) := by decide +kernel
theorem dX8_item_62 : decode cX8_item 62 = .ok (.iconst 4, 1) := by decide +kernel
set_option maxRecDepth 20000 in
theorem ggX8_item_X8_refuse : GoodIn wsX8_item wsX8_refuse := goodIn_r _ [14, 1, 67, 68, 69, 70, 71, 72, 73, 74, 75, 76, 77, 78, 79, 80, 81, 82, 83] rfl (by decide +kernel)
set_option maxRecDepth 20000 in
theorem gX8_item_X8_refuse : GoodIn wsX8_item (wsV RX8 68 RX8 yX8_refuse wsX8_refuse) := goodIn_app (goodIn_of _ (by decide +kernel)) ggX8_item_X8_refuse
theorem dX8_item_63 : decode cX8_item 63 = .ok (.invokevirtual 68, 3) := by decide +kernel
theorem dX8_item_66 : decode cX8_item 66 = .ok (.i2l, 1) := by decide +kernel
theorem dX8_item_67 : decode cX8_item 67 = .ok (.lreturn, 1) := by decide +kernel
theorem dX8_item_39 : decode cX8_item 39 = .ok (.aload_n 0, 1) := by decide +kernel
theorem dX8_item_40 : decode cX8_item 40 = .ok (.iconst 3, 1) := by decide +kernel
theorem dX8_item_41 : decode cX8_item 41 = .ok (.invokevirtual 68, 3) := by decide +kernel
theorem dX8_item_44 : decode cX8_item 44 = .ok (.i2l, 1) := by decide +kernel
theorem dX8_item_45 : decode cX8_item 45 = .ok (.lreturn, 1) := by decide +kernel
theorem dX8_item_23 : decode cX8_item 23 = .ok (.aload_n 0, 1) := by decide +kernel
theorem dX8_item_24 : decode cX8_item 24 = .ok (.iconst 2, 1) := by decide +kernel
theorem dX8_item_25 : decode cX8_item 25 = .ok (.invokevirtual 68, 3) := by decide +kernel
theorem dX8_item_28 : decode cX8_item 28 = .ok (.i2l, 1) := by decide +kernel
theorem dX8_item_29 : decode cX8_item 29 = .ok (.lreturn, 1) := by decide +kernel
theorem dX8_item_8 : decode cX8_item 8 = .ok (.aload_n 0, 1) := by decide +kernel
theorem dX8_item_9 : decode cX8_item 9 = .ok (.iconst 1, 1) := by decide +kernel
theorem dX8_item_10 : decode cX8_item 10 = .ok (.invokevirtual 68, 3) := by decide +kernel
theorem dX8_item_13 : decode cX8_item 13 = .ok (.i2l, 1) := by decide +kernel
theorem dX8_item_14 : decode cX8_item 14 = .ok (.lreturn, 1) := by decide +kernel
theorem dX8_count_32 : decode cX8_count 32 = .ok (.aload_n 0, 1) := by decide +kernel
theorem dX8_count_33 : decode cX8_count 33 = .ok (.iconst 0, 1) := by decide +kernel
theorem dX8_count_34 : decode cX8_count 34 = .ok (.putfield 60, 3) := by decide +kernel
theorem dX8_count_37 : decode cX8_count 37 = .ok (.iload_n 1, 1) := by decide +kernel
theorem dX8_count_38 : decode cX8_count 38 = .ok (.ifCond .ne 38, 3) := by decide +kernel
theorem dX8_count_76 : decode cX8_count 76 = .ok (.iload_n 1, 1) := by decide +kernel
theorem dX8_count_77 : decode cX8_count 77 = .ok (.bipush 30, 2) := by decide +kernel
theorem dX8_count_79 : decode cX8_count 79 = .ok (.if_icmp .ge 15, 3) := by decide +kernel
theorem dX8_count_94 : decode cX8_count 94 = .ok (.aload_n 0, 1) := by decide +kernel
theorem dX8_count_95 : decode cX8_count 95 = .ok (.iload_n 1, 1) := by decide +kernel
theorem dX8_count_96 : decode cX8_count 96 = .ok (.bipush 30, 2) := by decide +kernel
theorem dX8_count_98 : decode cX8_count 98 = .ok (.isub, 1) := by decide +kernel
set_option maxRecDepth 20000 in
theorem ggX8_count_X8_isMap : GoodIn wsX8_count wsX8_isMap := goodIn_r _ [14, 2, 55, 56, 57, 58, 59, 60, 61, 62, 63, 64, 65, 66, 67, 68, 69, 70, 71] rfl (by decide +kernel)
set_option maxRecDepth 20000 in
theorem gX8_count_X8_isMap : GoodIn wsX8_count (wsV RX8 143 RX8 yX8_isMap wsX8_isMap) := goodIn_app (goodIn_of _ (by decide +kernel)) ggX8_count_X8_isMap
theorem dX8_count_99 : decode cX8_count 99 = .ok (.invokevirtual 143, 3) := by decide +kernel
theorem dX8_count_102 : decode cX8_count 102 = .ok (.ifCond .eq 14, 3) := by decide +kernel
theorem dX8_count_116 : decode cX8_count 116 = .ok (.iconst (-1), 1) := by decide +kernel
theorem dX8_count_117 : decode cX8_count 117 = .ok (.ireturn, 1) := by decide +kernel
theorem dX8_count_105 : decode cX8_count 105 = .ok (.aload_n 0, 1) := by decide +kernel
theorem dX8_count_106 : decode cX8_count 106 = .ok (.iload_n 1, 1) := by decide +kernel
theorem dX8_count_107 : decode cX8_count 107 = .ok (.bipush 30, 2) := by decide +kernel
theorem dX8_count_109 : decode cX8_count 109 = .ok (.isub, 1) := by decide +kernel
set_option maxRecDepth 20000 in
theorem ggX8_count_X8_entries : GoodIn wsX8_count wsX8_entries := goodIn_r _ [18, 19, 20, 21, 22, 5, 23, 2, 24, 25, 26, 27, 28, 29, 30, 31, 32, 33, 34, 35, 36, 37, 38, 39, 40, 41, 42, 43, 44, 45, 46, 47, 48, 49, 50, 51, 52, 53, 54, 55, 56, 57, 58, 59, 60, 61, 62, 63, 64, 65, 66, 67, 68, 69, 70, 71] rfl (by decide +kernel)
set_option maxRecDepth 20000 in
theorem gX8_count_X8_entries : GoodIn wsX8_count (wsV RX8 158 RX8 yX8_entries wsX8_entries) := goodIn_app (goodIn_of _ (by decide +kernel)) ggX8_count_X8_entries
theorem dX8_count_110 : decode cX8_count 110 = .ok (.invokevirtual 158, 3) := by decide +kernel
theorem dX8_count_113 : decode cX8_count 113 = .ok (.goto 4, 3) := by decide +kernel
theorem dX8_count_82 : decode cX8_count 82 = .ok (.aload_n 0, 1) := by decide +kernel
theorem dX8_count_83 : decode cX8_count 83 = .ok (.getfield 7, 3) := by decide +kernel
theorem dX8_count_86 : decode cX8_count 86 = .ok (.iload_n 1, 1) := by decide +kernel
theorem dX8_count_87 : decode cX8_count 87 = .ok (.bipush 10, 2) := by decide +kernel
theorem dX8_count_89 : decode cX8_count 89 = .ok (.isub, 1) := by decide +kernel
theorem dX8_count_90 : decode cX8_count 90 = .ok (.iaload, 1) := by decide +kernel
theorem dX8_count_91 : decode cX8_count 91 = .ok (.iconst 1, 1) := by decide +kernel
theorem dX8_count_92 : decode cX8_count 92 = .ok (.isub, 1) := by decide +kernel
theorem dX8_count_93 : decode cX8_count 93 = .ok (.ireturn, 1) := by decide +kernel
theorem dX8_count_41 : decode cX8_count 41 = .ok (.iconst 0, 1) := by decide +kernel
theorem dX8_count_42 : decode cX8_count 42 = .ok (.istore_n 2, 1) := by decide +kernel
theorem dX8_count_43 : decode cX8_count 43 = .ok (.iconst 0, 1) := by decide +kernel
theorem dX8_count_44 : decode cX8_count 44 = .ok (.istore_n 3, 1) := by decide +kernel
theorem dX8_count_45 : decode cX8_count 45 = .ok (.iload_n 3, 1) := by decide +kernel
theorem dX8_count_46 : decode cX8_count 46 = .ok (.bipush 16, 2) := by decide +kernel
theorem dX8_count_48 : decode cX8_count 48 = .ok (.if_icmp .ge 26, 3) := by decide +kernel
theorem dX8_count_74 : decode cX8_count 74 = .ok (.iload_n 2, 1) := by decide +kernel
theorem dX8_count_75 : decode cX8_count 75 = .ok (.ireturn, 1) := by decide +kernel
theorem dX8_count_51 : decode cX8_count 51 = .ok (.iload_n 2, 1) := by decide +kernel
theorem dX8_count_52 : decode cX8_count 52 = .ok (.aload_n 0, 1) := by decide +kernel
theorem dX8_count_53 : decode cX8_count 53 = .ok (.getfield 7, 3) := by decide +kernel
theorem dX8_count_56 : decode cX8_count 56 = .ok (.iload_n 3, 1) := by decide +kernel
theorem dX8_count_57 : decode cX8_count 57 = .ok (.iaload, 1) := by decide +kernel
theorem dX8_count_58 : decode cX8_count 58 = .ok (.ifCond .eq 7, 3) := by decide +kernel
theorem dX8_count_65 : decode cX8_count 65 = .ok (.iconst 0, 1) := by decide +kernel
theorem dX8_count_66 : decode cX8_count 66 = .ok (.iadd, 1) := by decide +kernel
theorem dX8_count_67 : decode cX8_count 67 = .ok (.istore_n 2, 1) := by decide +kernel
theorem dX8_count_68 : decode cX8_count 68 = .ok (.iinc 3 1, 3) := by decide +kernel
theorem dX8_count_71 : decode cX8_count 71 = .ok (.goto (-26), 3) := by decide +kernel
theorem dX8_count_61 : decode cX8_count 61 = .ok (.iconst 1, 1) := by decide +kernel
theorem dX8_count_62 : decode cX8_count 62 = .ok (.goto 4, 3) := by decide +kernel
theorem dX8_count_0 : decode cX8_count 0 = .ok (.iload_n 1, 1) := by decide +kernel
theorem dX8_count_1 : decode cX8_count 1 = .ok (.ifCond .eq 31, 3) := by decide +kernel
theorem dX8_count_4 : decode cX8_count 4 = .ok (.iload_n 1, 1) := by decide +kernel
theorem dX8_count_5 : decode cX8_count 5 = .ok (.bipush 10, 2) := by decide +kernel
theorem dX8_count_7 : decode cX8_count 7 = .ok (.bipush 25, 2) := by decide +kernel
set_option maxRecDepth 20000 in
theorem ggX8_count_X8_in : GoodIn wsX8_count wsX8_in := goodIn_r _ [6] rfl (by decide +kernel)
set_option maxRecDepth 20000 in
theorem gX8_count_X8_in : GoodIn wsX8_count (va_wsS RX8 64 yX8_in wsX8_in) := goodIn_app (goodIn_of _ (by decide +kernel)) ggX8_count_X8_in
theorem dX8_count_9 : decode cX8_count 9 = .ok (.invokestatic 64, 3) := by decide +kernel
theorem dX8_count_12 : decode cX8_count 12 = .ok (.ifCond .ne 20, 3) := by decide +kernel
theorem dX8_count_15 : decode cX8_count 15 = .ok (.iload_n 1, 1) := by decide +kernel
theorem dX8_count_16 : decode cX8_count 16 = .ok (.bipush 30, 2) := by decide +kernel
theorem dX8_count_18 : decode cX8_count 18 = .ok (.bipush 45, 2) := by decide +kernel
theorem dX8_count_20 : decode cX8_count 20 = .ok (.invokestatic 64, 3) := by decide +kernel
theorem dX8_count_23 : decode cX8_count 23 = .ok (.ifCond .ne 9, 3) := by decide +kernel
theorem dX8_count_26 : decode cX8_count 26 = .ok (.aload_n 0, 1) := by decide +kernel
theorem dX8_count_27 : decode cX8_count 27 = .ok (.iconst 1, 1) := by decide +kernel
set_option maxRecDepth 20000 in
theorem ggX8_count_X8_refuse : GoodIn wsX8_count wsX8_refuse := goodIn_r _ [10, 1, 55, 56, 57, 58, 59, 60, 61, 62, 63, 64, 65, 66, 67, 68, 69, 70, 71] rfl (by decide +kernel)
set_option maxRecDepth 20000 in
theorem gX8_count_X8_refuse : GoodIn wsX8_count (wsV RX8 68 RX8 yX8_refuse wsX8_refuse) := goodIn_app (goodIn_of _ (by decide +kernel)) ggX8_count_X8_refuse
theorem dX8_count_28 : decode cX8_count 28 = .ok (.invokevirtual 68, 3) := by decide +kernel
theorem dX8_count_31 : decode cX8_count 31 = .ok (.ireturn, 1) := by decide +kernel
set_option maxHeartbeats 4000000 in
set_option maxRecDepth 100000 in
/-- item -/
theorem c_X8_item (l : Launch) (dC : Nat → ClassId) (dI : Nat → Nat → Nat) (sz : Nat) (h0 : Nat) (th : Int32) (q1 : Nat) (q2 : Nat) (q3 : Nat) (q4 : Nat) (q8 : Nat) (q9 : Nat) (q10 : Nat) (q11 : Nat) (c1 : ClassId) (c2 : ClassId) (c3 : ClassId) (c4 : ClassId) (c8 : ClassId) (c9 : ClassId) (c10 : ClassId) (c11 : ClassId) (a1 : Nat → Int32) (a2 : Nat → Int32) (a3 : Nat → Int32) (a4 : Nat → Int32) (a8 : Nat → Int32) (a9 : Nat → Int32) (a10 : Nat → Int32) (a11 : Nat → Int32) (v5 : Value) (v6 : Value) (v7 : Value) (v12 : Value) (v13 : Value) (v14 : Value) (v15 : Value) (v16 : Value) (dep : Nat → Nat) (p0 : Int32) (p1 : Int32) (p2 : Int32) (hF9 : rF a1 a8 dep) (hda : ∀ o : Nat, o < 16 → dep o < 17) (hSa : ∀ r : Nat, r < 16 → 1 ≤ (a1 r).toInt → (a1 r).toInt ≤ 3 → ∃ nz : Nat, a3 r = nI nz ∧ nz ≤ 1000) : Met l yX8_item wsX8_item ({ frames := 5, cells := 0, slots := 0, locals := 190 }) (va_Pc [.ref h0, .int p0, .int p1, .int p2] (pk_Pre (dC, dI) [(h0, .inr (8, [.int th, .ref q1, .ref q2, .ref q3, .ref q4, v5, v6, v7, .ref q8, .ref q9, .ref q10, .ref q11, v12, v13, v14, v15, v16])), (q1, .inl (c1, 16, .inl a1)), (q2, .inl (c2, 67200, .inl a2)), (q3, .inl (c3, 16, .inl a3)), (q4, .inl (c4, 16, .inl a4)), (q8, .inl (c8, 16, .inl a8)), (q9, .inl (c9, 16, .inl a9)), (q10, .inl (c10, 16, .inl a10)), (q11, .inl (c11, 16, .inl a11))] [(c1, .int), (c2, .int), (c3, .int), (c4, .int), (c8, .int), (c9, .int), (c10, .int), (c11, .int)] sz)) (va_Ql (fun (x : Int64) (u : Int32) => True) (fun (u : Int32) (t : State) => va_P (dC, dI) vwCl [(h0, .inr (8, [.int u, .ref q1, .ref q2, .ref q3, .ref q4, v5, v6, v7, .ref q8, .ref q9, .ref q10, .ref q11, v12, v13, v14, v15, v16])), (q1, .inl (c1, 16, .inl a1)), (q2, .inl (c2, 67200, .inl a2)), (q3, .inl (c3, 16, .inl a3)), (q4, .inl (c4, 16, .inl a4)), (q8, .inl (c8, 16, .inl a8)), (q9, .inl (c9, 16, .inl a9)), (q10, .inl (c10, 16, .inl a10)), (q11, .inl (c11, 16, .inl a11))] t.heap ∧ va_K (dC, dI) vwCl [(c1, .int), (c2, .int), (c3, .int), (c4, .int), (c8, .int), (c9, .int), (c10, .int), (c11, .int)] t ∧ va_D (va_A [(h0, .inr (8, [.int th, .ref q1, .ref q2, .ref q3, .ref q4, v5, v6, v7, .ref q8, .ref q9, .ref q10, .ref q11, v12, v13, v14, v15, v16])), (q1, .inl (c1, 16, .inl a1)), (q2, .inl (c2, 67200, .inl a2)), (q3, .inl (c3, 16, .inl a3)), (q4, .inl (c4, 16, .inl a4)), (q8, .inl (c8, 16, .inl a8)), (q9, .inl (c9, 16, .inl a9)), (q10, .inl (c10, 16, .inl a10)), (q11, .inl (c11, 16, .inl a11))] sz) [(h0, .inr (8, [.int u, .ref q1, .ref q2, .ref q3, .ref q4, v5, v6, v7, .ref q8, .ref q9, .ref q10, .ref q11, v12, v13, v14, v15, v16])), (q1, .inl (c1, 16, .inl a1)), (q2, .inl (c2, 67200, .inl a2)), (q3, .inl (c3, 16, .inl a3)), (q4, .inl (c4, 16, .inl a4)), (q8, .inl (c8, 16, .inl a8)), (q9, .inl (c9, 16, .inl a9)), (q10, .inl (c10, 16, .inl a10)), (q11, .inl (c11, 16, .inl a11))]) (va_A [(h0, .inr (8, [.int th, .ref q1, .ref q2, .ref q3, .ref q4, v5, v6, v7, .ref q8, .ref q9, .ref q10, .ref q11, v12, v13, v14, v15, v16])), (q1, .inl (c1, 16, .inl a1)), (q2, .inl (c2, 67200, .inl a2)), (q3, .inl (c3, 16, .inl a3)), (q4, .inl (c4, 16, .inl a4)), (q8, .inl (c8, 16, .inl a8)), (q9, .inl (c9, 16, .inl a9)), (q10, .inl (c10, 16, .inl a10)), (q11, .inl (c11, 16, .inl a11))] sz)) 0 0 (va_A [(h0, .inr (8, [.int th, .ref q1, .ref q2, .ref q3, .ref q4, v5, v6, v7, .ref q8, .ref q9, .ref q10, .ref q11, v12, v13, v14, v15, v16])), (q1, .inl (c1, 16, .inl a1)), (q2, .inl (c2, 67200, .inl a2)), (q3, .inl (c3, 16, .inl a3)), (q4, .inl (c4, 16, .inl a4)), (q8, .inl (c8, 16, .inl a8)), (q9, .inl (c9, 16, .inl a9)), (q10, .inl (c10, 16, .inl a10)), (q11, .inl (c11, 16, .inl a11))] sz) := by
  refine Met.ofW (cc := cX8_item) (maxL := 5) (ret := (some .long)) (by decide) rfl ?_
  intro p e s m args below meth c s₁ B hml hv
  obtain ⟨rfl, hsz, hP, hK, hD0⟩ := hv
  have hx := B.exec
  have hb := B.bytes
  have hr := B.returns
  have hts := atoms_spec (ws := wsX8_item) B.pre
  have hown : s.vm.findClass RX8 = some m.cls := findClass_of_methodNamed B.named
  have hlocks := B.notSynchronized
  subst hsz
  have hD := hD0.self (sz := s.heap.size)
  generalize hAe : va_A [(h0, .inr (8, [.int th, .ref q1, .ref q2, .ref q3, .ref q4, v5, v6, v7, .ref q8, .ref q9, .ref q10, .ref q11, v12, v13, v14, v15, v16])), (q1, .inl (c1, 16, .inl a1)), (q2, .inl (c2, 67200, .inl a2)), (q3, .inl (c3, 16, .inl a3)), (q4, .inl (c4, 16, .inl a4)), (q8, .inl (c8, 16, .inl a8)), (q9, .inl (c9, 16, .inl a9)), (q10, .inl (c10, 16, .inl a10)), (q11, .inl (c11, 16, .inl a11))] s.heap.size = A at hD ⊢
  have hA : ∀ q : Nat, s.heap.size ≤ q → A q := fun q h => by rw [← hAe]; exact Or.inr h
  have hS : va_S A s.heap s.heap [] := va_S.rf
  have hP : va_P (dC, dI) vwCl [(h0, .inr (8, [.int th, .ref q1, .ref q2, .ref q3, .ref q4, v5, v6, v7, .ref q8, .ref q9, .ref q10, .ref q11, v12, v13, v14, v15, v16])), (q1, .inl (c1, 16, .inl a1)), (q2, .inl (c2, 67200, .inl a2)), (q3, .inl (c3, 16, .inl a3)), (q4, .inl (c4, 16, .inl a4)), (q8, .inl (c8, 16, .inl a8)), (q9, .inl (c9, 16, .inl a9)), (q10, .inl (c10, 16, .inl a10)), (q11, .inl (c11, 16, .inl a11))] s.heap := hP
  have hl := lv_entry ([.ref h0, .int p0, .int p1, .int p2]) (n := 5) (Nat.le_of_ble_eq_true rfl)
  rw [lg_entry_eq]
  generalize (lg_sl ([.ref h0, .int p0, .int p1, .int p2]) ++ List.replicate (5 - (lg_sl ([.ref h0, .int p0, .int p1, .int p2])).length) Slot.unset).toArray = ls at hl ⊢
  have hl : lv_has ls 5 [(0, .ref h0), (1, .int p0), (2, .int p1), (3, .int p2)] := hl
  have hw0_ := hts (.fieldLink RX8 60 "KeyAtlasModel" "thrown" "I") (List.mem_of_getElem? (l := wsX8_item) (i := 1) rfl)
  have hi0_ : ∀ w ∈ u_ws RX8 TX8 17, w ∈ wsX8_item := fun w h => List.mem_cons_of_mem _ (List.mem_append_right _ h)
  refine lv_aload_n hx hb dX8_item_0 rfl (lv_at hl 0 rfl) ?_
  refine lv_iload_n hx hb dX8_item_1 rfl (lv_at hl 1 rfl) ?_
  have hPc := hP.sub (ws' := [(h0, .inr (8, [.int th, .ref q1, .ref q2, .ref q3, .ref q4, v5, v6, v7, .ref q8, .ref q9, .ref q10, .ref q11, v12, v13, v14, v15, v16])), (q1, .inl (c1, 16, .inl a1))]) [0, 1] rfl
  have hDc := hD.sub (ws' := [(h0, .inr (8, [.int th, .ref q1, .ref q2, .ref q3, .ref q4, v5, v6, v7, .ref q8, .ref q9, .ref q10, .ref q11, v12, v13, v14, v15, v16])), (q1, .inl (c1, 16, .inl a1))]) [0, 1] (by decide) rfl
  have hKc := hK.sub (tys' := [(c1, .int)]) [0] rfl
  have hFc := va_free (wc := [(h0, .inr (8, [.int th, .ref q1, .ref q2, .ref q3, .ref q4, v5, v6, v7, .ref q8, .ref q9, .ref q10, .ref q11, v12, v13, v14, v15, v16])), (q1, .inl (c1, 16, .inl a1))]) hD hS hA [0, 1] rfl
  refine va_calli (va_runV (As := [.int p0]) (rest := []) ⟨hx, hb, hml, hown, hts⟩ (c_X8_isThere l  dC dI s.heap.size h0 th q1 c1 a1 (.ref q2) (.ref q3) (.ref q4) v5 v6 v7 (.ref q8) (.ref q9) (.ref q10) (.ref q11) v12 v13 v14 v15 v16 p0) (cwV 1 hts gX8_item_X8_isThere rfl rfl rfl (by decide +kernel) ⟨(Nat.le_of_ble_eq_true rfl), (Nat.le_of_ble_eq_true rfl)⟩) ⟨pk_blind, va_recv hKc hPc (ci := 8) (q0 := 0) rfl rfl, pk_call hPc hKc hDc⟩ rfl rfl hl.1 rfl (lv_room (Nat.le_of_ble_eq_true rfl)) dX8_item_2 ⟨(Nat.le_of_ble_eq_true rfl), (Nat.le_of_ble_eq_true rfl)⟩) hS (fun q _ h => hFc q h) hFc (fun r_1 ur_1 t H1 locs ht hvm hw hB hz1 hk1 hS => ?_)
  try dsimp only at hw
  have jr_1 := hw
  obtain ⟨hP1, hK1, hD1⟩ := hB
  rw [ht] at hP1
  have hK1 := va_K.moved hvm.symm hK1
  obtain ⟨hP, hD⟩ := va_join (wr := [(q2, .inl (c2, 67200, .inl a2)), (q3, .inl (c3, 16, .inl a3)), (q4, .inl (c4, 16, .inl a4)), (q8, .inl (c8, 16, .inl a8)), (q9, .inl (c9, 16, .inl a9)), (q10, .inl (c10, 16, .inl a10)), (q11, .inl (c11, 16, .inl a11))]) (w1 := [(h0, .inr (8, [.int th, .ref q1, .ref q2, .ref q3, .ref q4, v5, v6, v7, .ref q8, .ref q9, .ref q10, .ref q11, v12, v13, v14, v15, v16])), (q1, .inl (c1, 16, .inl a1))]) hP hD [0, 1] [2, 3, 4, 5, 6, 7, 8] rfl rfl (by decide) (by decide) hk1 hFc hP1 hD1
  clear hk1 hz1 ht hPc hDc hKc hFc
  generalize H1 = H at hP hS ⊢
  replace hP : va_P (dC, dI) vwCl [(q2, .inl (c2, 67200, .inl a2)), (q3, .inl (c3, 16, .inl a3)), (q4, .inl (c4, 16, .inl a4)), (q8, .inl (c8, 16, .inl a8)), (q9, .inl (c9, 16, .inl a9)), (q10, .inl (c10, 16, .inl a10)), (q11, .inl (c11, 16, .inl a11)), (h0, .inr (8, [.int th, .ref q1, .ref q2, .ref q3, .ref q4, v5, v6, v7, .ref q8, .ref q9, .ref q10, .ref q11, v12, v13, v14, v15, v16])), (q1, .inl (c1, 16, .inl a1))] H := hP
  replace hD : va_D A [(q2, .inl (c2, 67200, .inl a2)), (q3, .inl (c3, 16, .inl a3)), (q4, .inl (c4, 16, .inl a4)), (q8, .inl (c8, 16, .inl a8)), (q9, .inl (c9, 16, .inl a9)), (q10, .inl (c10, 16, .inl a10)), (q11, .inl (c11, 16, .inl a11)), (h0, .inr (8, [.int th, .ref q1, .ref q2, .ref q3, .ref q4, v5, v6, v7, .ref q8, .ref q9, .ref q10, .ref q11, v12, v13, v14, v15, v16])), (q1, .inl (c1, 16, .inl a1))] := hD
  refine W.widen (k := 0) (n := 0) (Nat.le_of_ble_eq_true rfl) (Nat.le_of_ble_eq_true rfl) ?_
  refine W.eq (g2 := F0 m 5 ls [.int r_1]) rfl ?_
  refine lv_if_ne (tgt := 15) hx hb dX8_item_5 (by decide) (fun c_2 => ?_) (fun c_2 => ?_)
  ·
    have ic_2 : ¬ r_1.toInt = 0 := tx_ne rfl (by decide) c_2
    obtain ⟨o, ho9, rfl, hko⟩ := (jr_1.resolve_right (fun h => absurd h.1 ic_2)).2
    refine lv_aload_n hx hb dX8_item_15 rfl (lv_at hl 0 rfl) ?_
    refine lv_iload_n hx hb dX8_item_16 rfl (lv_at hl 1 rfl) ?_
    have hPc := hP.sub (ws' := [(h0, .inr (8, [.int th, .ref q1, .ref q2, .ref q3, .ref q4, v5, v6, v7, .ref q8, .ref q9, .ref q10, .ref q11, v12, v13, v14, v15, v16])), (q1, .inl (c1, 16, .inl a1))]) [7, 8] rfl
    have hDc := hD.sub (ws' := [(h0, .inr (8, [.int th, .ref q1, .ref q2, .ref q3, .ref q4, v5, v6, v7, .ref q8, .ref q9, .ref q10, .ref q11, v12, v13, v14, v15, v16])), (q1, .inl (c1, 16, .inl a1))]) [7, 8] (by decide) rfl
    have hKc := hK.sub (tys' := [(c1, .int)]) [0] rfl
    have hFc := va_free (wc := [(h0, .inr (8, [.int th, .ref q1, .ref q2, .ref q3, .ref q4, v5, v6, v7, .ref q8, .ref q9, .ref q10, .ref q11, v12, v13, v14, v15, v16])), (q1, .inl (c1, 16, .inl a1))]) hD hS hA [7, 8] rfl
    refine va_calli (va_runV (As := [.int (nI o)]) (rest := []) ⟨hx, hb, hml, hown, hts⟩ (c_X8_isMap l  dC dI H.size h0 th q1 c1 a1 (.ref q2) (.ref q3) (.ref q4) v5 v6 v7 (.ref q8) (.ref q9) (.ref q10) (.ref q11) v12 v13 v14 v15 v16 o ho9) (cwV 1 hts gX8_item_X8_isMap rfl rfl rfl (by decide +kernel) ⟨(Nat.le_of_ble_eq_true rfl), (Nat.le_of_ble_eq_true rfl)⟩) ⟨pk_blind, va_recv hKc hPc (ci := 8) (q0 := 0) rfl rfl, pk_call hPc hKc hDc⟩ rfl rfl hl.1 rfl (lv_room (Nat.le_of_ble_eq_true rfl)) dX8_item_17 ⟨(Nat.le_of_ble_eq_true rfl), (Nat.le_of_ble_eq_true rfl)⟩) hS (fun q _ h => hFc q h) hFc (fun r_3 ur_3 t H1 locs ht hvm hw hB hz1 hk1 hS => ?_)
    try dsimp only at hw
    have jr_3 := hw
    obtain ⟨hP1, hK1, hD1⟩ := hB
    rw [ht] at hP1
    have hK1 := va_K.moved hvm.symm hK1
    obtain ⟨hP, hD⟩ := va_join (wr := [(q2, .inl (c2, 67200, .inl a2)), (q3, .inl (c3, 16, .inl a3)), (q4, .inl (c4, 16, .inl a4)), (q8, .inl (c8, 16, .inl a8)), (q9, .inl (c9, 16, .inl a9)), (q10, .inl (c10, 16, .inl a10)), (q11, .inl (c11, 16, .inl a11))]) (w1 := [(h0, .inr (8, [.int th, .ref q1, .ref q2, .ref q3, .ref q4, v5, v6, v7, .ref q8, .ref q9, .ref q10, .ref q11, v12, v13, v14, v15, v16])), (q1, .inl (c1, 16, .inl a1))]) hP hD [7, 8] [0, 1, 2, 3, 4, 5, 6] rfl rfl (by decide) (by decide) hk1 hFc hP1 hD1
    clear hk1 hz1 ht hPc hDc hKc hFc
    generalize H1 = H at hP hS ⊢
    replace hP : va_P (dC, dI) vwCl [(q2, .inl (c2, 67200, .inl a2)), (q3, .inl (c3, 16, .inl a3)), (q4, .inl (c4, 16, .inl a4)), (q8, .inl (c8, 16, .inl a8)), (q9, .inl (c9, 16, .inl a9)), (q10, .inl (c10, 16, .inl a10)), (q11, .inl (c11, 16, .inl a11)), (h0, .inr (8, [.int th, .ref q1, .ref q2, .ref q3, .ref q4, v5, v6, v7, .ref q8, .ref q9, .ref q10, .ref q11, v12, v13, v14, v15, v16])), (q1, .inl (c1, 16, .inl a1))] H := hP
    replace hD : va_D A [(q2, .inl (c2, 67200, .inl a2)), (q3, .inl (c3, 16, .inl a3)), (q4, .inl (c4, 16, .inl a4)), (q8, .inl (c8, 16, .inl a8)), (q9, .inl (c9, 16, .inl a9)), (q10, .inl (c10, 16, .inl a10)), (q11, .inl (c11, 16, .inl a11)), (h0, .inr (8, [.int th, .ref q1, .ref q2, .ref q3, .ref q4, v5, v6, v7, .ref q8, .ref q9, .ref q10, .ref q11, v12, v13, v14, v15, v16])), (q1, .inl (c1, 16, .inl a1))] := hD
    refine W.widen (k := 0) (n := 0) (Nat.le_of_ble_eq_true rfl) (Nat.le_of_ble_eq_true rfl) ?_
    refine W.eq (g2 := F0 m 20 ls [.int r_3]) rfl ?_
    refine lv_if_ne (tgt := 30) hx hb dX8_item_20 (by decide) (fun c_4 => ?_) (fun c_4 => ?_)
    ·
      have ic_4 : ¬ r_3.toInt = 0 := tx_ne rfl (by decide) c_4
      have hmo : 1 ≤ (a1 o).toInt ∧ (a1 o).toInt ≤ 4 := by omega
      have hd9 := hda o ho9
      obtain ⟨r, hrt9⟩ : ∃ r : Nat, rtN a1 a8 17 o = r := ⟨_, rfl⟩
      have hkd9 : 1 ≤ (a1 r).toInt ∧ (a1 r).toInt ≤ 3 := by rw [← hrt9]; exact rt_kd hF9 ho9 hd9 hmo
      have hr9 : r < 16 := by rw [← hrt9]; exact rt_lt hF9 ho9
      obtain ⟨nz, hs9, hz9⟩ := hSa r hr9 hkd9.1 hkd9.2
      refine lv_iload_n hx hb dX8_item_30 rfl (lv_at hl 3 rfl) ?_
      refine lv_iconst (v := 0) hx hb dX8_item_31 (by decide) ?_
      refine lv_iconst (v := 1) hx hb dX8_item_32 (by decide) ?_
      have hPc := hP.sub (ws' := []) [] rfl
      have hDc := hD.sub (ws' := []) [] (by decide) rfl
      have hKc := hK.sub (tys' := []) [] rfl
      have hFc := va_free (wc := []) hD hS hA [] rfl
      refine va_calli (va_runS (As := [.int p2, .int 0, .int 1]) (rest := []) ⟨hx, hb, hml, hown, hts⟩ (c_X8_in l  dC dI H.size p2 0 1 p2.toInt 0 1 rfl (by decide) (by decide)) (va_cwS 3 hts gX8_item_X8_in rfl rfl rfl (by decide +kernel) ⟨(Nat.le_of_ble_eq_true rfl), (Nat.le_of_ble_eq_true rfl)⟩) ⟨pk_blind, pk_call hPc hKc hDc⟩ rfl rfl hl.1 rfl (lv_room (Nat.le_of_ble_eq_true rfl)) dX8_item_33 ⟨(Nat.le_of_ble_eq_true rfl), (Nat.le_of_ble_eq_true rfl)⟩) hS (fun q _ h => hFc q h) hFc (fun r_5 ur_5 t H1 locs ht hvm hw hB hz1 hk1 hS => ?_)
      try dsimp only at hw
      have jr_5 := hw
      obtain ⟨hP, hD⟩ := va_join (wr := [(q2, .inl (c2, 67200, .inl a2)), (q3, .inl (c3, 16, .inl a3)), (q4, .inl (c4, 16, .inl a4)), (q8, .inl (c8, 16, .inl a8)), (q9, .inl (c9, 16, .inl a9)), (q10, .inl (c10, 16, .inl a10)), (q11, .inl (c11, 16, .inl a11)), (h0, .inr (8, [.int th, .ref q1, .ref q2, .ref q3, .ref q4, v5, v6, v7, .ref q8, .ref q9, .ref q10, .ref q11, v12, v13, v14, v15, v16])), (q1, .inl (c1, 16, .inl a1))]) (w1 := []) hP hD [] [0, 1, 2, 3, 4, 5, 6, 7, 8] rfl rfl (by decide) (by decide) hk1 hFc tx_P0 tx_D0
      clear hk1 hz1 ht hPc hDc hKc hFc
      generalize H1 = H at hP hS ⊢
      replace hP : va_P (dC, dI) vwCl [(q2, .inl (c2, 67200, .inl a2)), (q3, .inl (c3, 16, .inl a3)), (q4, .inl (c4, 16, .inl a4)), (q8, .inl (c8, 16, .inl a8)), (q9, .inl (c9, 16, .inl a9)), (q10, .inl (c10, 16, .inl a10)), (q11, .inl (c11, 16, .inl a11)), (h0, .inr (8, [.int th, .ref q1, .ref q2, .ref q3, .ref q4, v5, v6, v7, .ref q8, .ref q9, .ref q10, .ref q11, v12, v13, v14, v15, v16])), (q1, .inl (c1, 16, .inl a1))] H := hP
      replace hD : va_D A [(q2, .inl (c2, 67200, .inl a2)), (q3, .inl (c3, 16, .inl a3)), (q4, .inl (c4, 16, .inl a4)), (q8, .inl (c8, 16, .inl a8)), (q9, .inl (c9, 16, .inl a9)), (q10, .inl (c10, 16, .inl a10)), (q11, .inl (c11, 16, .inl a11)), (h0, .inr (8, [.int th, .ref q1, .ref q2, .ref q3, .ref q4, v5, v6, v7, .ref q8, .ref q9, .ref q10, .ref q11, v12, v13, v14, v15, v16])), (q1, .inl (c1, 16, .inl a1))] := hD
      refine W.widen (k := 0) (n := 0) (Nat.le_of_ble_eq_true rfl) (Nat.le_of_ble_eq_true rfl) ?_
      refine W.eq (g2 := F0 m 36 ls [.int r_5]) rfl ?_
      refine lv_if_ne (tgt := 46) hx hb dX8_item_36 (by decide) (fun c_6 => ?_) (fun c_6 => ?_)
      ·
        have ic_6 : ¬ r_5.toInt = 0 := tx_ne rfl (by decide) c_6
        refine lv_iload_n hx hb dX8_item_46 rfl (lv_at hl 2 rfl) ?_
        refine lv_iconst (v := 0) hx hb dX8_item_47 (by decide) ?_
        refine lv_aload_n hx hb dX8_item_48 rfl (lv_at hl 0 rfl) ?_
        refine lv_iload_n hx hb dX8_item_49 rfl (lv_at hl 1 rfl) ?_
        have hPc := hP.sub (ws' := [(h0, .inr (8, [.int th, .ref q1, .ref q2, .ref q3, .ref q4, v5, v6, v7, .ref q8, .ref q9, .ref q10, .ref q11, v12, v13, v14, v15, v16])), (q1, .inl (c1, 16, .inl a1)), (q2, .inl (c2, 67200, .inl a2)), (q3, .inl (c3, 16, .inl a3)), (q4, .inl (c4, 16, .inl a4)), (q8, .inl (c8, 16, .inl a8)), (q9, .inl (c9, 16, .inl a9)), (q10, .inl (c10, 16, .inl a10)), (q11, .inl (c11, 16, .inl a11))]) [7, 8, 0, 1, 2, 3, 4, 5, 6] rfl
        have hDc := hD.sub (ws' := [(h0, .inr (8, [.int th, .ref q1, .ref q2, .ref q3, .ref q4, v5, v6, v7, .ref q8, .ref q9, .ref q10, .ref q11, v12, v13, v14, v15, v16])), (q1, .inl (c1, 16, .inl a1)), (q2, .inl (c2, 67200, .inl a2)), (q3, .inl (c3, 16, .inl a3)), (q4, .inl (c4, 16, .inl a4)), (q8, .inl (c8, 16, .inl a8)), (q9, .inl (c9, 16, .inl a9)), (q10, .inl (c10, 16, .inl a10)), (q11, .inl (c11, 16, .inl a11))]) [7, 8, 0, 1, 2, 3, 4, 5, 6] (by decide) rfl
        have hKc := hK.sub (tys' := [(c1, .int), (c2, .int), (c3, .int), (c4, .int), (c8, .int), (c9, .int), (c10, .int), (c11, .int)]) [0, 1, 2, 3, 4, 5, 6, 7] rfl
        have hFc := va_free (wc := [(h0, .inr (8, [.int th, .ref q1, .ref q2, .ref q3, .ref q4, v5, v6, v7, .ref q8, .ref q9, .ref q10, .ref q11, v12, v13, v14, v15, v16])), (q1, .inl (c1, 16, .inl a1)), (q2, .inl (c2, 67200, .inl a2)), (q3, .inl (c3, 16, .inl a3)), (q4, .inl (c4, 16, .inl a4)), (q8, .inl (c8, 16, .inl a8)), (q9, .inl (c9, 16, .inl a9)), (q10, .inl (c10, 16, .inl a10)), (q11, .inl (c11, 16, .inl a11))]) hD hS hA [7, 8, 0, 1, 2, 3, 4, 5, 6] rfl
        refine va_calli (va_runV (As := [.int (nI o)]) (rest := [.int 0, .int p1]) ⟨hx, hb, hml, hown, hts⟩ (c_X8_entries l  dC dI H.size h0 th q1 q2 q3 q4 q8 q9 q10 q11 c1 c2 c3 c4 c8 c9 c10 c11 a1 a2 a3 a4 a8 a9 a10 a11 v5 v6 v7 v12 v13 v14 v15 v16 o dep nz ho9 hF9 hd9 (by rw [hrt9]; exact hs9) hz9) (cwV 1 hts gX8_item_X8_entries rfl rfl rfl (by decide +kernel) ⟨(Nat.le_of_ble_eq_true rfl), (Nat.le_of_ble_eq_true rfl)⟩) ⟨pk_blind, va_recv hKc hPc (ci := 8) (q0 := 0) rfl rfl, pk_call hPc hKc hDc⟩ rfl rfl hl.1 rfl (lv_room (Nat.le_of_ble_eq_true rfl)) dX8_item_50 ⟨(Nat.le_of_ble_eq_true rfl), (Nat.le_of_ble_eq_true rfl)⟩) hS (fun q _ h => hFc q h) hFc (fun r_7 ur_7 t H1 locs ht hvm hw hB hz1 hk1 hS => ?_)
        try dsimp only at hw
        obtain ⟨ne, hne⟩ : ∃ n9 : Nat, n9 = cntN (inO a1 a2 a4 a8 a9 a10 a11 o) nz := ⟨_, rfl⟩
        have hne2 : ne ≤ nz := by rw [hne]; exact cnt_le _ _
        obtain ⟨hP1, hK1, hD1⟩ := hB
        rw [ht] at hP1
        have hK1 := va_K.moved hvm.symm hK1
        obtain ⟨hP, hD⟩ := va_join (wr := []) (w1 := [(h0, .inr (8, [.int th, .ref q1, .ref q2, .ref q3, .ref q4, v5, v6, v7, .ref q8, .ref q9, .ref q10, .ref q11, v12, v13, v14, v15, v16])), (q1, .inl (c1, 16, .inl a1)), (q2, .inl (c2, 67200, .inl a2)), (q3, .inl (c3, 16, .inl a3)), (q4, .inl (c4, 16, .inl a4)), (q8, .inl (c8, 16, .inl a8)), (q9, .inl (c9, 16, .inl a9)), (q10, .inl (c10, 16, .inl a10)), (q11, .inl (c11, 16, .inl a11))]) hP hD [7, 8, 0, 1, 2, 3, 4, 5, 6] [] rfl rfl (by decide) (by decide) hk1 hFc hP1 hD1
        clear hk1 hz1 ht hPc hDc hKc hFc
        generalize H1 = H at hP hS ⊢
        replace hP : va_P (dC, dI) vwCl [(h0, .inr (8, [.int th, .ref q1, .ref q2, .ref q3, .ref q4, v5, v6, v7, .ref q8, .ref q9, .ref q10, .ref q11, v12, v13, v14, v15, v16])), (q1, .inl (c1, 16, .inl a1)), (q2, .inl (c2, 67200, .inl a2)), (q3, .inl (c3, 16, .inl a3)), (q4, .inl (c4, 16, .inl a4)), (q8, .inl (c8, 16, .inl a8)), (q9, .inl (c9, 16, .inl a9)), (q10, .inl (c10, 16, .inl a10)), (q11, .inl (c11, 16, .inl a11))] H := hP
        replace hD : va_D A [(h0, .inr (8, [.int th, .ref q1, .ref q2, .ref q3, .ref q4, v5, v6, v7, .ref q8, .ref q9, .ref q10, .ref q11, v12, v13, v14, v15, v16])), (q1, .inl (c1, 16, .inl a1)), (q2, .inl (c2, 67200, .inl a2)), (q3, .inl (c3, 16, .inl a3)), (q4, .inl (c4, 16, .inl a4)), (q8, .inl (c8, 16, .inl a8)), (q9, .inl (c9, 16, .inl a9)), (q10, .inl (c10, 16, .inl a10)), (q11, .inl (c11, 16, .inl a11))] := hD
        refine W.widen (k := 0) (n := 0) (Nat.le_of_ble_eq_true rfl) (Nat.le_of_ble_eq_true rfl) ?_
        obtain rfl : r_7 = nI ne := by rw [hne]; exact hw
        refine W.eq (g2 := F0 m 53 ls [.int (nI ne), .int 0, .int p1]) rfl ?_
        refine lv_iconst (v := 1) hx hb dX8_item_53 (by decide) ?_
        refine lv_isub hx hb dX8_item_54 ?_
        refine lv_topi (fun z_ ez_ => ?_)
        obtain rfl : z_ = nI ne - 1 := ez_.trans (rfl)
        have hPc := hP.sub (ws' := []) [] rfl
        have hDc := hD.sub (ws' := []) [] (by decide) rfl
        have hKc := hK.sub (tys' := []) [] rfl
        have hFc := va_free (wc := []) hD hS hA [] rfl
        refine va_calli (va_runS (As := [.int p1, .int 0, .int (nI ne - 1)]) (rest := []) ⟨hx, hb, hml, hown, hts⟩ (c_X8_in l  dC dI H.size p1 0 (nI ne - 1) p1.toInt 0 ((ne : Int) - 1) rfl (by decide) (nI_s1 (by omega))) (va_cwS 3 hts gX8_item_X8_in rfl rfl rfl (by decide +kernel) ⟨(Nat.le_of_ble_eq_true rfl), (Nat.le_of_ble_eq_true rfl)⟩) ⟨pk_blind, pk_call hPc hKc hDc⟩ rfl rfl hl.1 rfl (lv_room (Nat.le_of_ble_eq_true rfl)) dX8_item_55 ⟨(Nat.le_of_ble_eq_true rfl), (Nat.le_of_ble_eq_true rfl)⟩) hS (fun q _ h => hFc q h) hFc (fun r_8 ur_8 t H1 locs ht hvm hw hB hz1 hk1 hS => ?_)
        try dsimp only at hw
        have jr_8 := hw
        obtain ⟨hP, hD⟩ := va_join (wr := [(h0, .inr (8, [.int th, .ref q1, .ref q2, .ref q3, .ref q4, v5, v6, v7, .ref q8, .ref q9, .ref q10, .ref q11, v12, v13, v14, v15, v16])), (q1, .inl (c1, 16, .inl a1)), (q2, .inl (c2, 67200, .inl a2)), (q3, .inl (c3, 16, .inl a3)), (q4, .inl (c4, 16, .inl a4)), (q8, .inl (c8, 16, .inl a8)), (q9, .inl (c9, 16, .inl a9)), (q10, .inl (c10, 16, .inl a10)), (q11, .inl (c11, 16, .inl a11))]) (w1 := []) hP hD [] [0, 1, 2, 3, 4, 5, 6, 7, 8] rfl rfl (by decide) (by decide) hk1 hFc tx_P0 tx_D0
        clear hk1 hz1 ht hPc hDc hKc hFc
        generalize H1 = H at hP hS ⊢
        replace hP : va_P (dC, dI) vwCl [(h0, .inr (8, [.int th, .ref q1, .ref q2, .ref q3, .ref q4, v5, v6, v7, .ref q8, .ref q9, .ref q10, .ref q11, v12, v13, v14, v15, v16])), (q1, .inl (c1, 16, .inl a1)), (q2, .inl (c2, 67200, .inl a2)), (q3, .inl (c3, 16, .inl a3)), (q4, .inl (c4, 16, .inl a4)), (q8, .inl (c8, 16, .inl a8)), (q9, .inl (c9, 16, .inl a9)), (q10, .inl (c10, 16, .inl a10)), (q11, .inl (c11, 16, .inl a11))] H := hP
        replace hD : va_D A [(h0, .inr (8, [.int th, .ref q1, .ref q2, .ref q3, .ref q4, v5, v6, v7, .ref q8, .ref q9, .ref q10, .ref q11, v12, v13, v14, v15, v16])), (q1, .inl (c1, 16, .inl a1)), (q2, .inl (c2, 67200, .inl a2)), (q3, .inl (c3, 16, .inl a3)), (q4, .inl (c4, 16, .inl a4)), (q8, .inl (c8, 16, .inl a8)), (q9, .inl (c9, 16, .inl a9)), (q10, .inl (c10, 16, .inl a10)), (q11, .inl (c11, 16, .inl a11))] := hD
        refine W.widen (k := 0) (n := 0) (Nat.le_of_ble_eq_true rfl) (Nat.le_of_ble_eq_true rfl) ?_
        refine W.eq (g2 := F0 m 58 ls [.int r_8]) rfl ?_
        refine lv_if_ne (tgt := 68) hx hb dX8_item_58 (by decide) (fun c_9 => ?_) (fun c_9 => ?_)
        ·
          have ic_9 : ¬ r_8.toInt = 0 := tx_ne rfl (by decide) c_9
          obtain ⟨u8, hu8, rfl⟩ := nI_nat (x := p1) (n := 1000) (by omega) (by omega) (by omega)
          have hu7 : (nI u8).toInt = (u8 : Int) := nI_toInt (by omega)
          refine lv_aload_n hx hb dX8_item_68 rfl (lv_at hl 0 rfl) ?_
          refine lv_iconst (v := 0) hx hb dX8_item_69 (by decide) ?_
          refine va_put (D := (dC, dI)) (ci := 8) (v := .int 0) (ty := .int) (C := RX8) (T := TX8) (N := 17) hx hb hts hi0_ tyX8 tyX8_ok nmX8 hown hK hP hD hS 0 rfl rfl 0 (by decide) hw0_ (fun _ h9 => h9) rfl (by decide +kernel) rfl rfl (Nat.le_of_ble_eq_true rfl) dX8_item_70 (fun H locs hP hD hS => ?_)
          replace hP : va_P (dC, dI) vwCl [(h0, .inr (8, [.int 0, .ref q1, .ref q2, .ref q3, .ref q4, v5, v6, v7, .ref q8, .ref q9, .ref q10, .ref q11, v12, v13, v14, v15, v16])), (q1, .inl (c1, 16, .inl a1)), (q2, .inl (c2, 67200, .inl a2)), (q3, .inl (c3, 16, .inl a3)), (q4, .inl (c4, 16, .inl a4)), (q8, .inl (c8, 16, .inl a8)), (q9, .inl (c9, 16, .inl a9)), (q10, .inl (c10, 16, .inl a10)), (q11, .inl (c11, 16, .inl a11))] H := hP
          replace hD : va_D A [(h0, .inr (8, [.int 0, .ref q1, .ref q2, .ref q3, .ref q4, v5, v6, v7, .ref q8, .ref q9, .ref q10, .ref q11, v12, v13, v14, v15, v16])), (q1, .inl (c1, 16, .inl a1)), (q2, .inl (c2, 67200, .inl a2)), (q3, .inl (c3, 16, .inl a3)), (q4, .inl (c4, 16, .inl a4)), (q8, .inl (c8, 16, .inl a8)), (q9, .inl (c9, 16, .inl a9)), (q10, .inl (c10, 16, .inl a10)), (q11, .inl (c11, 16, .inl a11))] := hD
          refine lv_aload_n hx hb dX8_item_73 rfl (lv_at hl 0 rfl) ?_
          refine lv_iload_n hx hb dX8_item_74 rfl (lv_at hl 1 rfl) ?_
          refine lv_iload_n hx hb dX8_item_75 rfl (lv_at hl 2 rfl) ?_
          have hPc := hP.sub (ws' := [(h0, .inr (8, [.int 0, .ref q1, .ref q2, .ref q3, .ref q4, v5, v6, v7, .ref q8, .ref q9, .ref q10, .ref q11, v12, v13, v14, v15, v16])), (q1, .inl (c1, 16, .inl a1)), (q2, .inl (c2, 67200, .inl a2)), (q3, .inl (c3, 16, .inl a3)), (q4, .inl (c4, 16, .inl a4)), (q8, .inl (c8, 16, .inl a8)), (q9, .inl (c9, 16, .inl a9)), (q10, .inl (c10, 16, .inl a10)), (q11, .inl (c11, 16, .inl a11))]) [0, 1, 2, 3, 4, 5, 6, 7, 8] rfl
          have hDc := hD.sub (ws' := [(h0, .inr (8, [.int 0, .ref q1, .ref q2, .ref q3, .ref q4, v5, v6, v7, .ref q8, .ref q9, .ref q10, .ref q11, v12, v13, v14, v15, v16])), (q1, .inl (c1, 16, .inl a1)), (q2, .inl (c2, 67200, .inl a2)), (q3, .inl (c3, 16, .inl a3)), (q4, .inl (c4, 16, .inl a4)), (q8, .inl (c8, 16, .inl a8)), (q9, .inl (c9, 16, .inl a9)), (q10, .inl (c10, 16, .inl a10)), (q11, .inl (c11, 16, .inl a11))]) [0, 1, 2, 3, 4, 5, 6, 7, 8] (by decide) rfl
          have hKc := hK.sub (tys' := [(c1, .int), (c2, .int), (c3, .int), (c4, .int), (c8, .int), (c9, .int), (c10, .int), (c11, .int)]) [0, 1, 2, 3, 4, 5, 6, 7] rfl
          have hFc := va_free (wc := [(h0, .inr (8, [.int 0, .ref q1, .ref q2, .ref q3, .ref q4, v5, v6, v7, .ref q8, .ref q9, .ref q10, .ref q11, v12, v13, v14, v15, v16])), (q1, .inl (c1, 16, .inl a1)), (q2, .inl (c2, 67200, .inl a2)), (q3, .inl (c3, 16, .inl a3)), (q4, .inl (c4, 16, .inl a4)), (q8, .inl (c8, 16, .inl a8)), (q9, .inl (c9, 16, .inl a9)), (q10, .inl (c10, 16, .inl a10)), (q11, .inl (c11, 16, .inl a11))]) hD hS hA [0, 1, 2, 3, 4, 5, 6, 7, 8] rfl
          refine va_calli (va_runV (As := [.int (nI o), .int (nI u8)]) (rest := []) ⟨hx, hb, hml, hown, hts⟩ (c_X8_nth l  dC dI H.size h0 0 q1 q2 q3 q4 q8 q9 q10 q11 c1 c2 c3 c4 c8 c9 c10 c11 a1 a2 a3 a4 a8 a9 a10 a11 v5 v6 v7 v12 v13 v14 v15 v16 o dep nz u8 ho9 hF9 hd9 (by rw [hrt9]; exact hs9) hz9 (by rw [← hne]; omega)) (cwV 2 hts gX8_item_X8_nth rfl rfl rfl (by decide +kernel) ⟨(Nat.le_of_ble_eq_true rfl), (Nat.le_of_ble_eq_true rfl)⟩) ⟨pk_blind, va_recv hKc hPc (ci := 8) (q0 := 0) rfl rfl, pk_call hPc hKc hDc⟩ rfl rfl hl.1 rfl (lv_room (Nat.le_of_ble_eq_true rfl)) dX8_item_76 ⟨(Nat.le_of_ble_eq_true rfl), (Nat.le_of_ble_eq_true rfl)⟩) hS (fun q _ h => hFc q h) hFc (fun r_10 ur_10 t H1 locs ht hvm hw hB hz1 hk1 hS => ?_)
          try dsimp only at hw
          have jr_10 := hw
          obtain ⟨hP1, hK1, hD1⟩ := hB
          rw [ht] at hP1
          have hK1 := va_K.moved hvm.symm hK1
          obtain ⟨hP, hD⟩ := va_join (wr := []) (w1 := [(h0, .inr (8, [.int 0, .ref q1, .ref q2, .ref q3, .ref q4, v5, v6, v7, .ref q8, .ref q9, .ref q10, .ref q11, v12, v13, v14, v15, v16])), (q1, .inl (c1, 16, .inl a1)), (q2, .inl (c2, 67200, .inl a2)), (q3, .inl (c3, 16, .inl a3)), (q4, .inl (c4, 16, .inl a4)), (q8, .inl (c8, 16, .inl a8)), (q9, .inl (c9, 16, .inl a9)), (q10, .inl (c10, 16, .inl a10)), (q11, .inl (c11, 16, .inl a11))]) hP hD [0, 1, 2, 3, 4, 5, 6, 7, 8] [] rfl rfl (by decide) (by decide) hk1 hFc hP1 hD1
          clear hk1 hz1 ht hPc hDc hKc hFc
          generalize H1 = H at hP hS ⊢
          replace hP : va_P (dC, dI) vwCl [(h0, .inr (8, [.int 0, .ref q1, .ref q2, .ref q3, .ref q4, v5, v6, v7, .ref q8, .ref q9, .ref q10, .ref q11, v12, v13, v14, v15, v16])), (q1, .inl (c1, 16, .inl a1)), (q2, .inl (c2, 67200, .inl a2)), (q3, .inl (c3, 16, .inl a3)), (q4, .inl (c4, 16, .inl a4)), (q8, .inl (c8, 16, .inl a8)), (q9, .inl (c9, 16, .inl a9)), (q10, .inl (c10, 16, .inl a10)), (q11, .inl (c11, 16, .inl a11))] H := hP
          replace hD : va_D A [(h0, .inr (8, [.int 0, .ref q1, .ref q2, .ref q3, .ref q4, v5, v6, v7, .ref q8, .ref q9, .ref q10, .ref q11, v12, v13, v14, v15, v16])), (q1, .inl (c1, 16, .inl a1)), (q2, .inl (c2, 67200, .inl a2)), (q3, .inl (c3, 16, .inl a3)), (q4, .inl (c4, 16, .inl a4)), (q8, .inl (c8, 16, .inl a8)), (q9, .inl (c9, 16, .inl a9)), (q10, .inl (c10, 16, .inl a10)), (q11, .inl (c11, 16, .inl a11))] := hD
          refine W.widen (k := 0) (n := 0) (Nat.le_of_ble_eq_true rfl) (Nat.le_of_ble_eq_true rfl) ?_
          obtain ⟨k8, hk8, rfl, hk8b⟩ := jr_10
          refine W.eq (g2 := F0 m 79 ls [.int (nI k8)]) rfl ?_
          refine lv_istore (lv' := [(4, .int (nI k8)), (0, .ref h0), (1, .int (nI o)), (2, .int (nI u8)), (3, .int p2)]) hx hb dX8_item_79 hl (by decide) rfl (fun ls hl => ?_)
          refine lv_iload_n hx hb dX8_item_81 rfl (lv_at hl 4 rfl) ?_
          refine lv_if_ne (tgt := 100) hx hb dX8_item_82 (by decide) (fun c_11 => ?_) (fun c_11 => ?_)
          ·
            have ic_11 : ¬ p2.toInt = 0 := tx_ne rfl (by decide) c_11
            refine lv_aload_n hx hb dX8_item_100 rfl (lv_at hl 1 rfl) ?_
            refine lv_aload_n hx hb dX8_item_101 rfl (lv_at hl 1 rfl) ?_
            refine lv_iload_n hx hb dX8_item_102 rfl (lv_at hl 2 rfl) ?_
            have hPc := hP.sub (ws' := [(h0, .inr (8, [.int 0, .ref q1, .ref q2, .ref q3, .ref q4, v5, v6, v7, .ref q8, .ref q9, .ref q10, .ref q11, v12, v13, v14, v15, v16])), (q1, .inl (c1, 16, .inl a1)), (q8, .inl (c8, 16, .inl a8))]) [0, 1, 5] rfl
            have hDc := hD.sub (ws' := [(h0, .inr (8, [.int 0, .ref q1, .ref q2, .ref q3, .ref q4, v5, v6, v7, .ref q8, .ref q9, .ref q10, .ref q11, v12, v13, v14, v15, v16])), (q1, .inl (c1, 16, .inl a1)), (q8, .inl (c8, 16, .inl a8))]) [0, 1, 5] (by decide) rfl
            have hKc := hK.sub (tys' := [(c1, .int), (c8, .int)]) [0, 4] rfl
            have hFc := va_free (wc := [(h0, .inr (8, [.int 0, .ref q1, .ref q2, .ref q3, .ref q4, v5, v6, v7, .ref q8, .ref q9, .ref q10, .ref q11, v12, v13, v14, v15, v16])), (q1, .inl (c1, 16, .inl a1)), (q8, .inl (c8, 16, .inl a8))]) hD hS hA [0, 1, 5] rfl
            refine va_calli (va_runV (As := [.int (nI o)]) (rest := [.ref h0]) ⟨hx, hb, hml, hown, hts⟩ (c_X8_root l  dC dI H.size h0 0 q1 q8 c1 c8 a1 a8 (.ref q2) (.ref q3) (.ref q4) v5 v6 v7 (.ref q9) (.ref q10) (.ref q11) v12 v13 v14 v15 v16 o dep ho9 hF9 hd9) (cwV 1 hts gX8_item_X8_root rfl rfl rfl (by decide +kernel) ⟨(Nat.le_of_ble_eq_true rfl), (Nat.le_of_ble_eq_true rfl)⟩) ⟨pk_blind, va_recv hKc hPc (ci := 8) (q0 := 0) rfl rfl, pk_call hPc hKc hDc⟩ rfl rfl hl.1 rfl (lv_room (Nat.le_of_ble_eq_true rfl)) dX8_item_103 ⟨(Nat.le_of_ble_eq_true rfl), (Nat.le_of_ble_eq_true rfl)⟩) hS (fun q _ h => hFc q h) hFc (fun r_12 ur_12 t H1 locs ht hvm hw hB hz1 hk1 hS => ?_)
            try dsimp only at hw
            obtain ⟨er_12, hr9, hr8⟩ := hw
            rw [hrt9] at er_12 hr9 hr8
            obtain ⟨hP1, hK1, hD1⟩ := hB
            rw [ht] at hP1
            have hK1 := va_K.moved hvm.symm hK1
            obtain ⟨hP, hD⟩ := va_join (wr := [(q2, .inl (c2, 67200, .inl a2)), (q3, .inl (c3, 16, .inl a3)), (q4, .inl (c4, 16, .inl a4)), (q9, .inl (c9, 16, .inl a9)), (q10, .inl (c10, 16, .inl a10)), (q11, .inl (c11, 16, .inl a11))]) (w1 := [(h0, .inr (8, [.int 0, .ref q1, .ref q2, .ref q3, .ref q4, v5, v6, v7, .ref q8, .ref q9, .ref q10, .ref q11, v12, v13, v14, v15, v16])), (q1, .inl (c1, 16, .inl a1)), (q8, .inl (c8, 16, .inl a8))]) hP hD [0, 1, 5] [2, 3, 4, 6, 7, 8] rfl rfl (by decide) (by decide) hk1 hFc hP1 hD1
            clear hk1 hz1 ht hPc hDc hKc hFc
            generalize H1 = H at hP hS ⊢
            replace hP : va_P (dC, dI) vwCl [(q2, .inl (c2, 67200, .inl a2)), (q3, .inl (c3, 16, .inl a3)), (q4, .inl (c4, 16, .inl a4)), (q9, .inl (c9, 16, .inl a9)), (q10, .inl (c10, 16, .inl a10)), (q11, .inl (c11, 16, .inl a11)), (h0, .inr (8, [.int 0, .ref q1, .ref q2, .ref q3, .ref q4, v5, v6, v7, .ref q8, .ref q9, .ref q10, .ref q11, v12, v13, v14, v15, v16])), (q1, .inl (c1, 16, .inl a1)), (q8, .inl (c8, 16, .inl a8))] H := hP
            replace hD : va_D A [(q2, .inl (c2, 67200, .inl a2)), (q3, .inl (c3, 16, .inl a3)), (q4, .inl (c4, 16, .inl a4)), (q9, .inl (c9, 16, .inl a9)), (q10, .inl (c10, 16, .inl a10)), (q11, .inl (c11, 16, .inl a11)), (h0, .inr (8, [.int 0, .ref q1, .ref q2, .ref q3, .ref q4, v5, v6, v7, .ref q8, .ref q9, .ref q10, .ref q11, v12, v13, v14, v15, v16])), (q1, .inl (c1, 16, .inl a1)), (q8, .inl (c8, 16, .inl a8))] := hD
            refine W.widen (k := 0) (n := 0) (Nat.le_of_ble_eq_true rfl) (Nat.le_of_ble_eq_true rfl) ?_
            subst er_12
            refine W.eq (g2 := F0 m 106 ls [.int (nI r), .ref h0]) rfl ?_
            refine lv_iload hx hb dX8_item_106 (lv_at hl 0 rfl) ?_
            have hPc := hP.sub (ws' := [(h0, .inr (8, [.int 0, .ref q1, .ref q2, .ref q3, .ref q4, v5, v6, v7, .ref q8, .ref q9, .ref q10, .ref q11, v12, v13, v14, v15, v16])), (q2, .inl (c2, 67200, .inl a2))]) [6, 0] rfl
            have hDc := hD.sub (ws' := [(h0, .inr (8, [.int 0, .ref q1, .ref q2, .ref q3, .ref q4, v5, v6, v7, .ref q8, .ref q9, .ref q10, .ref q11, v12, v13, v14, v15, v16])), (q2, .inl (c2, 67200, .inl a2))]) [6, 0] (by decide) rfl
            have hKc := hK.sub (tys' := [(c2, .int)]) [1] rfl
            have hFc := va_free (wc := [(h0, .inr (8, [.int 0, .ref q1, .ref q2, .ref q3, .ref q4, v5, v6, v7, .ref q8, .ref q9, .ref q10, .ref q11, v12, v13, v14, v15, v16])), (q2, .inl (c2, 67200, .inl a2))]) hD hS hA [6, 0] rfl
            refine va_calli (va_runV (As := [.int (nI r), .int (nI k8)]) (rest := []) ⟨hx, hb, hml, hown, hts⟩ (c_X8_value l  dC dI H.size h0 0 q2 c2 a2 (.ref q1) (.ref q3) (.ref q4) v5 v6 v7 (.ref q8) (.ref q9) (.ref q10) (.ref q11) v12 v13 v14 v15 v16 r k8 hr9 (by omega)) (cwV 2 hts gX8_item_X8_value rfl rfl rfl (by decide +kernel) ⟨(Nat.le_of_ble_eq_true rfl), (Nat.le_of_ble_eq_true rfl)⟩) ⟨pk_blind, va_recv hKc hPc (ci := 8) (q0 := 0) rfl rfl, pk_call hPc hKc hDc⟩ rfl rfl hl.1 rfl (lv_room (Nat.le_of_ble_eq_true rfl)) dX8_item_108 ⟨(Nat.le_of_ble_eq_true rfl), (Nat.le_of_ble_eq_true rfl)⟩) hS (fun q _ h => hFc q h) hFc (fun r_13 ur_13 t H1 locs ht hvm hw hB hz1 hk1 hS => ?_)
            try dsimp only at hw
            obtain ⟨hP1, hK1, hD1⟩ := hB
            rw [ht] at hP1
            have hK1 := va_K.moved hvm.symm hK1
            obtain ⟨hP, hD⟩ := va_join (wr := [(q3, .inl (c3, 16, .inl a3)), (q4, .inl (c4, 16, .inl a4)), (q9, .inl (c9, 16, .inl a9)), (q10, .inl (c10, 16, .inl a10)), (q11, .inl (c11, 16, .inl a11)), (q1, .inl (c1, 16, .inl a1)), (q8, .inl (c8, 16, .inl a8))]) (w1 := [(h0, .inr (8, [.int 0, .ref q1, .ref q2, .ref q3, .ref q4, v5, v6, v7, .ref q8, .ref q9, .ref q10, .ref q11, v12, v13, v14, v15, v16])), (q2, .inl (c2, 67200, .inl a2))]) hP hD [6, 0] [1, 2, 3, 4, 5, 7, 8] rfl rfl (by decide) (by decide) hk1 hFc hP1 hD1
            clear hk1 hz1 ht hPc hDc hKc hFc
            generalize H1 = H at hP hS ⊢
            replace hP : va_P (dC, dI) vwCl [(q3, .inl (c3, 16, .inl a3)), (q4, .inl (c4, 16, .inl a4)), (q9, .inl (c9, 16, .inl a9)), (q10, .inl (c10, 16, .inl a10)), (q11, .inl (c11, 16, .inl a11)), (q1, .inl (c1, 16, .inl a1)), (q8, .inl (c8, 16, .inl a8)), (h0, .inr (8, [.int 0, .ref q1, .ref q2, .ref q3, .ref q4, v5, v6, v7, .ref q8, .ref q9, .ref q10, .ref q11, v12, v13, v14, v15, v16])), (q2, .inl (c2, 67200, .inl a2))] H := hP
            replace hD : va_D A [(q3, .inl (c3, 16, .inl a3)), (q4, .inl (c4, 16, .inl a4)), (q9, .inl (c9, 16, .inl a9)), (q10, .inl (c10, 16, .inl a10)), (q11, .inl (c11, 16, .inl a11)), (q1, .inl (c1, 16, .inl a1)), (q8, .inl (c8, 16, .inl a8)), (h0, .inr (8, [.int 0, .ref q1, .ref q2, .ref q3, .ref q4, v5, v6, v7, .ref q8, .ref q9, .ref q10, .ref q11, v12, v13, v14, v15, v16])), (q2, .inl (c2, 67200, .inl a2))] := hD
            refine W.widen (k := 0) (n := 0) (Nat.le_of_ble_eq_true rfl) (Nat.le_of_ble_eq_true rfl) ?_
            obtain rfl : r_13 = a2 (4200 * r + 1000 + k8) := hw
            refine W.eq (g2 := F0 m 111 ls [.int (a2 (4200 * r + 1000 + k8))]) rfl ?_
            refine lv_i2l (v := (a2 (4200 * r + 1000 + k8)).toInt64) hx hb dX8_item_111 rfl ?_
            have hP9 := hP.sub (ws' := [(h0, .inr (8, [.int 0, .ref q1, .ref q2, .ref q3, .ref q4, v5, v6, v7, .ref q8, .ref q9, .ref q10, .ref q11, v12, v13, v14, v15, v16])), (q1, .inl (c1, 16, .inl a1)), (q2, .inl (c2, 67200, .inl a2)), (q3, .inl (c3, 16, .inl a3)), (q4, .inl (c4, 16, .inl a4)), (q8, .inl (c8, 16, .inl a8)), (q9, .inl (c9, 16, .inl a9)), (q10, .inl (c10, 16, .inl a10)), (q11, .inl (c11, 16, .inl a11))]) [7, 5, 8, 0, 1, 6, 2, 3, 4] rfl
            have hD9 := hD.sub (ws' := [(h0, .inr (8, [.int 0, .ref q1, .ref q2, .ref q3, .ref q4, v5, v6, v7, .ref q8, .ref q9, .ref q10, .ref q11, v12, v13, v14, v15, v16])), (q1, .inl (c1, 16, .inl a1)), (q2, .inl (c2, 67200, .inl a2)), (q3, .inl (c3, 16, .inl a3)), (q4, .inl (c4, 16, .inl a4)), (q8, .inl (c8, 16, .inl a8)), (q9, .inl (c9, 16, .inl a9)), (q10, .inl (c10, 16, .inl a10)), (q11, .inl (c11, 16, .inl a11))]) [7, 5, 8, 0, 1, 6, 2, 3, 4] (by decide) rfl
            have hK9 := hK.sub (tys' := [(c1, .int), (c2, .int), (c3, .int), (c4, .int), (c8, .int), (c9, .int), (c10, .int), (c11, .int)]) [0, 1, 2, 3, 4, 5, 6, 7] rfl
            refine W.widen (k := 0) (n := 0) (Nat.le_of_ble_eq_true rfl) (Nat.le_of_ble_eq_true rfl) ?_
            exact W.lret (v := (a2 (4200 * r + 1000 + k8)).toInt64) hx hb hr (fun t ht hW => ⟨⟨(a2 (4200 * r + 1000 + k8)).toInt64, (0), rfl, trivial, by rw [ht]; exact hP9, va_K.moved hW.alike hK9, hD9⟩, hS.F ht⟩) hS.2.2 dX8_item_112
          ·
            have ic_11 : p2.toInt = 0 := tx_eq rfl (by decide) c_11
            refine lv_aload_n hx hb dX8_item_85 rfl (lv_at hl 1 rfl) ?_
            refine lv_aload_n hx hb dX8_item_86 rfl (lv_at hl 1 rfl) ?_
            refine lv_iload_n hx hb dX8_item_87 rfl (lv_at hl 2 rfl) ?_
            have hPc := hP.sub (ws' := [(h0, .inr (8, [.int 0, .ref q1, .ref q2, .ref q3, .ref q4, v5, v6, v7, .ref q8, .ref q9, .ref q10, .ref q11, v12, v13, v14, v15, v16])), (q1, .inl (c1, 16, .inl a1)), (q8, .inl (c8, 16, .inl a8))]) [0, 1, 5] rfl
            have hDc := hD.sub (ws' := [(h0, .inr (8, [.int 0, .ref q1, .ref q2, .ref q3, .ref q4, v5, v6, v7, .ref q8, .ref q9, .ref q10, .ref q11, v12, v13, v14, v15, v16])), (q1, .inl (c1, 16, .inl a1)), (q8, .inl (c8, 16, .inl a8))]) [0, 1, 5] (by decide) rfl
            have hKc := hK.sub (tys' := [(c1, .int), (c8, .int)]) [0, 4] rfl
            have hFc := va_free (wc := [(h0, .inr (8, [.int 0, .ref q1, .ref q2, .ref q3, .ref q4, v5, v6, v7, .ref q8, .ref q9, .ref q10, .ref q11, v12, v13, v14, v15, v16])), (q1, .inl (c1, 16, .inl a1)), (q8, .inl (c8, 16, .inl a8))]) hD hS hA [0, 1, 5] rfl
            refine va_calli (va_runV (As := [.int (nI o)]) (rest := [.ref h0]) ⟨hx, hb, hml, hown, hts⟩ (c_X8_root l  dC dI H.size h0 0 q1 q8 c1 c8 a1 a8 (.ref q2) (.ref q3) (.ref q4) v5 v6 v7 (.ref q9) (.ref q10) (.ref q11) v12 v13 v14 v15 v16 o dep ho9 hF9 hd9) (cwV 1 hts gX8_item_X8_root rfl rfl rfl (by decide +kernel) ⟨(Nat.le_of_ble_eq_true rfl), (Nat.le_of_ble_eq_true rfl)⟩) ⟨pk_blind, va_recv hKc hPc (ci := 8) (q0 := 0) rfl rfl, pk_call hPc hKc hDc⟩ rfl rfl hl.1 rfl (lv_room (Nat.le_of_ble_eq_true rfl)) dX8_item_88 ⟨(Nat.le_of_ble_eq_true rfl), (Nat.le_of_ble_eq_true rfl)⟩) hS (fun q _ h => hFc q h) hFc (fun r_14 ur_14 t H1 locs ht hvm hw hB hz1 hk1 hS => ?_)
            try dsimp only at hw
            obtain ⟨er_14, hr9, hr8⟩ := hw
            rw [hrt9] at er_14 hr9 hr8
            obtain ⟨hP1, hK1, hD1⟩ := hB
            rw [ht] at hP1
            have hK1 := va_K.moved hvm.symm hK1
            obtain ⟨hP, hD⟩ := va_join (wr := [(q2, .inl (c2, 67200, .inl a2)), (q3, .inl (c3, 16, .inl a3)), (q4, .inl (c4, 16, .inl a4)), (q9, .inl (c9, 16, .inl a9)), (q10, .inl (c10, 16, .inl a10)), (q11, .inl (c11, 16, .inl a11))]) (w1 := [(h0, .inr (8, [.int 0, .ref q1, .ref q2, .ref q3, .ref q4, v5, v6, v7, .ref q8, .ref q9, .ref q10, .ref q11, v12, v13, v14, v15, v16])), (q1, .inl (c1, 16, .inl a1)), (q8, .inl (c8, 16, .inl a8))]) hP hD [0, 1, 5] [2, 3, 4, 6, 7, 8] rfl rfl (by decide) (by decide) hk1 hFc hP1 hD1
            clear hk1 hz1 ht hPc hDc hKc hFc
            generalize H1 = H at hP hS ⊢
            replace hP : va_P (dC, dI) vwCl [(q2, .inl (c2, 67200, .inl a2)), (q3, .inl (c3, 16, .inl a3)), (q4, .inl (c4, 16, .inl a4)), (q9, .inl (c9, 16, .inl a9)), (q10, .inl (c10, 16, .inl a10)), (q11, .inl (c11, 16, .inl a11)), (h0, .inr (8, [.int 0, .ref q1, .ref q2, .ref q3, .ref q4, v5, v6, v7, .ref q8, .ref q9, .ref q10, .ref q11, v12, v13, v14, v15, v16])), (q1, .inl (c1, 16, .inl a1)), (q8, .inl (c8, 16, .inl a8))] H := hP
            replace hD : va_D A [(q2, .inl (c2, 67200, .inl a2)), (q3, .inl (c3, 16, .inl a3)), (q4, .inl (c4, 16, .inl a4)), (q9, .inl (c9, 16, .inl a9)), (q10, .inl (c10, 16, .inl a10)), (q11, .inl (c11, 16, .inl a11)), (h0, .inr (8, [.int 0, .ref q1, .ref q2, .ref q3, .ref q4, v5, v6, v7, .ref q8, .ref q9, .ref q10, .ref q11, v12, v13, v14, v15, v16])), (q1, .inl (c1, 16, .inl a1)), (q8, .inl (c8, 16, .inl a8))] := hD
            refine W.widen (k := 0) (n := 0) (Nat.le_of_ble_eq_true rfl) (Nat.le_of_ble_eq_true rfl) ?_
            subst er_14
            refine W.eq (g2 := F0 m 91 ls [.int (nI r), .ref h0]) rfl ?_
            refine lv_iload hx hb dX8_item_91 (lv_at hl 0 rfl) ?_
            have hPc := hP.sub (ws' := [(h0, .inr (8, [.int 0, .ref q1, .ref q2, .ref q3, .ref q4, v5, v6, v7, .ref q8, .ref q9, .ref q10, .ref q11, v12, v13, v14, v15, v16])), (q2, .inl (c2, 67200, .inl a2))]) [6, 0] rfl
            have hDc := hD.sub (ws' := [(h0, .inr (8, [.int 0, .ref q1, .ref q2, .ref q3, .ref q4, v5, v6, v7, .ref q8, .ref q9, .ref q10, .ref q11, v12, v13, v14, v15, v16])), (q2, .inl (c2, 67200, .inl a2))]) [6, 0] (by decide) rfl
            have hKc := hK.sub (tys' := [(c2, .int)]) [1] rfl
            have hFc := va_free (wc := [(h0, .inr (8, [.int 0, .ref q1, .ref q2, .ref q3, .ref q4, v5, v6, v7, .ref q8, .ref q9, .ref q10, .ref q11, v12, v13, v14, v15, v16])), (q2, .inl (c2, 67200, .inl a2))]) hD hS hA [6, 0] rfl
            refine va_calli (va_runV (As := [.int (nI r), .int (nI k8)]) (rest := []) ⟨hx, hb, hml, hown, hts⟩ (c_X8_key l  dC dI H.size h0 0 q2 c2 a2 (.ref q1) (.ref q3) (.ref q4) v5 v6 v7 (.ref q8) (.ref q9) (.ref q10) (.ref q11) v12 v13 v14 v15 v16 r k8 hr9 (by omega)) (cwV 2 hts gX8_item_X8_key rfl rfl rfl (by decide +kernel) ⟨(Nat.le_of_ble_eq_true rfl), (Nat.le_of_ble_eq_true rfl)⟩) ⟨pk_blind, va_recv hKc hPc (ci := 8) (q0 := 0) rfl rfl, pk_call hPc hKc hDc⟩ rfl rfl hl.1 rfl (lv_room (Nat.le_of_ble_eq_true rfl)) dX8_item_93 ⟨(Nat.le_of_ble_eq_true rfl), (Nat.le_of_ble_eq_true rfl)⟩) hS (fun q _ h => hFc q h) hFc (fun r_15 ur_15 t H1 locs ht hvm hw hB hz1 hk1 hS => ?_)
            try dsimp only at hw
            obtain ⟨hP1, hK1, hD1⟩ := hB
            rw [ht] at hP1
            have hK1 := va_K.moved hvm.symm hK1
            obtain ⟨hP, hD⟩ := va_join (wr := [(q3, .inl (c3, 16, .inl a3)), (q4, .inl (c4, 16, .inl a4)), (q9, .inl (c9, 16, .inl a9)), (q10, .inl (c10, 16, .inl a10)), (q11, .inl (c11, 16, .inl a11)), (q1, .inl (c1, 16, .inl a1)), (q8, .inl (c8, 16, .inl a8))]) (w1 := [(h0, .inr (8, [.int 0, .ref q1, .ref q2, .ref q3, .ref q4, v5, v6, v7, .ref q8, .ref q9, .ref q10, .ref q11, v12, v13, v14, v15, v16])), (q2, .inl (c2, 67200, .inl a2))]) hP hD [6, 0] [1, 2, 3, 4, 5, 7, 8] rfl rfl (by decide) (by decide) hk1 hFc hP1 hD1
            clear hk1 hz1 ht hPc hDc hKc hFc
            generalize H1 = H at hP hS ⊢
            replace hP : va_P (dC, dI) vwCl [(q3, .inl (c3, 16, .inl a3)), (q4, .inl (c4, 16, .inl a4)), (q9, .inl (c9, 16, .inl a9)), (q10, .inl (c10, 16, .inl a10)), (q11, .inl (c11, 16, .inl a11)), (q1, .inl (c1, 16, .inl a1)), (q8, .inl (c8, 16, .inl a8)), (h0, .inr (8, [.int 0, .ref q1, .ref q2, .ref q3, .ref q4, v5, v6, v7, .ref q8, .ref q9, .ref q10, .ref q11, v12, v13, v14, v15, v16])), (q2, .inl (c2, 67200, .inl a2))] H := hP
            replace hD : va_D A [(q3, .inl (c3, 16, .inl a3)), (q4, .inl (c4, 16, .inl a4)), (q9, .inl (c9, 16, .inl a9)), (q10, .inl (c10, 16, .inl a10)), (q11, .inl (c11, 16, .inl a11)), (q1, .inl (c1, 16, .inl a1)), (q8, .inl (c8, 16, .inl a8)), (h0, .inr (8, [.int 0, .ref q1, .ref q2, .ref q3, .ref q4, v5, v6, v7, .ref q8, .ref q9, .ref q10, .ref q11, v12, v13, v14, v15, v16])), (q2, .inl (c2, 67200, .inl a2))] := hD
            refine W.widen (k := 0) (n := 0) (Nat.le_of_ble_eq_true rfl) (Nat.le_of_ble_eq_true rfl) ?_
            obtain rfl : r_15 = a2 (4200 * r + k8) := hw
            refine W.eq (g2 := F0 m 96 ls [.int (a2 (4200 * r + k8))]) rfl ?_
            refine lv_i2l (v := (a2 (4200 * r + k8)).toInt64) hx hb dX8_item_96 rfl ?_
            refine lv_goto (tgt := 112) hx hb dX8_item_97 (by decide) ?_
            have hP9 := hP.sub (ws' := [(h0, .inr (8, [.int 0, .ref q1, .ref q2, .ref q3, .ref q4, v5, v6, v7, .ref q8, .ref q9, .ref q10, .ref q11, v12, v13, v14, v15, v16])), (q1, .inl (c1, 16, .inl a1)), (q2, .inl (c2, 67200, .inl a2)), (q3, .inl (c3, 16, .inl a3)), (q4, .inl (c4, 16, .inl a4)), (q8, .inl (c8, 16, .inl a8)), (q9, .inl (c9, 16, .inl a9)), (q10, .inl (c10, 16, .inl a10)), (q11, .inl (c11, 16, .inl a11))]) [7, 5, 8, 0, 1, 6, 2, 3, 4] rfl
            have hD9 := hD.sub (ws' := [(h0, .inr (8, [.int 0, .ref q1, .ref q2, .ref q3, .ref q4, v5, v6, v7, .ref q8, .ref q9, .ref q10, .ref q11, v12, v13, v14, v15, v16])), (q1, .inl (c1, 16, .inl a1)), (q2, .inl (c2, 67200, .inl a2)), (q3, .inl (c3, 16, .inl a3)), (q4, .inl (c4, 16, .inl a4)), (q8, .inl (c8, 16, .inl a8)), (q9, .inl (c9, 16, .inl a9)), (q10, .inl (c10, 16, .inl a10)), (q11, .inl (c11, 16, .inl a11))]) [7, 5, 8, 0, 1, 6, 2, 3, 4] (by decide) rfl
            have hK9 := hK.sub (tys' := [(c1, .int), (c2, .int), (c3, .int), (c4, .int), (c8, .int), (c9, .int), (c10, .int), (c11, .int)]) [0, 1, 2, 3, 4, 5, 6, 7] rfl
            refine W.widen (k := 0) (n := 0) (Nat.le_of_ble_eq_true rfl) (Nat.le_of_ble_eq_true rfl) ?_
            exact W.lret (v := (a2 (4200 * r + k8)).toInt64) hx hb hr (fun t ht hW => ⟨⟨(a2 (4200 * r + k8)).toInt64, (0), rfl, trivial, by rw [ht]; exact hP9, va_K.moved hW.alike hK9, hD9⟩, hS.F ht⟩) hS.2.2 dX8_item_112
        ·
          have ic_9 : r_8.toInt = 0 := tx_eq rfl (by decide) c_9
          refine lv_aload_n hx hb dX8_item_61 rfl (lv_at hl 0 rfl) ?_
          refine lv_iconst (v := 4) hx hb dX8_item_62 (by decide) ?_
          have hPc := hP.sub (ws' := [(h0, .inr (8, [.int th, .ref q1, .ref q2, .ref q3, .ref q4, v5, v6, v7, .ref q8, .ref q9, .ref q10, .ref q11, v12, v13, v14, v15, v16]))]) [0] rfl
          have hDc := hD.sub (ws' := [(h0, .inr (8, [.int th, .ref q1, .ref q2, .ref q3, .ref q4, v5, v6, v7, .ref q8, .ref q9, .ref q10, .ref q11, v12, v13, v14, v15, v16]))]) [0] (by decide) rfl
          have hKc := hK.sub (tys' := []) [] rfl
          have hFc := va_free (wc := [(h0, .inr (8, [.int th, .ref q1, .ref q2, .ref q3, .ref q4, v5, v6, v7, .ref q8, .ref q9, .ref q10, .ref q11, v12, v13, v14, v15, v16]))]) hD hS hA [0] rfl
          refine va_calli (va_runV (As := [.int 4]) (rest := []) ⟨hx, hb, hml, hown, hts⟩ (c_X8_refuse l  dC dI H.size h0 th (.ref q1) (.ref q2) (.ref q3) (.ref q4) v5 v6 v7 (.ref q8) (.ref q9) (.ref q10) (.ref q11) v12 v13 v14 v15 v16 4) (cwV 1 hts gX8_item_X8_refuse rfl rfl rfl (by decide +kernel) ⟨(Nat.le_of_ble_eq_true rfl), (Nat.le_of_ble_eq_true rfl)⟩) ⟨pk_blind, va_recv hKc hPc (ci := 8) (q0 := 0) rfl rfl, pk_call hPc hKc hDc⟩ rfl rfl hl.1 rfl (lv_room (Nat.le_of_ble_eq_true rfl)) dX8_item_63 ⟨(Nat.le_of_ble_eq_true rfl), (Nat.le_of_ble_eq_true rfl)⟩) hS (fun q _ h => hFc q h) hFc (fun r_16 ur_16 t H1 locs ht hvm hw hB hz1 hk1 hS => ?_)
          try dsimp only at hw
          obtain ⟨hP1, hK1, hD1⟩ := hB
          rw [ht] at hP1
          have hK1 := va_K.moved hvm.symm hK1
          obtain ⟨hP, hD⟩ := va_join (wr := [(q1, .inl (c1, 16, .inl a1)), (q2, .inl (c2, 67200, .inl a2)), (q3, .inl (c3, 16, .inl a3)), (q4, .inl (c4, 16, .inl a4)), (q8, .inl (c8, 16, .inl a8)), (q9, .inl (c9, 16, .inl a9)), (q10, .inl (c10, 16, .inl a10)), (q11, .inl (c11, 16, .inl a11))]) (w1 := [(h0, .inr (8, [.int 4, .ref q1, .ref q2, .ref q3, .ref q4, v5, v6, v7, .ref q8, .ref q9, .ref q10, .ref q11, v12, v13, v14, v15, v16]))]) hP hD [0] [1, 2, 3, 4, 5, 6, 7, 8] rfl rfl (by decide) (by decide) hk1 hFc hP1 hD1
          clear hk1 hz1 ht hPc hDc hKc hFc
          generalize H1 = H at hP hS ⊢
          replace hP : va_P (dC, dI) vwCl [(q1, .inl (c1, 16, .inl a1)), (q2, .inl (c2, 67200, .inl a2)), (q3, .inl (c3, 16, .inl a3)), (q4, .inl (c4, 16, .inl a4)), (q8, .inl (c8, 16, .inl a8)), (q9, .inl (c9, 16, .inl a9)), (q10, .inl (c10, 16, .inl a10)), (q11, .inl (c11, 16, .inl a11)), (h0, .inr (8, [.int 4, .ref q1, .ref q2, .ref q3, .ref q4, v5, v6, v7, .ref q8, .ref q9, .ref q10, .ref q11, v12, v13, v14, v15, v16]))] H := hP
          replace hD : va_D A [(q1, .inl (c1, 16, .inl a1)), (q2, .inl (c2, 67200, .inl a2)), (q3, .inl (c3, 16, .inl a3)), (q4, .inl (c4, 16, .inl a4)), (q8, .inl (c8, 16, .inl a8)), (q9, .inl (c9, 16, .inl a9)), (q10, .inl (c10, 16, .inl a10)), (q11, .inl (c11, 16, .inl a11)), (h0, .inr (8, [.int 4, .ref q1, .ref q2, .ref q3, .ref q4, v5, v6, v7, .ref q8, .ref q9, .ref q10, .ref q11, v12, v13, v14, v15, v16]))] := hD
          refine W.widen (k := 0) (n := 0) (Nat.le_of_ble_eq_true rfl) (Nat.le_of_ble_eq_true rfl) ?_
          obtain rfl : r_16 = 0 := hw
          refine W.eq (g2 := F0 m 66 ls [.int 0]) rfl ?_
          refine lv_i2l (v := (0 : Int32).toInt64) hx hb dX8_item_66 rfl ?_
          have hP9 := hP.sub (ws' := [(h0, .inr (8, [.int 4, .ref q1, .ref q2, .ref q3, .ref q4, v5, v6, v7, .ref q8, .ref q9, .ref q10, .ref q11, v12, v13, v14, v15, v16])), (q1, .inl (c1, 16, .inl a1)), (q2, .inl (c2, 67200, .inl a2)), (q3, .inl (c3, 16, .inl a3)), (q4, .inl (c4, 16, .inl a4)), (q8, .inl (c8, 16, .inl a8)), (q9, .inl (c9, 16, .inl a9)), (q10, .inl (c10, 16, .inl a10)), (q11, .inl (c11, 16, .inl a11))]) [8, 0, 1, 2, 3, 4, 5, 6, 7] rfl
          have hD9 := hD.sub (ws' := [(h0, .inr (8, [.int 4, .ref q1, .ref q2, .ref q3, .ref q4, v5, v6, v7, .ref q8, .ref q9, .ref q10, .ref q11, v12, v13, v14, v15, v16])), (q1, .inl (c1, 16, .inl a1)), (q2, .inl (c2, 67200, .inl a2)), (q3, .inl (c3, 16, .inl a3)), (q4, .inl (c4, 16, .inl a4)), (q8, .inl (c8, 16, .inl a8)), (q9, .inl (c9, 16, .inl a9)), (q10, .inl (c10, 16, .inl a10)), (q11, .inl (c11, 16, .inl a11))]) [8, 0, 1, 2, 3, 4, 5, 6, 7] (by decide) rfl
          have hK9 := hK.sub (tys' := [(c1, .int), (c2, .int), (c3, .int), (c4, .int), (c8, .int), (c9, .int), (c10, .int), (c11, .int)]) [0, 1, 2, 3, 4, 5, 6, 7] rfl
          refine W.widen (k := 0) (n := 0) (Nat.le_of_ble_eq_true rfl) (Nat.le_of_ble_eq_true rfl) ?_
          exact W.lret (v := (0 : Int32).toInt64) hx hb hr (fun t ht hW => ⟨⟨(0 : Int32).toInt64, (4), rfl, trivial, by rw [ht]; exact hP9, va_K.moved hW.alike hK9, hD9⟩, hS.F ht⟩) hS.2.2 dX8_item_67
      ·
        have ic_6 : r_5.toInt = 0 := tx_eq rfl (by decide) c_6
        refine lv_aload_n hx hb dX8_item_39 rfl (lv_at hl 0 rfl) ?_
        refine lv_iconst (v := 3) hx hb dX8_item_40 (by decide) ?_
        have hPc := hP.sub (ws' := [(h0, .inr (8, [.int th, .ref q1, .ref q2, .ref q3, .ref q4, v5, v6, v7, .ref q8, .ref q9, .ref q10, .ref q11, v12, v13, v14, v15, v16]))]) [7] rfl
        have hDc := hD.sub (ws' := [(h0, .inr (8, [.int th, .ref q1, .ref q2, .ref q3, .ref q4, v5, v6, v7, .ref q8, .ref q9, .ref q10, .ref q11, v12, v13, v14, v15, v16]))]) [7] (by decide) rfl
        have hKc := hK.sub (tys' := []) [] rfl
        have hFc := va_free (wc := [(h0, .inr (8, [.int th, .ref q1, .ref q2, .ref q3, .ref q4, v5, v6, v7, .ref q8, .ref q9, .ref q10, .ref q11, v12, v13, v14, v15, v16]))]) hD hS hA [7] rfl
        refine va_calli (va_runV (As := [.int 3]) (rest := []) ⟨hx, hb, hml, hown, hts⟩ (c_X8_refuse l  dC dI H.size h0 th (.ref q1) (.ref q2) (.ref q3) (.ref q4) v5 v6 v7 (.ref q8) (.ref q9) (.ref q10) (.ref q11) v12 v13 v14 v15 v16 3) (cwV 1 hts gX8_item_X8_refuse rfl rfl rfl (by decide +kernel) ⟨(Nat.le_of_ble_eq_true rfl), (Nat.le_of_ble_eq_true rfl)⟩) ⟨pk_blind, va_recv hKc hPc (ci := 8) (q0 := 0) rfl rfl, pk_call hPc hKc hDc⟩ rfl rfl hl.1 rfl (lv_room (Nat.le_of_ble_eq_true rfl)) dX8_item_41 ⟨(Nat.le_of_ble_eq_true rfl), (Nat.le_of_ble_eq_true rfl)⟩) hS (fun q _ h => hFc q h) hFc (fun r_17 ur_17 t H1 locs ht hvm hw hB hz1 hk1 hS => ?_)
        try dsimp only at hw
        obtain ⟨hP1, hK1, hD1⟩ := hB
        rw [ht] at hP1
        have hK1 := va_K.moved hvm.symm hK1
        obtain ⟨hP, hD⟩ := va_join (wr := [(q2, .inl (c2, 67200, .inl a2)), (q3, .inl (c3, 16, .inl a3)), (q4, .inl (c4, 16, .inl a4)), (q8, .inl (c8, 16, .inl a8)), (q9, .inl (c9, 16, .inl a9)), (q10, .inl (c10, 16, .inl a10)), (q11, .inl (c11, 16, .inl a11)), (q1, .inl (c1, 16, .inl a1))]) (w1 := [(h0, .inr (8, [.int 3, .ref q1, .ref q2, .ref q3, .ref q4, v5, v6, v7, .ref q8, .ref q9, .ref q10, .ref q11, v12, v13, v14, v15, v16]))]) hP hD [7] [0, 1, 2, 3, 4, 5, 6, 8] rfl rfl (by decide) (by decide) hk1 hFc hP1 hD1
        clear hk1 hz1 ht hPc hDc hKc hFc
        generalize H1 = H at hP hS ⊢
        replace hP : va_P (dC, dI) vwCl [(q2, .inl (c2, 67200, .inl a2)), (q3, .inl (c3, 16, .inl a3)), (q4, .inl (c4, 16, .inl a4)), (q8, .inl (c8, 16, .inl a8)), (q9, .inl (c9, 16, .inl a9)), (q10, .inl (c10, 16, .inl a10)), (q11, .inl (c11, 16, .inl a11)), (q1, .inl (c1, 16, .inl a1)), (h0, .inr (8, [.int 3, .ref q1, .ref q2, .ref q3, .ref q4, v5, v6, v7, .ref q8, .ref q9, .ref q10, .ref q11, v12, v13, v14, v15, v16]))] H := hP
        replace hD : va_D A [(q2, .inl (c2, 67200, .inl a2)), (q3, .inl (c3, 16, .inl a3)), (q4, .inl (c4, 16, .inl a4)), (q8, .inl (c8, 16, .inl a8)), (q9, .inl (c9, 16, .inl a9)), (q10, .inl (c10, 16, .inl a10)), (q11, .inl (c11, 16, .inl a11)), (q1, .inl (c1, 16, .inl a1)), (h0, .inr (8, [.int 3, .ref q1, .ref q2, .ref q3, .ref q4, v5, v6, v7, .ref q8, .ref q9, .ref q10, .ref q11, v12, v13, v14, v15, v16]))] := hD
        refine W.widen (k := 0) (n := 0) (Nat.le_of_ble_eq_true rfl) (Nat.le_of_ble_eq_true rfl) ?_
        obtain rfl : r_17 = 0 := hw
        refine W.eq (g2 := F0 m 44 ls [.int 0]) rfl ?_
        refine lv_i2l (v := (0 : Int32).toInt64) hx hb dX8_item_44 rfl ?_
        have hP9 := hP.sub (ws' := [(h0, .inr (8, [.int 3, .ref q1, .ref q2, .ref q3, .ref q4, v5, v6, v7, .ref q8, .ref q9, .ref q10, .ref q11, v12, v13, v14, v15, v16])), (q1, .inl (c1, 16, .inl a1)), (q2, .inl (c2, 67200, .inl a2)), (q3, .inl (c3, 16, .inl a3)), (q4, .inl (c4, 16, .inl a4)), (q8, .inl (c8, 16, .inl a8)), (q9, .inl (c9, 16, .inl a9)), (q10, .inl (c10, 16, .inl a10)), (q11, .inl (c11, 16, .inl a11))]) [8, 7, 0, 1, 2, 3, 4, 5, 6] rfl
        have hD9 := hD.sub (ws' := [(h0, .inr (8, [.int 3, .ref q1, .ref q2, .ref q3, .ref q4, v5, v6, v7, .ref q8, .ref q9, .ref q10, .ref q11, v12, v13, v14, v15, v16])), (q1, .inl (c1, 16, .inl a1)), (q2, .inl (c2, 67200, .inl a2)), (q3, .inl (c3, 16, .inl a3)), (q4, .inl (c4, 16, .inl a4)), (q8, .inl (c8, 16, .inl a8)), (q9, .inl (c9, 16, .inl a9)), (q10, .inl (c10, 16, .inl a10)), (q11, .inl (c11, 16, .inl a11))]) [8, 7, 0, 1, 2, 3, 4, 5, 6] (by decide) rfl
        have hK9 := hK.sub (tys' := [(c1, .int), (c2, .int), (c3, .int), (c4, .int), (c8, .int), (c9, .int), (c10, .int), (c11, .int)]) [0, 1, 2, 3, 4, 5, 6, 7] rfl
        refine W.widen (k := 0) (n := 0) (Nat.le_of_ble_eq_true rfl) (Nat.le_of_ble_eq_true rfl) ?_
        exact W.lret (v := (0 : Int32).toInt64) hx hb hr (fun t ht hW => ⟨⟨(0 : Int32).toInt64, (3), rfl, trivial, by rw [ht]; exact hP9, va_K.moved hW.alike hK9, hD9⟩, hS.F ht⟩) hS.2.2 dX8_item_45
    ·
      have ic_4 : r_3.toInt = 0 := tx_eq rfl (by decide) c_4
      refine lv_aload_n hx hb dX8_item_23 rfl (lv_at hl 0 rfl) ?_
      refine lv_iconst (v := 2) hx hb dX8_item_24 (by decide) ?_
      have hPc := hP.sub (ws' := [(h0, .inr (8, [.int th, .ref q1, .ref q2, .ref q3, .ref q4, v5, v6, v7, .ref q8, .ref q9, .ref q10, .ref q11, v12, v13, v14, v15, v16]))]) [7] rfl
      have hDc := hD.sub (ws' := [(h0, .inr (8, [.int th, .ref q1, .ref q2, .ref q3, .ref q4, v5, v6, v7, .ref q8, .ref q9, .ref q10, .ref q11, v12, v13, v14, v15, v16]))]) [7] (by decide) rfl
      have hKc := hK.sub (tys' := []) [] rfl
      have hFc := va_free (wc := [(h0, .inr (8, [.int th, .ref q1, .ref q2, .ref q3, .ref q4, v5, v6, v7, .ref q8, .ref q9, .ref q10, .ref q11, v12, v13, v14, v15, v16]))]) hD hS hA [7] rfl
      refine va_calli (va_runV (As := [.int 2]) (rest := []) ⟨hx, hb, hml, hown, hts⟩ (c_X8_refuse l  dC dI H.size h0 th (.ref q1) (.ref q2) (.ref q3) (.ref q4) v5 v6 v7 (.ref q8) (.ref q9) (.ref q10) (.ref q11) v12 v13 v14 v15 v16 2) (cwV 1 hts gX8_item_X8_refuse rfl rfl rfl (by decide +kernel) ⟨(Nat.le_of_ble_eq_true rfl), (Nat.le_of_ble_eq_true rfl)⟩) ⟨pk_blind, va_recv hKc hPc (ci := 8) (q0 := 0) rfl rfl, pk_call hPc hKc hDc⟩ rfl rfl hl.1 rfl (lv_room (Nat.le_of_ble_eq_true rfl)) dX8_item_25 ⟨(Nat.le_of_ble_eq_true rfl), (Nat.le_of_ble_eq_true rfl)⟩) hS (fun q _ h => hFc q h) hFc (fun r_18 ur_18 t H1 locs ht hvm hw hB hz1 hk1 hS => ?_)
      try dsimp only at hw
      obtain ⟨hP1, hK1, hD1⟩ := hB
      rw [ht] at hP1
      have hK1 := va_K.moved hvm.symm hK1
      obtain ⟨hP, hD⟩ := va_join (wr := [(q2, .inl (c2, 67200, .inl a2)), (q3, .inl (c3, 16, .inl a3)), (q4, .inl (c4, 16, .inl a4)), (q8, .inl (c8, 16, .inl a8)), (q9, .inl (c9, 16, .inl a9)), (q10, .inl (c10, 16, .inl a10)), (q11, .inl (c11, 16, .inl a11)), (q1, .inl (c1, 16, .inl a1))]) (w1 := [(h0, .inr (8, [.int 2, .ref q1, .ref q2, .ref q3, .ref q4, v5, v6, v7, .ref q8, .ref q9, .ref q10, .ref q11, v12, v13, v14, v15, v16]))]) hP hD [7] [0, 1, 2, 3, 4, 5, 6, 8] rfl rfl (by decide) (by decide) hk1 hFc hP1 hD1
      clear hk1 hz1 ht hPc hDc hKc hFc
      generalize H1 = H at hP hS ⊢
      replace hP : va_P (dC, dI) vwCl [(q2, .inl (c2, 67200, .inl a2)), (q3, .inl (c3, 16, .inl a3)), (q4, .inl (c4, 16, .inl a4)), (q8, .inl (c8, 16, .inl a8)), (q9, .inl (c9, 16, .inl a9)), (q10, .inl (c10, 16, .inl a10)), (q11, .inl (c11, 16, .inl a11)), (q1, .inl (c1, 16, .inl a1)), (h0, .inr (8, [.int 2, .ref q1, .ref q2, .ref q3, .ref q4, v5, v6, v7, .ref q8, .ref q9, .ref q10, .ref q11, v12, v13, v14, v15, v16]))] H := hP
      replace hD : va_D A [(q2, .inl (c2, 67200, .inl a2)), (q3, .inl (c3, 16, .inl a3)), (q4, .inl (c4, 16, .inl a4)), (q8, .inl (c8, 16, .inl a8)), (q9, .inl (c9, 16, .inl a9)), (q10, .inl (c10, 16, .inl a10)), (q11, .inl (c11, 16, .inl a11)), (q1, .inl (c1, 16, .inl a1)), (h0, .inr (8, [.int 2, .ref q1, .ref q2, .ref q3, .ref q4, v5, v6, v7, .ref q8, .ref q9, .ref q10, .ref q11, v12, v13, v14, v15, v16]))] := hD
      refine W.widen (k := 0) (n := 0) (Nat.le_of_ble_eq_true rfl) (Nat.le_of_ble_eq_true rfl) ?_
      obtain rfl : r_18 = 0 := hw
      refine W.eq (g2 := F0 m 28 ls [.int 0]) rfl ?_
      refine lv_i2l (v := (0 : Int32).toInt64) hx hb dX8_item_28 rfl ?_
      have hP9 := hP.sub (ws' := [(h0, .inr (8, [.int 2, .ref q1, .ref q2, .ref q3, .ref q4, v5, v6, v7, .ref q8, .ref q9, .ref q10, .ref q11, v12, v13, v14, v15, v16])), (q1, .inl (c1, 16, .inl a1)), (q2, .inl (c2, 67200, .inl a2)), (q3, .inl (c3, 16, .inl a3)), (q4, .inl (c4, 16, .inl a4)), (q8, .inl (c8, 16, .inl a8)), (q9, .inl (c9, 16, .inl a9)), (q10, .inl (c10, 16, .inl a10)), (q11, .inl (c11, 16, .inl a11))]) [8, 7, 0, 1, 2, 3, 4, 5, 6] rfl
      have hD9 := hD.sub (ws' := [(h0, .inr (8, [.int 2, .ref q1, .ref q2, .ref q3, .ref q4, v5, v6, v7, .ref q8, .ref q9, .ref q10, .ref q11, v12, v13, v14, v15, v16])), (q1, .inl (c1, 16, .inl a1)), (q2, .inl (c2, 67200, .inl a2)), (q3, .inl (c3, 16, .inl a3)), (q4, .inl (c4, 16, .inl a4)), (q8, .inl (c8, 16, .inl a8)), (q9, .inl (c9, 16, .inl a9)), (q10, .inl (c10, 16, .inl a10)), (q11, .inl (c11, 16, .inl a11))]) [8, 7, 0, 1, 2, 3, 4, 5, 6] (by decide) rfl
      have hK9 := hK.sub (tys' := [(c1, .int), (c2, .int), (c3, .int), (c4, .int), (c8, .int), (c9, .int), (c10, .int), (c11, .int)]) [0, 1, 2, 3, 4, 5, 6, 7] rfl
      refine W.widen (k := 0) (n := 0) (Nat.le_of_ble_eq_true rfl) (Nat.le_of_ble_eq_true rfl) ?_
      exact W.lret (v := (0 : Int32).toInt64) hx hb hr (fun t ht hW => ⟨⟨(0 : Int32).toInt64, (2), rfl, trivial, by rw [ht]; exact hP9, va_K.moved hW.alike hK9, hD9⟩, hS.F ht⟩) hS.2.2 dX8_item_29
  ·
    have ic_2 : r_1.toInt = 0 := tx_eq rfl (by decide) c_2
    refine lv_aload_n hx hb dX8_item_8 rfl (lv_at hl 0 rfl) ?_
    refine lv_iconst (v := 1) hx hb dX8_item_9 (by decide) ?_
    have hPc := hP.sub (ws' := [(h0, .inr (8, [.int th, .ref q1, .ref q2, .ref q3, .ref q4, v5, v6, v7, .ref q8, .ref q9, .ref q10, .ref q11, v12, v13, v14, v15, v16]))]) [7] rfl
    have hDc := hD.sub (ws' := [(h0, .inr (8, [.int th, .ref q1, .ref q2, .ref q3, .ref q4, v5, v6, v7, .ref q8, .ref q9, .ref q10, .ref q11, v12, v13, v14, v15, v16]))]) [7] (by decide) rfl
    have hKc := hK.sub (tys' := []) [] rfl
    have hFc := va_free (wc := [(h0, .inr (8, [.int th, .ref q1, .ref q2, .ref q3, .ref q4, v5, v6, v7, .ref q8, .ref q9, .ref q10, .ref q11, v12, v13, v14, v15, v16]))]) hD hS hA [7] rfl
    refine va_calli (va_runV (As := [.int 1]) (rest := []) ⟨hx, hb, hml, hown, hts⟩ (c_X8_refuse l  dC dI H.size h0 th (.ref q1) (.ref q2) (.ref q3) (.ref q4) v5 v6 v7 (.ref q8) (.ref q9) (.ref q10) (.ref q11) v12 v13 v14 v15 v16 1) (cwV 1 hts gX8_item_X8_refuse rfl rfl rfl (by decide +kernel) ⟨(Nat.le_of_ble_eq_true rfl), (Nat.le_of_ble_eq_true rfl)⟩) ⟨pk_blind, va_recv hKc hPc (ci := 8) (q0 := 0) rfl rfl, pk_call hPc hKc hDc⟩ rfl rfl hl.1 rfl (lv_room (Nat.le_of_ble_eq_true rfl)) dX8_item_10 ⟨(Nat.le_of_ble_eq_true rfl), (Nat.le_of_ble_eq_true rfl)⟩) hS (fun q _ h => hFc q h) hFc (fun r_19 ur_19 t H1 locs ht hvm hw hB hz1 hk1 hS => ?_)
    try dsimp only at hw
    obtain ⟨hP1, hK1, hD1⟩ := hB
    rw [ht] at hP1
    have hK1 := va_K.moved hvm.symm hK1
    obtain ⟨hP, hD⟩ := va_join (wr := [(q2, .inl (c2, 67200, .inl a2)), (q3, .inl (c3, 16, .inl a3)), (q4, .inl (c4, 16, .inl a4)), (q8, .inl (c8, 16, .inl a8)), (q9, .inl (c9, 16, .inl a9)), (q10, .inl (c10, 16, .inl a10)), (q11, .inl (c11, 16, .inl a11)), (q1, .inl (c1, 16, .inl a1))]) (w1 := [(h0, .inr (8, [.int 1, .ref q1, .ref q2, .ref q3, .ref q4, v5, v6, v7, .ref q8, .ref q9, .ref q10, .ref q11, v12, v13, v14, v15, v16]))]) hP hD [7] [0, 1, 2, 3, 4, 5, 6, 8] rfl rfl (by decide) (by decide) hk1 hFc hP1 hD1
    clear hk1 hz1 ht hPc hDc hKc hFc
    generalize H1 = H at hP hS ⊢
    replace hP : va_P (dC, dI) vwCl [(q2, .inl (c2, 67200, .inl a2)), (q3, .inl (c3, 16, .inl a3)), (q4, .inl (c4, 16, .inl a4)), (q8, .inl (c8, 16, .inl a8)), (q9, .inl (c9, 16, .inl a9)), (q10, .inl (c10, 16, .inl a10)), (q11, .inl (c11, 16, .inl a11)), (q1, .inl (c1, 16, .inl a1)), (h0, .inr (8, [.int 1, .ref q1, .ref q2, .ref q3, .ref q4, v5, v6, v7, .ref q8, .ref q9, .ref q10, .ref q11, v12, v13, v14, v15, v16]))] H := hP
    replace hD : va_D A [(q2, .inl (c2, 67200, .inl a2)), (q3, .inl (c3, 16, .inl a3)), (q4, .inl (c4, 16, .inl a4)), (q8, .inl (c8, 16, .inl a8)), (q9, .inl (c9, 16, .inl a9)), (q10, .inl (c10, 16, .inl a10)), (q11, .inl (c11, 16, .inl a11)), (q1, .inl (c1, 16, .inl a1)), (h0, .inr (8, [.int 1, .ref q1, .ref q2, .ref q3, .ref q4, v5, v6, v7, .ref q8, .ref q9, .ref q10, .ref q11, v12, v13, v14, v15, v16]))] := hD
    refine W.widen (k := 0) (n := 0) (Nat.le_of_ble_eq_true rfl) (Nat.le_of_ble_eq_true rfl) ?_
    obtain rfl : r_19 = 0 := hw
    refine W.eq (g2 := F0 m 13 ls [.int 0]) rfl ?_
    refine lv_i2l (v := (0 : Int32).toInt64) hx hb dX8_item_13 rfl ?_
    have hP9 := hP.sub (ws' := [(h0, .inr (8, [.int 1, .ref q1, .ref q2, .ref q3, .ref q4, v5, v6, v7, .ref q8, .ref q9, .ref q10, .ref q11, v12, v13, v14, v15, v16])), (q1, .inl (c1, 16, .inl a1)), (q2, .inl (c2, 67200, .inl a2)), (q3, .inl (c3, 16, .inl a3)), (q4, .inl (c4, 16, .inl a4)), (q8, .inl (c8, 16, .inl a8)), (q9, .inl (c9, 16, .inl a9)), (q10, .inl (c10, 16, .inl a10)), (q11, .inl (c11, 16, .inl a11))]) [8, 7, 0, 1, 2, 3, 4, 5, 6] rfl
    have hD9 := hD.sub (ws' := [(h0, .inr (8, [.int 1, .ref q1, .ref q2, .ref q3, .ref q4, v5, v6, v7, .ref q8, .ref q9, .ref q10, .ref q11, v12, v13, v14, v15, v16])), (q1, .inl (c1, 16, .inl a1)), (q2, .inl (c2, 67200, .inl a2)), (q3, .inl (c3, 16, .inl a3)), (q4, .inl (c4, 16, .inl a4)), (q8, .inl (c8, 16, .inl a8)), (q9, .inl (c9, 16, .inl a9)), (q10, .inl (c10, 16, .inl a10)), (q11, .inl (c11, 16, .inl a11))]) [8, 7, 0, 1, 2, 3, 4, 5, 6] (by decide) rfl
    have hK9 := hK.sub (tys' := [(c1, .int), (c2, .int), (c3, .int), (c4, .int), (c8, .int), (c9, .int), (c10, .int), (c11, .int)]) [0, 1, 2, 3, 4, 5, 6, 7] rfl
    refine W.widen (k := 0) (n := 0) (Nat.le_of_ble_eq_true rfl) (Nat.le_of_ble_eq_true rfl) ?_
    exact W.lret (v := (0 : Int32).toInt64) hx hb hr (fun t ht hW => ⟨⟨(0 : Int32).toInt64, (1), rfl, trivial, by rw [ht]; exact hP9, va_K.moved hW.alike hK9, hD9⟩, hS.F ht⟩) hS.2.2 dX8_item_14
set_option maxHeartbeats 4000000 in
set_option maxRecDepth 100000 in
/-- count -/
theorem c_X8_count (l : Launch) (dC : Nat → ClassId) (dI : Nat → Nat → Nat) (sz : Nat) (h0 : Nat) (th : Int32) (q1 : Nat) (q2 : Nat) (q3 : Nat) (q4 : Nat) (q8 : Nat) (q9 : Nat) (q10 : Nat) (q11 : Nat) (c1 : ClassId) (c2 : ClassId) (c3 : ClassId) (c4 : ClassId) (c8 : ClassId) (c9 : ClassId) (c10 : ClassId) (c11 : ClassId) (a1 : Nat → Int32) (a2 : Nat → Int32) (a3 : Nat → Int32) (a4 : Nat → Int32) (a8 : Nat → Int32) (a9 : Nat → Int32) (a10 : Nat → Int32) (a11 : Nat → Int32) (v5 : Value) (v6 : Value) (v7 : Value) (v12 : Value) (v13 : Value) (v14 : Value) (v15 : Value) (v16 : Value) (dep : Nat → Nat) (p0 : Int32) (hF9 : rF a1 a8 dep) (hda : ∀ o : Nat, o < 16 → dep o < 17) (hSa : ∀ r : Nat, r < 16 → 1 ≤ (a1 r).toInt → (a1 r).toInt ≤ 3 → ∃ nz : Nat, a3 r = nI nz ∧ nz ≤ 1000) : Met l yX8_count wsX8_count ({ frames := 5, cells := 0, slots := 0, locals := 190 }) (va_Pc [.ref h0, .int p0] (pk_Pre (dC, dI) [(h0, .inr (8, [.int th, .ref q1, .ref q2, .ref q3, .ref q4, v5, v6, v7, .ref q8, .ref q9, .ref q10, .ref q11, v12, v13, v14, v15, v16])), (q1, .inl (c1, 16, .inl a1)), (q2, .inl (c2, 67200, .inl a2)), (q3, .inl (c3, 16, .inl a3)), (q4, .inl (c4, 16, .inl a4)), (q8, .inl (c8, 16, .inl a8)), (q9, .inl (c9, 16, .inl a9)), (q10, .inl (c10, 16, .inl a10)), (q11, .inl (c11, 16, .inl a11))] [(c1, .int), (c2, .int), (c3, .int), (c4, .int), (c8, .int), (c9, .int), (c10, .int), (c11, .int)] sz)) (va_Qi (fun (x : Int32) (u : Int32) => True) (fun (u : Int32) (t : State) => va_P (dC, dI) vwCl [(h0, .inr (8, [.int u, .ref q1, .ref q2, .ref q3, .ref q4, v5, v6, v7, .ref q8, .ref q9, .ref q10, .ref q11, v12, v13, v14, v15, v16])), (q1, .inl (c1, 16, .inl a1)), (q2, .inl (c2, 67200, .inl a2)), (q3, .inl (c3, 16, .inl a3)), (q4, .inl (c4, 16, .inl a4)), (q8, .inl (c8, 16, .inl a8)), (q9, .inl (c9, 16, .inl a9)), (q10, .inl (c10, 16, .inl a10)), (q11, .inl (c11, 16, .inl a11))] t.heap ∧ va_K (dC, dI) vwCl [(c1, .int), (c2, .int), (c3, .int), (c4, .int), (c8, .int), (c9, .int), (c10, .int), (c11, .int)] t ∧ va_D (va_A [(h0, .inr (8, [.int th, .ref q1, .ref q2, .ref q3, .ref q4, v5, v6, v7, .ref q8, .ref q9, .ref q10, .ref q11, v12, v13, v14, v15, v16])), (q1, .inl (c1, 16, .inl a1)), (q2, .inl (c2, 67200, .inl a2)), (q3, .inl (c3, 16, .inl a3)), (q4, .inl (c4, 16, .inl a4)), (q8, .inl (c8, 16, .inl a8)), (q9, .inl (c9, 16, .inl a9)), (q10, .inl (c10, 16, .inl a10)), (q11, .inl (c11, 16, .inl a11))] sz) [(h0, .inr (8, [.int u, .ref q1, .ref q2, .ref q3, .ref q4, v5, v6, v7, .ref q8, .ref q9, .ref q10, .ref q11, v12, v13, v14, v15, v16])), (q1, .inl (c1, 16, .inl a1)), (q2, .inl (c2, 67200, .inl a2)), (q3, .inl (c3, 16, .inl a3)), (q4, .inl (c4, 16, .inl a4)), (q8, .inl (c8, 16, .inl a8)), (q9, .inl (c9, 16, .inl a9)), (q10, .inl (c10, 16, .inl a10)), (q11, .inl (c11, 16, .inl a11))]) (va_A [(h0, .inr (8, [.int th, .ref q1, .ref q2, .ref q3, .ref q4, v5, v6, v7, .ref q8, .ref q9, .ref q10, .ref q11, v12, v13, v14, v15, v16])), (q1, .inl (c1, 16, .inl a1)), (q2, .inl (c2, 67200, .inl a2)), (q3, .inl (c3, 16, .inl a3)), (q4, .inl (c4, 16, .inl a4)), (q8, .inl (c8, 16, .inl a8)), (q9, .inl (c9, 16, .inl a9)), (q10, .inl (c10, 16, .inl a10)), (q11, .inl (c11, 16, .inl a11))] sz)) 0 0 (va_A [(h0, .inr (8, [.int th, .ref q1, .ref q2, .ref q3, .ref q4, v5, v6, v7, .ref q8, .ref q9, .ref q10, .ref q11, v12, v13, v14, v15, v16])), (q1, .inl (c1, 16, .inl a1)), (q2, .inl (c2, 67200, .inl a2)), (q3, .inl (c3, 16, .inl a3)), (q4, .inl (c4, 16, .inl a4)), (q8, .inl (c8, 16, .inl a8)), (q9, .inl (c9, 16, .inl a9)), (q10, .inl (c10, 16, .inl a10)), (q11, .inl (c11, 16, .inl a11))] sz) := by
  refine Met.ofW (cc := cX8_count) (maxL := 4) (ret := (some .int)) (by decide) rfl ?_
  intro p e s m args below meth c s₁ B hml hv
  obtain ⟨rfl, hsz, hP, hK, hD0⟩ := hv
  have hx := B.exec
  have hb := B.bytes
  have hr := B.returns
  have hts := atoms_spec (ws := wsX8_count) B.pre
  have hown : s.vm.findClass RX8 = some m.cls := findClass_of_methodNamed B.named
  have hlocks := B.notSynchronized
  subst hsz
  have hD := hD0.self (sz := s.heap.size)
  generalize hAe : va_A [(h0, .inr (8, [.int th, .ref q1, .ref q2, .ref q3, .ref q4, v5, v6, v7, .ref q8, .ref q9, .ref q10, .ref q11, v12, v13, v14, v15, v16])), (q1, .inl (c1, 16, .inl a1)), (q2, .inl (c2, 67200, .inl a2)), (q3, .inl (c3, 16, .inl a3)), (q4, .inl (c4, 16, .inl a4)), (q8, .inl (c8, 16, .inl a8)), (q9, .inl (c9, 16, .inl a9)), (q10, .inl (c10, 16, .inl a10)), (q11, .inl (c11, 16, .inl a11))] s.heap.size = A at hD ⊢
  have hA : ∀ q : Nat, s.heap.size ≤ q → A q := fun q h => by rw [← hAe]; exact Or.inr h
  have hS : va_S A s.heap s.heap [] := va_S.rf
  have hP : va_P (dC, dI) vwCl [(h0, .inr (8, [.int th, .ref q1, .ref q2, .ref q3, .ref q4, v5, v6, v7, .ref q8, .ref q9, .ref q10, .ref q11, v12, v13, v14, v15, v16])), (q1, .inl (c1, 16, .inl a1)), (q2, .inl (c2, 67200, .inl a2)), (q3, .inl (c3, 16, .inl a3)), (q4, .inl (c4, 16, .inl a4)), (q8, .inl (c8, 16, .inl a8)), (q9, .inl (c9, 16, .inl a9)), (q10, .inl (c10, 16, .inl a10)), (q11, .inl (c11, 16, .inl a11))] s.heap := hP
  have hl := lv_entry ([.ref h0, .int p0]) (n := 4) (Nat.le_of_ble_eq_true rfl)
  rw [lg_entry_eq]
  generalize (lg_sl ([.ref h0, .int p0]) ++ List.replicate (4 - (lg_sl ([.ref h0, .int p0])).length) Slot.unset).toArray = ls at hl ⊢
  have hl : lv_has ls 4 [(0, .ref h0), (1, .int p0)] := hl
  have hw0_ := hts (.fieldLink RX8 60 "KeyAtlasModel" "thrown" "I") (List.mem_of_getElem? (l := wsX8_count) (i := 1) rfl)
  have hw1_ := hts (.fieldLink RX8 7 "KeyAtlasModel" "kind" "[I") (List.mem_of_getElem? (l := wsX8_count) (i := 2) rfl)
  have hi0_ : ∀ w ∈ u_ws RX8 TX8 17, w ∈ wsX8_count := fun w h => List.mem_cons_of_mem _ (List.mem_append_right _ h)
  obtain ⟨H, hH9⟩ : ∃ H : Heap, H = s.heap := ⟨_, rfl⟩
  obtain ⟨locs, hlo9⟩ : ∃ z : List Loc, z = [] := ⟨_, rfl⟩
  refine tx_hv hH9 hlo9 ?_
  have hP : va_P (dC, dI) vwCl [(h0, .inr (8, [.int th, .ref q1, .ref q2, .ref q3, .ref q4, v5, v6, v7, .ref q8, .ref q9, .ref q10, .ref q11, v12, v13, v14, v15, v16])), (q1, .inl (c1, 16, .inl a1)), (q2, .inl (c2, 67200, .inl a2)), (q3, .inl (c3, 16, .inl a3)), (q4, .inl (c4, 16, .inl a4)), (q8, .inl (c8, 16, .inl a8)), (q9, .inl (c9, 16, .inl a9)), (q10, .inl (c10, 16, .inl a10)), (q11, .inl (c11, 16, .inl a11))] H := by rw [hH9]; exact hP
  have hS : va_S A s.heap H locs := by rw [hH9, hlo9]; exact hS
  clear hH9 hlo9
  refine w_join (α := Array Slot × Heap × List Loc) (hh := fun jv => jv.2.1) (lc := fun jv => jv.2.2) (F := fun jv => F0 m 32 (jv.1) []) (Pre := fun jv => lv_has (jv.1) 4 [(0, .ref h0), (1, .int p0)] ∧ va_P (dC, dI) vwCl [(h0, .inr (8, [.int th, .ref q1, .ref q2, .ref q3, .ref q4, v5, v6, v7, .ref q8, .ref q9, .ref q10, .ref q11, v12, v13, v14, v15, v16])), (q1, .inl (c1, 16, .inl a1)), (q2, .inl (c2, 67200, .inl a2)), (q3, .inl (c3, 16, .inl a3)), (q4, .inl (c4, 16, .inl a4)), (q8, .inl (c8, 16, .inl a8)), (q9, .inl (c9, 16, .inl a9)), (q10, .inl (c10, 16, .inl a10)), (q11, .inl (c11, 16, .inl a11))] (jv.2.1) ∧ va_S A s.heap (jv.2.1) (jv.2.2) ∧ (p0.toInt = 0 ∨ (10 ≤ p0.toInt ∧ p0.toInt ≤ 25) ∨ (30 ≤ p0.toInt ∧ p0.toInt ≤ 45))) (fun jv ha9 => ?_) (fun jn32 => ?_)
  ·
    obtain ⟨ls, H, locs⟩ := jv
    obtain ⟨hl, hP, hS, hwh⟩ := ha9
    replace hl : lv_has ls 4 [(0, .ref h0), (1, .int p0)] := hl
    replace hP : va_P (dC, dI) vwCl [(h0, .inr (8, [.int th, .ref q1, .ref q2, .ref q3, .ref q4, v5, v6, v7, .ref q8, .ref q9, .ref q10, .ref q11, v12, v13, v14, v15, v16])), (q1, .inl (c1, 16, .inl a1)), (q2, .inl (c2, 67200, .inl a2)), (q3, .inl (c3, 16, .inl a3)), (q4, .inl (c4, 16, .inl a4)), (q8, .inl (c8, 16, .inl a8)), (q9, .inl (c9, 16, .inl a9)), (q10, .inl (c10, 16, .inl a10)), (q11, .inl (c11, 16, .inl a11))] H := hP
    replace hS : va_S A s.heap H locs := hS
    replace hwh : p0.toInt = 0 ∨ (10 ≤ p0.toInt ∧ p0.toInt ≤ 25) ∨ (30 ≤ p0.toInt ∧ p0.toInt ≤ 45) := hwh
    show W p l e _ s m _ below meth c H locs _ _ _ (F0 m 32 ls [])
    refine lv_aload_n hx hb dX8_count_32 rfl (lv_at hl 0 rfl) ?_
    refine lv_iconst (v := 0) hx hb dX8_count_33 (by decide) ?_
    refine va_put (D := (dC, dI)) (ci := 8) (v := .int 0) (ty := .int) (C := RX8) (T := TX8) (N := 17) hx hb hts hi0_ tyX8 tyX8_ok nmX8 hown hK hP hD hS 0 rfl rfl 0 (by decide) hw0_ (fun _ h9 => h9) rfl (by decide +kernel) rfl rfl (Nat.le_of_ble_eq_true rfl) dX8_count_34 (fun H locs hP hD hS => ?_)
    replace hP : va_P (dC, dI) vwCl [(h0, .inr (8, [.int 0, .ref q1, .ref q2, .ref q3, .ref q4, v5, v6, v7, .ref q8, .ref q9, .ref q10, .ref q11, v12, v13, v14, v15, v16])), (q1, .inl (c1, 16, .inl a1)), (q2, .inl (c2, 67200, .inl a2)), (q3, .inl (c3, 16, .inl a3)), (q4, .inl (c4, 16, .inl a4)), (q8, .inl (c8, 16, .inl a8)), (q9, .inl (c9, 16, .inl a9)), (q10, .inl (c10, 16, .inl a10)), (q11, .inl (c11, 16, .inl a11))] H := hP
    replace hD : va_D A [(h0, .inr (8, [.int 0, .ref q1, .ref q2, .ref q3, .ref q4, v5, v6, v7, .ref q8, .ref q9, .ref q10, .ref q11, v12, v13, v14, v15, v16])), (q1, .inl (c1, 16, .inl a1)), (q2, .inl (c2, 67200, .inl a2)), (q3, .inl (c3, 16, .inl a3)), (q4, .inl (c4, 16, .inl a4)), (q8, .inl (c8, 16, .inl a8)), (q9, .inl (c9, 16, .inl a9)), (q10, .inl (c10, 16, .inl a10)), (q11, .inl (c11, 16, .inl a11))] := hD
    refine lv_iload_n hx hb dX8_count_37 rfl (lv_at hl 1 rfl) ?_
    refine lv_if_ne (tgt := 76) hx hb dX8_count_38 (by decide) (fun c_1 => ?_) (fun c_1 => ?_)
    ·
      have ic_1 : ¬ p0.toInt = 0 := tx_ne rfl (by decide) c_1
      refine lv_iload_n hx hb dX8_count_76 rfl (lv_at hl 1 rfl) ?_
      refine lv_bipush (v := 30) hx hb dX8_count_77 (by decide) ?_
      refine lv_icmp_ge (tgt := 94) hx hb dX8_count_79 (by decide) (fun c_2 => ?_) (fun c_2 => ?_)
      ·
        have ic_2 : 30 ≤ p0.toInt := tx_le (by decide) rfl c_2
        refine lv_aload_n hx hb dX8_count_94 rfl (lv_at hl 0 rfl) ?_
        refine lv_iload_n hx hb dX8_count_95 rfl (lv_at hl 1 rfl) ?_
        refine lv_bipush (v := 30) hx hb dX8_count_96 (by decide) ?_
        refine lv_isub hx hb dX8_count_98 ?_
        obtain ⟨o, ho9, eo⟩ := nI_nat (x := p0 - 30) (n := 16) (by rw [tx_sub (b := 30) (by decide) (by omega) (by omega)]; omega) (by rw [tx_sub (b := 30) (by decide) (by omega) (by omega)]; omega) (by omega)
        refine W.eq (g2 := F0 m 99 ls [.int (nI o), .ref h0]) (by rw [eo]) ?_
        have hPc := hP.sub (ws' := [(h0, .inr (8, [.int 0, .ref q1, .ref q2, .ref q3, .ref q4, v5, v6, v7, .ref q8, .ref q9, .ref q10, .ref q11, v12, v13, v14, v15, v16])), (q1, .inl (c1, 16, .inl a1))]) [0, 1] rfl
        have hDc := hD.sub (ws' := [(h0, .inr (8, [.int 0, .ref q1, .ref q2, .ref q3, .ref q4, v5, v6, v7, .ref q8, .ref q9, .ref q10, .ref q11, v12, v13, v14, v15, v16])), (q1, .inl (c1, 16, .inl a1))]) [0, 1] (by decide) rfl
        have hKc := hK.sub (tys' := [(c1, .int)]) [0] rfl
        have hFc := va_free (wc := [(h0, .inr (8, [.int 0, .ref q1, .ref q2, .ref q3, .ref q4, v5, v6, v7, .ref q8, .ref q9, .ref q10, .ref q11, v12, v13, v14, v15, v16])), (q1, .inl (c1, 16, .inl a1))]) hD hS hA [0, 1] rfl
        refine va_calli (va_runV (As := [.int (nI o)]) (rest := []) ⟨hx, hb, hml, hown, hts⟩ (c_X8_isMap l  dC dI H.size h0 0 q1 c1 a1 (.ref q2) (.ref q3) (.ref q4) v5 v6 v7 (.ref q8) (.ref q9) (.ref q10) (.ref q11) v12 v13 v14 v15 v16 o ho9) (cwV 1 hts gX8_count_X8_isMap rfl rfl rfl (by decide +kernel) ⟨(Nat.le_of_ble_eq_true rfl), (Nat.le_of_ble_eq_true rfl)⟩) ⟨pk_blind, va_recv hKc hPc (ci := 8) (q0 := 0) rfl rfl, pk_call hPc hKc hDc⟩ rfl rfl hl.1 rfl (lv_room (Nat.le_of_ble_eq_true rfl)) dX8_count_99 ⟨(Nat.le_of_ble_eq_true rfl), (Nat.le_of_ble_eq_true rfl)⟩) hS (fun q _ h => hFc q h) hFc (fun r_3 ur_3 t H1 locs ht hvm hw hB hz1 hk1 hS => ?_)
        try dsimp only at hw
        have jr_3 := hw
        obtain ⟨hP1, hK1, hD1⟩ := hB
        rw [ht] at hP1
        have hK1 := va_K.moved hvm.symm hK1
        obtain ⟨hP, hD⟩ := va_join (wr := [(q2, .inl (c2, 67200, .inl a2)), (q3, .inl (c3, 16, .inl a3)), (q4, .inl (c4, 16, .inl a4)), (q8, .inl (c8, 16, .inl a8)), (q9, .inl (c9, 16, .inl a9)), (q10, .inl (c10, 16, .inl a10)), (q11, .inl (c11, 16, .inl a11))]) (w1 := [(h0, .inr (8, [.int 0, .ref q1, .ref q2, .ref q3, .ref q4, v5, v6, v7, .ref q8, .ref q9, .ref q10, .ref q11, v12, v13, v14, v15, v16])), (q1, .inl (c1, 16, .inl a1))]) hP hD [0, 1] [2, 3, 4, 5, 6, 7, 8] rfl rfl (by decide) (by decide) hk1 hFc hP1 hD1
        clear hk1 hz1 ht hPc hDc hKc hFc
        generalize H1 = H at hP hS ⊢
        replace hP : va_P (dC, dI) vwCl [(q2, .inl (c2, 67200, .inl a2)), (q3, .inl (c3, 16, .inl a3)), (q4, .inl (c4, 16, .inl a4)), (q8, .inl (c8, 16, .inl a8)), (q9, .inl (c9, 16, .inl a9)), (q10, .inl (c10, 16, .inl a10)), (q11, .inl (c11, 16, .inl a11)), (h0, .inr (8, [.int 0, .ref q1, .ref q2, .ref q3, .ref q4, v5, v6, v7, .ref q8, .ref q9, .ref q10, .ref q11, v12, v13, v14, v15, v16])), (q1, .inl (c1, 16, .inl a1))] H := hP
        replace hD : va_D A [(q2, .inl (c2, 67200, .inl a2)), (q3, .inl (c3, 16, .inl a3)), (q4, .inl (c4, 16, .inl a4)), (q8, .inl (c8, 16, .inl a8)), (q9, .inl (c9, 16, .inl a9)), (q10, .inl (c10, 16, .inl a10)), (q11, .inl (c11, 16, .inl a11)), (h0, .inr (8, [.int 0, .ref q1, .ref q2, .ref q3, .ref q4, v5, v6, v7, .ref q8, .ref q9, .ref q10, .ref q11, v12, v13, v14, v15, v16])), (q1, .inl (c1, 16, .inl a1))] := hD
        refine W.widen (k := 0) (n := 0) (Nat.le_of_ble_eq_true rfl) (Nat.le_of_ble_eq_true rfl) ?_
        refine W.eq (g2 := F0 m 102 ls [.int r_3]) rfl ?_
        refine lv_if_eq (tgt := 116) hx hb dX8_count_102 (by decide) (fun c_4 => ?_) (fun c_4 => ?_)
        ·
          have ic_4 : r_3.toInt = 0 := tx_eq rfl (by decide) c_4
          refine lv_iconst (v := (-1)) hx hb dX8_count_116 (by decide) ?_
          have hP9 := hP.sub (ws' := [(h0, .inr (8, [.int 0, .ref q1, .ref q2, .ref q3, .ref q4, v5, v6, v7, .ref q8, .ref q9, .ref q10, .ref q11, v12, v13, v14, v15, v16])), (q1, .inl (c1, 16, .inl a1)), (q2, .inl (c2, 67200, .inl a2)), (q3, .inl (c3, 16, .inl a3)), (q4, .inl (c4, 16, .inl a4)), (q8, .inl (c8, 16, .inl a8)), (q9, .inl (c9, 16, .inl a9)), (q10, .inl (c10, 16, .inl a10)), (q11, .inl (c11, 16, .inl a11))]) [7, 8, 0, 1, 2, 3, 4, 5, 6] rfl
          have hD9 := hD.sub (ws' := [(h0, .inr (8, [.int 0, .ref q1, .ref q2, .ref q3, .ref q4, v5, v6, v7, .ref q8, .ref q9, .ref q10, .ref q11, v12, v13, v14, v15, v16])), (q1, .inl (c1, 16, .inl a1)), (q2, .inl (c2, 67200, .inl a2)), (q3, .inl (c3, 16, .inl a3)), (q4, .inl (c4, 16, .inl a4)), (q8, .inl (c8, 16, .inl a8)), (q9, .inl (c9, 16, .inl a9)), (q10, .inl (c10, 16, .inl a10)), (q11, .inl (c11, 16, .inl a11))]) [7, 8, 0, 1, 2, 3, 4, 5, 6] (by decide) rfl
          have hK9 := hK.sub (tys' := [(c1, .int), (c2, .int), (c3, .int), (c4, .int), (c8, .int), (c9, .int), (c10, .int), (c11, .int)]) [0, 1, 2, 3, 4, 5, 6, 7] rfl
          refine W.widen (k := 0) (n := 0) (Nat.le_of_ble_eq_true rfl) (Nat.le_of_ble_eq_true rfl) ?_
          exact W.iret (v := -1) hx hb hr (fun t ht hW => ⟨⟨-1, (0), rfl, trivial, by rw [ht]; exact hP9, va_K.moved hW.alike hK9, hD9⟩, hS.F ht⟩) hS.2.2 dX8_count_117
        ·
          have ic_4 : ¬ r_3.toInt = 0 := tx_ne rfl (by decide) c_4
          refine lv_aload_n hx hb dX8_count_105 rfl (lv_at hl 0 rfl) ?_
          refine lv_iload_n hx hb dX8_count_106 rfl (lv_at hl 1 rfl) ?_
          refine lv_bipush (v := 30) hx hb dX8_count_107 (by decide) ?_
          refine lv_isub hx hb dX8_count_109 ?_
          refine W.eq (g2 := F0 m 110 ls [.int (nI o), .ref h0]) (by rw [eo]) ?_
          have hmo : 1 ≤ (a1 o).toInt ∧ (a1 o).toInt ≤ 4 := by omega
          have hd9 := hda o ho9
          obtain ⟨r, hrt9⟩ : ∃ r : Nat, rtN a1 a8 17 o = r := ⟨_, rfl⟩
          have hkd9 : 1 ≤ (a1 r).toInt ∧ (a1 r).toInt ≤ 3 := by rw [← hrt9]; exact rt_kd hF9 ho9 hd9 hmo
          have hr9 : r < 16 := by rw [← hrt9]; exact rt_lt hF9 ho9
          obtain ⟨nz, hs9, hz9⟩ := hSa r hr9 hkd9.1 hkd9.2
          have hPc := hP.sub (ws' := [(h0, .inr (8, [.int 0, .ref q1, .ref q2, .ref q3, .ref q4, v5, v6, v7, .ref q8, .ref q9, .ref q10, .ref q11, v12, v13, v14, v15, v16])), (q1, .inl (c1, 16, .inl a1)), (q2, .inl (c2, 67200, .inl a2)), (q3, .inl (c3, 16, .inl a3)), (q4, .inl (c4, 16, .inl a4)), (q8, .inl (c8, 16, .inl a8)), (q9, .inl (c9, 16, .inl a9)), (q10, .inl (c10, 16, .inl a10)), (q11, .inl (c11, 16, .inl a11))]) [7, 8, 0, 1, 2, 3, 4, 5, 6] rfl
          have hDc := hD.sub (ws' := [(h0, .inr (8, [.int 0, .ref q1, .ref q2, .ref q3, .ref q4, v5, v6, v7, .ref q8, .ref q9, .ref q10, .ref q11, v12, v13, v14, v15, v16])), (q1, .inl (c1, 16, .inl a1)), (q2, .inl (c2, 67200, .inl a2)), (q3, .inl (c3, 16, .inl a3)), (q4, .inl (c4, 16, .inl a4)), (q8, .inl (c8, 16, .inl a8)), (q9, .inl (c9, 16, .inl a9)), (q10, .inl (c10, 16, .inl a10)), (q11, .inl (c11, 16, .inl a11))]) [7, 8, 0, 1, 2, 3, 4, 5, 6] (by decide) rfl
          have hKc := hK.sub (tys' := [(c1, .int), (c2, .int), (c3, .int), (c4, .int), (c8, .int), (c9, .int), (c10, .int), (c11, .int)]) [0, 1, 2, 3, 4, 5, 6, 7] rfl
          have hFc := va_free (wc := [(h0, .inr (8, [.int 0, .ref q1, .ref q2, .ref q3, .ref q4, v5, v6, v7, .ref q8, .ref q9, .ref q10, .ref q11, v12, v13, v14, v15, v16])), (q1, .inl (c1, 16, .inl a1)), (q2, .inl (c2, 67200, .inl a2)), (q3, .inl (c3, 16, .inl a3)), (q4, .inl (c4, 16, .inl a4)), (q8, .inl (c8, 16, .inl a8)), (q9, .inl (c9, 16, .inl a9)), (q10, .inl (c10, 16, .inl a10)), (q11, .inl (c11, 16, .inl a11))]) hD hS hA [7, 8, 0, 1, 2, 3, 4, 5, 6] rfl
          refine va_calli (va_runV (As := [.int (nI o)]) (rest := []) ⟨hx, hb, hml, hown, hts⟩ (c_X8_entries l  dC dI H.size h0 0 q1 q2 q3 q4 q8 q9 q10 q11 c1 c2 c3 c4 c8 c9 c10 c11 a1 a2 a3 a4 a8 a9 a10 a11 v5 v6 v7 v12 v13 v14 v15 v16 o dep nz ho9 hF9 hd9 (by rw [hrt9]; exact hs9) hz9) (cwV 1 hts gX8_count_X8_entries rfl rfl rfl (by decide +kernel) ⟨(Nat.le_of_ble_eq_true rfl), (Nat.le_of_ble_eq_true rfl)⟩) ⟨pk_blind, va_recv hKc hPc (ci := 8) (q0 := 0) rfl rfl, pk_call hPc hKc hDc⟩ rfl rfl hl.1 rfl (lv_room (Nat.le_of_ble_eq_true rfl)) dX8_count_110 ⟨(Nat.le_of_ble_eq_true rfl), (Nat.le_of_ble_eq_true rfl)⟩) hS (fun q _ h => hFc q h) hFc (fun r_5 ur_5 t H1 locs ht hvm hw hB hz1 hk1 hS => ?_)
          try dsimp only at hw
          obtain ⟨ne, hne⟩ : ∃ n9 : Nat, n9 = cntN (inO a1 a2 a4 a8 a9 a10 a11 o) nz := ⟨_, rfl⟩
          have hne2 : ne ≤ nz := by rw [hne]; exact cnt_le _ _
          obtain ⟨hP1, hK1, hD1⟩ := hB
          rw [ht] at hP1
          have hK1 := va_K.moved hvm.symm hK1
          obtain ⟨hP, hD⟩ := va_join (wr := []) (w1 := [(h0, .inr (8, [.int 0, .ref q1, .ref q2, .ref q3, .ref q4, v5, v6, v7, .ref q8, .ref q9, .ref q10, .ref q11, v12, v13, v14, v15, v16])), (q1, .inl (c1, 16, .inl a1)), (q2, .inl (c2, 67200, .inl a2)), (q3, .inl (c3, 16, .inl a3)), (q4, .inl (c4, 16, .inl a4)), (q8, .inl (c8, 16, .inl a8)), (q9, .inl (c9, 16, .inl a9)), (q10, .inl (c10, 16, .inl a10)), (q11, .inl (c11, 16, .inl a11))]) hP hD [7, 8, 0, 1, 2, 3, 4, 5, 6] [] rfl rfl (by decide) (by decide) hk1 hFc hP1 hD1
          clear hk1 hz1 ht hPc hDc hKc hFc
          generalize H1 = H at hP hS ⊢
          replace hP : va_P (dC, dI) vwCl [(h0, .inr (8, [.int 0, .ref q1, .ref q2, .ref q3, .ref q4, v5, v6, v7, .ref q8, .ref q9, .ref q10, .ref q11, v12, v13, v14, v15, v16])), (q1, .inl (c1, 16, .inl a1)), (q2, .inl (c2, 67200, .inl a2)), (q3, .inl (c3, 16, .inl a3)), (q4, .inl (c4, 16, .inl a4)), (q8, .inl (c8, 16, .inl a8)), (q9, .inl (c9, 16, .inl a9)), (q10, .inl (c10, 16, .inl a10)), (q11, .inl (c11, 16, .inl a11))] H := hP
          replace hD : va_D A [(h0, .inr (8, [.int 0, .ref q1, .ref q2, .ref q3, .ref q4, v5, v6, v7, .ref q8, .ref q9, .ref q10, .ref q11, v12, v13, v14, v15, v16])), (q1, .inl (c1, 16, .inl a1)), (q2, .inl (c2, 67200, .inl a2)), (q3, .inl (c3, 16, .inl a3)), (q4, .inl (c4, 16, .inl a4)), (q8, .inl (c8, 16, .inl a8)), (q9, .inl (c9, 16, .inl a9)), (q10, .inl (c10, 16, .inl a10)), (q11, .inl (c11, 16, .inl a11))] := hD
          refine W.widen (k := 0) (n := 0) (Nat.le_of_ble_eq_true rfl) (Nat.le_of_ble_eq_true rfl) ?_
          obtain rfl : r_5 = nI ne := by rw [hne]; exact hw
          refine W.eq (g2 := F0 m 113 ls [.int (nI ne)]) rfl ?_
          refine lv_goto (tgt := 117) hx hb dX8_count_113 (by decide) ?_
          have hP9 := hP.sub (ws' := [(h0, .inr (8, [.int 0, .ref q1, .ref q2, .ref q3, .ref q4, v5, v6, v7, .ref q8, .ref q9, .ref q10, .ref q11, v12, v13, v14, v15, v16])), (q1, .inl (c1, 16, .inl a1)), (q2, .inl (c2, 67200, .inl a2)), (q3, .inl (c3, 16, .inl a3)), (q4, .inl (c4, 16, .inl a4)), (q8, .inl (c8, 16, .inl a8)), (q9, .inl (c9, 16, .inl a9)), (q10, .inl (c10, 16, .inl a10)), (q11, .inl (c11, 16, .inl a11))]) [0, 1, 2, 3, 4, 5, 6, 7, 8] rfl
          have hD9 := hD.sub (ws' := [(h0, .inr (8, [.int 0, .ref q1, .ref q2, .ref q3, .ref q4, v5, v6, v7, .ref q8, .ref q9, .ref q10, .ref q11, v12, v13, v14, v15, v16])), (q1, .inl (c1, 16, .inl a1)), (q2, .inl (c2, 67200, .inl a2)), (q3, .inl (c3, 16, .inl a3)), (q4, .inl (c4, 16, .inl a4)), (q8, .inl (c8, 16, .inl a8)), (q9, .inl (c9, 16, .inl a9)), (q10, .inl (c10, 16, .inl a10)), (q11, .inl (c11, 16, .inl a11))]) [0, 1, 2, 3, 4, 5, 6, 7, 8] (by decide) rfl
          have hK9 := hK.sub (tys' := [(c1, .int), (c2, .int), (c3, .int), (c4, .int), (c8, .int), (c9, .int), (c10, .int), (c11, .int)]) [0, 1, 2, 3, 4, 5, 6, 7] rfl
          refine W.widen (k := 0) (n := 0) (Nat.le_of_ble_eq_true rfl) (Nat.le_of_ble_eq_true rfl) ?_
          exact W.iret (v := nI ne) hx hb hr (fun t ht hW => ⟨⟨nI ne, (0), rfl, trivial, by rw [ht]; exact hP9, va_K.moved hW.alike hK9, hD9⟩, hS.F ht⟩) hS.2.2 dX8_count_117
      ·
        have ic_2 : p0.toInt < 30 := tx_nle (by decide) rfl c_2
        refine lv_aload_n hx hb dX8_count_82 rfl (lv_at hl 0 rfl) ?_
        refine va_get (D := (dC, dI)) (ci := 8) (v := .ref q1) (C := RX8) (T := TX8) (N := 17) hx hb hts hi0_ hown hK hP 0 rfl rfl 1 (by decide) hw1_ (fun _ h9 => h9) rfl dX8_count_83 ?_
        refine lv_iload_n hx hb dX8_count_86 rfl (lv_at hl 1 rfl) ?_
        refine lv_bipush (v := 10) hx hb dX8_count_87 (by decide) ?_
        refine lv_isub hx hb dX8_count_89 ?_
        obtain ⟨o, ho9, eo⟩ := nI_nat (x := p0 - 10) (n := 16) (by rw [tx_sub (b := 10) (by decide) (by omega) (by omega)]; omega) (by rw [tx_sub (b := 10) (by decide) (by omega) (by omega)]; omega) (by omega)
        refine W.eq (g2 := F0 m 90 ls [.int (nI o), .ref q1]) (by rw [eo]) ?_
        refine va_iald (i := nI o) hx hb hK hP 1 0 rfl rfl (vp_in_nI (by omega) (by omega)) dX8_count_90 ?_
        refine W.eq (g2 := F0 m 91 ls [.int (a1 o)]) (by rw [nI_clamp (by omega)]) ?_
        refine lv_iconst (v := 1) hx hb dX8_count_91 (by decide) ?_
        refine lv_isub hx hb dX8_count_92 ?_
        have hP9 := hP.sub (ws' := [(h0, .inr (8, [.int 0, .ref q1, .ref q2, .ref q3, .ref q4, v5, v6, v7, .ref q8, .ref q9, .ref q10, .ref q11, v12, v13, v14, v15, v16])), (q1, .inl (c1, 16, .inl a1)), (q2, .inl (c2, 67200, .inl a2)), (q3, .inl (c3, 16, .inl a3)), (q4, .inl (c4, 16, .inl a4)), (q8, .inl (c8, 16, .inl a8)), (q9, .inl (c9, 16, .inl a9)), (q10, .inl (c10, 16, .inl a10)), (q11, .inl (c11, 16, .inl a11))]) [0, 1, 2, 3, 4, 5, 6, 7, 8] rfl
        have hD9 := hD.sub (ws' := [(h0, .inr (8, [.int 0, .ref q1, .ref q2, .ref q3, .ref q4, v5, v6, v7, .ref q8, .ref q9, .ref q10, .ref q11, v12, v13, v14, v15, v16])), (q1, .inl (c1, 16, .inl a1)), (q2, .inl (c2, 67200, .inl a2)), (q3, .inl (c3, 16, .inl a3)), (q4, .inl (c4, 16, .inl a4)), (q8, .inl (c8, 16, .inl a8)), (q9, .inl (c9, 16, .inl a9)), (q10, .inl (c10, 16, .inl a10)), (q11, .inl (c11, 16, .inl a11))]) [0, 1, 2, 3, 4, 5, 6, 7, 8] (by decide) rfl
        have hK9 := hK.sub (tys' := [(c1, .int), (c2, .int), (c3, .int), (c4, .int), (c8, .int), (c9, .int), (c10, .int), (c11, .int)]) [0, 1, 2, 3, 4, 5, 6, 7] rfl
        refine W.widen (k := 0) (n := 0) (Nat.le_of_ble_eq_true rfl) (Nat.le_of_ble_eq_true rfl) ?_
        exact W.iret (v := (a1 o) - 1) hx hb hr (fun t ht hW => ⟨⟨(a1 o) - 1, (0), rfl, trivial, by rw [ht]; exact hP9, va_K.moved hW.alike hK9, hD9⟩, hS.F ht⟩) hS.2.2 dX8_count_93
    ·
      have ic_1 : p0.toInt = 0 := tx_eq rfl (by decide) c_1
      refine lv_iconst (v := 0) hx hb dX8_count_41 (by decide) ?_
      refine lv_istore_n (lv' := [(2, .int 0), (0, .ref h0), (1, .int p0)]) hx hb dX8_count_42 rfl hl (by decide) rfl (fun ls hl => ?_)
      refine lv_iconst (v := 0) hx hb dX8_count_43 (by decide) ?_
      refine lv_istore_n (lv' := [(3, .int 0), (2, .int 0), (0, .ref h0), (1, .int p0)]) hx hb dX8_count_44 rfl hl (by decide) rfl (fun ls hl => ?_)
      obtain ⟨i, es_i⟩ : ∃ z : Nat, z = 0 := ⟨_, rfl⟩
      obtain ⟨x9, ex9⟩ : ∃ y : Int32, y = nI i := ⟨_, rfl⟩
      obtain ⟨g9, es_g9⟩ : ∃ z : Int32, z = 0 := ⟨_, rfl⟩
      obtain ⟨n9, en9⟩ : ∃ n : Nat, n = 17 := ⟨_, rfl⟩
      replace hl : lv_has ls 4 [(3, .int x9), (2, .int g9), (0, .ref h0), (1, .int p0)] := by subst ex9; subst es_i; subst es_g9; exact hl
      have hi9 : i ≤ 16 := by subst ex9; subst es_i; subst es_g9; subst en9; exact by omega
      have hn9 : 17 ≤ i + n9 := by subst ex9; subst es_i; subst es_g9; subst en9; exact by omega
      clear en9 es_i es_g9
      induction n9 generalizing i x9 g9 ls H locs with
      | zero => exact absurd hn9 (by omega)
      | succ n9 ih =>
        subst ex9
        refine lv_iload_n hx hb dX8_count_45 rfl (lv_at hl 0 rfl) ?_
        refine lv_bipush (v := 16) hx hb dX8_count_46 (by decide) ?_
        refine lv_icmp_ge (tgt := 74) hx hb dX8_count_48 (by decide) (fun c_6 => ?_) (fun c_6 => ?_)
        ·
          have ic_6 : 16 ≤ ((i : Nat) : Int) := tx_le (by decide) (nI_toInt (by omega)) c_6
          refine lv_iload_n hx hb dX8_count_74 rfl (lv_at hl 1 rfl) ?_
          have hP9 := hP.sub (ws' := [(h0, .inr (8, [.int 0, .ref q1, .ref q2, .ref q3, .ref q4, v5, v6, v7, .ref q8, .ref q9, .ref q10, .ref q11, v12, v13, v14, v15, v16])), (q1, .inl (c1, 16, .inl a1)), (q2, .inl (c2, 67200, .inl a2)), (q3, .inl (c3, 16, .inl a3)), (q4, .inl (c4, 16, .inl a4)), (q8, .inl (c8, 16, .inl a8)), (q9, .inl (c9, 16, .inl a9)), (q10, .inl (c10, 16, .inl a10)), (q11, .inl (c11, 16, .inl a11))]) [0, 1, 2, 3, 4, 5, 6, 7, 8] rfl
          have hD9 := hD.sub (ws' := [(h0, .inr (8, [.int 0, .ref q1, .ref q2, .ref q3, .ref q4, v5, v6, v7, .ref q8, .ref q9, .ref q10, .ref q11, v12, v13, v14, v15, v16])), (q1, .inl (c1, 16, .inl a1)), (q2, .inl (c2, 67200, .inl a2)), (q3, .inl (c3, 16, .inl a3)), (q4, .inl (c4, 16, .inl a4)), (q8, .inl (c8, 16, .inl a8)), (q9, .inl (c9, 16, .inl a9)), (q10, .inl (c10, 16, .inl a10)), (q11, .inl (c11, 16, .inl a11))]) [0, 1, 2, 3, 4, 5, 6, 7, 8] (by decide) rfl
          have hK9 := hK.sub (tys' := [(c1, .int), (c2, .int), (c3, .int), (c4, .int), (c8, .int), (c9, .int), (c10, .int), (c11, .int)]) [0, 1, 2, 3, 4, 5, 6, 7] rfl
          refine W.widen (k := 0) (n := 0) (Nat.le_of_ble_eq_true rfl) (Nat.le_of_ble_eq_true rfl) ?_
          exact W.iret (v := g9) hx hb hr (fun t ht hW => ⟨⟨g9, (0), rfl, trivial, by rw [ht]; exact hP9, va_K.moved hW.alike hK9, hD9⟩, hS.F ht⟩) hS.2.2 dX8_count_75
        ·
          have ic_6 : ((i : Nat) : Int) < 16 := tx_nle (by decide) (nI_toInt (by omega)) c_6
          refine lv_iload_n hx hb dX8_count_51 rfl (lv_at hl 1 rfl) ?_
          refine lv_aload_n hx hb dX8_count_52 rfl (lv_at hl 2 rfl) ?_
          refine va_get (D := (dC, dI)) (ci := 8) (v := .ref q1) (C := RX8) (T := TX8) (N := 17) hx hb hts hi0_ hown hK hP 0 rfl rfl 1 (by decide) hw1_ (fun _ h9 => h9) rfl dX8_count_53 ?_
          refine lv_iload_n hx hb dX8_count_56 rfl (lv_at hl 0 rfl) ?_
          refine va_iald (i := nI i) hx hb hK hP 1 0 rfl rfl (vp_in_nI (by omega) (by omega)) dX8_count_57 ?_
          refine W.eq (g2 := F0 m 58 ls [.int (a1 i), .int g9]) (by rw [nI_clamp (by omega)]) ?_
          refine lv_if_eq (tgt := 65) hx hb dX8_count_58 (by decide) (fun c_7 => ?_) (fun c_7 => ?_)
          ·
            have ic_7 : (a1 i).toInt = 0 := tx_eq rfl (by decide) c_7
            refine lv_iconst (v := 0) hx hb dX8_count_65 (by decide) ?_
            refine lv_iadd hx hb dX8_count_66 ?_
            refine lv_istore_n (lv' := [(2, .int (g9 + 0)), (3, .int (nI i)), (0, .ref h0), (1, .int p0)]) hx hb dX8_count_67 rfl hl (by decide) rfl (fun ls hl => ?_)
            refine lv_iinc (v := nI (i + 1)) (lv' := [(3, .int (nI (i + 1))), (2, .int (g9 + 0)), (0, .ref h0), (1, .int p0)]) hx hb dX8_count_68 hl (k := 1) rfl (by rw [show Int32.ofInt 1 = nI 1 from rfl, nI_add]) (by decide) rfl (fun ls hl => ?_)
            refine lv_goto (tgt := 45) hx hb dX8_count_71 (by decide) ?_
            exact ih (i := i + 1) (x9 := nI (i + 1)) (ex9 := rfl) (g9 := g9 + 0) (ls := ls) (H := H) (locs := locs) (hP := hP.sub (ws' := [(h0, .inr (8, [.int 0, .ref q1, .ref q2, .ref q3, .ref q4, v5, v6, v7, .ref q8, .ref q9, .ref q10, .ref q11, v12, v13, v14, v15, v16])), (q1, .inl (c1, 16, .inl a1)), (q2, .inl (c2, 67200, .inl a2)), (q3, .inl (c3, 16, .inl a3)), (q4, .inl (c4, 16, .inl a4)), (q8, .inl (c8, 16, .inl a8)), (q9, .inl (c9, 16, .inl a9)), (q10, .inl (c10, 16, .inl a10)), (q11, .inl (c11, 16, .inl a11))]) [0, 1, 2, 3, 4, 5, 6, 7, 8] rfl) (hS := hS) (hi9 := by omega) (hn9 := by omega) (hl := lv_sub hl [0, 1, 2, 3] rfl)
          ·
            have ic_7 : ¬ (a1 i).toInt = 0 := tx_ne rfl (by decide) c_7
            refine lv_iconst (v := 1) hx hb dX8_count_61 (by decide) ?_
            refine lv_goto (tgt := 66) hx hb dX8_count_62 (by decide) ?_
            refine lv_iadd hx hb dX8_count_66 ?_
            refine lv_istore_n (lv' := [(2, .int (g9 + 1)), (3, .int (nI i)), (0, .ref h0), (1, .int p0)]) hx hb dX8_count_67 rfl hl (by decide) rfl (fun ls hl => ?_)
            refine lv_iinc (v := nI (i + 1)) (lv' := [(3, .int (nI (i + 1))), (2, .int (g9 + 1)), (0, .ref h0), (1, .int p0)]) hx hb dX8_count_68 hl (k := 1) rfl (by rw [show Int32.ofInt 1 = nI 1 from rfl, nI_add]) (by decide) rfl (fun ls hl => ?_)
            refine lv_goto (tgt := 45) hx hb dX8_count_71 (by decide) ?_
            exact ih (i := i + 1) (x9 := nI (i + 1)) (ex9 := rfl) (g9 := g9 + 1) (ls := ls) (H := H) (locs := locs) (hP := hP.sub (ws' := [(h0, .inr (8, [.int 0, .ref q1, .ref q2, .ref q3, .ref q4, v5, v6, v7, .ref q8, .ref q9, .ref q10, .ref q11, v12, v13, v14, v15, v16])), (q1, .inl (c1, 16, .inl a1)), (q2, .inl (c2, 67200, .inl a2)), (q3, .inl (c3, 16, .inl a3)), (q4, .inl (c4, 16, .inl a4)), (q8, .inl (c8, 16, .inl a8)), (q9, .inl (c9, 16, .inl a9)), (q10, .inl (c10, 16, .inl a10)), (q11, .inl (c11, 16, .inl a11))]) [0, 1, 2, 3, 4, 5, 6, 7, 8] rfl) (hS := hS) (hi9 := by omega) (hn9 := by omega) (hl := lv_sub hl [0, 1, 2, 3] rfl)
  ·
    refine lv_iload_n hx hb dX8_count_0 rfl (lv_at hl 1 rfl) ?_
    refine lv_if_eq (tgt := 32) hx hb dX8_count_1 (by decide) (fun c_8 => ?_) (fun c_8 => ?_)
    ·
      have ic_8 : p0.toInt = 0 := tx_eq rfl (by decide) c_8
      have fj0_ : p0.toInt = 0 ∨ (10 ≤ p0.toInt ∧ p0.toInt ≤ 25) ∨ (30 ≤ p0.toInt ∧ p0.toInt ≤ 45) := by omega
      exact jn32 (ls, H, locs) ⟨lv_sub hl [0, 1] rfl, hP.sub [0, 1, 2, 3, 4, 5, 6, 7, 8] rfl, hS, fj0_⟩
    ·
      have ic_8 : ¬ p0.toInt = 0 := tx_ne rfl (by decide) c_8
      refine lv_iload_n hx hb dX8_count_4 rfl (lv_at hl 1 rfl) ?_
      refine lv_bipush (v := 10) hx hb dX8_count_5 (by decide) ?_
      refine lv_bipush (v := 25) hx hb dX8_count_7 (by decide) ?_
      have hPc := hP.sub (ws' := []) [] rfl
      have hDc := hD.sub (ws' := []) [] (by decide) rfl
      have hKc := hK.sub (tys' := []) [] rfl
      have hFc := va_free (wc := []) hD hS hA [] rfl
      refine va_calli (va_runS (As := [.int p0, .int 10, .int 25]) (rest := []) ⟨hx, hb, hml, hown, hts⟩ (c_X8_in l  dC dI H.size p0 10 25 p0.toInt 10 25 rfl (by decide) (by decide)) (va_cwS 3 hts gX8_count_X8_in rfl rfl rfl (by decide +kernel) ⟨(Nat.le_of_ble_eq_true rfl), (Nat.le_of_ble_eq_true rfl)⟩) ⟨pk_blind, pk_call hPc hKc hDc⟩ rfl rfl hl.1 rfl (lv_room (Nat.le_of_ble_eq_true rfl)) dX8_count_9 ⟨(Nat.le_of_ble_eq_true rfl), (Nat.le_of_ble_eq_true rfl)⟩) hS (fun q _ h => hFc q h) hFc (fun r_9 ur_9 t H1 locs ht hvm hw hB hz1 hk1 hS => ?_)
      try dsimp only at hw
      have jr_9 := hw
      obtain ⟨hP, hD⟩ := va_join (wr := [(h0, .inr (8, [.int th, .ref q1, .ref q2, .ref q3, .ref q4, v5, v6, v7, .ref q8, .ref q9, .ref q10, .ref q11, v12, v13, v14, v15, v16])), (q1, .inl (c1, 16, .inl a1)), (q2, .inl (c2, 67200, .inl a2)), (q3, .inl (c3, 16, .inl a3)), (q4, .inl (c4, 16, .inl a4)), (q8, .inl (c8, 16, .inl a8)), (q9, .inl (c9, 16, .inl a9)), (q10, .inl (c10, 16, .inl a10)), (q11, .inl (c11, 16, .inl a11))]) (w1 := []) hP hD [] [0, 1, 2, 3, 4, 5, 6, 7, 8] rfl rfl (by decide) (by decide) hk1 hFc tx_P0 tx_D0
      clear hk1 hz1 ht hPc hDc hKc hFc
      generalize H1 = H at hP hS ⊢
      replace hP : va_P (dC, dI) vwCl [(h0, .inr (8, [.int th, .ref q1, .ref q2, .ref q3, .ref q4, v5, v6, v7, .ref q8, .ref q9, .ref q10, .ref q11, v12, v13, v14, v15, v16])), (q1, .inl (c1, 16, .inl a1)), (q2, .inl (c2, 67200, .inl a2)), (q3, .inl (c3, 16, .inl a3)), (q4, .inl (c4, 16, .inl a4)), (q8, .inl (c8, 16, .inl a8)), (q9, .inl (c9, 16, .inl a9)), (q10, .inl (c10, 16, .inl a10)), (q11, .inl (c11, 16, .inl a11))] H := hP
      replace hD : va_D A [(h0, .inr (8, [.int th, .ref q1, .ref q2, .ref q3, .ref q4, v5, v6, v7, .ref q8, .ref q9, .ref q10, .ref q11, v12, v13, v14, v15, v16])), (q1, .inl (c1, 16, .inl a1)), (q2, .inl (c2, 67200, .inl a2)), (q3, .inl (c3, 16, .inl a3)), (q4, .inl (c4, 16, .inl a4)), (q8, .inl (c8, 16, .inl a8)), (q9, .inl (c9, 16, .inl a9)), (q10, .inl (c10, 16, .inl a10)), (q11, .inl (c11, 16, .inl a11))] := hD
      refine W.widen (k := 0) (n := 0) (Nat.le_of_ble_eq_true rfl) (Nat.le_of_ble_eq_true rfl) ?_
      refine W.eq (g2 := F0 m 12 ls [.int r_9]) rfl ?_
      refine lv_if_ne (tgt := 32) hx hb dX8_count_12 (by decide) (fun c_10 => ?_) (fun c_10 => ?_)
      ·
        have ic_10 : ¬ r_9.toInt = 0 := tx_ne rfl (by decide) c_10
        have fj0_ : p0.toInt = 0 ∨ (10 ≤ p0.toInt ∧ p0.toInt ≤ 25) ∨ (30 ≤ p0.toInt ∧ p0.toInt ≤ 45) := by omega
        exact jn32 (ls, H, locs) ⟨lv_sub hl [0, 1] rfl, hP.sub [0, 1, 2, 3, 4, 5, 6, 7, 8] rfl, hS, fj0_⟩
      ·
        have ic_10 : r_9.toInt = 0 := tx_eq rfl (by decide) c_10
        refine lv_iload_n hx hb dX8_count_15 rfl (lv_at hl 1 rfl) ?_
        refine lv_bipush (v := 30) hx hb dX8_count_16 (by decide) ?_
        refine lv_bipush (v := 45) hx hb dX8_count_18 (by decide) ?_
        have hPc := hP.sub (ws' := []) [] rfl
        have hDc := hD.sub (ws' := []) [] (by decide) rfl
        have hKc := hK.sub (tys' := []) [] rfl
        have hFc := va_free (wc := []) hD hS hA [] rfl
        refine va_calli (va_runS (As := [.int p0, .int 30, .int 45]) (rest := []) ⟨hx, hb, hml, hown, hts⟩ (c_X8_in l  dC dI H.size p0 30 45 p0.toInt 30 45 rfl (by decide) (by decide)) (va_cwS 3 hts gX8_count_X8_in rfl rfl rfl (by decide +kernel) ⟨(Nat.le_of_ble_eq_true rfl), (Nat.le_of_ble_eq_true rfl)⟩) ⟨pk_blind, pk_call hPc hKc hDc⟩ rfl rfl hl.1 rfl (lv_room (Nat.le_of_ble_eq_true rfl)) dX8_count_20 ⟨(Nat.le_of_ble_eq_true rfl), (Nat.le_of_ble_eq_true rfl)⟩) hS (fun q _ h => hFc q h) hFc (fun r_11 ur_11 t H1 locs ht hvm hw hB hz1 hk1 hS => ?_)
        try dsimp only at hw
        have jr_11 := hw
        obtain ⟨hP, hD⟩ := va_join (wr := [(h0, .inr (8, [.int th, .ref q1, .ref q2, .ref q3, .ref q4, v5, v6, v7, .ref q8, .ref q9, .ref q10, .ref q11, v12, v13, v14, v15, v16])), (q1, .inl (c1, 16, .inl a1)), (q2, .inl (c2, 67200, .inl a2)), (q3, .inl (c3, 16, .inl a3)), (q4, .inl (c4, 16, .inl a4)), (q8, .inl (c8, 16, .inl a8)), (q9, .inl (c9, 16, .inl a9)), (q10, .inl (c10, 16, .inl a10)), (q11, .inl (c11, 16, .inl a11))]) (w1 := []) hP hD [] [0, 1, 2, 3, 4, 5, 6, 7, 8] rfl rfl (by decide) (by decide) hk1 hFc tx_P0 tx_D0
        clear hk1 hz1 ht hPc hDc hKc hFc
        generalize H1 = H at hP hS ⊢
        replace hP : va_P (dC, dI) vwCl [(h0, .inr (8, [.int th, .ref q1, .ref q2, .ref q3, .ref q4, v5, v6, v7, .ref q8, .ref q9, .ref q10, .ref q11, v12, v13, v14, v15, v16])), (q1, .inl (c1, 16, .inl a1)), (q2, .inl (c2, 67200, .inl a2)), (q3, .inl (c3, 16, .inl a3)), (q4, .inl (c4, 16, .inl a4)), (q8, .inl (c8, 16, .inl a8)), (q9, .inl (c9, 16, .inl a9)), (q10, .inl (c10, 16, .inl a10)), (q11, .inl (c11, 16, .inl a11))] H := hP
        replace hD : va_D A [(h0, .inr (8, [.int th, .ref q1, .ref q2, .ref q3, .ref q4, v5, v6, v7, .ref q8, .ref q9, .ref q10, .ref q11, v12, v13, v14, v15, v16])), (q1, .inl (c1, 16, .inl a1)), (q2, .inl (c2, 67200, .inl a2)), (q3, .inl (c3, 16, .inl a3)), (q4, .inl (c4, 16, .inl a4)), (q8, .inl (c8, 16, .inl a8)), (q9, .inl (c9, 16, .inl a9)), (q10, .inl (c10, 16, .inl a10)), (q11, .inl (c11, 16, .inl a11))] := hD
        refine W.widen (k := 0) (n := 0) (Nat.le_of_ble_eq_true rfl) (Nat.le_of_ble_eq_true rfl) ?_
        refine W.eq (g2 := F0 m 23 ls [.int r_11]) rfl ?_
        refine lv_if_ne (tgt := 32) hx hb dX8_count_23 (by decide) (fun c_12 => ?_) (fun c_12 => ?_)
        ·
          have ic_12 : ¬ r_11.toInt = 0 := tx_ne rfl (by decide) c_12
          have fj0_ : p0.toInt = 0 ∨ (10 ≤ p0.toInt ∧ p0.toInt ≤ 25) ∨ (30 ≤ p0.toInt ∧ p0.toInt ≤ 45) := by omega
          exact jn32 (ls, H, locs) ⟨lv_sub hl [0, 1] rfl, hP.sub [0, 1, 2, 3, 4, 5, 6, 7, 8] rfl, hS, fj0_⟩
        ·
          have ic_12 : r_11.toInt = 0 := tx_eq rfl (by decide) c_12
          refine lv_aload_n hx hb dX8_count_26 rfl (lv_at hl 0 rfl) ?_
          refine lv_iconst (v := 1) hx hb dX8_count_27 (by decide) ?_
          have hPc := hP.sub (ws' := [(h0, .inr (8, [.int th, .ref q1, .ref q2, .ref q3, .ref q4, v5, v6, v7, .ref q8, .ref q9, .ref q10, .ref q11, v12, v13, v14, v15, v16]))]) [0] rfl
          have hDc := hD.sub (ws' := [(h0, .inr (8, [.int th, .ref q1, .ref q2, .ref q3, .ref q4, v5, v6, v7, .ref q8, .ref q9, .ref q10, .ref q11, v12, v13, v14, v15, v16]))]) [0] (by decide) rfl
          have hKc := hK.sub (tys' := []) [] rfl
          have hFc := va_free (wc := [(h0, .inr (8, [.int th, .ref q1, .ref q2, .ref q3, .ref q4, v5, v6, v7, .ref q8, .ref q9, .ref q10, .ref q11, v12, v13, v14, v15, v16]))]) hD hS hA [0] rfl
          refine va_calli (va_runV (As := [.int 1]) (rest := []) ⟨hx, hb, hml, hown, hts⟩ (c_X8_refuse l  dC dI H.size h0 th (.ref q1) (.ref q2) (.ref q3) (.ref q4) v5 v6 v7 (.ref q8) (.ref q9) (.ref q10) (.ref q11) v12 v13 v14 v15 v16 1) (cwV 1 hts gX8_count_X8_refuse rfl rfl rfl (by decide +kernel) ⟨(Nat.le_of_ble_eq_true rfl), (Nat.le_of_ble_eq_true rfl)⟩) ⟨pk_blind, va_recv hKc hPc (ci := 8) (q0 := 0) rfl rfl, pk_call hPc hKc hDc⟩ rfl rfl hl.1 rfl (lv_room (Nat.le_of_ble_eq_true rfl)) dX8_count_28 ⟨(Nat.le_of_ble_eq_true rfl), (Nat.le_of_ble_eq_true rfl)⟩) hS (fun q _ h => hFc q h) hFc (fun r_13 ur_13 t H1 locs ht hvm hw hB hz1 hk1 hS => ?_)
          try dsimp only at hw
          obtain ⟨hP1, hK1, hD1⟩ := hB
          rw [ht] at hP1
          have hK1 := va_K.moved hvm.symm hK1
          obtain ⟨hP, hD⟩ := va_join (wr := [(q1, .inl (c1, 16, .inl a1)), (q2, .inl (c2, 67200, .inl a2)), (q3, .inl (c3, 16, .inl a3)), (q4, .inl (c4, 16, .inl a4)), (q8, .inl (c8, 16, .inl a8)), (q9, .inl (c9, 16, .inl a9)), (q10, .inl (c10, 16, .inl a10)), (q11, .inl (c11, 16, .inl a11))]) (w1 := [(h0, .inr (8, [.int 1, .ref q1, .ref q2, .ref q3, .ref q4, v5, v6, v7, .ref q8, .ref q9, .ref q10, .ref q11, v12, v13, v14, v15, v16]))]) hP hD [0] [1, 2, 3, 4, 5, 6, 7, 8] rfl rfl (by decide) (by decide) hk1 hFc hP1 hD1
          clear hk1 hz1 ht hPc hDc hKc hFc
          generalize H1 = H at hP hS ⊢
          replace hP : va_P (dC, dI) vwCl [(q1, .inl (c1, 16, .inl a1)), (q2, .inl (c2, 67200, .inl a2)), (q3, .inl (c3, 16, .inl a3)), (q4, .inl (c4, 16, .inl a4)), (q8, .inl (c8, 16, .inl a8)), (q9, .inl (c9, 16, .inl a9)), (q10, .inl (c10, 16, .inl a10)), (q11, .inl (c11, 16, .inl a11)), (h0, .inr (8, [.int 1, .ref q1, .ref q2, .ref q3, .ref q4, v5, v6, v7, .ref q8, .ref q9, .ref q10, .ref q11, v12, v13, v14, v15, v16]))] H := hP
          replace hD : va_D A [(q1, .inl (c1, 16, .inl a1)), (q2, .inl (c2, 67200, .inl a2)), (q3, .inl (c3, 16, .inl a3)), (q4, .inl (c4, 16, .inl a4)), (q8, .inl (c8, 16, .inl a8)), (q9, .inl (c9, 16, .inl a9)), (q10, .inl (c10, 16, .inl a10)), (q11, .inl (c11, 16, .inl a11)), (h0, .inr (8, [.int 1, .ref q1, .ref q2, .ref q3, .ref q4, v5, v6, v7, .ref q8, .ref q9, .ref q10, .ref q11, v12, v13, v14, v15, v16]))] := hD
          refine W.widen (k := 0) (n := 0) (Nat.le_of_ble_eq_true rfl) (Nat.le_of_ble_eq_true rfl) ?_
          obtain rfl : r_13 = 0 := hw
          refine W.eq (g2 := F0 m 31 ls [.int 0]) rfl ?_
          have hP9 := hP.sub (ws' := [(h0, .inr (8, [.int 1, .ref q1, .ref q2, .ref q3, .ref q4, v5, v6, v7, .ref q8, .ref q9, .ref q10, .ref q11, v12, v13, v14, v15, v16])), (q1, .inl (c1, 16, .inl a1)), (q2, .inl (c2, 67200, .inl a2)), (q3, .inl (c3, 16, .inl a3)), (q4, .inl (c4, 16, .inl a4)), (q8, .inl (c8, 16, .inl a8)), (q9, .inl (c9, 16, .inl a9)), (q10, .inl (c10, 16, .inl a10)), (q11, .inl (c11, 16, .inl a11))]) [8, 0, 1, 2, 3, 4, 5, 6, 7] rfl
          have hD9 := hD.sub (ws' := [(h0, .inr (8, [.int 1, .ref q1, .ref q2, .ref q3, .ref q4, v5, v6, v7, .ref q8, .ref q9, .ref q10, .ref q11, v12, v13, v14, v15, v16])), (q1, .inl (c1, 16, .inl a1)), (q2, .inl (c2, 67200, .inl a2)), (q3, .inl (c3, 16, .inl a3)), (q4, .inl (c4, 16, .inl a4)), (q8, .inl (c8, 16, .inl a8)), (q9, .inl (c9, 16, .inl a9)), (q10, .inl (c10, 16, .inl a10)), (q11, .inl (c11, 16, .inl a11))]) [8, 0, 1, 2, 3, 4, 5, 6, 7] (by decide) rfl
          have hK9 := hK.sub (tys' := [(c1, .int), (c2, .int), (c3, .int), (c4, .int), (c8, .int), (c9, .int), (c10, .int), (c11, .int)]) [0, 1, 2, 3, 4, 5, 6, 7] rfl
          refine W.widen (k := 0) (n := 0) (Nat.le_of_ble_eq_true rfl) (Nat.le_of_ble_eq_true rfl) ?_
          exact W.iret (v := 0) hx hb hr (fun t ht hW => ⟨⟨0, (1), rfl, trivial, by rw [ht]; exact hP9, va_K.moved hW.alike hK9, hD9⟩, hS.F ht⟩) hS.2.2 dX8_count_31
