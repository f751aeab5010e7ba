theorem dX5_insert_0 : decode cX5_insert 0 = .ok (.iload_n 1, 1) := by decide +kernel
theorem dX5_insert_1 : decode cX5_insert 1 = .ok (.ifCond .lt 21, 3) := by decide +kernel
theorem dX5_insert_22 : decode cX5_insert 22 = .ok (.return_, 1) := by decide +kernel
theorem dX5_insert_4 : decode cX5_insert 4 = .ok (.iload_n 1, 1) := by decide +kernel
theorem dX5_insert_5 : decode cX5_insert 5 = .ok (.aload_n 0, 1) := by decide +kernel
theorem dX5_insert_6 : decode cX5_insert 6 = .ok (.getfield 18, 3) := by decide +kernel
theorem dX5_insert_9 : decode cX5_insert 9 = .ok (.if_icmp .gt 13, 3) := by decide +kernel
theorem dX5_insert_12 : decode cX5_insert 12 = .ok (.aload_n 0, 1) := by decide +kernel
theorem dX5_insert_13 : decode cX5_insert 13 = .ok (.getfield 18, 3) := by decide +kernel
theorem dX5_insert_16 : decode cX5_insert 16 = .ok (.sipush 1000, 3) := by decide +kernel
theorem dX5_insert_19 : decode cX5_insert 19 = .ok (.if_icmp .lt 4, 3) := by decide +kernel
theorem dX5_insert_23 : decode cX5_insert 23 = .ok (.aload_n 0, 1) := by decide +kernel
theorem dX5_insert_24 : decode cX5_insert 24 = .ok (.getfield 18, 3) := by decide +kernel
theorem dX5_insert_27 : decode cX5_insert 27 = .ok (.aload_n 0, 1) := by decide +kernel
theorem dX5_insert_28 : decode cX5_insert 28 = .ok (.getfield 9, 3) := by decide +kernel
theorem dX5_insert_31 : decode cX5_insert 31 = .ok (.arraylength, 1) := by decide +kernel
theorem dX5_insert_32 : decode cX5_insert 32 = .ok (.if_icmp .lt 37, 3) := by decide +kernel
theorem dX5_insert_69 : decode cX5_insert 69 = .ok (.aload_n 0, 1) := by decide +kernel
theorem dX5_insert_70 : decode cX5_insert 70 = .ok (.getfield 9, 3) := by decide +kernel
theorem dX5_insert_73 : decode cX5_insert 73 = .ok (.iload_n 1, 1) := by decide +kernel
theorem dX5_insert_74 : decode cX5_insert 74 = .ok (.aload_n 0, 1) := by decide +kernel
theorem dX5_insert_75 : decode cX5_insert 75 = .ok (.getfield 9, 3) := by decide +kernel
theorem dX5_insert_78 : decode cX5_insert 78 = .ok (.iload_n 1, 1) := by decide +kernel
theorem dX5_insert_79 : decode cX5_insert 79 = .ok (.iconst 1, 1) := by decide +kernel
theorem dX5_insert_80 : decode cX5_insert 80 = .ok (.iadd, 1) := by decide +kernel
theorem dX5_insert_81 : decode cX5_insert 81 = .ok (.aload_n 0, 1) := by decide +kernel
theorem dX5_insert_82 : decode cX5_insert 82 = .ok (.getfield 18, 3) := by decide +kernel
theorem dX5_insert_85 : decode cX5_insert 85 = .ok (.iload_n 1, 1) := by decide +kernel
theorem dX5_insert_86 : decode cX5_insert 86 = .ok (.isub, 1) := by decide +kernel
theorem dX5_insert_87 : decode cX5_insert 87 = .ok (.invokestatic 31, 3) := by decide +kernel
theorem dX5_insert_90 : decode cX5_insert 90 = .ok (.aload_n 0, 1) := by decide +kernel
theorem dX5_insert_91 : decode cX5_insert 91 = .ok (.getfield 15, 3) := by decide +kernel
theorem dX5_insert_94 : decode cX5_insert 94 = .ok (.iload_n 1, 1) := by decide +kernel
theorem dX5_insert_95 : decode cX5_insert 95 = .ok (.aload_n 0, 1) := by decide +kernel
theorem dX5_insert_96 : decode cX5_insert 96 = .ok (.getfield 15, 3) := by decide +kernel
theorem dX5_insert_99 : decode cX5_insert 99 = .ok (.iload_n 1, 1) := by decide +kernel
theorem dX5_insert_100 : decode cX5_insert 100 = .ok (.iconst 1, 1) := by decide +kernel
theorem dX5_insert_101 : decode cX5_insert 101 = .ok (.iadd, 1) := by decide +kernel
theorem dX5_insert_102 : decode cX5_insert 102 = .ok (.aload_n 0, 1) := by decide +kernel
theorem dX5_insert_103 : decode cX5_insert 103 = .ok (.getfield 18, 3) := by decide +kernel
theorem dX5_insert_106 : decode cX5_insert 106 = .ok (.iload_n 1, 1) := by decide +kernel
theorem dX5_insert_107 : decode cX5_insert 107 = .ok (.isub, 1) := by decide +kernel
theorem dX5_insert_108 : decode cX5_insert 108 = .ok (.invokestatic 31, 3) := by decide +kernel
theorem dX5_insert_111 : decode cX5_insert 111 = .ok (.aload_n 0, 1) := by decide +kernel
theorem dX5_insert_112 : decode cX5_insert 112 = .ok (.getfield 9, 3) := by decide +kernel
theorem dX5_insert_115 : decode cX5_insert 115 = .ok (.iload_n 1, 1) := by decide +kernel
theorem dX5_insert_116 : decode cX5_insert 116 = .ok (.iload_n 2, 1) := by decide +kernel
theorem dX5_insert_117 : decode cX5_insert 117 = .ok (.iastore, 1) := by decide +kernel
theorem dX5_insert_118 : decode cX5_insert 118 = .ok (.aload_n 0, 1) := by decide +kernel
theorem dX5_insert_119 : decode cX5_insert 119 = .ok (.getfield 15, 3) := by decide +kernel
theorem dX5_insert_122 : decode cX5_insert 122 = .ok (.iload_n 1, 1) := by decide +kernel
theorem dX5_insert_123 : decode cX5_insert 123 = .ok (.iload_n 3, 1) := by decide +kernel
theorem dX5_insert_124 : decode cX5_insert 124 = .ok (.iastore, 1) := by decide +kernel
theorem dX5_insert_125 : decode cX5_insert 125 = .ok (.aload_n 0, 1) := by decide +kernel
theorem dX5_insert_126 : decode cX5_insert 126 = .ok (.dup, 1) := by decide +kernel
theorem dX5_insert_127 : decode cX5_insert 127 = .ok (.getfield 18, 3) := by decide +kernel
theorem dX5_insert_130 : decode cX5_insert 130 = .ok (.iconst 1, 1) := by decide +kernel
theorem dX5_insert_131 : decode cX5_insert 131 = .ok (.iadd, 1) := by decide +kernel
theorem dX5_insert_132 : decode cX5_insert 132 = .ok (.putfield 18, 3) := by decide +kernel
theorem dX5_insert_135 : decode cX5_insert 135 = .ok (.aload_n 0, 1) := by decide +kernel
theorem dX5_insert_136 : decode cX5_insert 136 = .ok (.dup, 1) := by decide +kernel
theorem dX5_insert_137 : decode cX5_insert 137 = .ok (.getfield 22, 3) := by decide +kernel
theorem dX5_insert_140 : decode cX5_insert 140 = .ok (.iconst 1, 1) := by decide +kernel
theorem dX5_insert_141 : decode cX5_insert 141 = .ok (.iadd, 1) := by decide +kernel
theorem dX5_insert_142 : decode cX5_insert 142 = .ok (.putfield 22, 3) := by decide +kernel
theorem dX5_insert_145 : decode cX5_insert 145 = .ok (.return_, 1) := by decide +kernel
theorem dX5_insert_35 : decode cX5_insert 35 = .ok (.aload_n 0, 1) := by decide +kernel
theorem dX5_insert_36 : decode cX5_insert 36 = .ok (.aload_n 0, 1) := by decide +kernel
theorem dX5_insert_37 : decode cX5_insert 37 = .ok (.getfield 9, 3) := by decide +kernel
theorem dX5_insert_40 : decode cX5_insert 40 = .ok (.aload_n 0, 1) := by decide +kernel
theorem dX5_insert_41 : decode cX5_insert 41 = .ok (.getfield 18, 3) := by decide +kernel
theorem dX5_insert_44 : decode cX5_insert 44 = .ok (.iconst 2, 1) := by decide +kernel
theorem dX5_insert_45 : decode cX5_insert 45 = .ok (.imul, 1) := by decide +kernel
set_option maxRecDepth 20000 in
theorem ggX5_insert_J7_copyOf_59c91 : GoodIn wsX5_insert wsJ7_copyOf_59c91 := goodIn_r _ [12, 13, 14, 15, 16, 17, 18, 19, 20, 21, 22, 23, 24, 5, 6, 7] rfl (by decide +kernel)
set_option maxRecDepth 20000 in
theorem gX5_insert_J7_copyOf_59c91 : GoodIn wsX5_insert (va_wsS RX5 25 yJ7_copyOf_59c91 wsJ7_copyOf_59c91) := goodIn_app (goodIn_of _ (by decide +kernel)) ggX5_insert_J7_copyOf_59c91
theorem dX5_insert_46 : decode cX5_insert 46 = .ok (.invokestatic 25, 3) := by decide +kernel
theorem dX5_insert_49 : decode cX5_insert 49 = .ok (.putfield 9, 3) := by decide +kernel
theorem dX5_insert_52 : decode cX5_insert 52 = .ok (.aload_n 0, 1) := by decide +kernel
theorem dX5_insert_53 : decode cX5_insert 53 = .ok (.aload_n 0, 1) := by decide +kernel
theorem dX5_insert_54 : decode cX5_insert 54 = .ok (.getfield 15, 3) := by decide +kernel
theorem dX5_insert_57 : decode cX5_insert 57 = .ok (.aload_n 0, 1) := by decide +kernel
theorem dX5_insert_58 : decode cX5_insert 58 = .ok (.getfield 18, 3) := by decide +kernel
theorem dX5_insert_61 : decode cX5_insert 61 = .ok (.iconst 2, 1) := by decide +kernel
theorem dX5_insert_62 : decode cX5_insert 62 = .ok (.imul, 1) := by decide +kernel
theorem dX5_insert_63 : decode cX5_insert 63 = .ok (.invokestatic 25, 3) := by decide +kernel
theorem dX5_insert_66 : decode cX5_insert 66 = .ok (.putfield 15, 3) := by decide +kernel
theorem dX5_remove_0 : decode cX5_remove 0 = .ok (.iload_n 1, 1) := by decide +kernel
theorem dX5_remove_1 : decode cX5_remove 1 = .ok (.ifCond .lt 16, 3) := by decide +kernel
theorem dX5_remove_17 : decode cX5_remove 17 = .ok (.return_, 1) := by decide +kernel
theorem dX5_remove_4 : decode cX5_remove 4 = .ok (.iload_n 2, 1) := by decide +kernel
theorem dX5_remove_5 : decode cX5_remove 5 = .ok (.iload_n 1, 1) := by decide +kernel
theorem dX5_remove_6 : decode cX5_remove 6 = .ok (.if_icmp .lt 11, 3) := by decide +kernel
theorem dX5_remove_9 : decode cX5_remove 9 = .ok (.iload_n 2, 1) := by decide +kernel
theorem dX5_remove_10 : decode cX5_remove 10 = .ok (.aload_n 0, 1) := by decide +kernel
theorem dX5_remove_11 : decode cX5_remove 11 = .ok (.getfield 18, 3) := by decide +kernel
theorem dX5_remove_14 : decode cX5_remove 14 = .ok (.if_icmp .le 4, 3) := by decide +kernel
theorem dX5_remove_18 : decode cX5_remove 18 = .ok (.aload_n 0, 1) := by decide +kernel
theorem dX5_remove_19 : decode cX5_remove 19 = .ok (.getfield 9, 3) := by decide +kernel
theorem dX5_remove_22 : decode cX5_remove 22 = .ok (.iload_n 2, 1) := by decide +kernel
theorem dX5_remove_23 : decode cX5_remove 23 = .ok (.aload_n 0, 1) := by decide +kernel
theorem dX5_remove_24 : decode cX5_remove 24 = .ok (.getfield 9, 3) := by decide +kernel
theorem dX5_remove_27 : decode cX5_remove 27 = .ok (.iload_n 1, 1) := by decide +kernel
theorem dX5_remove_28 : decode cX5_remove 28 = .ok (.aload_n 0, 1) := by decide +kernel
theorem dX5_remove_29 : decode cX5_remove 29 = .ok (.getfield 18, 3) := by decide +kernel
theorem dX5_remove_32 : decode cX5_remove 32 = .ok (.iload_n 2, 1) := by decide +kernel
theorem dX5_remove_33 : decode cX5_remove 33 = .ok (.isub, 1) := by decide +kernel
theorem dX5_remove_34 : decode cX5_remove 34 = .ok (.invokestatic 31, 3) := by decide +kernel
theorem dX5_remove_37 : decode cX5_remove 37 = .ok (.aload_n 0, 1) := by decide +kernel
theorem dX5_remove_38 : decode cX5_remove 38 = .ok (.getfield 15, 3) := by decide +kernel
theorem dX5_remove_41 : decode cX5_remove 41 = .ok (.iload_n 2, 1) := by decide +kernel
theorem dX5_remove_42 : decode cX5_remove 42 = .ok (.aload_n 0, 1) := by decide +kernel
theorem dX5_remove_43 : decode cX5_remove 43 = .ok (.getfield 15, 3) := by decide +kernel
theorem dX5_remove_46 : decode cX5_remove 46 = .ok (.iload_n 1, 1) := by decide +kernel
theorem dX5_remove_47 : decode cX5_remove 47 = .ok (.aload_n 0, 1) := by decide +kernel
theorem dX5_remove_48 : decode cX5_remove 48 = .ok (.getfield 18, 3) := by decide +kernel
theorem dX5_remove_51 : decode cX5_remove 51 = .ok (.iload_n 2, 1) := by decide +kernel
theorem dX5_remove_52 : decode cX5_remove 52 = .ok (.isub, 1) := by decide +kernel
theorem dX5_remove_53 : decode cX5_remove 53 = .ok (.invokestatic 31, 3) := by decide +kernel
theorem dX5_remove_56 : decode cX5_remove 56 = .ok (.aload_n 0, 1) := by decide +kernel
theorem dX5_remove_57 : decode cX5_remove 57 = .ok (.dup, 1) := by decide +kernel
theorem dX5_remove_58 : decode cX5_remove 58 = .ok (.getfield 18, 3) := by decide +kernel
theorem dX5_remove_61 : decode cX5_remove 61 = .ok (.iload_n 2, 1) := by decide +kernel
theorem dX5_remove_62 : decode cX5_remove 62 = .ok (.iload_n 1, 1) := by decide +kernel
theorem dX5_remove_63 : decode cX5_remove 63 = .ok (.isub, 1) := by decide +kernel
theorem dX5_remove_64 : decode cX5_remove 64 = .ok (.isub, 1) := by decide +kernel
theorem dX5_remove_65 : decode cX5_remove 65 = .ok (.putfield 18, 3) := by decide +kernel
theorem dX5_remove_68 : decode cX5_remove 68 = .ok (.aload_n 0, 1) := by decide +kernel
theorem dX5_remove_69 : decode cX5_remove 69 = .ok (.dup, 1) := by decide +kernel
theorem dX5_remove_70 : decode cX5_remove 70 = .ok (.getfield 22, 3) := by decide +kernel
theorem dX5_remove_73 : decode cX5_remove 73 = .ok (.iconst 1, 1) := by decide +kernel
theorem dX5_remove_74 : decode cX5_remove 74 = .ok (.iadd, 1) := by decide +kernel
theorem dX5_remove_75 : decode cX5_remove 75 = .ok (.putfield 22, 3) := by decide +kernel
theorem dX5_remove_78 : decode cX5_remove 78 = .ok (.return_, 1) := by decide +kernel
theorem dX5_moveToEnd_0 : decode cX5_moveToEnd 0 = .ok (.iload_n 1, 1) := by decide +kernel
theorem dX5_moveToEnd_1 : decode cX5_moveToEnd 1 = .ok (.ifCond .lt 13, 3) := by decide +kernel
theorem dX5_moveToEnd_14 : decode cX5_moveToEnd 14 = .ok (.return_, 1) := by decide +kernel
theorem dX5_moveToEnd_4 : decode cX5_moveToEnd 4 = .ok (.iload_n 1, 1) := by decide +kernel
theorem dX5_moveToEnd_5 : decode cX5_moveToEnd 5 = .ok (.aload_n 0, 1) := by decide +kernel
theorem dX5_moveToEnd_6 : decode cX5_moveToEnd 6 = .ok (.getfield 18, 3) := by decide +kernel
theorem dX5_moveToEnd_9 : decode cX5_moveToEnd 9 = .ok (.iconst 1, 1) := by decide +kernel
theorem dX5_moveToEnd_10 : decode cX5_moveToEnd 10 = .ok (.isub, 1) := by decide +kernel
theorem dX5_moveToEnd_11 : decode cX5_moveToEnd 11 = .ok (.if_icmp .lt 4, 3) := by decide +kernel
theorem dX5_moveToEnd_15 : decode cX5_moveToEnd 15 = .ok (.aload_n 0, 1) := by decide +kernel
theorem dX5_moveToEnd_16 : decode cX5_moveToEnd 16 = .ok (.getfield 9, 3) := by decide +kernel
theorem dX5_moveToEnd_19 : decode cX5_moveToEnd 19 = .ok (.iload_n 1, 1) := by decide +kernel
theorem dX5_moveToEnd_20 : decode cX5_moveToEnd 20 = .ok (.iaload, 1) := by decide +kernel
theorem dX5_moveToEnd_21 : decode cX5_moveToEnd 21 = .ok (.istore_n 2, 1) := by decide +kernel
theorem dX5_moveToEnd_22 : decode cX5_moveToEnd 22 = .ok (.aload_n 0, 1) := by decide +kernel
theorem dX5_moveToEnd_23 : decode cX5_moveToEnd 23 = .ok (.getfield 15, 3) := by decide +kernel
theorem dX5_moveToEnd_26 : decode cX5_moveToEnd 26 = .ok (.iload_n 1, 1) := by decide +kernel
theorem dX5_moveToEnd_27 : decode cX5_moveToEnd 27 = .ok (.iaload, 1) := by decide +kernel
theorem dX5_moveToEnd_28 : decode cX5_moveToEnd 28 = .ok (.istore_n 3, 1) := by decide +kernel
theorem dX5_moveToEnd_29 : decode cX5_moveToEnd 29 = .ok (.aload_n 0, 1) := by decide +kernel
theorem dX5_moveToEnd_30 : decode cX5_moveToEnd 30 = .ok (.getfield 9, 3) := by decide +kernel
theorem dX5_moveToEnd_33 : decode cX5_moveToEnd 33 = .ok (.iload_n 1, 1) := by decide +kernel
theorem dX5_moveToEnd_34 : decode cX5_moveToEnd 34 = .ok (.iconst 1, 1) := by decide +kernel
theorem dX5_moveToEnd_35 : decode cX5_moveToEnd 35 = .ok (.iadd, 1) := by decide +kernel
theorem dX5_moveToEnd_36 : decode cX5_moveToEnd 36 = .ok (.aload_n 0, 1) := by decide +kernel
theorem dX5_moveToEnd_37 : decode cX5_moveToEnd 37 = .ok (.getfield 9, 3) := by decide +kernel
theorem dX5_moveToEnd_40 : decode cX5_moveToEnd 40 = .ok (.iload_n 1, 1) := by decide +kernel
theorem dX5_moveToEnd_41 : decode cX5_moveToEnd 41 = .ok (.aload_n 0, 1) := by decide +kernel
theorem dX5_moveToEnd_42 : decode cX5_moveToEnd 42 = .ok (.getfield 18, 3) := by decide +kernel
theorem dX5_moveToEnd_45 : decode cX5_moveToEnd 45 = .ok (.iconst 1, 1) := by decide +kernel
theorem dX5_moveToEnd_46 : decode cX5_moveToEnd 46 = .ok (.isub, 1) := by decide +kernel
theorem dX5_moveToEnd_47 : decode cX5_moveToEnd 47 = .ok (.iload_n 1, 1) := by decide +kernel
theorem dX5_moveToEnd_48 : decode cX5_moveToEnd 48 = .ok (.isub, 1) := by decide +kernel
theorem dX5_moveToEnd_49 : decode cX5_moveToEnd 49 = .ok (.invokestatic 31, 3) := by decide +kernel
theorem dX5_moveToEnd_52 : decode cX5_moveToEnd 52 = .ok (.aload_n 0, 1) := by decide +kernel
theorem dX5_moveToEnd_53 : decode cX5_moveToEnd 53 = .ok (.getfield 15, 3) := by decide +kernel
theorem dX5_moveToEnd_56 : decode cX5_moveToEnd 56 = .ok (.iload_n 1, 1) := by decide +kernel
theorem dX5_moveToEnd_57 : decode cX5_moveToEnd 57 = .ok (.iconst 1, 1) := by decide +kernel
theorem dX5_moveToEnd_58 : decode cX5_moveToEnd 58 = .ok (.iadd, 1) := by decide +kernel
theorem dX5_moveToEnd_59 : decode cX5_moveToEnd 59 = .ok (.aload_n 0, 1) := by decide +kernel
theorem dX5_moveToEnd_60 : decode cX5_moveToEnd 60 = .ok (.getfield 15, 3) := by decide +kernel
theorem dX5_moveToEnd_63 : decode cX5_moveToEnd 63 = .ok (.iload_n 1, 1) := by decide +kernel
theorem dX5_moveToEnd_64 : decode cX5_moveToEnd 64 = .ok (.aload_n 0, 1) := by decide +kernel
theorem dX5_moveToEnd_65 : decode cX5_moveToEnd 65 = .ok (.getfield 18, 3) := by decide +kernel
theorem dX5_moveToEnd_68 : decode cX5_moveToEnd 68 = .ok (.iconst 1, 1) := by decide +kernel
theorem dX5_moveToEnd_69 : decode cX5_moveToEnd 69 = .ok (.isub, 1) := by decide +kernel
theorem dX5_moveToEnd_70 : decode cX5_moveToEnd 70 = .ok (.iload_n 1, 1) := by decide +kernel
theorem dX5_moveToEnd_71 : decode cX5_moveToEnd 71 = .ok (.isub, 1) := by decide +kernel
theorem dX5_moveToEnd_72 : decode cX5_moveToEnd 72 = .ok (.invokestatic 31, 3) := by decide +kernel
theorem dX5_moveToEnd_75 : decode cX5_moveToEnd 75 = .ok (.aload_n 0, 1) := by decide +kernel
theorem dX5_moveToEnd_76 : decode cX5_moveToEnd 76 = .ok (.getfield 9, 3) := by decide +kernel
theorem dX5_moveToEnd_79 : decode cX5_moveToEnd 79 = .ok (.aload_n 0, 1) := by decide +kernel
theorem dX5_moveToEnd_80 : decode cX5_moveToEnd 80 = .ok (.getfield 18, 3) := by decide +kernel
theorem dX5_moveToEnd_83 : decode cX5_moveToEnd 83 = .ok (.iconst 1, 1) := by decide +kernel
theorem dX5_moveToEnd_84 : decode cX5_moveToEnd 84 = .ok (.isub, 1) := by decide +kernel
theorem dX5_moveToEnd_85 : decode cX5_moveToEnd 85 = .ok (.iload_n 2, 1) := by decide +kernel
theorem dX5_moveToEnd_86 : decode cX5_moveToEnd 86 = .ok (.iastore, 1) := by decide +kernel
theorem dX5_moveToEnd_87 : decode cX5_moveToEnd 87 = .ok (.aload_n 0, 1) := by decide +kernel
theorem dX5_moveToEnd_88 : decode cX5_moveToEnd 88 = .ok (.getfield 15, 3) := by decide +kernel
theorem dX5_moveToEnd_91 : decode cX5_moveToEnd 91 = .ok (.aload_n 0, 1) := by decide +kernel
theorem dX5_moveToEnd_92 : decode cX5_moveToEnd 92 = .ok (.getfield 18, 3) := by decide +kernel
theorem dX5_moveToEnd_95 : decode cX5_moveToEnd 95 = .ok (.iconst 1, 1) := by decide +kernel
theorem dX5_moveToEnd_96 : decode cX5_moveToEnd 96 = .ok (.isub, 1) := by decide +kernel
theorem dX5_moveToEnd_97 : decode cX5_moveToEnd 97 = .ok (.iload_n 3, 1) := by decide +kernel
theorem dX5_moveToEnd_98 : decode cX5_moveToEnd 98 = .ok (.iastore, 1) := by decide +kernel
theorem dX5_moveToEnd_99 : decode cX5_moveToEnd 99 = .ok (.aload_n 0, 1) := by decide +kernel
theorem dX5_moveToEnd_100 : decode cX5_moveToEnd 100 = .ok (.dup, 1) := by decide +kernel
theorem dX5_moveToEnd_101 : decode cX5_moveToEnd 101 = .ok (.getfield 22, 3) := by decide +kernel
theorem dX5_moveToEnd_104 : decode cX5_moveToEnd 104 = .ok (.iconst 1, 1) := by decide +kernel
theorem dX5_moveToEnd_105 : decode cX5_moveToEnd 105 = .ok (.iadd, 1) := by decide +kernel
theorem dX5_moveToEnd_106 : decode cX5_moveToEnd 106 = .ok (.putfield 22, 3) := by decide +kernel
theorem dX5_moveToEnd_109 : decode cX5_moveToEnd 109 = .ok (.return_, 1) := by decide +kernel
set_option maxHeartbeats 4000000 in
set_option maxRecDepth 100000 in
/-- Rows.insert -/
theorem c_X5_insert (l : Launch) (dC : Nat → ClassId) (dI : Nat → Nat → Nat) (sz : Nat) (T0 : Nat) (x0 : Nat) (k0 : Nat) (w0 : Nat) (ck : ClassId) (cw : ClassId) (L : Nat) (f : Nat → Int32) (g : Nat → Int32) (nz : Nat) (ch : Int32) (p0 : Int32) (p1 : Int32) (p2 : Int32) (gc : Nat) (gs : Nat) (hR9 : rOK L nz) (hg9 : nz < L ∨ (2 ≤ gc ∧ 4 * L ≤ gs)) : Met l yX5_insert wsX5_insert ({ frames := 2, cells := gc, slots := gs, locals := 110 }) (va_Pc [.ref x0, .int p0, .int p1, .int p2] (pk_PreT (dC, dI) [(x0, .inr (5, [.ref k0, .ref w0, .int (nI nz), .int ch])), (k0, .inl (ck, L, .inl f)), (w0, .inl (cw, L, .inl g))] [(ck, .int), (cw, .int)] sz T0)) (va_Qv (fun (u : Nat × Nat × ClassId × ClassId × Nat × (Nat → Int32) × (Nat → Int32) × Nat × Int32) => insP L nz (u.2.2.2.2.1) (u.2.2.2.2.2.2.2.1)) (fun (u : Nat × Nat × ClassId × ClassId × Nat × (Nat → Int32) × (Nat → Int32) × Nat × Int32) (t : State) => va_P (dC, dI) vwCl [(x0, .inr (5, [.ref u.1, .ref u.2.1, .int (nI (u.2.2.2.2.2.2.2.1)), .int u.2.2.2.2.2.2.2.2])), (u.1, .inl (u.2.2.1, u.2.2.2.2.1, .inl u.2.2.2.2.2.1)), (u.2.1, .inl (u.2.2.2.1, u.2.2.2.2.1, .inl u.2.2.2.2.2.2.1))] t.heap ∧ va_K (dC, dI) vwCl [(u.2.2.1, .int), (u.2.2.2.1, .int)] t ∧ va_D (va_A [(x0, .inr (5, [.ref k0, .ref w0, .int (nI nz), .int ch])), (k0, .inl (ck, L, .inl f)), (w0, .inl (cw, L, .inl g))] sz) [(x0, .inr (5, [.ref u.1, .ref u.2.1, .int (nI (u.2.2.2.2.2.2.2.1)), .int u.2.2.2.2.2.2.2.2])), (u.1, .inl (u.2.2.1, u.2.2.2.2.1, .inl u.2.2.2.2.2.1)), (u.2.1, .inl (u.2.2.2.1, u.2.2.2.2.1, .inl u.2.2.2.2.2.2.1))] ∧ hT t.heap + 4 * L ≤ T0 + 4 * (u.2.2.2.2.1) ∧ t.heap.size + 2 * lgN L ≤ sz + 2 * lgN (u.2.2.2.2.1)) (va_A [(x0, .inr (5, [.ref k0, .ref w0, .int (nI nz), .int ch])), (k0, .inl (ck, L, .inl f)), (w0, .inl (cw, L, .inl g))] sz)) gc gs (va_A [(x0, .inr (5, [.ref k0, .ref w0, .int (nI nz), .int ch])), (k0, .inl (ck, L, .inl f)), (w0, .inl (cw, L, .inl g))] sz) := by
  refine Met.ofW (cc := cX5_insert) (maxL := 4) (ret := none) (by decide) rfl ?_
  intro p e s m args below meth c s₁ B hml hv
  obtain ⟨rfl, ⟨hsz, hP, hK, hD0⟩, hT0⟩ := hv
  have hx := B.exec
  have hb := B.bytes
  have hr := B.returns
  have hts := atoms_spec (ws := wsX5_insert) B.pre
  have hown : s.vm.findClass RX5 = some m.cls := findClass_of_methodNamed B.named
  have hlocks := B.notSynchronized
  subst hsz
  subst hT0
  have hD := hD0.self (sz := s.heap.size)
  generalize hAe : va_A [(x0, .inr (5, [.ref k0, .ref w0, .int (nI nz), .int ch])), (k0, .inl (ck, L, .inl f)), (w0, .inl (cw, L, .inl g))] s.heap.size = A at hD ⊢
  have hA : ∀ q : Nat, s.heap.size ≤ q → A q := fun q h => by rw [← hAe]; exact Or.inr h
  have hS : va_S A s.heap s.heap [] := va_S.rf
  have hP : va_P (dC, dI) vwCl [(x0, .inr (5, [.ref k0, .ref w0, .int (nI nz), .int ch])), (k0, .inl (ck, L, .inl f)), (w0, .inl (cw, L, .inl g))] s.heap := hP
  have hl := lv_entry ([.ref x0, .int p0, .int p1, .int p2]) (n := 4) (Nat.le_of_ble_eq_true rfl)
  rw [lg_entry_eq]
  generalize (lg_sl ([.ref x0, .int p0, .int p1, .int p2]) ++ List.replicate (4 - (lg_sl ([.ref x0, .int p0, .int p1, .int p2])).length) Slot.unset).toArray = ls at hl ⊢
  have hl : lv_has ls 4 [(0, .ref x0), (1, .int p0), (2, .int p1), (3, .int p2)] := hl
  have hw0_ := hts (.fieldLink RX5 18 "KeyAtlas$Rows" "size" "I") (List.mem_of_getElem? (l := wsX5_insert) (i := 1) rfl)
  have hw1_ := hts (.fieldLink RX5 9 "KeyAtlas$Rows" "keys" "[I") (List.mem_of_getElem? (l := wsX5_insert) (i := 2) rfl)
  have hw2_ := hts (.methodLink RX5 31 arraycopyName) (List.mem_of_getElem? (l := wsX5_insert) (i := 4) rfl)
  have hw3_ := hts (.native arraycopyName) (List.mem_of_getElem? (l := wsX5_insert) (i := 5) rfl)
  have hw4_ := hts (.static arraycopyName) (List.mem_of_getElem? (l := wsX5_insert) (i := 6) rfl)
  have hw5_ := hts (.initialized "java/lang/System") (List.mem_of_getElem? (l := wsX5_insert) (i := 7) rfl)
  have hw6_ := hts (.fieldLink RX5 15 "KeyAtlas$Rows" "values" "[I") (List.mem_of_getElem? (l := wsX5_insert) (i := 3) rfl)
  have hw7_ := hts (.fieldLink RX5 22 "KeyAtlas$Rows" "changes" "I") (List.mem_of_getElem? (l := wsX5_insert) (i := 8) rfl)
  have hi0_ : ∀ w ∈ u_ws RX5 TX5 4, w ∈ wsX5_insert := fun w h => List.mem_cons_of_mem _ (List.mem_append_right _ h)
  obtain ⟨hL1, hL2, hz1, hz2⟩ := hR9
  refine lv_iload_n hx hb dX5_insert_0 rfl (lv_at hl 1 rfl) ?_
  refine lv_if_lt (tgt := 22) hx hb dX5_insert_1 (by decide) (fun c_1 => ?_) (fun c_1 => ?_)
  ·
    have ic_1 : p0.toInt < 0 := tx_lt rfl (by decide) c_1
    refine W.book (fun hz9_ hn9_ => ?_)
    have hP9 := hP.sub (ws' := [(x0, .inr (5, [.ref k0, .ref w0, .int (nI nz), .int ch])), (k0, .inl (ck, L, .inl f)), (w0, .inl (cw, L, .inl g))]) [0, 1, 2] rfl
    have hD9 := hD.sub (ws' := [(x0, .inr (5, [.ref k0, .ref w0, .int (nI nz), .int ch])), (k0, .inl (ck, L, .inl f)), (w0, .inl (cw, L, .inl g))]) [0, 1, 2] (by decide) rfl
    have hK9 := hK.sub (tys' := [(ck, .int), (cw, .int)]) [0, 1] rfl
    have hpost : insP L nz (L) (nz) := by unfold insP rOK; omega
    have hcost : hT s.heap + 4 * L ≤ hT s.heap + 4 * (L) ∧ s.heap.size + 2 * lgN L ≤ s.heap.size + 2 * lgN (L) := by constructor <;> omega
    refine W.widen (k := gc) (n := gs) (by omega) (by omega) ?_
    exact W.vret hx hb hr (fun t ht hW => ⟨⟨(k0, w0, ck, cw, L, f, g, nz, ch), rfl, hpost, by rw [ht]; exact hP9, va_K.moved hW.alike hK9, hD9, by rw [ht]; exact hcost⟩, hS.F ht⟩) hS.2.2 dX5_insert_22
  ·
    have ic_1 : 0 ≤ p0.toInt := tx_nlt rfl (by decide) c_1
    refine lv_iload_n hx hb dX5_insert_4 rfl (lv_at hl 1 rfl) ?_
    refine lv_aload_n hx hb dX5_insert_5 rfl (lv_at hl 0 rfl) ?_
    refine va_get (D := (dC, dI)) (ci := 5) (v := .int (nI nz)) (C := RX5) (T := TX5) (N := 4) hx hb hts hi0_ hown hK hP 0 rfl rfl 2 (by decide) hw0_ (fun _ h9 => h9) rfl dX5_insert_6 ?_
    refine lv_icmp_gt (tgt := 22) hx hb dX5_insert_9 (by decide) (fun c_2 => ?_) (fun c_2 => ?_)
    ·
      have ic_2 : ((nz : Nat) : Int) < p0.toInt := tx_lt (nI_toInt (by omega)) rfl c_2
      refine W.book (fun hz9_ hn9_ => ?_)
      have hP9 := hP.sub (ws' := [(x0, .inr (5, [.ref k0, .ref w0, .int (nI nz), .int ch])), (k0, .inl (ck, L, .inl f)), (w0, .inl (cw, L, .inl g))]) [0, 1, 2] rfl
      have hD9 := hD.sub (ws' := [(x0, .inr (5, [.ref k0, .ref w0, .int (nI nz), .int ch])), (k0, .inl (ck, L, .inl f)), (w0, .inl (cw, L, .inl g))]) [0, 1, 2] (by decide) rfl
      have hK9 := hK.sub (tys' := [(ck, .int), (cw, .int)]) [0, 1] rfl
      have hpost : insP L nz (L) (nz) := by unfold insP rOK; omega
      have hcost : hT s.heap + 4 * L ≤ hT s.heap + 4 * (L) ∧ s.heap.size + 2 * lgN L ≤ s.heap.size + 2 * lgN (L) := by constructor <;> omega
      refine W.widen (k := gc) (n := gs) (by omega) (by omega) ?_
      exact W.vret hx hb hr (fun t ht hW => ⟨⟨(k0, w0, ck, cw, L, f, g, nz, ch), rfl, hpost, by rw [ht]; exact hP9, va_K.moved hW.alike hK9, hD9, by rw [ht]; exact hcost⟩, hS.F ht⟩) hS.2.2 dX5_insert_22
    ·
      have ic_2 : p0.toInt ≤ ((nz : Nat) : Int) := tx_nlt (nI_toInt (by omega)) rfl c_2
      refine lv_aload_n hx hb dX5_insert_12 rfl (lv_at hl 0 rfl) ?_
      refine va_get (D := (dC, dI)) (ci := 5) (v := .int (nI nz)) (C := RX5) (T := TX5) (N := 4) hx hb hts hi0_ hown hK hP 0 rfl rfl 2 (by decide) hw0_ (fun _ h9 => h9) rfl dX5_insert_13 ?_
      refine lv_sipush (v := 1000) hx hb dX5_insert_16 (by decide) ?_
      refine lv_icmp_lt (tgt := 23) hx hb dX5_insert_19 (by decide) (fun c_3 => ?_) (fun c_3 => ?_)
      ·
        have ic_3 : ((nz : Nat) : Int) < 1000 := tx_lt (nI_toInt (by omega)) (by decide) c_3
        obtain ⟨i, hi, rfl⟩ := nI_nat (x := p0) (n := 1001) (by omega) (by omega) (by omega)
        have hit : (nI i).toInt = (i : Int) := nI_toInt (by omega)
        refine lv_aload_n hx hb dX5_insert_23 rfl (lv_at hl 0 rfl) ?_
        refine va_get (D := (dC, dI)) (ci := 5) (v := .int (nI nz)) (C := RX5) (T := TX5) (N := 4) hx hb hts hi0_ hown hK hP 0 rfl rfl 2 (by decide) hw0_ (fun _ h9 => h9) rfl dX5_insert_24 ?_
        refine lv_aload_n hx hb dX5_insert_27 rfl (lv_at hl 0 rfl) ?_
        refine va_get (D := (dC, dI)) (ci := 5) (v := .ref k0) (C := RX5) (T := TX5) (N := 4) hx hb hts hi0_ hown hK hP 0 rfl rfl 0 (by decide) hw1_ (fun _ h9 => h9) rfl dX5_insert_28 ?_
        refine va_alen (v := nI L) hx hb hK hP 1 0 rfl rfl rfl dX5_insert_31 ?_
        refine lv_icmp_lt (tgt := 69) hx hb dX5_insert_32 (by decide) (fun c_4 => ?_) (fun c_4 => ?_)
        ·
          have ic_4 : ((nz : Nat) : Int) < ((L : Nat) : Int) := tx_lt (nI_toInt (by omega)) (nI_toInt (by omega)) c_4
          refine lv_aload_n hx hb dX5_insert_69 rfl (lv_at hl 0 rfl) ?_
          refine va_get (D := (dC, dI)) (ci := 5) (v := .ref k0) (C := RX5) (T := TX5) (N := 4) hx hb hts hi0_ hown hK hP 0 rfl rfl 0 (by decide) hw1_ (fun _ h9 => h9) rfl dX5_insert_70 ?_
          refine lv_iload_n hx hb dX5_insert_73 rfl (lv_at hl 1 rfl) ?_
          refine lv_aload_n hx hb dX5_insert_74 rfl (lv_at hl 0 rfl) ?_
          refine va_get (D := (dC, dI)) (ci := 5) (v := .ref k0) (C := RX5) (T := TX5) (N := 4) hx hb hts hi0_ hown hK hP 0 rfl rfl 0 (by decide) hw1_ (fun _ h9 => h9) rfl dX5_insert_75 ?_
          refine lv_iload_n hx hb dX5_insert_78 rfl (lv_at hl 1 rfl) ?_
          refine lv_iconst (v := 1) hx hb dX5_insert_79 (by decide) ?_
          refine lv_iadd hx hb dX5_insert_80 ?_
          refine lv_topi (fun z_5 ez_5 => ?_)
          obtain rfl : z_5 = nI (i + 1) := ez_5.trans (by rw [show (1 : Int32) = nI 1 from rfl, nI_add])
          refine lv_aload_n hx hb dX5_insert_81 rfl (lv_at hl 0 rfl) ?_
          refine va_get (D := (dC, dI)) (ci := 5) (v := .int (nI nz)) (C := RX5) (T := TX5) (N := 4) hx hb hts hi0_ hown hK hP 0 rfl rfl 2 (by decide) hw0_ (fun _ h9 => h9) rfl dX5_insert_82 ?_
          refine lv_iload_n hx hb dX5_insert_85 rfl (lv_at hl 1 rfl) ?_
          refine lv_isub hx hb dX5_insert_86 ?_
          refine lv_topi (fun z_6 ez_6 => ?_)
          obtain rfl : z_6 = nI (nz - i) := ez_6.trans (by rw [pk_sub (by omega)])
          have hcp_ : va_cpy f f (nI i : Int32).toNatClampNeg (nI (i + 1) : Int32).toNatClampNeg (nI (nz - i) : Int32).toNatClampNeg = va_cpy f f i (i + 1) (nz - i) := by rw [nI_clamp (n := i) (by omega), nI_clamp (n := i + 1) (by omega), nI_clamp (n := nz - i) (by omega)]
          refine va_copyi (sp := nI i) (dp := nI (i + 1)) (n := nI (nz - i)) (ty := .int) hx hb (hml.trans hl.1.symm) hown hw2_ hw3_ hw4_ hw5_ hK hP hD hS 1 1 0 0 rfl rfl rfl rfl rfl (nI_n0 (by omega)) (nI_n0 (by omega)) (nI_n0 (by omega)) (by rw [nI_clamp (n := i) (by omega), nI_clamp (n := nz - i) (by omega)]; omega) (by rw [nI_clamp (n := i + 1) (by omega), nI_clamp (n := nz - i) (by omega)]; omega) (fun _ _ => rfl) (Nat.le_of_ble_eq_true rfl) (Nat.le_of_ble_eq_true rfl) dX5_insert_87 (fun H locs hP hD hS => ?_)
          rw [hcp_] at hP hD
          replace hP : va_P (dC, dI) vwCl [(x0, .inr (5, [.ref k0, .ref w0, .int (nI nz), .int ch])), (k0, .inl (ck, L, .inl (va_cpy f f i (i + 1) (nz - i)))), (w0, .inl (cw, L, .inl g))] H := hP
          replace hD : va_D A [(x0, .inr (5, [.ref k0, .ref w0, .int (nI nz), .int ch])), (k0, .inl (ck, L, .inl (va_cpy f f i (i + 1) (nz - i)))), (w0, .inl (cw, L, .inl g))] := hD
          refine lv_aload_n hx hb dX5_insert_90 rfl (lv_at hl 0 rfl) ?_
          refine va_get (D := (dC, dI)) (ci := 5) (v := .ref w0) (C := RX5) (T := TX5) (N := 4) hx hb hts hi0_ hown hK hP 0 rfl rfl 1 (by decide) hw6_ (fun _ h9 => h9) rfl dX5_insert_91 ?_
          refine lv_iload_n hx hb dX5_insert_94 rfl (lv_at hl 1 rfl) ?_
          refine lv_aload_n hx hb dX5_insert_95 rfl (lv_at hl 0 rfl) ?_
          refine va_get (D := (dC, dI)) (ci := 5) (v := .ref w0) (C := RX5) (T := TX5) (N := 4) hx hb hts hi0_ hown hK hP 0 rfl rfl 1 (by decide) hw6_ (fun _ h9 => h9) rfl dX5_insert_96 ?_
          refine lv_iload_n hx hb dX5_insert_99 rfl (lv_at hl 1 rfl) ?_
          refine lv_iconst (v := 1) hx hb dX5_insert_100 (by decide) ?_
          refine lv_iadd hx hb dX5_insert_101 ?_
          refine lv_topi (fun z_7 ez_7 => ?_)
          obtain rfl : z_7 = nI (i + 1) := ez_7.trans (by rw [show (1 : Int32) = nI 1 from rfl, nI_add])
          refine lv_aload_n hx hb dX5_insert_102 rfl (lv_at hl 0 rfl) ?_
          refine va_get (D := (dC, dI)) (ci := 5) (v := .int (nI nz)) (C := RX5) (T := TX5) (N := 4) hx hb hts hi0_ hown hK hP 0 rfl rfl 2 (by decide) hw0_ (fun _ h9 => h9) rfl dX5_insert_103 ?_
          refine lv_iload_n hx hb dX5_insert_106 rfl (lv_at hl 1 rfl) ?_
          refine lv_isub hx hb dX5_insert_107 ?_
          refine lv_topi (fun z_8 ez_8 => ?_)
          obtain rfl : z_8 = nI (nz - i) := ez_8.trans (by rw [pk_sub (by omega)])
          have hcp_ : va_cpy g g (nI i : Int32).toNatClampNeg (nI (i + 1) : Int32).toNatClampNeg (nI (nz - i) : Int32).toNatClampNeg = va_cpy g g i (i + 1) (nz - i) := by rw [nI_clamp (n := i) (by omega), nI_clamp (n := i + 1) (by omega), nI_clamp (n := nz - i) (by omega)]
          refine va_copyi (sp := nI i) (dp := nI (i + 1)) (n := nI (nz - i)) (ty := .int) hx hb (hml.trans hl.1.symm) hown hw2_ hw3_ hw4_ hw5_ hK hP hD hS 2 2 1 1 rfl rfl rfl rfl rfl (nI_n0 (by omega)) (nI_n0 (by omega)) (nI_n0 (by omega)) (by rw [nI_clamp (n := i) (by omega), nI_clamp (n := nz - i) (by omega)]; omega) (by rw [nI_clamp (n := i + 1) (by omega), nI_clamp (n := nz - i) (by omega)]; omega) (fun _ _ => rfl) (Nat.le_of_ble_eq_true rfl) (Nat.le_of_ble_eq_true rfl) dX5_insert_108 (fun H locs hP hD hS => ?_)
          rw [hcp_] at hP hD
          replace hP : va_P (dC, dI) vwCl [(x0, .inr (5, [.ref k0, .ref w0, .int (nI nz), .int ch])), (k0, .inl (ck, L, .inl (va_cpy f f i (i + 1) (nz - i)))), (w0, .inl (cw, L, .inl (va_cpy g g i (i + 1) (nz - i))))] H := hP
          replace hD : va_D A [(x0, .inr (5, [.ref k0, .ref w0, .int (nI nz), .int ch])), (k0, .inl (ck, L, .inl (va_cpy f f i (i + 1) (nz - i)))), (w0, .inl (cw, L, .inl (va_cpy g g i (i + 1) (nz - i))))] := hD
          refine lv_aload_n hx hb dX5_insert_111 rfl (lv_at hl 0 rfl) ?_
          refine va_get (D := (dC, dI)) (ci := 5) (v := .ref k0) (C := RX5) (T := TX5) (N := 4) hx hb hts hi0_ hown hK hP 0 rfl rfl 0 (by decide) hw1_ (fun _ h9 => h9) rfl dX5_insert_112 ?_
          refine lv_iload_n hx hb dX5_insert_115 rfl (lv_at hl 1 rfl) ?_
          refine lv_iload_n hx hb dX5_insert_116 rfl (lv_at hl 2 rfl) ?_
          refine va_iast (i := nI i) hx hb hK hP hD hS 1 0 rfl rfl (vp_in_nI (by omega) (by omega)) dX5_insert_117 (fun H locs hP hD hS => ?_)
          rw [nI_clamp (by omega)] at hP hD
          replace hP : va_P (dC, dI) vwCl [(x0, .inr (5, [.ref k0, .ref w0, .int (nI nz), .int ch])), (k0, .inl (ck, L, .inl (upd (va_cpy f f i (i + 1) (nz - i)) i p1))), (w0, .inl (cw, L, .inl (va_cpy g g i (i + 1) (nz - i))))] H := hP
          replace hD : va_D A [(x0, .inr (5, [.ref k0, .ref w0, .int (nI nz), .int ch])), (k0, .inl (ck, L, .inl (upd (va_cpy f f i (i + 1) (nz - i)) i p1))), (w0, .inl (cw, L, .inl (va_cpy g g i (i + 1) (nz - i))))] := hD
          refine lv_aload_n hx hb dX5_insert_118 rfl (lv_at hl 0 rfl) ?_
          refine va_get (D := (dC, dI)) (ci := 5) (v := .ref w0) (C := RX5) (T := TX5) (N := 4) hx hb hts hi0_ hown hK hP 0 rfl rfl 1 (by decide) hw6_ (fun _ h9 => h9) rfl dX5_insert_119 ?_
          refine lv_iload_n hx hb dX5_insert_122 rfl (lv_at hl 1 rfl) ?_
          refine lv_iload_n hx hb dX5_insert_123 rfl (lv_at hl 3 rfl) ?_
          refine va_iast (i := nI i) hx hb hK hP hD hS 2 1 rfl rfl (vp_in_nI (by omega) (by omega)) dX5_insert_124 (fun H locs hP hD hS => ?_)
          rw [nI_clamp (by omega)] at hP hD
          replace hP : va_P (dC, dI) vwCl [(x0, .inr (5, [.ref k0, .ref w0, .int (nI nz), .int ch])), (k0, .inl (ck, L, .inl (upd (va_cpy f f i (i + 1) (nz - i)) i p1))), (w0, .inl (cw, L, .inl (upd (va_cpy g g i (i + 1) (nz - i)) i p2)))] H := hP
          replace hD : va_D A [(x0, .inr (5, [.ref k0, .ref w0, .int (nI nz), .int ch])), (k0, .inl (ck, L, .inl (upd (va_cpy f f i (i + 1) (nz - i)) i p1))), (w0, .inl (cw, L, .inl (upd (va_cpy g g i (i + 1) (nz - i)) i p2)))] := hD
          refine lv_aload_n hx hb dX5_insert_125 rfl (lv_at hl 0 rfl) ?_
          refine lv_dup hx hb dX5_insert_126 rfl ?_
          refine va_get (D := (dC, dI)) (ci := 5) (v := .int (nI nz)) (C := RX5) (T := TX5) (N := 4) hx hb hts hi0_ hown hK hP 0 rfl rfl 2 (by decide) hw0_ (fun _ h9 => h9) rfl dX5_insert_127 ?_
          refine lv_iconst (v := 1) hx hb dX5_insert_130 (by decide) ?_
          refine lv_iadd hx hb dX5_insert_131 ?_
          refine lv_topi (fun z_9 ez_9 => ?_)
          obtain rfl : z_9 = nI (nz + 1) := ez_9.trans (by rw [show (1 : Int32) = nI 1 from rfl, nI_add])
          refine va_put (D := (dC, dI)) (ci := 5) (v := .int (nI (nz + 1))) (ty := .int) (C := RX5) (T := TX5) (N := 4) hx hb hts hi0_ tyX5 tyX5_ok nmX5 hown hK hP hD hS 0 rfl rfl 2 (by decide) hw0_ (fun _ h9 => h9) rfl (by decide +kernel) rfl rfl (Nat.le_of_ble_eq_true rfl) dX5_insert_132 (fun H locs hP hD hS => ?_)
          replace hP : va_P (dC, dI) vwCl [(x0, .inr (5, [.ref k0, .ref w0, .int (nI (nz + 1)), .int ch])), (k0, .inl (ck, L, .inl (upd (va_cpy f f i (i + 1) (nz - i)) i p1))), (w0, .inl (cw, L, .inl (upd (va_cpy g g i (i + 1) (nz - i)) i p2)))] H := hP
          replace hD : va_D A [(x0, .inr (5, [.ref k0, .ref w0, .int (nI (nz + 1)), .int ch])), (k0, .inl (ck, L, .inl (upd (va_cpy f f i (i + 1) (nz - i)) i p1))), (w0, .inl (cw, L, .inl (upd (va_cpy g g i (i + 1) (nz - i)) i p2)))] := hD
          refine lv_aload_n hx hb dX5_insert_135 rfl (lv_at hl 0 rfl) ?_
          refine lv_dup hx hb dX5_insert_136 rfl ?_
          refine va_get (D := (dC, dI)) (ci := 5) (v := .int ch) (C := RX5) (T := TX5) (N := 4) hx hb hts hi0_ hown hK hP 0 rfl rfl 3 (by decide) hw7_ (fun _ h9 => h9) rfl dX5_insert_137 ?_
          refine lv_iconst (v := 1) hx hb dX5_insert_140 (by decide) ?_
          refine lv_iadd hx hb dX5_insert_141 ?_
          refine va_put (D := (dC, dI)) (ci := 5) (v := .int (ch + 1)) (ty := .int) (C := RX5) (T := TX5) (N := 4) hx hb hts hi0_ tyX5 tyX5_ok nmX5 hown hK hP hD hS 0 rfl rfl 3 (by decide) hw7_ (fun _ h9 => h9) rfl (by decide +kernel) rfl rfl (Nat.le_of_ble_eq_true rfl) dX5_insert_142 (fun H locs hP hD hS => ?_)
          replace hP : va_P (dC, dI) vwCl [(x0, .inr (5, [.ref k0, .ref w0, .int (nI (nz + 1)), .int (ch + 1)])), (k0, .inl (ck, L, .inl (upd (va_cpy f f i (i + 1) (nz - i)) i p1))), (w0, .inl (cw, L, .inl (upd (va_cpy g g i (i + 1) (nz - i)) i p2)))] H := hP
          replace hD : va_D A [(x0, .inr (5, [.ref k0, .ref w0, .int (nI (nz + 1)), .int (ch + 1)])), (k0, .inl (ck, L, .inl (upd (va_cpy f f i (i + 1) (nz - i)) i p1))), (w0, .inl (cw, L, .inl (upd (va_cpy g g i (i + 1) (nz - i)) i p2)))] := hD
          refine W.book (fun hz9_ hn9_ => ?_)
          have hP9 := hP.sub (ws' := [(x0, .inr (5, [.ref k0, .ref w0, .int (nI (nz + 1)), .int (ch + 1)])), (k0, .inl (ck, L, .inl (upd (va_cpy f f i (i + 1) (nz - i)) i p1))), (w0, .inl (cw, L, .inl (upd (va_cpy g g i (i + 1) (nz - i)) i p2)))]) [0, 1, 2] rfl
          have hD9 := hD.sub (ws' := [(x0, .inr (5, [.ref k0, .ref w0, .int (nI (nz + 1)), .int (ch + 1)])), (k0, .inl (ck, L, .inl (upd (va_cpy f f i (i + 1) (nz - i)) i p1))), (w0, .inl (cw, L, .inl (upd (va_cpy g g i (i + 1) (nz - i)) i p2)))]) [0, 1, 2] (by decide) rfl
          have hK9 := hK.sub (tys' := [(ck, .int), (cw, .int)]) [0, 1] rfl
          have hpost : insP L nz (L) (nz + 1) := by unfold insP rOK; omega
          have hcost : hT H + 4 * L ≤ hT s.heap + 4 * (L) ∧ H.size + 2 * lgN L ≤ s.heap.size + 2 * lgN (L) := by constructor <;> omega
          refine W.widen (k := gc) (n := gs) (by omega) (by omega) ?_
          exact W.vret hx hb hr (fun t ht hW => ⟨⟨(k0, w0, ck, cw, L, (upd (va_cpy f f i (i + 1) (nz - i)) i p1), (upd (va_cpy g g i (i + 1) (nz - i)) i p2), nz + 1, ch + 1), rfl, hpost, by rw [ht]; exact hP9, va_K.moved hW.alike hK9, hD9, by rw [ht]; exact hcost⟩, hS.F ht⟩) hS.2.2 dX5_insert_145
        ·
          have ic_4 : ((L : Nat) : Int) ≤ ((nz : Nat) : Int) := tx_nlt (nI_toInt (by omega)) (nI_toInt (by omega)) c_4
          refine lv_aload_n hx hb dX5_insert_35 rfl (lv_at hl 0 rfl) ?_
          refine lv_aload_n hx hb dX5_insert_36 rfl (lv_at hl 0 rfl) ?_
          refine va_get (D := (dC, dI)) (ci := 5) (v := .ref k0) (C := RX5) (T := TX5) (N := 4) hx hb hts hi0_ hown hK hP 0 rfl rfl 0 (by decide) hw1_ (fun _ h9 => h9) rfl dX5_insert_37 ?_
          refine lv_aload_n hx hb dX5_insert_40 rfl (lv_at hl 0 rfl) ?_
          refine va_get (D := (dC, dI)) (ci := 5) (v := .int (nI nz)) (C := RX5) (T := TX5) (N := 4) hx hb hts hi0_ hown hK hP 0 rfl rfl 2 (by decide) hw0_ (fun _ h9 => h9) rfl dX5_insert_41 ?_
          refine lv_iconst (v := 2) hx hb dX5_insert_44 (by decide) ?_
          refine lv_imul hx hb dX5_insert_45 ?_
          refine lv_topi (fun z_10 ez_10 => ?_)
          obtain rfl : z_10 = nI (nz * 2) := ez_10.trans (by rw [show (2 : Int32) = nI 2 from rfl, pk_mul])
          have hPc := hP.sub (ws' := [(k0, .inl (ck, L, .inl f))]) [1] rfl
          have hDc := hD.sub (ws' := [(k0, .inl (ck, L, .inl f))]) [1] (by decide) rfl
          have hKc := hK.sub (tys' := [(ck, .int)]) [0] rfl
          have hFc := va_free (wc := [(k0, .inl (ck, L, .inl f))]) hD hS hA [1] rfl
          refine va_callr (va_runS (As := [.ref k0, .int (nI (nz * 2))]) (rest := [.ref x0]) ⟨hx, hb, hml, hown, hts⟩ (c_J7_copyOf l  dC dI s.heap.size k0 ck L (nz * 2) f (by omega) (by omega)) (va_cwS 2 hts gX5_insert_J7_copyOf_59c91 rfl rfl rfl (by decide +kernel) ⟨(Nat.le_of_ble_eq_true rfl), (Nat.le_of_ble_eq_true rfl)⟩) ⟨pk_blind, pk_call hPc hKc hDc⟩ rfl rfl hl.1 rfl (lv_room (Nat.le_of_ble_eq_true rfl)) dX5_insert_46 ⟨(show 0 + 1 ≤ gc by omega), (show 0 + (nz * 2) ≤ gs by omega)⟩) hS (fun q _ h => hFc q h) hFc (fun ur_11 r_11 t H1 locs ht hvm hw hB hz1 hk1 hS => ?_)
          try dsimp only at hw
          have jr_11 := hw
          obtain ⟨hP1, hK1, hD1⟩ := hB
          rw [ht] at hP1
          have hK1 := va_K.moved hvm.symm hK1
          obtain ⟨hP, hD⟩ := va_join (wr := [(x0, .inr (5, [.ref k0, .ref w0, .int (nI nz), .int ch])), (w0, .inl (cw, L, .inl g))]) (w1 := [(k0, .inl (ck, L, .inl f)), (r_11, .inl (ur_11.1, nz * 2, .inl ur_11.2))]) hP hD [1] [0, 2] rfl rfl (by decide) (by decide) hk1 hFc hP1 hD1
          have hK := hK.app hK1
          have hK : va_K (dC, dI) vwCl [(ck, .int), (cw, .int), (ck, .int), (ur_11.1, .int)] s := hK
          clear hk1 hz1 ht hPc hDc hKc hFc
          generalize H1 = H at hP hS ⊢
          replace hP : va_P (dC, dI) vwCl [(x0, .inr (5, [.ref k0, .ref w0, .int (nI nz), .int ch])), (w0, .inl (cw, L, .inl g)), (k0, .inl (ck, L, .inl f)), (r_11, .inl (ur_11.1, nz * 2, .inl ur_11.2))] H := hP
          replace hD : va_D A [(x0, .inr (5, [.ref k0, .ref w0, .int (nI nz), .int ch])), (w0, .inl (cw, L, .inl g)), (k0, .inl (ck, L, .inl f)), (r_11, .inl (ur_11.1, nz * 2, .inl ur_11.2))] := hD
          refine W.widen (k := 1) (n := nz * 2) (by omega) (by omega) ?_
          refine W.eq (g2 := F0 m 49 ls [.ref r_11, .ref x0]) rfl ?_
          refine va_put (D := (dC, dI)) (ci := 5) (v := .ref r_11) (ty := .array .int) (C := RX5) (T := TX5) (N := 4) hx hb hts hi0_ tyX5 tyX5_ok nmX5 hown hK hP hD hS 0 rfl rfl 0 (by decide) hw1_ (fun _ h9 => h9) rfl (by decide +kernel) rfl rfl (Nat.le_of_ble_eq_true rfl) dX5_insert_49 (fun H locs hP hD hS => ?_)
          replace hP : va_P (dC, dI) vwCl [(x0, .inr (5, [.ref r_11, .ref w0, .int (nI nz), .int ch])), (w0, .inl (cw, L, .inl g)), (k0, .inl (ck, L, .inl f)), (r_11, .inl (ur_11.1, nz * 2, .inl ur_11.2))] H := hP
          replace hD : va_D A [(x0, .inr (5, [.ref r_11, .ref w0, .int (nI nz), .int ch])), (w0, .inl (cw, L, .inl g)), (k0, .inl (ck, L, .inl f)), (r_11, .inl (ur_11.1, nz * 2, .inl ur_11.2))] := hD
          refine lv_aload_n hx hb dX5_insert_52 rfl (lv_at hl 0 rfl) ?_
          refine lv_aload_n hx hb dX5_insert_53 rfl (lv_at hl 0 rfl) ?_
          refine va_get (D := (dC, dI)) (ci := 5) (v := .ref w0) (C := RX5) (T := TX5) (N := 4) hx hb hts hi0_ hown hK hP 0 rfl rfl 1 (by decide) hw6_ (fun _ h9 => h9) rfl dX5_insert_54 ?_
          refine lv_aload_n hx hb dX5_insert_57 rfl (lv_at hl 0 rfl) ?_
          refine va_get (D := (dC, dI)) (ci := 5) (v := .int (nI nz)) (C := RX5) (T := TX5) (N := 4) hx hb hts hi0_ hown hK hP 0 rfl rfl 2 (by decide) hw0_ (fun _ h9 => h9) rfl dX5_insert_58 ?_
          refine lv_iconst (v := 2) hx hb dX5_insert_61 (by decide) ?_
          refine lv_imul hx hb dX5_insert_62 ?_
          refine lv_topi (fun z_12 ez_12 => ?_)
          obtain rfl : z_12 = nI (nz * 2) := ez_12.trans (by rw [show (2 : Int32) = nI 2 from rfl, pk_mul])
          have hPc := hP.sub (ws' := [(w0, .inl (cw, L, .inl g))]) [1] rfl
          have hDc := hD.sub (ws' := [(w0, .inl (cw, L, .inl g))]) [1] (by decide) rfl
          have hKc := hK.sub (tys' := [(cw, .int)]) [1] rfl
          have hFc := va_free (wc := [(w0, .inl (cw, L, .inl g))]) hD hS hA [1] rfl
          refine va_callr (va_runS (As := [.ref w0, .int (nI (nz * 2))]) (rest := [.ref x0]) ⟨hx, hb, hml, hown, hts⟩ (c_J7_copyOf l  dC dI H.size w0 cw L (nz * 2) g (by omega) (by omega)) (va_cwS 2 hts gX5_insert_J7_copyOf_59c91 rfl rfl rfl (by decide +kernel) ⟨(Nat.le_of_ble_eq_true rfl), (Nat.le_of_ble_eq_true rfl)⟩) ⟨pk_blind, pk_call hPc hKc hDc⟩ rfl rfl hl.1 rfl (lv_room (Nat.le_of_ble_eq_true rfl)) dX5_insert_63 ⟨(show 1 + 1 ≤ gc by omega), (show nz * 2 + (nz * 2) ≤ gs by omega)⟩) hS (fun q _ h => hFc q h) hFc (fun ur_13 r_13 t H1 locs ht hvm hw hB hz1 hk1 hS => ?_)
          try dsimp only at hw
          have jr_13 := hw
          obtain ⟨hP1, hK1, hD1⟩ := hB
          rw [ht] at hP1
          have hK1 := va_K.moved hvm.symm hK1
          obtain ⟨hP, hD⟩ := va_join (wr := [(x0, .inr (5, [.ref r_11, .ref w0, .int (nI nz), .int ch])), (k0, .inl (ck, L, .inl f)), (r_11, .inl (ur_11.1, nz * 2, .inl ur_11.2))]) (w1 := [(w0, .inl (cw, L, .inl g)), (r_13, .inl (ur_13.1, nz * 2, .inl ur_13.2))]) hP hD [1] [0, 2, 3] rfl rfl (by decide) (by decide) hk1 hFc hP1 hD1
          have hK := hK.app hK1
          have hK : va_K (dC, dI) vwCl [(ck, .int), (cw, .int), (ck, .int), (ur_11.1, .int), (cw, .int), (ur_13.1, .int)] s := hK
          clear hk1 hz1 ht hPc hDc hKc hFc
          generalize H1 = H at hP hS ⊢
          replace hP : va_P (dC, dI) vwCl [(x0, .inr (5, [.ref r_11, .ref w0, .int (nI nz), .int ch])), (k0, .inl (ck, L, .inl f)), (r_11, .inl (ur_11.1, nz * 2, .inl ur_11.2)), (w0, .inl (cw, L, .inl g)), (r_13, .inl (ur_13.1, nz * 2, .inl ur_13.2))] H := hP
          replace hD : va_D A [(x0, .inr (5, [.ref r_11, .ref w0, .int (nI nz), .int ch])), (k0, .inl (ck, L, .inl f)), (r_11, .inl (ur_11.1, nz * 2, .inl ur_11.2)), (w0, .inl (cw, L, .inl g)), (r_13, .inl (ur_13.1, nz * 2, .inl ur_13.2))] := hD
          refine W.widen (k := 2) (n := nz * 2 + (nz * 2)) (by omega) (by omega) ?_
          refine W.eq (g2 := F0 m 66 ls [.ref r_13, .ref x0]) rfl ?_
          refine va_put (D := (dC, dI)) (ci := 5) (v := .ref r_13) (ty := .array .int) (C := RX5) (T := TX5) (N := 4) hx hb hts hi0_ tyX5 tyX5_ok nmX5 hown hK hP hD hS 0 rfl rfl 1 (by decide) hw6_ (fun _ h9 => h9) rfl (by decide +kernel) rfl rfl (Nat.le_of_ble_eq_true rfl) dX5_insert_66 (fun H locs hP hD hS => ?_)
          replace hP : va_P (dC, dI) vwCl [(x0, .inr (5, [.ref r_11, .ref r_13, .int (nI nz), .int ch])), (k0, .inl (ck, L, .inl f)), (r_11, .inl (ur_11.1, nz * 2, .inl ur_11.2)), (w0, .inl (cw, L, .inl g)), (r_13, .inl (ur_13.1, nz * 2, .inl ur_13.2))] H := hP
          replace hD : va_D A [(x0, .inr (5, [.ref r_11, .ref r_13, .int (nI nz), .int ch])), (k0, .inl (ck, L, .inl f)), (r_11, .inl (ur_11.1, nz * 2, .inl ur_11.2)), (w0, .inl (cw, L, .inl g)), (r_13, .inl (ur_13.1, nz * 2, .inl ur_13.2))] := hD
          refine lv_aload_n hx hb dX5_insert_69 rfl (lv_at hl 0 rfl) ?_
          refine va_get (D := (dC, dI)) (ci := 5) (v := .ref r_11) (C := RX5) (T := TX5) (N := 4) hx hb hts hi0_ hown hK hP 0 rfl rfl 0 (by decide) hw1_ (fun _ h9 => h9) rfl dX5_insert_70 ?_
          refine lv_iload_n hx hb dX5_insert_73 rfl (lv_at hl 1 rfl) ?_
          refine lv_aload_n hx hb dX5_insert_74 rfl (lv_at hl 0 rfl) ?_
          refine va_get (D := (dC, dI)) (ci := 5) (v := .ref r_11) (C := RX5) (T := TX5) (N := 4) hx hb hts hi0_ hown hK hP 0 rfl rfl 0 (by decide) hw1_ (fun _ h9 => h9) rfl dX5_insert_75 ?_
          refine lv_iload_n hx hb dX5_insert_78 rfl (lv_at hl 1 rfl) ?_
          refine lv_iconst (v := 1) hx hb dX5_insert_79 (by decide) ?_
          refine lv_iadd hx hb dX5_insert_80 ?_
          refine lv_topi (fun z_14 ez_14 => ?_)
          obtain rfl : z_14 = nI (i + 1) := ez_14.trans (by rw [show (1 : Int32) = nI 1 from rfl, nI_add])
          refine lv_aload_n hx hb dX5_insert_81 rfl (lv_at hl 0 rfl) ?_
          refine va_get (D := (dC, dI)) (ci := 5) (v := .int (nI nz)) (C := RX5) (T := TX5) (N := 4) hx hb hts hi0_ hown hK hP 0 rfl rfl 2 (by decide) hw0_ (fun _ h9 => h9) rfl dX5_insert_82 ?_
          refine lv_iload_n hx hb dX5_insert_85 rfl (lv_at hl 1 rfl) ?_
          refine lv_isub hx hb dX5_insert_86 ?_
          refine lv_topi (fun z_15 ez_15 => ?_)
          obtain rfl : z_15 = nI (nz - i) := ez_15.trans (by rw [pk_sub (by omega)])
          have hcp_ : va_cpy ur_11.2 ur_11.2 (nI i : Int32).toNatClampNeg (nI (i + 1) : Int32).toNatClampNeg (nI (nz - i) : Int32).toNatClampNeg = va_cpy ur_11.2 ur_11.2 i (i + 1) (nz - i) := by rw [nI_clamp (n := i) (by omega), nI_clamp (n := i + 1) (by omega), nI_clamp (n := nz - i) (by omega)]
          refine va_copyi (sp := nI i) (dp := nI (i + 1)) (n := nI (nz - i)) (ty := .int) hx hb (hml.trans hl.1.symm) hown hw2_ hw3_ hw4_ hw5_ hK hP hD hS 2 2 3 3 rfl rfl rfl rfl rfl (nI_n0 (by omega)) (nI_n0 (by omega)) (nI_n0 (by omega)) (by rw [nI_clamp (n := i) (by omega), nI_clamp (n := nz - i) (by omega)]; omega) (by rw [nI_clamp (n := i + 1) (by omega), nI_clamp (n := nz - i) (by omega)]; omega) (fun _ _ => rfl) (Nat.le_of_ble_eq_true rfl) (Nat.le_of_ble_eq_true rfl) dX5_insert_87 (fun H locs hP hD hS => ?_)
          rw [hcp_] at hP hD
          replace hP : va_P (dC, dI) vwCl [(x0, .inr (5, [.ref r_11, .ref r_13, .int (nI nz), .int ch])), (k0, .inl (ck, L, .inl f)), (r_11, .inl (ur_11.1, nz * 2, .inl (va_cpy ur_11.2 ur_11.2 i (i + 1) (nz - i)))), (w0, .inl (cw, L, .inl g)), (r_13, .inl (ur_13.1, nz * 2, .inl ur_13.2))] H := hP
          replace hD : va_D A [(x0, .inr (5, [.ref r_11, .ref r_13, .int (nI nz), .int ch])), (k0, .inl (ck, L, .inl f)), (r_11, .inl (ur_11.1, nz * 2, .inl (va_cpy ur_11.2 ur_11.2 i (i + 1) (nz - i)))), (w0, .inl (cw, L, .inl g)), (r_13, .inl (ur_13.1, nz * 2, .inl ur_13.2))] := hD
          refine lv_aload_n hx hb dX5_insert_90 rfl (lv_at hl 0 rfl) ?_
          refine va_get (D := (dC, dI)) (ci := 5) (v := .ref r_13) (C := RX5) (T := TX5) (N := 4) hx hb hts hi0_ hown hK hP 0 rfl rfl 1 (by decide) hw6_ (fun _ h9 => h9) rfl dX5_insert_91 ?_
          refine lv_iload_n hx hb dX5_insert_94 rfl (lv_at hl 1 rfl) ?_
          refine lv_aload_n hx hb dX5_insert_95 rfl (lv_at hl 0 rfl) ?_
          refine va_get (D := (dC, dI)) (ci := 5) (v := .ref r_13) (C := RX5) (T := TX5) (N := 4) hx hb hts hi0_ hown hK hP 0 rfl rfl 1 (by decide) hw6_ (fun _ h9 => h9) rfl dX5_insert_96 ?_
          refine lv_iload_n hx hb dX5_insert_99 rfl (lv_at hl 1 rfl) ?_
          refine lv_iconst (v := 1) hx hb dX5_insert_100 (by decide) ?_
          refine lv_iadd hx hb dX5_insert_101 ?_
          refine lv_topi (fun z_16 ez_16 => ?_)
          obtain rfl : z_16 = nI (i + 1) := ez_16.trans (by rw [show (1 : Int32) = nI 1 from rfl, nI_add])
          refine lv_aload_n hx hb dX5_insert_102 rfl (lv_at hl 0 rfl) ?_
          refine va_get (D := (dC, dI)) (ci := 5) (v := .int (nI nz)) (C := RX5) (T := TX5) (N := 4) hx hb hts hi0_ hown hK hP 0 rfl rfl 2 (by decide) hw0_ (fun _ h9 => h9) rfl dX5_insert_103 ?_
          refine lv_iload_n hx hb dX5_insert_106 rfl (lv_at hl 1 rfl) ?_
          refine lv_isub hx hb dX5_insert_107 ?_
          refine lv_topi (fun z_17 ez_17 => ?_)
          obtain rfl : z_17 = nI (nz - i) := ez_17.trans (by rw [pk_sub (by omega)])
          have hcp_ : va_cpy ur_13.2 ur_13.2 (nI i : Int32).toNatClampNeg (nI (i + 1) : Int32).toNatClampNeg (nI (nz - i) : Int32).toNatClampNeg = va_cpy ur_13.2 ur_13.2 i (i + 1) (nz - i) := by rw [nI_clamp (n := i) (by omega), nI_clamp (n := i + 1) (by omega), nI_clamp (n := nz - i) (by omega)]
          refine va_copyi (sp := nI i) (dp := nI (i + 1)) (n := nI (nz - i)) (ty := .int) hx hb (hml.trans hl.1.symm) hown hw2_ hw3_ hw4_ hw5_ hK hP hD hS 4 4 5 5 rfl rfl rfl rfl rfl (nI_n0 (by omega)) (nI_n0 (by omega)) (nI_n0 (by omega)) (by rw [nI_clamp (n := i) (by omega), nI_clamp (n := nz - i) (by omega)]; omega) (by rw [nI_clamp (n := i + 1) (by omega), nI_clamp (n := nz - i) (by omega)]; omega) (fun _ _ => rfl) (Nat.le_of_ble_eq_true rfl) (Nat.le_of_ble_eq_true rfl) dX5_insert_108 (fun H locs hP hD hS => ?_)
          rw [hcp_] at hP hD
          replace hP : va_P (dC, dI) vwCl [(x0, .inr (5, [.ref r_11, .ref r_13, .int (nI nz), .int ch])), (k0, .inl (ck, L, .inl f)), (r_11, .inl (ur_11.1, nz * 2, .inl (va_cpy ur_11.2 ur_11.2 i (i + 1) (nz - i)))), (w0, .inl (cw, L, .inl g)), (r_13, .inl (ur_13.1, nz * 2, .inl (va_cpy ur_13.2 ur_13.2 i (i + 1) (nz - i))))] H := hP
          replace hD : va_D A [(x0, .inr (5, [.ref r_11, .ref r_13, .int (nI nz), .int ch])), (k0, .inl (ck, L, .inl f)), (r_11, .inl (ur_11.1, nz * 2, .inl (va_cpy ur_11.2 ur_11.2 i (i + 1) (nz - i)))), (w0, .inl (cw, L, .inl g)), (r_13, .inl (ur_13.1, nz * 2, .inl (va_cpy ur_13.2 ur_13.2 i (i + 1) (nz - i))))] := hD
          refine lv_aload_n hx hb dX5_insert_111 rfl (lv_at hl 0 rfl) ?_
          refine va_get (D := (dC, dI)) (ci := 5) (v := .ref r_11) (C := RX5) (T := TX5) (N := 4) hx hb hts hi0_ hown hK hP 0 rfl rfl 0 (by decide) hw1_ (fun _ h9 => h9) rfl dX5_insert_112 ?_
          refine lv_iload_n hx hb dX5_insert_115 rfl (lv_at hl 1 rfl) ?_
          refine lv_iload_n hx hb dX5_insert_116 rfl (lv_at hl 2 rfl) ?_
          refine va_iast (i := nI i) hx hb hK hP hD hS 2 3 rfl rfl (vp_in_nI (by omega) (by omega)) dX5_insert_117 (fun H locs hP hD hS => ?_)
          rw [nI_clamp (by omega)] at hP hD
          replace hP : va_P (dC, dI) vwCl [(x0, .inr (5, [.ref r_11, .ref r_13, .int (nI nz), .int ch])), (k0, .inl (ck, L, .inl f)), (r_11, .inl (ur_11.1, nz * 2, .inl (upd (va_cpy ur_11.2 ur_11.2 i (i + 1) (nz - i)) i p1))), (w0, .inl (cw, L, .inl g)), (r_13, .inl (ur_13.1, nz * 2, .inl (va_cpy ur_13.2 ur_13.2 i (i + 1) (nz - i))))] H := hP
          replace hD : va_D A [(x0, .inr (5, [.ref r_11, .ref r_13, .int (nI nz), .int ch])), (k0, .inl (ck, L, .inl f)), (r_11, .inl (ur_11.1, nz * 2, .inl (upd (va_cpy ur_11.2 ur_11.2 i (i + 1) (nz - i)) i p1))), (w0, .inl (cw, L, .inl g)), (r_13, .inl (ur_13.1, nz * 2, .inl (va_cpy ur_13.2 ur_13.2 i (i + 1) (nz - i))))] := hD
          refine lv_aload_n hx hb dX5_insert_118 rfl (lv_at hl 0 rfl) ?_
          refine va_get (D := (dC, dI)) (ci := 5) (v := .ref r_13) (C := RX5) (T := TX5) (N := 4) hx hb hts hi0_ hown hK hP 0 rfl rfl 1 (by decide) hw6_ (fun _ h9 => h9) rfl dX5_insert_119 ?_
          refine lv_iload_n hx hb dX5_insert_122 rfl (lv_at hl 1 rfl) ?_
          refine lv_iload_n hx hb dX5_insert_123 rfl (lv_at hl 3 rfl) ?_
          refine va_iast (i := nI i) hx hb hK hP hD hS 4 5 rfl rfl (vp_in_nI (by omega) (by omega)) dX5_insert_124 (fun H locs hP hD hS => ?_)
          rw [nI_clamp (by omega)] at hP hD
          replace hP : va_P (dC, dI) vwCl [(x0, .inr (5, [.ref r_11, .ref r_13, .int (nI nz), .int ch])), (k0, .inl (ck, L, .inl f)), (r_11, .inl (ur_11.1, nz * 2, .inl (upd (va_cpy ur_11.2 ur_11.2 i (i + 1) (nz - i)) i p1))), (w0, .inl (cw, L, .inl g)), (r_13, .inl (ur_13.1, nz * 2, .inl (upd (va_cpy ur_13.2 ur_13.2 i (i + 1) (nz - i)) i p2)))] H := hP
          replace hD : va_D A [(x0, .inr (5, [.ref r_11, .ref r_13, .int (nI nz), .int ch])), (k0, .inl (ck, L, .inl f)), (r_11, .inl (ur_11.1, nz * 2, .inl (upd (va_cpy ur_11.2 ur_11.2 i (i + 1) (nz - i)) i p1))), (w0, .inl (cw, L, .inl g)), (r_13, .inl (ur_13.1, nz * 2, .inl (upd (va_cpy ur_13.2 ur_13.2 i (i + 1) (nz - i)) i p2)))] := hD
          refine lv_aload_n hx hb dX5_insert_125 rfl (lv_at hl 0 rfl) ?_
          refine lv_dup hx hb dX5_insert_126 rfl ?_
          refine va_get (D := (dC, dI)) (ci := 5) (v := .int (nI nz)) (C := RX5) (T := TX5) (N := 4) hx hb hts hi0_ hown hK hP 0 rfl rfl 2 (by decide) hw0_ (fun _ h9 => h9) rfl dX5_insert_127 ?_
          refine lv_iconst (v := 1) hx hb dX5_insert_130 (by decide) ?_
          refine lv_iadd hx hb dX5_insert_131 ?_
          refine lv_topi (fun z_18 ez_18 => ?_)
          obtain rfl : z_18 = nI (nz + 1) := ez_18.trans (by rw [show (1 : Int32) = nI 1 from rfl, nI_add])
          refine va_put (D := (dC, dI)) (ci := 5) (v := .int (nI (nz + 1))) (ty := .int) (C := RX5) (T := TX5) (N := 4) hx hb hts hi0_ tyX5 tyX5_ok nmX5 hown hK hP hD hS 0 rfl rfl 2 (by decide) hw0_ (fun _ h9 => h9) rfl (by decide +kernel) rfl rfl (Nat.le_of_ble_eq_true rfl) dX5_insert_132 (fun H locs hP hD hS => ?_)
          replace hP : va_P (dC, dI) vwCl [(x0, .inr (5, [.ref r_11, .ref r_13, .int (nI (nz + 1)), .int ch])), (k0, .inl (ck, L, .inl f)), (r_11, .inl (ur_11.1, nz * 2, .inl (upd (va_cpy ur_11.2 ur_11.2 i (i + 1) (nz - i)) i p1))), (w0, .inl (cw, L, .inl g)), (r_13, .inl (ur_13.1, nz * 2, .inl (upd (va_cpy ur_13.2 ur_13.2 i (i + 1) (nz - i)) i p2)))] H := hP
          replace hD : va_D A [(x0, .inr (5, [.ref r_11, .ref r_13, .int (nI (nz + 1)), .int ch])), (k0, .inl (ck, L, .inl f)), (r_11, .inl (ur_11.1, nz * 2, .inl (upd (va_cpy ur_11.2 ur_11.2 i (i + 1) (nz - i)) i p1))), (w0, .inl (cw, L, .inl g)), (r_13, .inl (ur_13.1, nz * 2, .inl (upd (va_cpy ur_13.2 ur_13.2 i (i + 1) (nz - i)) i p2)))] := hD
          refine lv_aload_n hx hb dX5_insert_135 rfl (lv_at hl 0 rfl) ?_
          refine lv_dup hx hb dX5_insert_136 rfl ?_
          refine va_get (D := (dC, dI)) (ci := 5) (v := .int ch) (C := RX5) (T := TX5) (N := 4) hx hb hts hi0_ hown hK hP 0 rfl rfl 3 (by decide) hw7_ (fun _ h9 => h9) rfl dX5_insert_137 ?_
          refine lv_iconst (v := 1) hx hb dX5_insert_140 (by decide) ?_
          refine lv_iadd hx hb dX5_insert_141 ?_
          refine va_put (D := (dC, dI)) (ci := 5) (v := .int (ch + 1)) (ty := .int) (C := RX5) (T := TX5) (N := 4) hx hb hts hi0_ tyX5 tyX5_ok nmX5 hown hK hP hD hS 0 rfl rfl 3 (by decide) hw7_ (fun _ h9 => h9) rfl (by decide +kernel) rfl rfl (Nat.le_of_ble_eq_true rfl) dX5_insert_142 (fun H locs hP hD hS => ?_)
          replace hP : va_P (dC, dI) vwCl [(x0, .inr (5, [.ref r_11, .ref r_13, .int (nI (nz + 1)), .int (ch + 1)])), (k0, .inl (ck, L, .inl f)), (r_11, .inl (ur_11.1, nz * 2, .inl (upd (va_cpy ur_11.2 ur_11.2 i (i + 1) (nz - i)) i p1))), (w0, .inl (cw, L, .inl g)), (r_13, .inl (ur_13.1, nz * 2, .inl (upd (va_cpy ur_13.2 ur_13.2 i (i + 1) (nz - i)) i p2)))] H := hP
          replace hD : va_D A [(x0, .inr (5, [.ref r_11, .ref r_13, .int (nI (nz + 1)), .int (ch + 1)])), (k0, .inl (ck, L, .inl f)), (r_11, .inl (ur_11.1, nz * 2, .inl (upd (va_cpy ur_11.2 ur_11.2 i (i + 1) (nz - i)) i p1))), (w0, .inl (cw, L, .inl g)), (r_13, .inl (ur_13.1, nz * 2, .inl (upd (va_cpy ur_13.2 ur_13.2 i (i + 1) (nz - i)) i p2)))] := hD
          refine W.book (fun hz9_ hn9_ => ?_)
          have hP9 := hP.sub (ws' := [(x0, .inr (5, [.ref r_11, .ref r_13, .int (nI (nz + 1)), .int (ch + 1)])), (r_11, .inl (ur_11.1, nz * 2, .inl (upd (va_cpy ur_11.2 ur_11.2 i (i + 1) (nz - i)) i p1))), (r_13, .inl (ur_13.1, nz * 2, .inl (upd (va_cpy ur_13.2 ur_13.2 i (i + 1) (nz - i)) i p2)))]) [0, 2, 4] rfl
          have hD9 := hD.sub (ws' := [(x0, .inr (5, [.ref r_11, .ref r_13, .int (nI (nz + 1)), .int (ch + 1)])), (r_11, .inl (ur_11.1, nz * 2, .inl (upd (va_cpy ur_11.2 ur_11.2 i (i + 1) (nz - i)) i p1))), (r_13, .inl (ur_13.1, nz * 2, .inl (upd (va_cpy ur_13.2 ur_13.2 i (i + 1) (nz - i)) i p2)))]) [0, 2, 4] (by decide) rfl
          have hK9 := hK.sub (tys' := [(ur_11.1, .int), (ur_13.1, .int)]) [3, 5] rfl
          have hpost : insP L nz (nz * 2) (nz + 1) := by unfold insP rOK; omega
          have hLe_ : nz = L := by omega
          have hlg_ : lgN (nz * 2) = lgN L + 1 := by rw [hLe_]; exact lgN_dbl (by omega)
          have hcost : hT H + 4 * L ≤ hT s.heap + 4 * (nz * 2) ∧ H.size + 2 * lgN L ≤ s.heap.size + 2 * lgN (nz * 2) := by constructor <;> omega
          refine W.widen (k := gc) (n := gs) (by omega) (by omega) ?_
          exact W.vret hx hb hr (fun t ht hW => ⟨⟨(r_11, r_13, ur_11.1, ur_13.1, nz * 2, (upd (va_cpy ur_11.2 ur_11.2 i (i + 1) (nz - i)) i p1), (upd (va_cpy ur_13.2 ur_13.2 i (i + 1) (nz - i)) i p2), nz + 1, ch + 1), rfl, hpost, by rw [ht]; exact hP9, va_K.moved hW.alike hK9, hD9, by rw [ht]; exact hcost⟩, hS.F ht⟩) hS.2.2 dX5_insert_145
      ·
        have ic_3 : 1000 ≤ ((nz : Nat) : Int) := tx_nlt (nI_toInt (by omega)) (by decide) c_3
        refine W.book (fun hz9_ hn9_ => ?_)
        have hP9 := hP.sub (ws' := [(x0, .inr (5, [.ref k0, .ref w0, .int (nI nz), .int ch])), (k0, .inl (ck, L, .inl f)), (w0, .inl (cw, L, .inl g))]) [0, 1, 2] rfl
        have hD9 := hD.sub (ws' := [(x0, .inr (5, [.ref k0, .ref w0, .int (nI nz), .int ch])), (k0, .inl (ck, L, .inl f)), (w0, .inl (cw, L, .inl g))]) [0, 1, 2] (by decide) rfl
        have hK9 := hK.sub (tys' := [(ck, .int), (cw, .int)]) [0, 1] rfl
        have hpost : insP L nz (L) (nz) := by unfold insP rOK; omega
        have hcost : hT s.heap + 4 * L ≤ hT s.heap + 4 * (L) ∧ s.heap.size + 2 * lgN L ≤ s.heap.size + 2 * lgN (L) := by constructor <;> omega
        refine W.widen (k := gc) (n := gs) (by omega) (by omega) ?_
        exact W.vret hx hb hr (fun t ht hW => ⟨⟨(k0, w0, ck, cw, L, f, g, nz, ch), rfl, hpost, by rw [ht]; exact hP9, va_K.moved hW.alike hK9, hD9, by rw [ht]; exact hcost⟩, hS.F ht⟩) hS.2.2 dX5_insert_22
set_option maxHeartbeats 4000000 in
set_option maxRecDepth 100000 in
/-- Rows.remove -/
theorem c_X5_remove (l : Launch) (dC : Nat → ClassId) (dI : Nat → Nat → Nat) (sz : Nat) (x0 : Nat) (k0 : Nat) (w0 : Nat) (ck : ClassId) (cw : ClassId) (L : Nat) (f : Nat → Int32) (g : Nat → Int32) (nz : Nat) (ch : Int32) (p0 : Int32) (p1 : Int32) (hR9 : rOK L nz) : Met l yX5_remove wsX5_remove ({ frames := 1, cells := 0, slots := 0, locals := 60 }) (va_Pc [.ref x0, .int p0, .int p1] (pk_Pre (dC, dI) [(x0, .inr (5, [.ref k0, .ref w0, .int (nI nz), .int ch])), (k0, .inl (ck, L, .inl f)), (w0, .inl (cw, L, .inl g))] [(ck, .int), (cw, .int)] sz)) (va_Qv (fun (u : (Nat → Int32) × (Nat → Int32) × Nat × Int32) => u.2.2.1 ≤ nz) (fun (u : (Nat → Int32) × (Nat → Int32) × Nat × Int32) (t : State) => va_P (dC, dI) vwCl [(x0, .inr (5, [.ref k0, .ref w0, .int (nI (u.2.2.1)), .int u.2.2.2])), (k0, .inl (ck, L, .inl u.1)), (w0, .inl (cw, L, .inl u.2.1))] t.heap ∧ va_K (dC, dI) vwCl [(ck, .int), (cw, .int)] t ∧ va_D (va_A [(x0, .inr (5, [.ref k0, .ref w0, .int (nI nz), .int ch])), (k0, .inl (ck, L, .inl f)), (w0, .inl (cw, L, .inl g))] sz) [(x0, .inr (5, [.ref k0, .ref w0, .int (nI (u.2.2.1)), .int u.2.2.2])), (k0, .inl (ck, L, .inl u.1)), (w0, .inl (cw, L, .inl u.2.1))]) (va_A [(x0, .inr (5, [.ref k0, .ref w0, .int (nI nz), .int ch])), (k0, .inl (ck, L, .inl f)), (w0, .inl (cw, L, .inl g))] sz)) 0 0 (va_A [(x0, .inr (5, [.ref k0, .ref w0, .int (nI nz), .int ch])), (k0, .inl (ck, L, .inl f)), (w0, .inl (cw, L, .inl g))] sz) := by
  refine Met.ofW (cc := cX5_remove) (maxL := 3) (ret := none) (by decide) rfl ?_
  intro p e s m args below meth c s₁ B hml hv
  obtain ⟨rfl, hsz, hP, hK, hD0⟩ := hv
  have hx := B.exec
  have hb := B.bytes
  have hr := B.returns
  have hts := atoms_spec (ws := wsX5_remove) B.pre
  have hown : s.vm.findClass RX5 = some m.cls := findClass_of_methodNamed B.named
  have hlocks := B.notSynchronized
  subst hsz
  have hD := hD0.self (sz := s.heap.size)
  generalize hAe : va_A [(x0, .inr (5, [.ref k0, .ref w0, .int (nI nz), .int ch])), (k0, .inl (ck, L, .inl f)), (w0, .inl (cw, L, .inl g))] s.heap.size = A at hD ⊢
  have hA : ∀ q : Nat, s.heap.size ≤ q → A q := fun q h => by rw [← hAe]; exact Or.inr h
  have hS : va_S A s.heap s.heap [] := va_S.rf
  have hP : va_P (dC, dI) vwCl [(x0, .inr (5, [.ref k0, .ref w0, .int (nI nz), .int ch])), (k0, .inl (ck, L, .inl f)), (w0, .inl (cw, L, .inl g))] s.heap := hP
  have hl := lv_entry ([.ref x0, .int p0, .int p1]) (n := 3) (Nat.le_of_ble_eq_true rfl)
  rw [lg_entry_eq]
  generalize (lg_sl ([.ref x0, .int p0, .int p1]) ++ List.replicate (3 - (lg_sl ([.ref x0, .int p0, .int p1])).length) Slot.unset).toArray = ls at hl ⊢
  have hl : lv_has ls 3 [(0, .ref x0), (1, .int p0), (2, .int p1)] := hl
  have hw0_ := hts (.fieldLink RX5 18 "KeyAtlas$Rows" "size" "I") (List.mem_of_getElem? (l := wsX5_remove) (i := 1) rfl)
  have hw1_ := hts (.fieldLink RX5 9 "KeyAtlas$Rows" "keys" "[I") (List.mem_of_getElem? (l := wsX5_remove) (i := 2) rfl)
  have hw2_ := hts (.methodLink RX5 31 arraycopyName) (List.mem_of_getElem? (l := wsX5_remove) (i := 3) rfl)
  have hw3_ := hts (.native arraycopyName) (List.mem_of_getElem? (l := wsX5_remove) (i := 4) rfl)
  have hw4_ := hts (.static arraycopyName) (List.mem_of_getElem? (l := wsX5_remove) (i := 5) rfl)
  have hw5_ := hts (.initialized "java/lang/System") (List.mem_of_getElem? (l := wsX5_remove) (i := 6) rfl)
  have hw6_ := hts (.fieldLink RX5 15 "KeyAtlas$Rows" "values" "[I") (List.mem_of_getElem? (l := wsX5_remove) (i := 7) rfl)
  have hw7_ := hts (.fieldLink RX5 22 "KeyAtlas$Rows" "changes" "I") (List.mem_of_getElem? (l := wsX5_remove) (i := 8) rfl)
  have hi0_ : ∀ w ∈ u_ws RX5 TX5 4, w ∈ wsX5_remove := fun w h => List.mem_cons_of_mem _ (List.mem_append_right _ h)
  obtain ⟨hL1, hL2, hz1, hz2⟩ := hR9
  refine lv_iload_n hx hb dX5_remove_0 rfl (lv_at hl 1 rfl) ?_
  refine lv_if_lt (tgt := 17) hx hb dX5_remove_1 (by decide) (fun c_1 => ?_) (fun c_1 => ?_)
  ·
    have ic_1 : p0.toInt < 0 := tx_lt rfl (by decide) c_1
    have hP9 := hP.sub (ws' := [(x0, .inr (5, [.ref k0, .ref w0, .int (nI nz), .int ch])), (k0, .inl (ck, L, .inl f)), (w0, .inl (cw, L, .inl g))]) [0, 1, 2] rfl
    have hD9 := hD.sub (ws' := [(x0, .inr (5, [.ref k0, .ref w0, .int (nI nz), .int ch])), (k0, .inl (ck, L, .inl f)), (w0, .inl (cw, L, .inl g))]) [0, 1, 2] (by decide) rfl
    have hK9 := hK.sub (tys' := [(ck, .int), (cw, .int)]) [0, 1] rfl
    have hpost : nz ≤ nz := by omega
    refine W.widen (k := 0) (n := 0) (Nat.le_of_ble_eq_true rfl) (Nat.le_of_ble_eq_true rfl) ?_
    exact W.vret hx hb hr (fun t ht hW => ⟨⟨(f, g, nz, ch), rfl, hpost, by rw [ht]; exact hP9, va_K.moved hW.alike hK9, hD9⟩, hS.F ht⟩) hS.2.2 dX5_remove_17
  ·
    have ic_1 : 0 ≤ p0.toInt := tx_nlt rfl (by decide) c_1
    refine lv_iload_n hx hb dX5_remove_4 rfl (lv_at hl 2 rfl) ?_
    refine lv_iload_n hx hb dX5_remove_5 rfl (lv_at hl 1 rfl) ?_
    refine lv_icmp_lt (tgt := 17) hx hb dX5_remove_6 (by decide) (fun c_2 => ?_) (fun c_2 => ?_)
    ·
      have ic_2 : p1.toInt < p0.toInt := tx_lt rfl rfl c_2
      have hP9 := hP.sub (ws' := [(x0, .inr (5, [.ref k0, .ref w0, .int (nI nz), .int ch])), (k0, .inl (ck, L, .inl f)), (w0, .inl (cw, L, .inl g))]) [0, 1, 2] rfl
      have hD9 := hD.sub (ws' := [(x0, .inr (5, [.ref k0, .ref w0, .int (nI nz), .int ch])), (k0, .inl (ck, L, .inl f)), (w0, .inl (cw, L, .inl g))]) [0, 1, 2] (by decide) rfl
      have hK9 := hK.sub (tys' := [(ck, .int), (cw, .int)]) [0, 1] rfl
      have hpost : nz ≤ nz := by omega
      refine W.widen (k := 0) (n := 0) (Nat.le_of_ble_eq_true rfl) (Nat.le_of_ble_eq_true rfl) ?_
      exact W.vret hx hb hr (fun t ht hW => ⟨⟨(f, g, nz, ch), rfl, hpost, by rw [ht]; exact hP9, va_K.moved hW.alike hK9, hD9⟩, hS.F ht⟩) hS.2.2 dX5_remove_17
    ·
      have ic_2 : p0.toInt ≤ p1.toInt := tx_nlt rfl rfl c_2
      refine lv_iload_n hx hb dX5_remove_9 rfl (lv_at hl 2 rfl) ?_
      refine lv_aload_n hx hb dX5_remove_10 rfl (lv_at hl 0 rfl) ?_
      refine va_get (D := (dC, dI)) (ci := 5) (v := .int (nI nz)) (C := RX5) (T := TX5) (N := 4) hx hb hts hi0_ hown hK hP 0 rfl rfl 2 (by decide) hw0_ (fun _ h9 => h9) rfl dX5_remove_11 ?_
      refine lv_icmp_le (tgt := 18) hx hb dX5_remove_14 (by decide) (fun c_3 => ?_) (fun c_3 => ?_)
      ·
        have ic_3 : p1.toInt ≤ ((nz : Nat) : Int) := tx_le rfl (nI_toInt (by omega)) c_3
        obtain ⟨ib, hib, rfl⟩ := nI_nat (x := p1) (n := 1001) (by omega) (by omega) (by omega)
        have hibt : (nI ib).toInt = (ib : Int) := nI_toInt (by omega)
        obtain ⟨ia, hia, rfl⟩ := nI_nat (x := p0) (n := 1001) (by omega) (by omega) (by omega)
        have hiat : (nI ia).toInt = (ia : Int) := nI_toInt (by omega)
        refine lv_aload_n hx hb dX5_remove_18 rfl (lv_at hl 0 rfl) ?_
        refine va_get (D := (dC, dI)) (ci := 5) (v := .ref k0) (C := RX5) (T := TX5) (N := 4) hx hb hts hi0_ hown hK hP 0 rfl rfl 0 (by decide) hw1_ (fun _ h9 => h9) rfl dX5_remove_19 ?_
        refine lv_iload_n hx hb dX5_remove_22 rfl (lv_at hl 2 rfl) ?_
        refine lv_aload_n hx hb dX5_remove_23 rfl (lv_at hl 0 rfl) ?_
        refine va_get (D := (dC, dI)) (ci := 5) (v := .ref k0) (C := RX5) (T := TX5) (N := 4) hx hb hts hi0_ hown hK hP 0 rfl rfl 0 (by decide) hw1_ (fun _ h9 => h9) rfl dX5_remove_24 ?_
        refine lv_iload_n hx hb dX5_remove_27 rfl (lv_at hl 1 rfl) ?_
        refine lv_aload_n hx hb dX5_remove_28 rfl (lv_at hl 0 rfl) ?_
        refine va_get (D := (dC, dI)) (ci := 5) (v := .int (nI nz)) (C := RX5) (T := TX5) (N := 4) hx hb hts hi0_ hown hK hP 0 rfl rfl 2 (by decide) hw0_ (fun _ h9 => h9) rfl dX5_remove_29 ?_
        refine lv_iload_n hx hb dX5_remove_32 rfl (lv_at hl 2 rfl) ?_
        refine lv_isub hx hb dX5_remove_33 ?_
        refine lv_topi (fun z_4 ez_4 => ?_)
        obtain rfl : z_4 = nI (nz - ib) := ez_4.trans (by rw [pk_sub (by omega)])
        have hcp_ : va_cpy f f (nI ib : Int32).toNatClampNeg (nI ia : Int32).toNatClampNeg (nI (nz - ib) : Int32).toNatClampNeg = va_cpy f f ib ia (nz - ib) := by rw [nI_clamp (n := ib) (by omega), nI_clamp (n := ia) (by omega), nI_clamp (n := nz - ib) (by omega)]
        refine va_copyi (sp := nI ib) (dp := nI ia) (n := nI (nz - ib)) (ty := .int) hx hb (hml.trans hl.1.symm) hown hw2_ hw3_ hw4_ hw5_ hK hP hD hS 1 1 0 0 rfl rfl rfl rfl rfl (nI_n0 (by omega)) (nI_n0 (by omega)) (nI_n0 (by omega)) (by rw [nI_clamp (n := ib) (by omega), nI_clamp (n := nz - ib) (by omega)]; omega) (by rw [nI_clamp (n := ia) (by omega), nI_clamp (n := nz - ib) (by omega)]; omega) (fun _ _ => rfl) (Nat.le_of_ble_eq_true rfl) (Nat.le_of_ble_eq_true rfl) dX5_remove_34 (fun H locs hP hD hS => ?_)
        rw [hcp_] at hP hD
        replace hP : va_P (dC, dI) vwCl [(x0, .inr (5, [.ref k0, .ref w0, .int (nI nz), .int ch])), (k0, .inl (ck, L, .inl (va_cpy f f ib ia (nz - ib)))), (w0, .inl (cw, L, .inl g))] H := hP
        replace hD : va_D A [(x0, .inr (5, [.ref k0, .ref w0, .int (nI nz), .int ch])), (k0, .inl (ck, L, .inl (va_cpy f f ib ia (nz - ib)))), (w0, .inl (cw, L, .inl g))] := hD
        refine lv_aload_n hx hb dX5_remove_37 rfl (lv_at hl 0 rfl) ?_
        refine va_get (D := (dC, dI)) (ci := 5) (v := .ref w0) (C := RX5) (T := TX5) (N := 4) hx hb hts hi0_ hown hK hP 0 rfl rfl 1 (by decide) hw6_ (fun _ h9 => h9) rfl dX5_remove_38 ?_
        refine lv_iload_n hx hb dX5_remove_41 rfl (lv_at hl 2 rfl) ?_
        refine lv_aload_n hx hb dX5_remove_42 rfl (lv_at hl 0 rfl) ?_
        refine va_get (D := (dC, dI)) (ci := 5) (v := .ref w0) (C := RX5) (T := TX5) (N := 4) hx hb hts hi0_ hown hK hP 0 rfl rfl 1 (by decide) hw6_ (fun _ h9 => h9) rfl dX5_remove_43 ?_
        refine lv_iload_n hx hb dX5_remove_46 rfl (lv_at hl 1 rfl) ?_
        refine lv_aload_n hx hb dX5_remove_47 rfl (lv_at hl 0 rfl) ?_
        refine va_get (D := (dC, dI)) (ci := 5) (v := .int (nI nz)) (C := RX5) (T := TX5) (N := 4) hx hb hts hi0_ hown hK hP 0 rfl rfl 2 (by decide) hw0_ (fun _ h9 => h9) rfl dX5_remove_48 ?_
        refine lv_iload_n hx hb dX5_remove_51 rfl (lv_at hl 2 rfl) ?_
        refine lv_isub hx hb dX5_remove_52 ?_
        refine lv_topi (fun z_5 ez_5 => ?_)
        obtain rfl : z_5 = nI (nz - ib) := ez_5.trans (by rw [pk_sub (by omega)])
        have hcp_ : va_cpy g g (nI ib : Int32).toNatClampNeg (nI ia : Int32).toNatClampNeg (nI (nz - ib) : Int32).toNatClampNeg = va_cpy g g ib ia (nz - ib) := by rw [nI_clamp (n := ib) (by omega), nI_clamp (n := ia) (by omega), nI_clamp (n := nz - ib) (by omega)]
        refine va_copyi (sp := nI ib) (dp := nI ia) (n := nI (nz - ib)) (ty := .int) hx hb (hml.trans hl.1.symm) hown hw2_ hw3_ hw4_ hw5_ hK hP hD hS 2 2 1 1 rfl rfl rfl rfl rfl (nI_n0 (by omega)) (nI_n0 (by omega)) (nI_n0 (by omega)) (by rw [nI_clamp (n := ib) (by omega), nI_clamp (n := nz - ib) (by omega)]; omega) (by rw [nI_clamp (n := ia) (by omega), nI_clamp (n := nz - ib) (by omega)]; omega) (fun _ _ => rfl) (Nat.le_of_ble_eq_true rfl) (Nat.le_of_ble_eq_true rfl) dX5_remove_53 (fun H locs hP hD hS => ?_)
        rw [hcp_] at hP hD
        replace hP : va_P (dC, dI) vwCl [(x0, .inr (5, [.ref k0, .ref w0, .int (nI nz), .int ch])), (k0, .inl (ck, L, .inl (va_cpy f f ib ia (nz - ib)))), (w0, .inl (cw, L, .inl (va_cpy g g ib ia (nz - ib))))] H := hP
        replace hD : va_D A [(x0, .inr (5, [.ref k0, .ref w0, .int (nI nz), .int ch])), (k0, .inl (ck, L, .inl (va_cpy f f ib ia (nz - ib)))), (w0, .inl (cw, L, .inl (va_cpy g g ib ia (nz - ib))))] := hD
        refine lv_aload_n hx hb dX5_remove_56 rfl (lv_at hl 0 rfl) ?_
        refine lv_dup hx hb dX5_remove_57 rfl ?_
        refine va_get (D := (dC, dI)) (ci := 5) (v := .int (nI nz)) (C := RX5) (T := TX5) (N := 4) hx hb hts hi0_ hown hK hP 0 rfl rfl 2 (by decide) hw0_ (fun _ h9 => h9) rfl dX5_remove_58 ?_
        refine lv_iload_n hx hb dX5_remove_61 rfl (lv_at hl 2 rfl) ?_
        refine lv_iload_n hx hb dX5_remove_62 rfl (lv_at hl 1 rfl) ?_
        refine lv_isub hx hb dX5_remove_63 ?_
        refine lv_topi (fun z_6 ez_6 => ?_)
        obtain rfl : z_6 = nI (ib - ia) := ez_6.trans (by rw [pk_sub (by omega)])
        refine lv_isub hx hb dX5_remove_64 ?_
        refine lv_topi (fun z_7 ez_7 => ?_)
        obtain rfl : z_7 = nI (nz - (ib - ia)) := ez_7.trans (by rw [pk_sub (by omega)])
        refine va_put (D := (dC, dI)) (ci := 5) (v := .int (nI (nz - (ib - ia)))) (ty := .int) (C := RX5) (T := TX5) (N := 4) hx hb hts hi0_ tyX5 tyX5_ok nmX5 hown hK hP hD hS 0 rfl rfl 2 (by decide) hw0_ (fun _ h9 => h9) rfl (by decide +kernel) rfl rfl (Nat.le_of_ble_eq_true rfl) dX5_remove_65 (fun H locs hP hD hS => ?_)
        replace hP : va_P (dC, dI) vwCl [(x0, .inr (5, [.ref k0, .ref w0, .int (nI (nz - (ib - ia))), .int ch])), (k0, .inl (ck, L, .inl (va_cpy f f ib ia (nz - ib)))), (w0, .inl (cw, L, .inl (va_cpy g g ib ia (nz - ib))))] H := hP
        replace hD : va_D A [(x0, .inr (5, [.ref k0, .ref w0, .int (nI (nz - (ib - ia))), .int ch])), (k0, .inl (ck, L, .inl (va_cpy f f ib ia (nz - ib)))), (w0, .inl (cw, L, .inl (va_cpy g g ib ia (nz - ib))))] := hD
        refine lv_aload_n hx hb dX5_remove_68 rfl (lv_at hl 0 rfl) ?_
        refine lv_dup hx hb dX5_remove_69 rfl ?_
        refine va_get (D := (dC, dI)) (ci := 5) (v := .int ch) (C := RX5) (T := TX5) (N := 4) hx hb hts hi0_ hown hK hP 0 rfl rfl 3 (by decide) hw7_ (fun _ h9 => h9) rfl dX5_remove_70 ?_
        refine lv_iconst (v := 1) hx hb dX5_remove_73 (by decide) ?_
        refine lv_iadd hx hb dX5_remove_74 ?_
        refine va_put (D := (dC, dI)) (ci := 5) (v := .int (ch + 1)) (ty := .int) (C := RX5) (T := TX5) (N := 4) hx hb hts hi0_ tyX5 tyX5_ok nmX5 hown hK hP hD hS 0 rfl rfl 3 (by decide) hw7_ (fun _ h9 => h9) rfl (by decide +kernel) rfl rfl (Nat.le_of_ble_eq_true rfl) dX5_remove_75 (fun H locs hP hD hS => ?_)
        replace hP : va_P (dC, dI) vwCl [(x0, .inr (5, [.ref k0, .ref w0, .int (nI (nz - (ib - ia))), .int (ch + 1)])), (k0, .inl (ck, L, .inl (va_cpy f f ib ia (nz - ib)))), (w0, .inl (cw, L, .inl (va_cpy g g ib ia (nz - ib))))] H := hP
        replace hD : va_D A [(x0, .inr (5, [.ref k0, .ref w0, .int (nI (nz - (ib - ia))), .int (ch + 1)])), (k0, .inl (ck, L, .inl (va_cpy f f ib ia (nz - ib)))), (w0, .inl (cw, L, .inl (va_cpy g g ib ia (nz - ib))))] := hD
        have hP9 := hP.sub (ws' := [(x0, .inr (5, [.ref k0, .ref w0, .int (nI (nz - (ib - ia))), .int (ch + 1)])), (k0, .inl (ck, L, .inl (va_cpy f f ib ia (nz - ib)))), (w0, .inl (cw, L, .inl (va_cpy g g ib ia (nz - ib))))]) [0, 1, 2] rfl
        have hD9 := hD.sub (ws' := [(x0, .inr (5, [.ref k0, .ref w0, .int (nI (nz - (ib - ia))), .int (ch + 1)])), (k0, .inl (ck, L, .inl (va_cpy f f ib ia (nz - ib)))), (w0, .inl (cw, L, .inl (va_cpy g g ib ia (nz - ib))))]) [0, 1, 2] (by decide) rfl
        have hK9 := hK.sub (tys' := [(ck, .int), (cw, .int)]) [0, 1] rfl
        have hpost : nz - (ib - ia) ≤ nz := by omega
        refine W.widen (k := 0) (n := 0) (Nat.le_of_ble_eq_true rfl) (Nat.le_of_ble_eq_true rfl) ?_
        exact W.vret hx hb hr (fun t ht hW => ⟨⟨((va_cpy f f ib ia (nz - ib)), (va_cpy g g ib ia (nz - ib)), nz - (ib - ia), ch + 1), rfl, hpost, by rw [ht]; exact hP9, va_K.moved hW.alike hK9, hD9⟩, hS.F ht⟩) hS.2.2 dX5_remove_78
      ·
        have ic_3 : ((nz : Nat) : Int) < p1.toInt := tx_nle rfl (nI_toInt (by omega)) c_3
        have hP9 := hP.sub (ws' := [(x0, .inr (5, [.ref k0, .ref w0, .int (nI nz), .int ch])), (k0, .inl (ck, L, .inl f)), (w0, .inl (cw, L, .inl g))]) [0, 1, 2] rfl
        have hD9 := hD.sub (ws' := [(x0, .inr (5, [.ref k0, .ref w0, .int (nI nz), .int ch])), (k0, .inl (ck, L, .inl f)), (w0, .inl (cw, L, .inl g))]) [0, 1, 2] (by decide) rfl
        have hK9 := hK.sub (tys' := [(ck, .int), (cw, .int)]) [0, 1] rfl
        have hpost : nz ≤ nz := by omega
        refine W.widen (k := 0) (n := 0) (Nat.le_of_ble_eq_true rfl) (Nat.le_of_ble_eq_true rfl) ?_
        exact W.vret hx hb hr (fun t ht hW => ⟨⟨(f, g, nz, ch), rfl, hpost, by rw [ht]; exact hP9, va_K.moved hW.alike hK9, hD9⟩, hS.F ht⟩) hS.2.2 dX5_remove_17
set_option maxHeartbeats 4000000 in
set_option maxRecDepth 100000 in
/-- Rows.moveToEnd -/
theorem c_X5_moveToEnd (l : Launch) (dC : Nat → ClassId) (dI : Nat → Nat → Nat) (sz : Nat) (x0 : Nat) (k0 : Nat) (w0 : Nat) (ck : ClassId) (cw : ClassId) (L : Nat) (f : Nat → Int32) (g : Nat → Int32) (nz : Nat) (ch : Int32) (p0 : Int32) (hR9 : rOK L nz) : Met l yX5_moveToEnd wsX5_moveToEnd ({ frames := 1, cells := 0, slots := 0, locals := 60 }) (va_Pc [.ref x0, .int p0] (pk_Pre (dC, dI) [(x0, .inr (5, [.ref k0, .ref w0, .int (nI nz), .int ch])), (k0, .inl (ck, L, .inl f)), (w0, .inl (cw, L, .inl g))] [(ck, .int), (cw, .int)] sz)) (va_Qv (fun (u : (Nat → Int32) × (Nat → Int32) × Int32) => True) (fun (u : (Nat → Int32) × (Nat → Int32) × Int32) (t : State) => va_P (dC, dI) vwCl [(x0, .inr (5, [.ref k0, .ref w0, .int (nI nz), .int u.2.2])), (k0, .inl (ck, L, .inl u.1)), (w0, .inl (cw, L, .inl u.2.1))] t.heap ∧ va_K (dC, dI) vwCl [(ck, .int), (cw, .int)] t ∧ va_D (va_A [(x0, .inr (5, [.ref k0, .ref w0, .int (nI nz), .int ch])), (k0, .inl (ck, L, .inl f)), (w0, .inl (cw, L, .inl g))] sz) [(x0, .inr (5, [.ref k0, .ref w0, .int (nI nz), .int u.2.2])), (k0, .inl (ck, L, .inl u.1)), (w0, .inl (cw, L, .inl u.2.1))]) (va_A [(x0, .inr (5, [.ref k0, .ref w0, .int (nI nz), .int ch])), (k0, .inl (ck, L, .inl f)), (w0, .inl (cw, L, .inl g))] sz)) 0 0 (va_A [(x0, .inr (5, [.ref k0, .ref w0, .int (nI nz), .int ch])), (k0, .inl (ck, L, .inl f)), (w0, .inl (cw, L, .inl g))] sz) := by
  refine Met.ofW (cc := cX5_moveToEnd) (maxL := 4) (ret := none) (by decide) rfl ?_
  intro p e s m args below meth c s₁ B hml hv
  obtain ⟨rfl, hsz, hP, hK, hD0⟩ := hv
  have hx := B.exec
  have hb := B.bytes
  have hr := B.returns
  have hts := atoms_spec (ws := wsX5_moveToEnd) B.pre
  have hown : s.vm.findClass RX5 = some m.cls := findClass_of_methodNamed B.named
  have hlocks := B.notSynchronized
  subst hsz
  have hD := hD0.self (sz := s.heap.size)
  generalize hAe : va_A [(x0, .inr (5, [.ref k0, .ref w0, .int (nI nz), .int ch])), (k0, .inl (ck, L, .inl f)), (w0, .inl (cw, L, .inl g))] s.heap.size = A at hD ⊢
  have hA : ∀ q : Nat, s.heap.size ≤ q → A q := fun q h => by rw [← hAe]; exact Or.inr h
  have hS : va_S A s.heap s.heap [] := va_S.rf
  have hP : va_P (dC, dI) vwCl [(x0, .inr (5, [.ref k0, .ref w0, .int (nI nz), .int ch])), (k0, .inl (ck, L, .inl f)), (w0, .inl (cw, L, .inl g))] s.heap := hP
  have hl := lv_entry ([.ref x0, .int p0]) (n := 4) (Nat.le_of_ble_eq_true rfl)
  rw [lg_entry_eq]
  generalize (lg_sl ([.ref x0, .int p0]) ++ List.replicate (4 - (lg_sl ([.ref x0, .int p0])).length) Slot.unset).toArray = ls at hl ⊢
  have hl : lv_has ls 4 [(0, .ref x0), (1, .int p0)] := hl
  have hw0_ := hts (.fieldLink RX5 18 "KeyAtlas$Rows" "size" "I") (List.mem_of_getElem? (l := wsX5_moveToEnd) (i := 1) rfl)
  have hw1_ := hts (.fieldLink RX5 9 "KeyAtlas$Rows" "keys" "[I") (List.mem_of_getElem? (l := wsX5_moveToEnd) (i := 2) rfl)
  have hw2_ := hts (.fieldLink RX5 15 "KeyAtlas$Rows" "values" "[I") (List.mem_of_getElem? (l := wsX5_moveToEnd) (i := 3) rfl)
  have hw3_ := hts (.methodLink RX5 31 arraycopyName) (List.mem_of_getElem? (l := wsX5_moveToEnd) (i := 4) rfl)
  have hw4_ := hts (.native arraycopyName) (List.mem_of_getElem? (l := wsX5_moveToEnd) (i := 5) rfl)
  have hw5_ := hts (.static arraycopyName) (List.mem_of_getElem? (l := wsX5_moveToEnd) (i := 6) rfl)
  have hw6_ := hts (.initialized "java/lang/System") (List.mem_of_getElem? (l := wsX5_moveToEnd) (i := 7) rfl)
  have hw7_ := hts (.fieldLink RX5 22 "KeyAtlas$Rows" "changes" "I") (List.mem_of_getElem? (l := wsX5_moveToEnd) (i := 8) rfl)
  have hi0_ : ∀ w ∈ u_ws RX5 TX5 4, w ∈ wsX5_moveToEnd := fun w h => List.mem_cons_of_mem _ (List.mem_append_right _ h)
  obtain ⟨hL1, hL2, hz1, hz2⟩ := hR9
  refine lv_iload_n hx hb dX5_moveToEnd_0 rfl (lv_at hl 1 rfl) ?_
  refine lv_if_lt (tgt := 14) hx hb dX5_moveToEnd_1 (by decide) (fun c_1 => ?_) (fun c_1 => ?_)
  ·
    have ic_1 : p0.toInt < 0 := tx_lt rfl (by decide) c_1
    have hP9 := hP.sub (ws' := [(x0, .inr (5, [.ref k0, .ref w0, .int (nI nz), .int ch])), (k0, .inl (ck, L, .inl f)), (w0, .inl (cw, L, .inl g))]) [0, 1, 2] rfl
    have hD9 := hD.sub (ws' := [(x0, .inr (5, [.ref k0, .ref w0, .int (nI nz), .int ch])), (k0, .inl (ck, L, .inl f)), (w0, .inl (cw, L, .inl g))]) [0, 1, 2] (by decide) rfl
    have hK9 := hK.sub (tys' := [(ck, .int), (cw, .int)]) [0, 1] rfl
    refine W.widen (k := 0) (n := 0) (Nat.le_of_ble_eq_true rfl) (Nat.le_of_ble_eq_true rfl) ?_
    exact W.vret hx hb hr (fun t ht hW => ⟨⟨(f, g, ch), rfl, trivial, by rw [ht]; exact hP9, va_K.moved hW.alike hK9, hD9⟩, hS.F ht⟩) hS.2.2 dX5_moveToEnd_14
  ·
    have ic_1 : 0 ≤ p0.toInt := tx_nlt rfl (by decide) c_1
    refine lv_iload_n hx hb dX5_moveToEnd_4 rfl (lv_at hl 1 rfl) ?_
    refine lv_aload_n hx hb dX5_moveToEnd_5 rfl (lv_at hl 0 rfl) ?_
    refine va_get (D := (dC, dI)) (ci := 5) (v := .int (nI nz)) (C := RX5) (T := TX5) (N := 4) hx hb hts hi0_ hown hK hP 0 rfl rfl 2 (by decide) hw0_ (fun _ h9 => h9) rfl dX5_moveToEnd_6 ?_
    refine lv_iconst (v := 1) hx hb dX5_moveToEnd_9 (by decide) ?_
    refine lv_isub hx hb dX5_moveToEnd_10 ?_
    refine lv_topi (fun z_ ez_ => ?_)
    obtain rfl : z_ = nI nz - 1 := ez_.trans (rfl)
    have hs8 : (nI nz - 1).toInt = (nz : Int) - 1 := nI_s1 (by omega)
    refine lv_icmp_lt (tgt := 15) hx hb dX5_moveToEnd_11 (by decide) (fun c_2 => ?_) (fun c_2 => ?_)
    ·
      have ic_2 : p0.toInt < (nI nz - 1).toInt := tx_lt rfl rfl c_2
      obtain ⟨i, hi, rfl⟩ := nI_nat (x := p0) (n := 1001) (by omega) (by omega) (by omega)
      have hit : (nI i).toInt = (i : Int) := nI_toInt (by omega)
      refine lv_aload_n hx hb dX5_moveToEnd_15 rfl (lv_at hl 0 rfl) ?_
      refine va_get (D := (dC, dI)) (ci := 5) (v := .ref k0) (C := RX5) (T := TX5) (N := 4) hx hb hts hi0_ hown hK hP 0 rfl rfl 0 (by decide) hw1_ (fun _ h9 => h9) rfl dX5_moveToEnd_16 ?_
      refine lv_iload_n hx hb dX5_moveToEnd_19 rfl (lv_at hl 1 rfl) ?_
      refine va_iald (i := nI i) hx hb hK hP 1 0 rfl rfl (vp_in_nI (by omega) (by omega)) dX5_moveToEnd_20 ?_
      refine W.eq (g2 := F0 m 21 ls [.int (f i)]) (by rw [nI_clamp (by omega)]) ?_
      refine lv_istore_n (lv' := [(2, .int (f i)), (0, .ref x0), (1, .int (nI i))]) hx hb dX5_moveToEnd_21 rfl hl (by decide) rfl (fun ls hl => ?_)
      refine lv_aload_n hx hb dX5_moveToEnd_22 rfl (lv_at hl 1 rfl) ?_
      refine va_get (D := (dC, dI)) (ci := 5) (v := .ref w0) (C := RX5) (T := TX5) (N := 4) hx hb hts hi0_ hown hK hP 0 rfl rfl 1 (by decide) hw2_ (fun _ h9 => h9) rfl dX5_moveToEnd_23 ?_
      refine lv_iload_n hx hb dX5_moveToEnd_26 rfl (lv_at hl 2 rfl) ?_
      refine va_iald (i := nI i) hx hb hK hP 2 1 rfl rfl (vp_in_nI (by omega) (by omega)) dX5_moveToEnd_27 ?_
      refine W.eq (g2 := F0 m 28 ls [.int (g i)]) (by rw [nI_clamp (by omega)]) ?_
      refine lv_istore_n (lv' := [(3, .int (g i)), (2, .int (f i)), (0, .ref x0), (1, .int (nI i))]) hx hb dX5_moveToEnd_28 rfl hl (by decide) rfl (fun ls hl => ?_)
      refine lv_aload_n hx hb dX5_moveToEnd_29 rfl (lv_at hl 2 rfl) ?_
      refine va_get (D := (dC, dI)) (ci := 5) (v := .ref k0) (C := RX5) (T := TX5) (N := 4) hx hb hts hi0_ hown hK hP 0 rfl rfl 0 (by decide) hw1_ (fun _ h9 => h9) rfl dX5_moveToEnd_30 ?_
      refine lv_iload_n hx hb dX5_moveToEnd_33 rfl (lv_at hl 3 rfl) ?_
      refine lv_iconst (v := 1) hx hb dX5_moveToEnd_34 (by decide) ?_
      refine lv_iadd hx hb dX5_moveToEnd_35 ?_
      refine lv_topi (fun z_3 ez_3 => ?_)
      obtain rfl : z_3 = nI (i + 1) := ez_3.trans (by rw [show (1 : Int32) = nI 1 from rfl, nI_add])
      refine lv_aload_n hx hb dX5_moveToEnd_36 rfl (lv_at hl 2 rfl) ?_
      refine va_get (D := (dC, dI)) (ci := 5) (v := .ref k0) (C := RX5) (T := TX5) (N := 4) hx hb hts hi0_ hown hK hP 0 rfl rfl 0 (by decide) hw1_ (fun _ h9 => h9) rfl dX5_moveToEnd_37 ?_
      refine lv_iload_n hx hb dX5_moveToEnd_40 rfl (lv_at hl 3 rfl) ?_
      refine lv_aload_n hx hb dX5_moveToEnd_41 rfl (lv_at hl 2 rfl) ?_
      refine va_get (D := (dC, dI)) (ci := 5) (v := .int (nI nz)) (C := RX5) (T := TX5) (N := 4) hx hb hts hi0_ hown hK hP 0 rfl rfl 2 (by decide) hw0_ (fun _ h9 => h9) rfl dX5_moveToEnd_42 ?_
      refine lv_iconst (v := 1) hx hb dX5_moveToEnd_45 (by decide) ?_
      refine lv_isub hx hb dX5_moveToEnd_46 ?_
      refine lv_topi (fun z_4 ez_4 => ?_)
      obtain rfl : z_4 = nI (nz - 1) := ez_4.trans (by rw [show (1 : Int32) = nI 1 from rfl, pk_sub (by omega)])
      refine lv_iload_n hx hb dX5_moveToEnd_47 rfl (lv_at hl 3 rfl) ?_
      refine lv_isub hx hb dX5_moveToEnd_48 ?_
      refine lv_topi (fun z_5 ez_5 => ?_)
      obtain rfl : z_5 = nI ((nz - 1) - i) := ez_5.trans (by rw [pk_sub (by omega)])
      have hcp_ : va_cpy f f (nI (i + 1) : Int32).toNatClampNeg (nI i : Int32).toNatClampNeg (nI ((nz - 1) - i) : Int32).toNatClampNeg = va_cpy f f (i + 1) i ((nz - 1) - i) := by rw [nI_clamp (n := i + 1) (by omega), nI_clamp (n := i) (by omega), nI_clamp (n := (nz - 1) - i) (by omega)]
      refine va_copyi (sp := nI (i + 1)) (dp := nI i) (n := nI ((nz - 1) - i)) (ty := .int) hx hb (hml.trans hl.1.symm) hown hw3_ hw4_ hw5_ hw6_ hK hP hD hS 1 1 0 0 rfl rfl rfl rfl rfl (nI_n0 (by omega)) (nI_n0 (by omega)) (nI_n0 (by omega)) (by rw [nI_clamp (n := i + 1) (by omega), nI_clamp (n := (nz - 1) - i) (by omega)]; omega) (by rw [nI_clamp (n := i) (by omega), nI_clamp (n := (nz - 1) - i) (by omega)]; omega) (fun _ _ => rfl) (Nat.le_of_ble_eq_true rfl) (Nat.le_of_ble_eq_true rfl) dX5_moveToEnd_49 (fun H locs hP hD hS => ?_)
      rw [hcp_] at hP hD
      replace hP : va_P (dC, dI) vwCl [(x0, .inr (5, [.ref k0, .ref w0, .int (nI nz), .int ch])), (k0, .inl (ck, L, .inl (va_cpy f f (i + 1) i ((nz - 1) - i)))), (w0, .inl (cw, L, .inl g))] H := hP
      replace hD : va_D A [(x0, .inr (5, [.ref k0, .ref w0, .int (nI nz), .int ch])), (k0, .inl (ck, L, .inl (va_cpy f f (i + 1) i ((nz - 1) - i)))), (w0, .inl (cw, L, .inl g))] := hD
      refine lv_aload_n hx hb dX5_moveToEnd_52 rfl (lv_at hl 2 rfl) ?_
      refine va_get (D := (dC, dI)) (ci := 5) (v := .ref w0) (C := RX5) (T := TX5) (N := 4) hx hb hts hi0_ hown hK hP 0 rfl rfl 1 (by decide) hw2_ (fun _ h9 => h9) rfl dX5_moveToEnd_53 ?_
      refine lv_iload_n hx hb dX5_moveToEnd_56 rfl (lv_at hl 3 rfl) ?_
      refine lv_iconst (v := 1) hx hb dX5_moveToEnd_57 (by decide) ?_
      refine lv_iadd hx hb dX5_moveToEnd_58 ?_
      refine lv_topi (fun z_6 ez_6 => ?_)
      obtain rfl : z_6 = nI (i + 1) := ez_6.trans (by rw [show (1 : Int32) = nI 1 from rfl, nI_add])
      refine lv_aload_n hx hb dX5_moveToEnd_59 rfl (lv_at hl 2 rfl) ?_
      refine va_get (D := (dC, dI)) (ci := 5) (v := .ref w0) (C := RX5) (T := TX5) (N := 4) hx hb hts hi0_ hown hK hP 0 rfl rfl 1 (by decide) hw2_ (fun _ h9 => h9) rfl dX5_moveToEnd_60 ?_
      refine lv_iload_n hx hb dX5_moveToEnd_63 rfl (lv_at hl 3 rfl) ?_
      refine lv_aload_n hx hb dX5_moveToEnd_64 rfl (lv_at hl 2 rfl) ?_
      refine va_get (D := (dC, dI)) (ci := 5) (v := .int (nI nz)) (C := RX5) (T := TX5) (N := 4) hx hb hts hi0_ hown hK hP 0 rfl rfl 2 (by decide) hw0_ (fun _ h9 => h9) rfl dX5_moveToEnd_65 ?_
      refine lv_iconst (v := 1) hx hb dX5_moveToEnd_68 (by decide) ?_
      refine lv_isub hx hb dX5_moveToEnd_69 ?_
      refine lv_topi (fun z_7 ez_7 => ?_)
      obtain rfl : z_7 = nI (nz - 1) := ez_7.trans (by rw [show (1 : Int32) = nI 1 from rfl, pk_sub (by omega)])
      refine lv_iload_n hx hb dX5_moveToEnd_70 rfl (lv_at hl 3 rfl) ?_
      refine lv_isub hx hb dX5_moveToEnd_71 ?_
      refine lv_topi (fun z_8 ez_8 => ?_)
      obtain rfl : z_8 = nI ((nz - 1) - i) := ez_8.trans (by rw [pk_sub (by omega)])
      have hcp_ : va_cpy g g (nI (i + 1) : Int32).toNatClampNeg (nI i : Int32).toNatClampNeg (nI ((nz - 1) - i) : Int32).toNatClampNeg = va_cpy g g (i + 1) i ((nz - 1) - i) := by rw [nI_clamp (n := i + 1) (by omega), nI_clamp (n := i) (by omega), nI_clamp (n := (nz - 1) - i) (by omega)]
      refine va_copyi (sp := nI (i + 1)) (dp := nI i) (n := nI ((nz - 1) - i)) (ty := .int) hx hb (hml.trans hl.1.symm) hown hw3_ hw4_ hw5_ hw6_ hK hP hD hS 2 2 1 1 rfl rfl rfl rfl rfl (nI_n0 (by omega)) (nI_n0 (by omega)) (nI_n0 (by omega)) (by rw [nI_clamp (n := i + 1) (by omega), nI_clamp (n := (nz - 1) - i) (by omega)]; omega) (by rw [nI_clamp (n := i) (by omega), nI_clamp (n := (nz - 1) - i) (by omega)]; omega) (fun _ _ => rfl) (Nat.le_of_ble_eq_true rfl) (Nat.le_of_ble_eq_true rfl) dX5_moveToEnd_72 (fun H locs hP hD hS => ?_)
      rw [hcp_] at hP hD
      replace hP : va_P (dC, dI) vwCl [(x0, .inr (5, [.ref k0, .ref w0, .int (nI nz), .int ch])), (k0, .inl (ck, L, .inl (va_cpy f f (i + 1) i ((nz - 1) - i)))), (w0, .inl (cw, L, .inl (va_cpy g g (i + 1) i ((nz - 1) - i))))] H := hP
      replace hD : va_D A [(x0, .inr (5, [.ref k0, .ref w0, .int (nI nz), .int ch])), (k0, .inl (ck, L, .inl (va_cpy f f (i + 1) i ((nz - 1) - i)))), (w0, .inl (cw, L, .inl (va_cpy g g (i + 1) i ((nz - 1) - i))))] := hD
      refine lv_aload_n hx hb dX5_moveToEnd_75 rfl (lv_at hl 2 rfl) ?_
      refine va_get (D := (dC, dI)) (ci := 5) (v := .ref k0) (C := RX5) (T := TX5) (N := 4) hx hb hts hi0_ hown hK hP 0 rfl rfl 0 (by decide) hw1_ (fun _ h9 => h9) rfl dX5_moveToEnd_76 ?_
      refine lv_aload_n hx hb dX5_moveToEnd_79 rfl (lv_at hl 2 rfl) ?_
      refine va_get (D := (dC, dI)) (ci := 5) (v := .int (nI nz)) (C := RX5) (T := TX5) (N := 4) hx hb hts hi0_ hown hK hP 0 rfl rfl 2 (by decide) hw0_ (fun _ h9 => h9) rfl dX5_moveToEnd_80 ?_
      refine lv_iconst (v := 1) hx hb dX5_moveToEnd_83 (by decide) ?_
      refine lv_isub hx hb dX5_moveToEnd_84 ?_
      refine lv_topi (fun z_9 ez_9 => ?_)
      obtain rfl : z_9 = nI (nz - 1) := ez_9.trans (by rw [show (1 : Int32) = nI 1 from rfl, pk_sub (by omega)])
      refine lv_iload_n hx hb dX5_moveToEnd_85 rfl (lv_at hl 1 rfl) ?_
      refine va_iast (i := nI (nz - 1)) hx hb hK hP hD hS 1 0 rfl rfl (vp_in_nI (by omega) (by omega)) dX5_moveToEnd_86 (fun H locs hP hD hS => ?_)
      rw [nI_clamp (by omega)] at hP hD
      replace hP : va_P (dC, dI) vwCl [(x0, .inr (5, [.ref k0, .ref w0, .int (nI nz), .int ch])), (k0, .inl (ck, L, .inl (upd (va_cpy f f (i + 1) i ((nz - 1) - i)) (nz - 1) (f i)))), (w0, .inl (cw, L, .inl (va_cpy g g (i + 1) i ((nz - 1) - i))))] H := hP
      replace hD : va_D A [(x0, .inr (5, [.ref k0, .ref w0, .int (nI nz), .int ch])), (k0, .inl (ck, L, .inl (upd (va_cpy f f (i + 1) i ((nz - 1) - i)) (nz - 1) (f i)))), (w0, .inl (cw, L, .inl (va_cpy g g (i + 1) i ((nz - 1) - i))))] := hD
      refine lv_aload_n hx hb dX5_moveToEnd_87 rfl (lv_at hl 2 rfl) ?_
      refine va_get (D := (dC, dI)) (ci := 5) (v := .ref w0) (C := RX5) (T := TX5) (N := 4) hx hb hts hi0_ hown hK hP 0 rfl rfl 1 (by decide) hw2_ (fun _ h9 => h9) rfl dX5_moveToEnd_88 ?_
      refine lv_aload_n hx hb dX5_moveToEnd_91 rfl (lv_at hl 2 rfl) ?_
      refine va_get (D := (dC, dI)) (ci := 5) (v := .int (nI nz)) (C := RX5) (T := TX5) (N := 4) hx hb hts hi0_ hown hK hP 0 rfl rfl 2 (by decide) hw0_ (fun _ h9 => h9) rfl dX5_moveToEnd_92 ?_
      refine lv_iconst (v := 1) hx hb dX5_moveToEnd_95 (by decide) ?_
      refine lv_isub hx hb dX5_moveToEnd_96 ?_
      refine lv_topi (fun z_10 ez_10 => ?_)
      obtain rfl : z_10 = nI (nz - 1) := ez_10.trans (by rw [show (1 : Int32) = nI 1 from rfl, pk_sub (by omega)])
      refine lv_iload_n hx hb dX5_moveToEnd_97 rfl (lv_at hl 0 rfl) ?_
      refine va_iast (i := nI (nz - 1)) hx hb hK hP hD hS 2 1 rfl rfl (vp_in_nI (by omega) (by omega)) dX5_moveToEnd_98 (fun H locs hP hD hS => ?_)
      rw [nI_clamp (by omega)] at hP hD
      replace hP : va_P (dC, dI) vwCl [(x0, .inr (5, [.ref k0, .ref w0, .int (nI nz), .int ch])), (k0, .inl (ck, L, .inl (upd (va_cpy f f (i + 1) i ((nz - 1) - i)) (nz - 1) (f i)))), (w0, .inl (cw, L, .inl (upd (va_cpy g g (i + 1) i ((nz - 1) - i)) (nz - 1) (g i))))] H := hP
      replace hD : va_D A [(x0, .inr (5, [.ref k0, .ref w0, .int (nI nz), .int ch])), (k0, .inl (ck, L, .inl (upd (va_cpy f f (i + 1) i ((nz - 1) - i)) (nz - 1) (f i)))), (w0, .inl (cw, L, .inl (upd (va_cpy g g (i + 1) i ((nz - 1) - i)) (nz - 1) (g i))))] := hD
      refine lv_aload_n hx hb dX5_moveToEnd_99 rfl (lv_at hl 2 rfl) ?_
      refine lv_dup hx hb dX5_moveToEnd_100 rfl ?_
      refine va_get (D := (dC, dI)) (ci := 5) (v := .int ch) (C := RX5) (T := TX5) (N := 4) hx hb hts hi0_ hown hK hP 0 rfl rfl 3 (by decide) hw7_ (fun _ h9 => h9) rfl dX5_moveToEnd_101 ?_
      refine lv_iconst (v := 1) hx hb dX5_moveToEnd_104 (by decide) ?_
      refine lv_iadd hx hb dX5_moveToEnd_105 ?_
      refine va_put (D := (dC, dI)) (ci := 5) (v := .int (ch + 1)) (ty := .int) (C := RX5) (T := TX5) (N := 4) hx hb hts hi0_ tyX5 tyX5_ok nmX5 hown hK hP hD hS 0 rfl rfl 3 (by decide) hw7_ (fun _ h9 => h9) rfl (by decide +kernel) rfl rfl (Nat.le_of_ble_eq_true rfl) dX5_moveToEnd_106 (fun H locs hP hD hS => ?_)
      replace hP : va_P (dC, dI) vwCl [(x0, .inr (5, [.ref k0, .ref w0, .int (nI nz), .int (ch + 1)])), (k0, .inl (ck, L, .inl (upd (va_cpy f f (i + 1) i ((nz - 1) - i)) (nz - 1) (f i)))), (w0, .inl (cw, L, .inl (upd (va_cpy g g (i + 1) i ((nz - 1) - i)) (nz - 1) (g i))))] H := hP
      replace hD : va_D A [(x0, .inr (5, [.ref k0, .ref w0, .int (nI nz), .int (ch + 1)])), (k0, .inl (ck, L, .inl (upd (va_cpy f f (i + 1) i ((nz - 1) - i)) (nz - 1) (f i)))), (w0, .inl (cw, L, .inl (upd (va_cpy g g (i + 1) i ((nz - 1) - i)) (nz - 1) (g i))))] := hD
      have hP9 := hP.sub (ws' := [(x0, .inr (5, [.ref k0, .ref w0, .int (nI nz), .int (ch + 1)])), (k0, .inl (ck, L, .inl (upd (va_cpy f f (i + 1) i ((nz - 1) - i)) (nz - 1) (f i)))), (w0, .inl (cw, L, .inl (upd (va_cpy g g (i + 1) i ((nz - 1) - i)) (nz - 1) (g i))))]) [0, 1, 2] rfl
      have hD9 := hD.sub (ws' := [(x0, .inr (5, [.ref k0, .ref w0, .int (nI nz), .int (ch + 1)])), (k0, .inl (ck, L, .inl (upd (va_cpy f f (i + 1) i ((nz - 1) - i)) (nz - 1) (f i)))), (w0, .inl (cw, L, .inl (upd (va_cpy g g (i + 1) i ((nz - 1) - i)) (nz - 1) (g i))))]) [0, 1, 2] (by decide) rfl
      have hK9 := hK.sub (tys' := [(ck, .int), (cw, .int)]) [0, 1] rfl
      refine W.widen (k := 0) (n := 0) (Nat.le_of_ble_eq_true rfl) (Nat.le_of_ble_eq_true rfl) ?_
      exact W.vret hx hb hr (fun t ht hW => ⟨⟨((upd (va_cpy f f (i + 1) i ((nz - 1) - i)) (nz - 1) (f i)), (upd (va_cpy g g (i + 1) i ((nz - 1) - i)) (nz - 1) (g i)), ch + 1), rfl, trivial, by rw [ht]; exact hP9, va_K.moved hW.alike hK9, hD9⟩, hS.F ht⟩) hS.2.2 dX5_moveToEnd_109
    ·
      have ic_2 : (nI nz - 1).toInt ≤ p0.toInt := tx_nlt rfl rfl c_2
      have hP9 := hP.sub (ws' := [(x0, .inr (5, [.ref k0, .ref w0, .int (nI nz), .int ch])), (k0, .inl (ck, L, .inl f)), (w0, .inl (cw, L, .inl g))]) [0, 1, 2] rfl
      have hD9 := hD.sub (ws' := [(x0, .inr (5, [.ref k0, .ref w0, .int (nI nz), .int ch])), (k0, .inl (ck, L, .inl f)), (w0, .inl (cw, L, .inl g))]) [0, 1, 2] (by decide) rfl
      have hK9 := hK.sub (tys' := [(ck, .int), (cw, .int)]) [0, 1] rfl
      refine W.widen (k := 0) (n := 0) (Nat.le_of_ble_eq_true rfl) (Nat.le_of_ble_eq_true rfl) ?_
      exact W.vret hx hb hr (fun t ht hW => ⟨⟨(f, g, ch), rfl, trivial, by rw [ht]; exact hP9, va_K.moved hW.alike hK9, hD9⟩, hS.F ht⟩) hS.2.2 dX5_moveToEnd_14
