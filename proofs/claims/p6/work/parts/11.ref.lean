theorem dX8_at_0 : decode cX8_at 0 = .ok (.aload_n 0, 1) := by decide +kernel
theorem dX8_at_1 : decode cX8_at 1 = .ok (.iload_n 1, 1) := by decide +kernel
set_option maxRecDepth 20000 in
theorem ggX8_at_X8_root : GoodIn wsX8_at wsX8_root := goodIn_r _ [8, 2, 9, 39, 40, 41, 42, 43, 44, 45, 46, 47, 48, 49, 50, 51, 52, 53, 54, 55] rfl (by decide +kernel)
set_option maxRecDepth 20000 in
theorem gX8_at_X8_root : GoodIn wsX8_at (wsV RX8 95 RX8 yX8_root wsX8_root) := goodIn_app (goodIn_of _ (by decide +kernel)) ggX8_at_X8_root
theorem dX8_at_2 : decode cX8_at 2 = .ok (.invokevirtual 95, 3) := by decide +kernel
theorem dX8_at_5 : decode cX8_at 5 = .ok (.istore_n 3, 1) := by decide +kernel
theorem dX8_at_6 : decode cX8_at 6 = .ok (.aload_n 0, 1) := by decide +kernel
theorem dX8_at_7 : decode cX8_at 7 = .ok (.iload_n 1, 1) := by decide +kernel
theorem dX8_at_8 : decode cX8_at 8 = .ok (.iload_n 2, 1) := by decide +kernel
set_option maxRecDepth 20000 in
theorem ggX8_at_X8_isWithin : GoodIn wsX8_at wsX8_isWithin := goodIn_r _ [13, 2, 9, 14, 15, 16, 17, 18, 19, 7, 20, 3, 4, 5, 6, 8, 21, 22, 23, 24, 25, 26, 27, 28, 29, 30, 31, 32, 33, 39, 40, 41, 42, 43, 44, 45, 46, 47, 48, 49, 50, 51, 52, 53, 54, 55] rfl (by decide +kernel)
set_option maxRecDepth 20000 in
theorem gX8_at_X8_isWithin : GoodIn wsX8_at (wsV RX8 108 RX8 yX8_isWithin wsX8_isWithin) := goodIn_app (goodIn_of _ (by decide +kernel)) ggX8_at_X8_isWithin
theorem dX8_at_9 : decode cX8_at 9 = .ok (.invokevirtual 108, 3) := by decide +kernel
theorem dX8_at_12 : decode cX8_at 12 = .ok (.ifCond .ne 5, 3) := by decide +kernel
theorem dX8_at_17 : decode cX8_at 17 = .ok (.iconst 0, 1) := by decide +kernel
theorem dX8_at_18 : decode cX8_at 18 = .ok (.istore 4, 2) := by decide +kernel
theorem dX8_at_20 : decode cX8_at 20 = .ok (.iload 4, 2) := by decide +kernel
theorem dX8_at_22 : decode cX8_at 22 = .ok (.aload_n 0, 1) := by decide +kernel
theorem dX8_at_23 : decode cX8_at 23 = .ok (.getfield 17, 3) := by decide +kernel
theorem dX8_at_26 : decode cX8_at 26 = .ok (.iload_n 3, 1) := by decide +kernel
theorem dX8_at_27 : decode cX8_at 27 = .ok (.iaload, 1) := by decide +kernel
theorem dX8_at_28 : decode cX8_at 28 = .ok (.if_icmp .ge 55, 3) := by decide +kernel
theorem dX8_at_83 : decode cX8_at 83 = .ok (.iconst (-1), 1) := by decide +kernel
theorem dX8_at_84 : decode cX8_at 84 = .ok (.ireturn, 1) := by decide +kernel
theorem dX8_at_31 : decode cX8_at 31 = .ok (.aload_n 0, 1) := by decide +kernel
theorem dX8_at_32 : decode cX8_at 32 = .ok (.iload_n 3, 1) := by decide +kernel
theorem dX8_at_33 : decode cX8_at 33 = .ok (.iload 4, 2) := by decide +kernel
set_option maxRecDepth 20000 in
theorem ggX8_at_X8_key : GoodIn wsX8_at wsX8_key := goodIn_r _ [37, 38, 39, 40, 41, 42, 43, 44, 45, 46, 47, 48, 49, 50, 51, 52, 53, 54, 55] rfl (by decide +kernel)
set_option maxRecDepth 20000 in
theorem gX8_at_X8_key : GoodIn wsX8_at (wsV RX8 111 RX8 yX8_key wsX8_key) := goodIn_app (goodIn_of _ (by decide +kernel)) ggX8_at_X8_key
theorem dX8_at_35 : decode cX8_at 35 = .ok (.invokevirtual 111, 3) := by decide +kernel
theorem dX8_at_38 : decode cX8_at 38 = .ok (.istore 5, 2) := by decide +kernel
theorem dX8_at_40 : decode cX8_at 40 = .ok (.aload_n 0, 1) := by decide +kernel
theorem dX8_at_41 : decode cX8_at 41 = .ok (.getfield 7, 3) := by decide +kernel
theorem dX8_at_44 : decode cX8_at 44 = .ok (.iload_n 3, 1) := by decide +kernel
theorem dX8_at_45 : decode cX8_at 45 = .ok (.iaload, 1) := by decide +kernel
theorem dX8_at_46 : decode cX8_at 46 = .ok (.iconst 3, 1) := by decide +kernel
theorem dX8_at_47 : decode cX8_at 47 = .ok (.if_icmp .ne 21, 3) := by decide +kernel
theorem dX8_at_68 : decode cX8_at 68 = .ok (.iload 5, 2) := by decide +kernel
theorem dX8_at_70 : decode cX8_at 70 = .ok (.iload_n 2, 1) := by decide +kernel
theorem dX8_at_71 : decode cX8_at 71 = .ok (.if_icmp .ne 6, 3) := by decide +kernel
theorem dX8_at_77 : decode cX8_at 77 = .ok (.iinc 4 1, 3) := by decide +kernel
theorem dX8_at_80 : decode cX8_at 80 = .ok (.goto (-60), 3) := by decide +kernel
theorem dX8_at_74 : decode cX8_at 74 = .ok (.iload 4, 2) := by decide +kernel
theorem dX8_at_76 : decode cX8_at 76 = .ok (.ireturn, 1) := by decide +kernel
theorem dX8_at_50 : decode cX8_at 50 = .ok (.aload_n 0, 1) := by decide +kernel
theorem dX8_at_51 : decode cX8_at 51 = .ok (.getfield 20, 3) := by decide +kernel
theorem dX8_at_54 : decode cX8_at 54 = .ok (.iload_n 3, 1) := by decide +kernel
theorem dX8_at_55 : decode cX8_at 55 = .ok (.iaload, 1) := by decide +kernel
theorem dX8_at_56 : decode cX8_at 56 = .ok (.iload 5, 2) := by decide +kernel
theorem dX8_at_58 : decode cX8_at 58 = .ok (.iload_n 2, 1) := by decide +kernel
set_option maxRecDepth 20000 in
theorem ggX8_at_X8_compare : GoodIn wsX8_at wsX8_compare := goodIn_r _ [23, 24, 25, 7, 26, 27, 28, 29] rfl (by decide +kernel)
set_option maxRecDepth 20000 in
theorem gX8_at_X8_compare : GoodIn wsX8_at (va_wsS RX8 98 yX8_compare wsX8_compare) := goodIn_app (goodIn_of _ (by decide +kernel)) ggX8_at_X8_compare
theorem dX8_at_59 : decode cX8_at 59 = .ok (.invokestatic 98, 3) := by decide +kernel
theorem dX8_at_62 : decode cX8_at 62 = .ok (.ifCond .ne 15, 3) := by decide +kernel
theorem dX8_at_65 : decode cX8_at 65 = .ok (.goto 9, 3) := by decide +kernel
theorem dX8_at_15 : decode cX8_at 15 = .ok (.iconst (-1), 1) := by decide +kernel
theorem dX8_at_16 : decode cX8_at 16 = .ok (.ireturn, 1) := by decide +kernel
theorem dX8_bin_0 : decode cX8_bin 0 = .ok (.aload_n 0, 1) := by decide +kernel
theorem dX8_bin_1 : decode cX8_bin 1 = .ok (.getfield 23, 3) := by decide +kernel
theorem dX8_bin_4 : decode cX8_bin 4 = .ok (.iload_n 1, 1) := by decide +kernel
theorem dX8_bin_5 : decode cX8_bin 5 = .ok (.iaload, 1) := by decide +kernel
theorem dX8_bin_6 : decode cX8_bin 6 = .ok (.ifCond .ne 7, 3) := by decide +kernel
theorem dX8_bin_13 : decode cX8_bin 13 = .ok (.aload_n 0, 1) := by decide +kernel
theorem dX8_bin_14 : decode cX8_bin 14 = .ok (.getfield 23, 3) := by decide +kernel
theorem dX8_bin_17 : decode cX8_bin 17 = .ok (.iload_n 1, 1) := by decide +kernel
theorem dX8_bin_18 : decode cX8_bin 18 = .ok (.iaload, 1) := by decide +kernel
theorem dX8_bin_19 : decode cX8_bin 19 = .ok (.iconst 1, 1) := by decide +kernel
theorem dX8_bin_20 : decode cX8_bin 20 = .ok (.if_icmp .ne 12, 3) := by decide +kernel
theorem dX8_bin_32 : decode cX8_bin 32 = .ok (.aload_n 0, 1) := by decide +kernel
theorem dX8_bin_33 : decode cX8_bin 33 = .ok (.getfield 23, 3) := by decide +kernel
theorem dX8_bin_36 : decode cX8_bin 36 = .ok (.iload_n 1, 1) := by decide +kernel
theorem dX8_bin_37 : decode cX8_bin 37 = .ok (.iaload, 1) := by decide +kernel
theorem dX8_bin_38 : decode cX8_bin 38 = .ok (.iconst 2, 1) := by decide +kernel
theorem dX8_bin_39 : decode cX8_bin 39 = .ok (.if_icmp .ne 8, 3) := by decide +kernel
theorem dX8_bin_47 : decode cX8_bin 47 = .ok (.iload_n 2, 1) := by decide +kernel
theorem dX8_bin_48 : decode cX8_bin 48 = .ok (.ldc 114, 2) := by decide +kernel
theorem dX8_bin_50 : decode cX8_bin 50 = .ok (.imul, 1) := by decide +kernel
theorem dX8_bin_51 : decode cX8_bin 51 = .ok (.istore_n 3, 1) := by decide +kernel
theorem dX8_bin_52 : decode cX8_bin 52 = .ok (.iload_n 3, 1) := by decide +kernel
theorem dX8_bin_53 : decode cX8_bin 53 = .ok (.iload_n 3, 1) := by decide +kernel
theorem dX8_bin_54 : decode cX8_bin 54 = .ok (.bipush 16, 2) := by decide +kernel
theorem dX8_bin_56 : decode cX8_bin 56 = .ok (.iushr, 1) := by decide +kernel
theorem dX8_bin_57 : decode cX8_bin 57 = .ok (.ixor, 1) := by decide +kernel
theorem dX8_bin_58 : decode cX8_bin 58 = .ok (.aload_n 0, 1) := by decide +kernel
theorem dX8_bin_59 : decode cX8_bin 59 = .ok (.getfield 26, 3) := by decide +kernel
theorem dX8_bin_62 : decode cX8_bin 62 = .ok (.iload_n 1, 1) := by decide +kernel
theorem dX8_bin_63 : decode cX8_bin 63 = .ok (.iaload, 1) := by decide +kernel
theorem dX8_bin_64 : decode cX8_bin 64 = .ok (.iconst 1, 1) := by decide +kernel
theorem dX8_bin_65 : decode cX8_bin 65 = .ok (.isub, 1) := by decide +kernel
theorem dX8_bin_66 : decode cX8_bin 66 = .ok (.iand, 1) := by decide +kernel
theorem dX8_bin_67 : decode cX8_bin 67 = .ok (.ireturn, 1) := by decide +kernel
theorem dX8_bin_42 : decode cX8_bin 42 = .ok (.bipush 7, 2) := by decide +kernel
theorem dX8_bin_44 : decode cX8_bin 44 = .ok (.goto 7, 3) := by decide +kernel
theorem dX8_bin_23 : decode cX8_bin 23 = .ok (.iload_n 2, 1) := by decide +kernel
theorem dX8_bin_24 : decode cX8_bin 24 = .ok (.bipush 16, 2) := by decide +kernel
set_option maxRecDepth 20000 in
theorem ggX8_bin_X8_mod : GoodIn wsX8_bin wsX8_mod := goodIn_r _ [7] rfl (by decide +kernel)
set_option maxRecDepth 20000 in
theorem gX8_bin_X8_mod : GoodIn wsX8_bin (va_wsS RX8 92 yX8_mod wsX8_mod) := goodIn_app (goodIn_of _ (by decide +kernel)) ggX8_bin_X8_mod
theorem dX8_bin_26 : decode cX8_bin 26 = .ok (.invokestatic 92, 3) := by decide +kernel
theorem dX8_bin_29 : decode cX8_bin 29 = .ok (.goto 22, 3) := by decide +kernel
theorem dX8_bin_9 : decode cX8_bin 9 = .ok (.iload_n 2, 1) := by decide +kernel
theorem dX8_bin_10 : decode cX8_bin 10 = .ok (.goto 41, 3) := by decide +kernel
theorem dX8_inBin_0 : decode cX8_inBin 0 = .ok (.iconst 0, 1) := by decide +kernel
theorem dX8_inBin_1 : decode cX8_inBin 1 = .ok (.istore_n 3, 1) := by decide +kernel
theorem dX8_inBin_2 : decode cX8_inBin 2 = .ok (.iconst 0, 1) := by decide +kernel
theorem dX8_inBin_3 : decode cX8_inBin 3 = .ok (.istore 4, 2) := by decide +kernel
theorem dX8_inBin_5 : decode cX8_inBin 5 = .ok (.iload 4, 2) := by decide +kernel
theorem dX8_inBin_7 : decode cX8_inBin 7 = .ok (.aload_n 0, 1) := by decide +kernel
theorem dX8_inBin_8 : decode cX8_inBin 8 = .ok (.getfield 17, 3) := by decide +kernel
theorem dX8_inBin_11 : decode cX8_inBin 11 = .ok (.iload_n 1, 1) := by decide +kernel
theorem dX8_inBin_12 : decode cX8_inBin 12 = .ok (.iaload, 1) := by decide +kernel
theorem dX8_inBin_13 : decode cX8_inBin 13 = .ok (.if_icmp .ge 33, 3) := by decide +kernel
theorem dX8_inBin_46 : decode cX8_inBin 46 = .ok (.iload_n 3, 1) := by decide +kernel
theorem dX8_inBin_47 : decode cX8_inBin 47 = .ok (.ireturn, 1) := by decide +kernel
theorem dX8_inBin_16 : decode cX8_inBin 16 = .ok (.iload_n 3, 1) := by decide +kernel
theorem dX8_inBin_17 : decode cX8_inBin 17 = .ok (.aload_n 0, 1) := by decide +kernel
theorem dX8_inBin_18 : decode cX8_inBin 18 = .ok (.iload_n 1, 1) := by decide +kernel
theorem dX8_inBin_19 : decode cX8_inBin 19 = .ok (.aload_n 0, 1) := by decide +kernel
theorem dX8_inBin_20 : decode cX8_inBin 20 = .ok (.iload_n 1, 1) := by decide +kernel
theorem dX8_inBin_21 : decode cX8_inBin 21 = .ok (.iload 4, 2) := by decide +kernel
set_option maxRecDepth 20000 in
theorem ggX8_inBin_X8_key : GoodIn wsX8_inBin wsX8_key := goodIn_r _ [6, 7, 18, 19, 20, 21, 22, 23, 24, 25, 26, 27, 28, 29, 30, 31, 32, 33, 34] rfl (by decide +kernel)
set_option maxRecDepth 20000 in
theorem gX8_inBin_X8_key : GoodIn wsX8_inBin (wsV RX8 111 RX8 yX8_key wsX8_key) := goodIn_app (goodIn_of _ (by decide +kernel)) ggX8_inBin_X8_key
theorem dX8_inBin_23 : decode cX8_inBin 23 = .ok (.invokevirtual 111, 3) := by decide +kernel
set_option maxRecDepth 20000 in
theorem ggX8_inBin_X8_bin : GoodIn wsX8_inBin wsX8_bin := goodIn_r _ [11, 12, 13, 14, 15, 16, 5, 17, 18, 19, 20, 21, 22, 23, 24, 25, 26, 27, 28, 29, 30, 31, 32, 33, 34] rfl (by decide +kernel)
set_option maxRecDepth 20000 in
theorem gX8_inBin_X8_bin : GoodIn wsX8_inBin (wsV RX8 115 RX8 yX8_bin wsX8_bin) := goodIn_app (goodIn_of _ (by decide +kernel)) ggX8_inBin_X8_bin
theorem dX8_inBin_26 : decode cX8_inBin 26 = .ok (.invokevirtual 115, 3) := by decide +kernel
theorem dX8_inBin_29 : decode cX8_inBin 29 = .ok (.iload_n 2, 1) := by decide +kernel
theorem dX8_inBin_30 : decode cX8_inBin 30 = .ok (.if_icmp .ne 7, 3) := by decide +kernel
theorem dX8_inBin_37 : decode cX8_inBin 37 = .ok (.iconst 0, 1) := by decide +kernel
theorem dX8_inBin_38 : decode cX8_inBin 38 = .ok (.iadd, 1) := by decide +kernel
theorem dX8_inBin_39 : decode cX8_inBin 39 = .ok (.istore_n 3, 1) := by decide +kernel
theorem dX8_inBin_40 : decode cX8_inBin 40 = .ok (.iinc 4 1, 3) := by decide +kernel
theorem dX8_inBin_43 : decode cX8_inBin 43 = .ok (.goto (-38), 3) := by decide +kernel
theorem dX8_inBin_33 : decode cX8_inBin 33 = .ok (.iconst 1, 1) := by decide +kernel
theorem dX8_inBin_34 : decode cX8_inBin 34 = .ok (.goto 4, 3) := by decide +kernel
theorem dX8_comes_0 : decode cX8_comes 0 = .ok (.aload_n 0, 1) := by decide +kernel
theorem dX8_comes_1 : decode cX8_comes 1 = .ok (.getfield 17, 3) := by decide +kernel
theorem dX8_comes_4 : decode cX8_comes 4 = .ok (.iload_n 1, 1) := by decide +kernel
theorem dX8_comes_5 : decode cX8_comes 5 = .ok (.iaload, 1) := by decide +kernel
theorem dX8_comes_6 : decode cX8_comes 6 = .ok (.istore 5, 2) := by decide +kernel
theorem dX8_comes_8 : decode cX8_comes 8 = .ok (.iload 5, 2) := by decide +kernel
theorem dX8_comes_10 : decode cX8_comes 10 = .ok (.iload_n 2, 1) := by decide +kernel
theorem dX8_comes_11 : decode cX8_comes 11 = .ok (.if_icmp .le 34, 3) := by decide +kernel
theorem dX8_comes_45 : decode cX8_comes 45 = .ok (.aload_n 0, 1) := by decide +kernel
theorem dX8_comes_46 : decode cX8_comes 46 = .ok (.iload_n 1, 1) := by decide +kernel
theorem dX8_comes_47 : decode cX8_comes 47 = .ok (.iload_n 2, 1) := by decide +kernel
theorem dX8_comes_48 : decode cX8_comes 48 = .ok (.iload_n 3, 1) := by decide +kernel
theorem dX8_comes_49 : decode cX8_comes 49 = .ok (.iload 4, 2) := by decide +kernel
set_option maxRecDepth 20000 in
theorem ggX8_comes_X8_set : GoodIn wsX8_comes wsX8_set := goodIn_r _ [16, 8, 17, 18, 19, 20, 21, 22, 23, 24, 25, 26, 27, 28, 29, 30, 31, 32, 33] rfl (by decide +kernel)
set_option maxRecDepth 20000 in
theorem gX8_comes_X8_set : GoodIn wsX8_comes (wsV RX8 121 RX8 yX8_set wsX8_set) := goodIn_app (goodIn_of _ (by decide +kernel)) ggX8_comes_X8_set
theorem dX8_comes_51 : decode cX8_comes 51 = .ok (.invokevirtual 121, 3) := by decide +kernel
theorem dX8_comes_54 : decode cX8_comes 54 = .ok (.aload_n 0, 1) := by decide +kernel
theorem dX8_comes_55 : decode cX8_comes 55 = .ok (.getfield 17, 3) := by decide +kernel
theorem dX8_comes_58 : decode cX8_comes 58 = .ok (.iload_n 1, 1) := by decide +kernel
theorem dX8_comes_59 : decode cX8_comes 59 = .ok (.dup2, 1) := by decide +kernel
theorem dX8_comes_60 : decode cX8_comes 60 = .ok (.iaload, 1) := by decide +kernel
theorem dX8_comes_61 : decode cX8_comes 61 = .ok (.iconst 1, 1) := by decide +kernel
theorem dX8_comes_62 : decode cX8_comes 62 = .ok (.iadd, 1) := by decide +kernel
theorem dX8_comes_63 : decode cX8_comes 63 = .ok (.iastore, 1) := by decide +kernel
theorem dX8_comes_64 : decode cX8_comes 64 = .ok (.aload_n 0, 1) := by decide +kernel
theorem dX8_comes_65 : decode cX8_comes 65 = .ok (.getfield 29, 3) := by decide +kernel
theorem dX8_comes_68 : decode cX8_comes 68 = .ok (.iload_n 1, 1) := by decide +kernel
theorem dX8_comes_69 : decode cX8_comes 69 = .ok (.dup2, 1) := by decide +kernel
theorem dX8_comes_70 : decode cX8_comes 70 = .ok (.iaload, 1) := by decide +kernel
theorem dX8_comes_71 : decode cX8_comes 71 = .ok (.iconst 1, 1) := by decide +kernel
theorem dX8_comes_72 : decode cX8_comes 72 = .ok (.iadd, 1) := by decide +kernel
theorem dX8_comes_73 : decode cX8_comes 73 = .ok (.iastore, 1) := by decide +kernel
theorem dX8_comes_74 : decode cX8_comes 74 = .ok (.return_, 1) := by decide +kernel
theorem dX8_comes_14 : decode cX8_comes 14 = .ok (.aload_n 0, 1) := by decide +kernel
theorem dX8_comes_15 : decode cX8_comes 15 = .ok (.iload_n 1, 1) := by decide +kernel
theorem dX8_comes_16 : decode cX8_comes 16 = .ok (.iload 5, 2) := by decide +kernel
theorem dX8_comes_18 : decode cX8_comes 18 = .ok (.aload_n 0, 1) := by decide +kernel
theorem dX8_comes_19 : decode cX8_comes 19 = .ok (.iload_n 1, 1) := by decide +kernel
theorem dX8_comes_20 : decode cX8_comes 20 = .ok (.iload 5, 2) := by decide +kernel
theorem dX8_comes_22 : decode cX8_comes 22 = .ok (.iconst 1, 1) := by decide +kernel
theorem dX8_comes_23 : decode cX8_comes 23 = .ok (.isub, 1) := by decide +kernel
set_option maxRecDepth 20000 in
theorem ggX8_comes_X8_key : GoodIn wsX8_comes wsX8_key := goodIn_r _ [7, 8, 17, 18, 19, 20, 21, 22, 23, 24, 25, 26, 27, 28, 29, 30, 31, 32, 33] rfl (by decide +kernel)
set_option maxRecDepth 20000 in
theorem gX8_comes_X8_key : GoodIn wsX8_comes (wsV RX8 111 RX8 yX8_key wsX8_key) := goodIn_app (goodIn_of _ (by decide +kernel)) ggX8_comes_X8_key
theorem dX8_comes_24 : decode cX8_comes 24 = .ok (.invokevirtual 111, 3) := by decide +kernel
theorem dX8_comes_27 : decode cX8_comes 27 = .ok (.aload_n 0, 1) := by decide +kernel
theorem dX8_comes_28 : decode cX8_comes 28 = .ok (.iload_n 1, 1) := by decide +kernel
theorem dX8_comes_29 : decode cX8_comes 29 = .ok (.iload 5, 2) := by decide +kernel
theorem dX8_comes_31 : decode cX8_comes 31 = .ok (.iconst 1, 1) := by decide +kernel
theorem dX8_comes_32 : decode cX8_comes 32 = .ok (.isub, 1) := by decide +kernel
set_option maxRecDepth 20000 in
theorem ggX8_comes_X8_value : GoodIn wsX8_comes wsX8_value := goodIn_r _ [12, 8, 17, 18, 19, 20, 21, 22, 23, 24, 25, 26, 27, 28, 29, 30, 31, 32, 33] rfl (by decide +kernel)
set_option maxRecDepth 20000 in
theorem gX8_comes_X8_value : GoodIn wsX8_comes (wsV RX8 118 RX8 yX8_value wsX8_value) := goodIn_app (goodIn_of _ (by decide +kernel)) ggX8_comes_X8_value
theorem dX8_comes_33 : decode cX8_comes 33 = .ok (.invokevirtual 118, 3) := by decide +kernel
theorem dX8_comes_36 : decode cX8_comes 36 = .ok (.invokevirtual 121, 3) := by decide +kernel
theorem dX8_comes_39 : decode cX8_comes 39 = .ok (.iinc 5 (-1), 3) := by decide +kernel
theorem dX8_comes_42 : decode cX8_comes 42 = .ok (.goto (-34), 3) := by decide +kernel
set_option maxHeartbeats 4000000 in
set_option maxRecDepth 100000 in
/-- at -/
theorem c_X8_at (l : Launch) (dC : Nat → ClassId) (dI : Nat → Nat → Nat) (sz : Nat) (h0 : Nat) (th : Int32) (q1 : Nat) (q2 : Nat) (q3 : Nat) (q4 : Nat) (q8 : Nat) (q9 : Nat) (q10 : Nat) (q11 : Nat) (c1 : ClassId) (c2 : ClassId) (c3 : ClassId) (c4 : ClassId) (c8 : ClassId) (c9 : ClassId) (c10 : ClassId) (c11 : ClassId) (a1 : Nat → Int32) (a2 : Nat → Int32) (a3 : Nat → Int32) (a4 : Nat → Int32) (a8 : Nat → Int32) (a9 : Nat → Int32) (a10 : Nat → Int32) (a11 : Nat → Int32) (v5 : Value) (v6 : Value) (v7 : Value) (v12 : Value) (v13 : Value) (v14 : Value) (v15 : Value) (v16 : Value) (o : Nat) (dep : Nat → Nat) (nz : Nat) (p1 : Int32) (ho9 : o < 16) (hF9 : rF a1 a8 dep) (hd9 : dep o < 17) (hs9 : a3 (rtN a1 a8 17 o) = nI nz) (hz9 : nz ≤ 1000) : Met l yX8_at wsX8_at ({ frames := 4, cells := 0, slots := 0, locals := 150 }) (va_Pc [.ref h0, .int (nI o), .int p1] (pk_Pre (dC, dI) [(h0, .inr (8, [.int th, .ref q1, .ref q2, .ref q3, .ref q4, v5, v6, v7, .ref q8, .ref q9, .ref q10, .ref q11, v12, v13, v14, v15, v16])), (q1, .inl (c1, 16, .inl a1)), (q2, .inl (c2, 67200, .inl a2)), (q3, .inl (c3, 16, .inl a3)), (q4, .inl (c4, 16, .inl a4)), (q8, .inl (c8, 16, .inl a8)), (q9, .inl (c9, 16, .inl a9)), (q10, .inl (c10, 16, .inl a10)), (q11, .inl (c11, 16, .inl a11))] [(c1, .int), (c2, .int), (c3, .int), (c4, .int), (c8, .int), (c9, .int), (c10, .int), (c11, .int)] sz)) (va_Qi (fun (x : Int32) (_ : Unit) => x = -1 ∨ (∃ j : Nat, j < nz ∧ x = nI j)) (fun (_ : Unit) (t : State) => va_P (dC, dI) vwCl [(h0, .inr (8, [.int th, .ref q1, .ref q2, .ref q3, .ref q4, v5, v6, v7, .ref q8, .ref q9, .ref q10, .ref q11, v12, v13, v14, v15, v16])), (q1, .inl (c1, 16, .inl a1)), (q2, .inl (c2, 67200, .inl a2)), (q3, .inl (c3, 16, .inl a3)), (q4, .inl (c4, 16, .inl a4)), (q8, .inl (c8, 16, .inl a8)), (q9, .inl (c9, 16, .inl a9)), (q10, .inl (c10, 16, .inl a10)), (q11, .inl (c11, 16, .inl a11))] t.heap ∧ va_K (dC, dI) vwCl [(c1, .int), (c2, .int), (c3, .int), (c4, .int), (c8, .int), (c9, .int), (c10, .int), (c11, .int)] t ∧ va_D (va_A [(h0, .inr (8, [.int th, .ref q1, .ref q2, .ref q3, .ref q4, v5, v6, v7, .ref q8, .ref q9, .ref q10, .ref q11, v12, v13, v14, v15, v16])), (q1, .inl (c1, 16, .inl a1)), (q2, .inl (c2, 67200, .inl a2)), (q3, .inl (c3, 16, .inl a3)), (q4, .inl (c4, 16, .inl a4)), (q8, .inl (c8, 16, .inl a8)), (q9, .inl (c9, 16, .inl a9)), (q10, .inl (c10, 16, .inl a10)), (q11, .inl (c11, 16, .inl a11))] sz) [(h0, .inr (8, [.int th, .ref q1, .ref q2, .ref q3, .ref q4, v5, v6, v7, .ref q8, .ref q9, .ref q10, .ref q11, v12, v13, v14, v15, v16])), (q1, .inl (c1, 16, .inl a1)), (q2, .inl (c2, 67200, .inl a2)), (q3, .inl (c3, 16, .inl a3)), (q4, .inl (c4, 16, .inl a4)), (q8, .inl (c8, 16, .inl a8)), (q9, .inl (c9, 16, .inl a9)), (q10, .inl (c10, 16, .inl a10)), (q11, .inl (c11, 16, .inl a11))]) (va_A [(h0, .inr (8, [.int th, .ref q1, .ref q2, .ref q3, .ref q4, v5, v6, v7, .ref q8, .ref q9, .ref q10, .ref q11, v12, v13, v14, v15, v16])), (q1, .inl (c1, 16, .inl a1)), (q2, .inl (c2, 67200, .inl a2)), (q3, .inl (c3, 16, .inl a3)), (q4, .inl (c4, 16, .inl a4)), (q8, .inl (c8, 16, .inl a8)), (q9, .inl (c9, 16, .inl a9)), (q10, .inl (c10, 16, .inl a10)), (q11, .inl (c11, 16, .inl a11))] sz)) 0 0 (va_A [(h0, .inr (8, [.int th, .ref q1, .ref q2, .ref q3, .ref q4, v5, v6, v7, .ref q8, .ref q9, .ref q10, .ref q11, v12, v13, v14, v15, v16])), (q1, .inl (c1, 16, .inl a1)), (q2, .inl (c2, 67200, .inl a2)), (q3, .inl (c3, 16, .inl a3)), (q4, .inl (c4, 16, .inl a4)), (q8, .inl (c8, 16, .inl a8)), (q9, .inl (c9, 16, .inl a9)), (q10, .inl (c10, 16, .inl a10)), (q11, .inl (c11, 16, .inl a11))] sz) := by
  refine Met.ofW (cc := cX8_at) (maxL := 6) (ret := (some .int)) (by decide) rfl ?_
  intro p e s m args below meth c s₁ B hml hv
  obtain ⟨rfl, hsz, hP, hK, hD0⟩ := hv
  have hx := B.exec
  have hb := B.bytes
  have hr := B.returns
  have hts := atoms_spec (ws := wsX8_at) B.pre
  have hown : s.vm.findClass RX8 = some m.cls := findClass_of_methodNamed B.named
  have hlocks := B.notSynchronized
  subst hsz
  have hD := hD0.self (sz := s.heap.size)
  generalize hAe : va_A [(h0, .inr (8, [.int th, .ref q1, .ref q2, .ref q3, .ref q4, v5, v6, v7, .ref q8, .ref q9, .ref q10, .ref q11, v12, v13, v14, v15, v16])), (q1, .inl (c1, 16, .inl a1)), (q2, .inl (c2, 67200, .inl a2)), (q3, .inl (c3, 16, .inl a3)), (q4, .inl (c4, 16, .inl a4)), (q8, .inl (c8, 16, .inl a8)), (q9, .inl (c9, 16, .inl a9)), (q10, .inl (c10, 16, .inl a10)), (q11, .inl (c11, 16, .inl a11))] s.heap.size = A at hD ⊢
  have hA : ∀ q : Nat, s.heap.size ≤ q → A q := fun q h => by rw [← hAe]; exact Or.inr h
  have hS : va_S A s.heap s.heap [] := va_S.rf
  have hP : va_P (dC, dI) vwCl [(h0, .inr (8, [.int th, .ref q1, .ref q2, .ref q3, .ref q4, v5, v6, v7, .ref q8, .ref q9, .ref q10, .ref q11, v12, v13, v14, v15, v16])), (q1, .inl (c1, 16, .inl a1)), (q2, .inl (c2, 67200, .inl a2)), (q3, .inl (c3, 16, .inl a3)), (q4, .inl (c4, 16, .inl a4)), (q8, .inl (c8, 16, .inl a8)), (q9, .inl (c9, 16, .inl a9)), (q10, .inl (c10, 16, .inl a10)), (q11, .inl (c11, 16, .inl a11))] s.heap := hP
  have hl := lv_entry ([.ref h0, .int (nI o), .int p1]) (n := 6) (Nat.le_of_ble_eq_true rfl)
  rw [lg_entry_eq]
  generalize (lg_sl ([.ref h0, .int (nI o), .int p1]) ++ List.replicate (6 - (lg_sl ([.ref h0, .int (nI o), .int p1])).length) Slot.unset).toArray = ls at hl ⊢
  have hl : lv_has ls 6 [(0, .ref h0), (1, .int (nI o)), (2, .int p1)] := hl
  have hw0_ := hts (.fieldLink RX8 17 "KeyAtlasModel" "size" "[I") (List.mem_of_getElem? (l := wsX8_at) (i := 1) rfl)
  have hw1_ := hts (.fieldLink RX8 7 "KeyAtlasModel" "kind" "[I") (List.mem_of_getElem? (l := wsX8_at) (i := 2) rfl)
  have hw2_ := hts (.fieldLink RX8 20 "KeyAtlasModel" "first" "[I") (List.mem_of_getElem? (l := wsX8_at) (i := 3) rfl)
  have hi0_ : ∀ w ∈ u_ws RX8 TX8 17, w ∈ wsX8_at := fun w h => List.mem_cons_of_mem _ (List.mem_append_right _ h)
  refine lv_aload_n hx hb dX8_at_0 rfl (lv_at hl 0 rfl) ?_
  refine lv_iload_n hx hb dX8_at_1 rfl (lv_at hl 1 rfl) ?_
  have hPc := hP.sub (ws' := [(h0, .inr (8, [.int th, .ref q1, .ref q2, .ref q3, .ref q4, v5, v6, v7, .ref q8, .ref q9, .ref q10, .ref q11, v12, v13, v14, v15, v16])), (q1, .inl (c1, 16, .inl a1)), (q8, .inl (c8, 16, .inl a8))]) [0, 1, 5] rfl
  have hDc := hD.sub (ws' := [(h0, .inr (8, [.int th, .ref q1, .ref q2, .ref q3, .ref q4, v5, v6, v7, .ref q8, .ref q9, .ref q10, .ref q11, v12, v13, v14, v15, v16])), (q1, .inl (c1, 16, .inl a1)), (q8, .inl (c8, 16, .inl a8))]) [0, 1, 5] (by decide) rfl
  have hKc := hK.sub (tys' := [(c1, .int), (c8, .int)]) [0, 4] rfl
  have hFc := va_free (wc := [(h0, .inr (8, [.int th, .ref q1, .ref q2, .ref q3, .ref q4, v5, v6, v7, .ref q8, .ref q9, .ref q10, .ref q11, v12, v13, v14, v15, v16])), (q1, .inl (c1, 16, .inl a1)), (q8, .inl (c8, 16, .inl a8))]) hD hS hA [0, 1, 5] rfl
  refine va_calli (va_runV (As := [.int (nI o)]) (rest := []) ⟨hx, hb, hml, hown, hts⟩ (c_X8_root l  dC dI s.heap.size h0 th q1 q8 c1 c8 a1 a8 (.ref q2) (.ref q3) (.ref q4) v5 v6 v7 (.ref q9) (.ref q10) (.ref q11) v12 v13 v14 v15 v16 o dep ho9 hF9 hd9) (cwV 1 hts gX8_at_X8_root rfl rfl rfl (by decide +kernel) ⟨(Nat.le_of_ble_eq_true rfl), (Nat.le_of_ble_eq_true rfl)⟩) ⟨pk_blind, va_recv hKc hPc (ci := 8) (q0 := 0) rfl rfl, pk_call hPc hKc hDc⟩ rfl rfl hl.1 rfl (lv_room (Nat.le_of_ble_eq_true rfl)) dX8_at_2 ⟨(Nat.le_of_ble_eq_true rfl), (Nat.le_of_ble_eq_true rfl)⟩) hS (fun q _ h => hFc q h) hFc (fun r_1 ur_1 t H1 locs ht hvm hw hB hz1 hk1 hS => ?_)
  try dsimp only at hw
  have jr_1 := hw
  obtain ⟨hP1, hK1, hD1⟩ := hB
  rw [ht] at hP1
  have hK1 := va_K.moved hvm.symm hK1
  obtain ⟨hP, hD⟩ := va_join (wr := [(q2, .inl (c2, 67200, .inl a2)), (q3, .inl (c3, 16, .inl a3)), (q4, .inl (c4, 16, .inl a4)), (q9, .inl (c9, 16, .inl a9)), (q10, .inl (c10, 16, .inl a10)), (q11, .inl (c11, 16, .inl a11))]) (w1 := [(h0, .inr (8, [.int th, .ref q1, .ref q2, .ref q3, .ref q4, v5, v6, v7, .ref q8, .ref q9, .ref q10, .ref q11, v12, v13, v14, v15, v16])), (q1, .inl (c1, 16, .inl a1)), (q8, .inl (c8, 16, .inl a8))]) hP hD [0, 1, 5] [2, 3, 4, 6, 7, 8] rfl rfl (by decide) (by decide) hk1 hFc hP1 hD1
  clear hk1 hz1 ht hPc hDc hKc hFc
  generalize H1 = H at hP hS ⊢
  replace hP : va_P (dC, dI) vwCl [(q2, .inl (c2, 67200, .inl a2)), (q3, .inl (c3, 16, .inl a3)), (q4, .inl (c4, 16, .inl a4)), (q9, .inl (c9, 16, .inl a9)), (q10, .inl (c10, 16, .inl a10)), (q11, .inl (c11, 16, .inl a11)), (h0, .inr (8, [.int th, .ref q1, .ref q2, .ref q3, .ref q4, v5, v6, v7, .ref q8, .ref q9, .ref q10, .ref q11, v12, v13, v14, v15, v16])), (q1, .inl (c1, 16, .inl a1)), (q8, .inl (c8, 16, .inl a8))] H := hP
  replace hD : va_D A [(q2, .inl (c2, 67200, .inl a2)), (q3, .inl (c3, 16, .inl a3)), (q4, .inl (c4, 16, .inl a4)), (q9, .inl (c9, 16, .inl a9)), (q10, .inl (c10, 16, .inl a10)), (q11, .inl (c11, 16, .inl a11)), (h0, .inr (8, [.int th, .ref q1, .ref q2, .ref q3, .ref q4, v5, v6, v7, .ref q8, .ref q9, .ref q10, .ref q11, v12, v13, v14, v15, v16])), (q1, .inl (c1, 16, .inl a1)), (q8, .inl (c8, 16, .inl a8))] := hD
  refine W.widen (k := 0) (n := 0) (Nat.le_of_ble_eq_true rfl) (Nat.le_of_ble_eq_true rfl) ?_
  obtain ⟨rfl, hr9, hr8⟩ := jr_1
  refine W.eq (g2 := F0 m 5 ls [.int (nI (rtN a1 a8 17 o))]) rfl ?_
  refine lv_istore_n (lv' := [(3, .int (nI (rtN a1 a8 17 o))), (0, .ref h0), (1, .int (nI o)), (2, .int p1)]) hx hb dX8_at_5 rfl hl (by decide) rfl (fun ls hl => ?_)
  refine lv_aload_n hx hb dX8_at_6 rfl (lv_at hl 1 rfl) ?_
  refine lv_iload_n hx hb dX8_at_7 rfl (lv_at hl 2 rfl) ?_
  refine lv_iload_n hx hb dX8_at_8 rfl (lv_at hl 3 rfl) ?_
  have hPc := hP.sub (ws' := [(h0, .inr (8, [.int th, .ref q1, .ref q2, .ref q3, .ref q4, v5, v6, v7, .ref q8, .ref q9, .ref q10, .ref q11, v12, v13, v14, v15, v16])), (q1, .inl (c1, 16, .inl a1)), (q4, .inl (c4, 16, .inl a4)), (q8, .inl (c8, 16, .inl a8)), (q9, .inl (c9, 16, .inl a9)), (q10, .inl (c10, 16, .inl a10)), (q11, .inl (c11, 16, .inl a11))]) [6, 7, 2, 8, 3, 4, 5] rfl
  have hDc := hD.sub (ws' := [(h0, .inr (8, [.int th, .ref q1, .ref q2, .ref q3, .ref q4, v5, v6, v7, .ref q8, .ref q9, .ref q10, .ref q11, v12, v13, v14, v15, v16])), (q1, .inl (c1, 16, .inl a1)), (q4, .inl (c4, 16, .inl a4)), (q8, .inl (c8, 16, .inl a8)), (q9, .inl (c9, 16, .inl a9)), (q10, .inl (c10, 16, .inl a10)), (q11, .inl (c11, 16, .inl a11))]) [6, 7, 2, 8, 3, 4, 5] (by decide) rfl
  have hKc := hK.sub (tys' := [(c1, .int), (c4, .int), (c8, .int), (c9, .int), (c10, .int), (c11, .int)]) [0, 3, 4, 5, 6, 7] rfl
  have hFc := va_free (wc := [(h0, .inr (8, [.int th, .ref q1, .ref q2, .ref q3, .ref q4, v5, v6, v7, .ref q8, .ref q9, .ref q10, .ref q11, v12, v13, v14, v15, v16])), (q1, .inl (c1, 16, .inl a1)), (q4, .inl (c4, 16, .inl a4)), (q8, .inl (c8, 16, .inl a8)), (q9, .inl (c9, 16, .inl a9)), (q10, .inl (c10, 16, .inl a10)), (q11, .inl (c11, 16, .inl a11))]) hD hS hA [6, 7, 2, 8, 3, 4, 5] rfl
  refine va_calli (va_runV (As := [.int (nI o), .int p1]) (rest := []) ⟨hx, hb, hml, hown, hts⟩ (c_X8_isWithin l  dC dI H.size h0 th q1 q4 q8 q9 q10 q11 c1 c4 c8 c9 c10 c11 a1 a4 a8 a9 a10 a11 (.ref q2) (.ref q3) v5 v6 v7 v12 v13 v14 v15 v16 o dep p1 ho9 hF9 hd9) (cwV 2 hts gX8_at_X8_isWithin rfl rfl rfl (by decide +kernel) ⟨(Nat.le_of_ble_eq_true rfl), (Nat.le_of_ble_eq_true rfl)⟩) ⟨pk_blind, va_recv hKc hPc (ci := 8) (q0 := 0) rfl rfl, pk_call hPc hKc hDc⟩ rfl rfl hl.1 rfl (lv_room (Nat.le_of_ble_eq_true rfl)) dX8_at_9 ⟨(Nat.le_of_ble_eq_true rfl), (Nat.le_of_ble_eq_true rfl)⟩) hS (fun q _ h => hFc q h) hFc (fun r_2 ur_2 t H1 locs ht hvm hw hB hz1 hk1 hS => ?_)
  try dsimp only at hw
  obtain ⟨hP1, hK1, hD1⟩ := hB
  rw [ht] at hP1
  have hK1 := va_K.moved hvm.symm hK1
  obtain ⟨hP, hD⟩ := va_join (wr := [(q2, .inl (c2, 67200, .inl a2)), (q3, .inl (c3, 16, .inl a3))]) (w1 := [(h0, .inr (8, [.int th, .ref q1, .ref q2, .ref q3, .ref q4, v5, v6, v7, .ref q8, .ref q9, .ref q10, .ref q11, v12, v13, v14, v15, v16])), (q1, .inl (c1, 16, .inl a1)), (q4, .inl (c4, 16, .inl a4)), (q8, .inl (c8, 16, .inl a8)), (q9, .inl (c9, 16, .inl a9)), (q10, .inl (c10, 16, .inl a10)), (q11, .inl (c11, 16, .inl a11))]) hP hD [6, 7, 2, 8, 3, 4, 5] [0, 1] rfl rfl (by decide) (by decide) hk1 hFc hP1 hD1
  clear hk1 hz1 ht hPc hDc hKc hFc
  generalize H1 = H at hP hS ⊢
  replace hP : va_P (dC, dI) vwCl [(q2, .inl (c2, 67200, .inl a2)), (q3, .inl (c3, 16, .inl a3)), (h0, .inr (8, [.int th, .ref q1, .ref q2, .ref q3, .ref q4, v5, v6, v7, .ref q8, .ref q9, .ref q10, .ref q11, v12, v13, v14, v15, v16])), (q1, .inl (c1, 16, .inl a1)), (q4, .inl (c4, 16, .inl a4)), (q8, .inl (c8, 16, .inl a8)), (q9, .inl (c9, 16, .inl a9)), (q10, .inl (c10, 16, .inl a10)), (q11, .inl (c11, 16, .inl a11))] H := hP
  replace hD : va_D A [(q2, .inl (c2, 67200, .inl a2)), (q3, .inl (c3, 16, .inl a3)), (h0, .inr (8, [.int th, .ref q1, .ref q2, .ref q3, .ref q4, v5, v6, v7, .ref q8, .ref q9, .ref q10, .ref q11, v12, v13, v14, v15, v16])), (q1, .inl (c1, 16, .inl a1)), (q4, .inl (c4, 16, .inl a4)), (q8, .inl (c8, 16, .inl a8)), (q9, .inl (c9, 16, .inl a9)), (q10, .inl (c10, 16, .inl a10)), (q11, .inl (c11, 16, .inl a11))] := hD
  refine W.widen (k := 0) (n := 0) (Nat.le_of_ble_eq_true rfl) (Nat.le_of_ble_eq_true rfl) ?_
  obtain rfl : r_2 = tz (winN a1 a8 a11 a9 a10 a4 17 o p1) := hw
  refine W.eq (g2 := F0 m 12 ls [.int (tz (winN a1 a8 a11 a9 a10 a4 17 o p1))]) rfl ?_
  refine lv_if_ne (tgt := 17) hx hb dX8_at_12 (by decide) (fun c_3 => ?_) (fun c_3 => ?_)
  ·
    have ic_3 : ¬ (tz (winN a1 a8 a11 a9 a10 a4 17 o p1)).toInt = 0 := tx_ne rfl (by decide) c_3
    refine lv_iconst (v := 0) hx hb dX8_at_17 (by decide) ?_
    refine lv_istore (lv' := [(4, .int 0), (3, .int (nI (rtN a1 a8 17 o))), (0, .ref h0), (1, .int (nI o)), (2, .int p1)]) hx hb dX8_at_18 hl (by decide) rfl (fun ls hl => ?_)
    obtain ⟨i, es_i⟩ : ∃ z : Nat, z = 0 := ⟨_, rfl⟩
    obtain ⟨x9, ex9⟩ : ∃ y : Int32, y = nI i := ⟨_, rfl⟩
    obtain ⟨n9, en9⟩ : ∃ n : Nat, n = nz + 1 := ⟨_, rfl⟩
    replace hl : lv_has ls 6 [(4, .int x9), (3, .int (nI (rtN a1 a8 17 o))), (0, .ref h0), (1, .int (nI o)), (2, .int p1)] := by subst ex9; subst es_i; exact hl
    have hi9 : i ≤ nz := by subst ex9; subst es_i; subst en9; exact Nat.zero_le _
    have hn9 : nz + 1 ≤ i + n9 := by subst ex9; subst es_i; subst en9; exact by omega
    clear en9 es_i
    induction n9 generalizing i x9 ls H locs with
    | zero => exact absurd hn9 (by omega)
    | succ n9 ih =>
      subst ex9
      refine lv_iload hx hb dX8_at_20 (lv_at hl 0 rfl) ?_
      refine lv_aload_n hx hb dX8_at_22 rfl (lv_at hl 2 rfl) ?_
      refine va_get (D := (dC, dI)) (ci := 8) (v := .ref q3) (C := RX8) (T := TX8) (N := 17) hx hb hts hi0_ hown hK hP 2 rfl rfl 3 (by decide) hw0_ (fun _ h9 => h9) rfl dX8_at_23 ?_
      refine lv_iload_n hx hb dX8_at_26 rfl (lv_at hl 1 rfl) ?_
      refine va_iald (i := nI (rtN a1 a8 17 o)) hx hb hK hP 1 2 rfl rfl (vp_in_nI (by omega) (by omega)) dX8_at_27 ?_
      refine W.eq (g2 := F0 m 28 ls [.int (a3 (rtN a1 a8 17 o)), .int (nI i)]) (by rw [nI_clamp (by omega)]) ?_
      refine W.eq (g2 := F0 m 28 ls [.int (nI nz), .int (nI i)]) (by rw [hs9]) ?_
      refine lv_icmp_ge (tgt := 83) hx hb dX8_at_28 (by decide) (fun c_4 => ?_) (fun c_4 => ?_)
      ·
        have ic_4 : ((nz : Nat) : Int) ≤ ((i : Nat) : Int) := tx_le (nI_toInt (by omega)) (nI_toInt (by omega)) c_4
        refine lv_iconst (v := (-1)) hx hb dX8_at_83 (by decide) ?_
        have hP9 := hP.sub (ws' := [(h0, .inr (8, [.int th, .ref q1, .ref q2, .ref q3, .ref q4, v5, v6, v7, .ref q8, .ref q9, .ref q10, .ref q11, v12, v13, v14, v15, v16])), (q1, .inl (c1, 16, .inl a1)), (q2, .inl (c2, 67200, .inl a2)), (q3, .inl (c3, 16, .inl a3)), (q4, .inl (c4, 16, .inl a4)), (q8, .inl (c8, 16, .inl a8)), (q9, .inl (c9, 16, .inl a9)), (q10, .inl (c10, 16, .inl a10)), (q11, .inl (c11, 16, .inl a11))]) [2, 3, 0, 1, 4, 5, 6, 7, 8] rfl
        have hD9 := hD.sub (ws' := [(h0, .inr (8, [.int th, .ref q1, .ref q2, .ref q3, .ref q4, v5, v6, v7, .ref q8, .ref q9, .ref q10, .ref q11, v12, v13, v14, v15, v16])), (q1, .inl (c1, 16, .inl a1)), (q2, .inl (c2, 67200, .inl a2)), (q3, .inl (c3, 16, .inl a3)), (q4, .inl (c4, 16, .inl a4)), (q8, .inl (c8, 16, .inl a8)), (q9, .inl (c9, 16, .inl a9)), (q10, .inl (c10, 16, .inl a10)), (q11, .inl (c11, 16, .inl a11))]) [2, 3, 0, 1, 4, 5, 6, 7, 8] (by decide) rfl
        have hK9 := hK.sub (tys' := [(c1, .int), (c2, .int), (c3, .int), (c4, .int), (c8, .int), (c9, .int), (c10, .int), (c11, .int)]) [0, 1, 2, 3, 4, 5, 6, 7] rfl
        refine W.widen (k := 0) (n := 0) (Nat.le_of_ble_eq_true rfl) (Nat.le_of_ble_eq_true rfl) ?_
        exact W.iret (v := -1) hx hb hr (fun t ht hW => ⟨⟨-1, (), rfl, Or.inl rfl, by rw [ht]; exact hP9, va_K.moved hW.alike hK9, hD9⟩, hS.F ht⟩) hS.2.2 dX8_at_84
      ·
        have ic_4 : ((i : Nat) : Int) < ((nz : Nat) : Int) := tx_nle (nI_toInt (by omega)) (nI_toInt (by omega)) c_4
        refine lv_aload_n hx hb dX8_at_31 rfl (lv_at hl 2 rfl) ?_
        refine lv_iload_n hx hb dX8_at_32 rfl (lv_at hl 1 rfl) ?_
        refine lv_iload hx hb dX8_at_33 (lv_at hl 0 rfl) ?_
        have hPc := hP.sub (ws' := [(h0, .inr (8, [.int th, .ref q1, .ref q2, .ref q3, .ref q4, v5, v6, v7, .ref q8, .ref q9, .ref q10, .ref q11, v12, v13, v14, v15, v16])), (q2, .inl (c2, 67200, .inl a2))]) [2, 0] rfl
        have hDc := hD.sub (ws' := [(h0, .inr (8, [.int th, .ref q1, .ref q2, .ref q3, .ref q4, v5, v6, v7, .ref q8, .ref q9, .ref q10, .ref q11, v12, v13, v14, v15, v16])), (q2, .inl (c2, 67200, .inl a2))]) [2, 0] (by decide) rfl
        have hKc := hK.sub (tys' := [(c2, .int)]) [1] rfl
        have hFc := va_free (wc := [(h0, .inr (8, [.int th, .ref q1, .ref q2, .ref q3, .ref q4, v5, v6, v7, .ref q8, .ref q9, .ref q10, .ref q11, v12, v13, v14, v15, v16])), (q2, .inl (c2, 67200, .inl a2))]) hD hS hA [2, 0] rfl
        refine va_calli (va_runV (As := [.int (nI (rtN a1 a8 17 o)), .int (nI i)]) (rest := []) ⟨hx, hb, hml, hown, hts⟩ (c_X8_key l  dC dI H.size h0 th q2 c2 a2 (.ref q1) (.ref q3) (.ref q4) v5 v6 v7 (.ref q8) (.ref q9) (.ref q10) (.ref q11) v12 v13 v14 v15 v16 (rtN a1 a8 17 o) i hr9 (by omega)) (cwV 2 hts gX8_at_X8_key rfl rfl rfl (by decide +kernel) ⟨(Nat.le_of_ble_eq_true rfl), (Nat.le_of_ble_eq_true rfl)⟩) ⟨pk_blind, va_recv hKc hPc (ci := 8) (q0 := 0) rfl rfl, pk_call hPc hKc hDc⟩ rfl rfl hl.1 rfl (lv_room (Nat.le_of_ble_eq_true rfl)) dX8_at_35 ⟨(Nat.le_of_ble_eq_true rfl), (Nat.le_of_ble_eq_true rfl)⟩) hS (fun q _ h => hFc q h) hFc (fun r_5 ur_5 t H1 locs ht hvm hw hB hz1 hk1 hS => ?_)
        try dsimp only at hw
        obtain ⟨hP1, hK1, hD1⟩ := hB
        rw [ht] at hP1
        have hK1 := va_K.moved hvm.symm hK1
        obtain ⟨hP, hD⟩ := va_join (wr := [(q3, .inl (c3, 16, .inl a3)), (q1, .inl (c1, 16, .inl a1)), (q4, .inl (c4, 16, .inl a4)), (q8, .inl (c8, 16, .inl a8)), (q9, .inl (c9, 16, .inl a9)), (q10, .inl (c10, 16, .inl a10)), (q11, .inl (c11, 16, .inl a11))]) (w1 := [(h0, .inr (8, [.int th, .ref q1, .ref q2, .ref q3, .ref q4, v5, v6, v7, .ref q8, .ref q9, .ref q10, .ref q11, v12, v13, v14, v15, v16])), (q2, .inl (c2, 67200, .inl a2))]) hP hD [2, 0] [1, 3, 4, 5, 6, 7, 8] rfl rfl (by decide) (by decide) hk1 hFc hP1 hD1
        clear hk1 hz1 ht hPc hDc hKc hFc
        generalize H1 = H at hP hS ⊢
        replace hP : va_P (dC, dI) vwCl [(q3, .inl (c3, 16, .inl a3)), (q1, .inl (c1, 16, .inl a1)), (q4, .inl (c4, 16, .inl a4)), (q8, .inl (c8, 16, .inl a8)), (q9, .inl (c9, 16, .inl a9)), (q10, .inl (c10, 16, .inl a10)), (q11, .inl (c11, 16, .inl a11)), (h0, .inr (8, [.int th, .ref q1, .ref q2, .ref q3, .ref q4, v5, v6, v7, .ref q8, .ref q9, .ref q10, .ref q11, v12, v13, v14, v15, v16])), (q2, .inl (c2, 67200, .inl a2))] H := hP
        replace hD : va_D A [(q3, .inl (c3, 16, .inl a3)), (q1, .inl (c1, 16, .inl a1)), (q4, .inl (c4, 16, .inl a4)), (q8, .inl (c8, 16, .inl a8)), (q9, .inl (c9, 16, .inl a9)), (q10, .inl (c10, 16, .inl a10)), (q11, .inl (c11, 16, .inl a11)), (h0, .inr (8, [.int th, .ref q1, .ref q2, .ref q3, .ref q4, v5, v6, v7, .ref q8, .ref q9, .ref q10, .ref q11, v12, v13, v14, v15, v16])), (q2, .inl (c2, 67200, .inl a2))] := hD
        refine W.widen (k := 0) (n := 0) (Nat.le_of_ble_eq_true rfl) (Nat.le_of_ble_eq_true rfl) ?_
        obtain rfl : r_5 = a2 (4200 * rtN a1 a8 17 o + i) := hw
        refine W.eq (g2 := F0 m 38 ls [.int (a2 (4200 * rtN a1 a8 17 o + i))]) rfl ?_
        refine lv_istore (lv' := [(5, .int (a2 (4200 * rtN a1 a8 17 o + i))), (4, .int (nI i)), (3, .int (nI (rtN a1 a8 17 o))), (0, .ref h0), (1, .int (nI o)), (2, .int p1)]) hx hb dX8_at_38 hl (by decide) rfl (fun ls hl => ?_)
        refine lv_aload_n hx hb dX8_at_40 rfl (lv_at hl 3 rfl) ?_
        refine va_get (D := (dC, dI)) (ci := 8) (v := .ref q1) (C := RX8) (T := TX8) (N := 17) hx hb hts hi0_ hown hK hP 7 rfl rfl 1 (by decide) hw1_ (fun _ h9 => h9) rfl dX8_at_41 ?_
        refine lv_iload_n hx hb dX8_at_44 rfl (lv_at hl 2 rfl) ?_
        refine va_iald (i := nI (rtN a1 a8 17 o)) hx hb hK hP 1 0 rfl rfl (vp_in_nI (by omega) (by omega)) dX8_at_45 ?_
        refine W.eq (g2 := F0 m 46 ls [.int (a1 (rtN a1 a8 17 o))]) (by rw [nI_clamp (by omega)]) ?_
        refine lv_iconst (v := 3) hx hb dX8_at_46 (by decide) ?_
        refine lv_icmp_ne (tgt := 68) hx hb dX8_at_47 (by decide) (fun c_6 => ?_) (fun c_6 => ?_)
        ·
          have ic_6 : ¬ (a1 (rtN a1 a8 17 o)).toInt = 3 := tx_ne rfl (by decide) c_6
          refine lv_iload hx hb dX8_at_68 (lv_at hl 0 rfl) ?_
          refine lv_iload_n hx hb dX8_at_70 rfl (lv_at hl 5 rfl) ?_
          refine lv_icmp_ne (tgt := 77) hx hb dX8_at_71 (by decide) (fun c_7 => ?_) (fun c_7 => ?_)
          ·
            have ic_7 : ¬ (a2 (4200 * rtN a1 a8 17 o + i)).toInt = p1.toInt := tx_ne rfl rfl c_7
            refine lv_iinc (v := nI (i + 1)) (lv' := [(4, .int (nI (i + 1))), (5, .int (a2 (4200 * rtN a1 a8 17 o + i))), (3, .int (nI (rtN a1 a8 17 o))), (0, .ref h0), (1, .int (nI o)), (2, .int p1)]) hx hb dX8_at_77 hl (k := 1) rfl (by rw [show Int32.ofInt 1 = nI 1 from rfl, nI_add]) (by decide) rfl (fun ls hl => ?_)
            refine lv_goto (tgt := 20) hx hb dX8_at_80 (by decide) ?_
            exact ih (i := i + 1) (x9 := nI (i + 1)) (ex9 := rfl) (ls := ls) (H := H) (locs := locs) (hP := hP.sub (ws' := [(q2, .inl (c2, 67200, .inl a2)), (q3, .inl (c3, 16, .inl a3)), (h0, .inr (8, [.int th, .ref q1, .ref q2, .ref q3, .ref q4, v5, v6, v7, .ref q8, .ref q9, .ref q10, .ref q11, v12, v13, v14, v15, v16])), (q1, .inl (c1, 16, .inl a1)), (q4, .inl (c4, 16, .inl a4)), (q8, .inl (c8, 16, .inl a8)), (q9, .inl (c9, 16, .inl a9)), (q10, .inl (c10, 16, .inl a10)), (q11, .inl (c11, 16, .inl a11))]) [8, 0, 7, 1, 2, 3, 4, 5, 6] rfl) (hS := hS) (hi9 := by omega) (hn9 := by omega) (hl := lv_sub hl [0, 2, 3, 4, 5] rfl)
          ·
            have ic_7 : (a2 (4200 * rtN a1 a8 17 o + i)).toInt = p1.toInt := tx_eq rfl rfl c_7
            refine lv_iload hx hb dX8_at_74 (lv_at hl 1 rfl) ?_
            have hP9 := hP.sub (ws' := [(h0, .inr (8, [.int th, .ref q1, .ref q2, .ref q3, .ref q4, v5, v6, v7, .ref q8, .ref q9, .ref q10, .ref q11, v12, v13, v14, v15, v16])), (q1, .inl (c1, 16, .inl a1)), (q2, .inl (c2, 67200, .inl a2)), (q3, .inl (c3, 16, .inl a3)), (q4, .inl (c4, 16, .inl a4)), (q8, .inl (c8, 16, .inl a8)), (q9, .inl (c9, 16, .inl a9)), (q10, .inl (c10, 16, .inl a10)), (q11, .inl (c11, 16, .inl a11))]) [7, 1, 8, 0, 2, 3, 4, 5, 6] rfl
            have hD9 := hD.sub (ws' := [(h0, .inr (8, [.int th, .ref q1, .ref q2, .ref q3, .ref q4, v5, v6, v7, .ref q8, .ref q9, .ref q10, .ref q11, v12, v13, v14, v15, v16])), (q1, .inl (c1, 16, .inl a1)), (q2, .inl (c2, 67200, .inl a2)), (q3, .inl (c3, 16, .inl a3)), (q4, .inl (c4, 16, .inl a4)), (q8, .inl (c8, 16, .inl a8)), (q9, .inl (c9, 16, .inl a9)), (q10, .inl (c10, 16, .inl a10)), (q11, .inl (c11, 16, .inl a11))]) [7, 1, 8, 0, 2, 3, 4, 5, 6] (by decide) rfl
            have hK9 := hK.sub (tys' := [(c1, .int), (c2, .int), (c3, .int), (c4, .int), (c8, .int), (c9, .int), (c10, .int), (c11, .int)]) [0, 1, 2, 3, 4, 5, 6, 7] rfl
            refine W.widen (k := 0) (n := 0) (Nat.le_of_ble_eq_true rfl) (Nat.le_of_ble_eq_true rfl) ?_
            exact W.iret (v := nI i) hx hb hr (fun t ht hW => ⟨⟨nI i, (), rfl, Or.inr ⟨i, by omega, rfl⟩, by rw [ht]; exact hP9, va_K.moved hW.alike hK9, hD9⟩, hS.F ht⟩) hS.2.2 dX8_at_76
        ·
          have ic_6 : (a1 (rtN a1 a8 17 o)).toInt = 3 := tx_eq rfl (by decide) c_6
          refine lv_aload_n hx hb dX8_at_50 rfl (lv_at hl 3 rfl) ?_
          refine va_get (D := (dC, dI)) (ci := 8) (v := .ref q4) (C := RX8) (T := TX8) (N := 17) hx hb hts hi0_ hown hK hP 7 rfl rfl 4 (by decide) hw2_ (fun _ h9 => h9) rfl dX8_at_51 ?_
          refine lv_iload_n hx hb dX8_at_54 rfl (lv_at hl 2 rfl) ?_
          refine va_iald (i := nI (rtN a1 a8 17 o)) hx hb hK hP 2 3 rfl rfl (vp_in_nI (by omega) (by omega)) dX8_at_55 ?_
          refine W.eq (g2 := F0 m 56 ls [.int (a4 (rtN a1 a8 17 o))]) (by rw [nI_clamp (by omega)]) ?_
          refine lv_iload hx hb dX8_at_56 (lv_at hl 0 rfl) ?_
          refine lv_iload_n hx hb dX8_at_58 rfl (lv_at hl 5 rfl) ?_
          have hPc := hP.sub (ws' := []) [] rfl
          have hDc := hD.sub (ws' := []) [] (by decide) rfl
          have hKc := hK.sub (tys' := []) [] rfl
          have hFc := va_free (wc := []) hD hS hA [] rfl
          refine va_calli (va_runS (As := [.int (a4 (rtN a1 a8 17 o)), .int (a2 (4200 * rtN a1 a8 17 o + i)), .int p1]) (rest := []) ⟨hx, hb, hml, hown, hts⟩ (c_X8_compare l  dC dI H.size (a4 (rtN a1 a8 17 o)) (a2 (4200 * rtN a1 a8 17 o + i)) p1) (va_cwS 3 hts gX8_at_X8_compare rfl rfl rfl (by decide +kernel) ⟨(Nat.le_of_ble_eq_true rfl), (Nat.le_of_ble_eq_true rfl)⟩) ⟨pk_blind, pk_call hPc hKc hDc⟩ rfl rfl hl.1 rfl (lv_room (Nat.le_of_ble_eq_true rfl)) dX8_at_59 ⟨(Nat.le_of_ble_eq_true rfl), (Nat.le_of_ble_eq_true rfl)⟩) hS (fun q _ h => hFc q h) hFc (fun r_8 ur_8 t H1 locs ht hvm hw hB hz1 hk1 hS => ?_)
          try dsimp only at hw
          have jr_8 := hw
          obtain ⟨hP, hD⟩ := va_join (wr := [(q3, .inl (c3, 16, .inl a3)), (q1, .inl (c1, 16, .inl a1)), (q4, .inl (c4, 16, .inl a4)), (q8, .inl (c8, 16, .inl a8)), (q9, .inl (c9, 16, .inl a9)), (q10, .inl (c10, 16, .inl a10)), (q11, .inl (c11, 16, .inl a11)), (h0, .inr (8, [.int th, .ref q1, .ref q2, .ref q3, .ref q4, v5, v6, v7, .ref q8, .ref q9, .ref q10, .ref q11, v12, v13, v14, v15, v16])), (q2, .inl (c2, 67200, .inl a2))]) (w1 := []) hP hD [] [0, 1, 2, 3, 4, 5, 6, 7, 8] rfl rfl (by decide) (by decide) hk1 hFc tx_P0 tx_D0
          clear hk1 hz1 ht hPc hDc hKc hFc
          generalize H1 = H at hP hS ⊢
          replace hP : va_P (dC, dI) vwCl [(q3, .inl (c3, 16, .inl a3)), (q1, .inl (c1, 16, .inl a1)), (q4, .inl (c4, 16, .inl a4)), (q8, .inl (c8, 16, .inl a8)), (q9, .inl (c9, 16, .inl a9)), (q10, .inl (c10, 16, .inl a10)), (q11, .inl (c11, 16, .inl a11)), (h0, .inr (8, [.int th, .ref q1, .ref q2, .ref q3, .ref q4, v5, v6, v7, .ref q8, .ref q9, .ref q10, .ref q11, v12, v13, v14, v15, v16])), (q2, .inl (c2, 67200, .inl a2))] H := hP
          replace hD : va_D A [(q3, .inl (c3, 16, .inl a3)), (q1, .inl (c1, 16, .inl a1)), (q4, .inl (c4, 16, .inl a4)), (q8, .inl (c8, 16, .inl a8)), (q9, .inl (c9, 16, .inl a9)), (q10, .inl (c10, 16, .inl a10)), (q11, .inl (c11, 16, .inl a11)), (h0, .inr (8, [.int th, .ref q1, .ref q2, .ref q3, .ref q4, v5, v6, v7, .ref q8, .ref q9, .ref q10, .ref q11, v12, v13, v14, v15, v16])), (q2, .inl (c2, 67200, .inl a2))] := hD
          refine W.widen (k := 0) (n := 0) (Nat.le_of_ble_eq_true rfl) (Nat.le_of_ble_eq_true rfl) ?_
          refine W.eq (g2 := F0 m 62 ls [.int r_8]) rfl ?_
          refine lv_if_ne (tgt := 77) hx hb dX8_at_62 (by decide) (fun c_9 => ?_) (fun c_9 => ?_)
          ·
            have ic_9 : ¬ r_8.toInt = 0 := tx_ne rfl (by decide) c_9
            refine lv_iinc (v := nI (i + 1)) (lv' := [(4, .int (nI (i + 1))), (5, .int (a2 (4200 * rtN a1 a8 17 o + i))), (3, .int (nI (rtN a1 a8 17 o))), (0, .ref h0), (1, .int (nI o)), (2, .int p1)]) hx hb dX8_at_77 hl (k := 1) rfl (by rw [show Int32.ofInt 1 = nI 1 from rfl, nI_add]) (by decide) rfl (fun ls hl => ?_)
            refine lv_goto (tgt := 20) hx hb dX8_at_80 (by decide) ?_
            exact ih (i := i + 1) (x9 := nI (i + 1)) (ex9 := rfl) (ls := ls) (H := H) (locs := locs) (hP := hP.sub (ws' := [(q2, .inl (c2, 67200, .inl a2)), (q3, .inl (c3, 16, .inl a3)), (h0, .inr (8, [.int th, .ref q1, .ref q2, .ref q3, .ref q4, v5, v6, v7, .ref q8, .ref q9, .ref q10, .ref q11, v12, v13, v14, v15, v16])), (q1, .inl (c1, 16, .inl a1)), (q4, .inl (c4, 16, .inl a4)), (q8, .inl (c8, 16, .inl a8)), (q9, .inl (c9, 16, .inl a9)), (q10, .inl (c10, 16, .inl a10)), (q11, .inl (c11, 16, .inl a11))]) [8, 0, 7, 1, 2, 3, 4, 5, 6] rfl) (hS := hS) (hi9 := by omega) (hn9 := by omega) (hl := lv_sub hl [0, 2, 3, 4, 5] rfl)
          ·
            have ic_9 : r_8.toInt = 0 := tx_eq rfl (by decide) c_9
            refine lv_goto (tgt := 74) hx hb dX8_at_65 (by decide) ?_
            refine lv_iload hx hb dX8_at_74 (lv_at hl 1 rfl) ?_
            have hP9 := hP.sub (ws' := [(h0, .inr (8, [.int th, .ref q1, .ref q2, .ref q3, .ref q4, v5, v6, v7, .ref q8, .ref q9, .ref q10, .ref q11, v12, v13, v14, v15, v16])), (q1, .inl (c1, 16, .inl a1)), (q2, .inl (c2, 67200, .inl a2)), (q3, .inl (c3, 16, .inl a3)), (q4, .inl (c4, 16, .inl a4)), (q8, .inl (c8, 16, .inl a8)), (q9, .inl (c9, 16, .inl a9)), (q10, .inl (c10, 16, .inl a10)), (q11, .inl (c11, 16, .inl a11))]) [7, 1, 8, 0, 2, 3, 4, 5, 6] rfl
            have hD9 := hD.sub (ws' := [(h0, .inr (8, [.int th, .ref q1, .ref q2, .ref q3, .ref q4, v5, v6, v7, .ref q8, .ref q9, .ref q10, .ref q11, v12, v13, v14, v15, v16])), (q1, .inl (c1, 16, .inl a1)), (q2, .inl (c2, 67200, .inl a2)), (q3, .inl (c3, 16, .inl a3)), (q4, .inl (c4, 16, .inl a4)), (q8, .inl (c8, 16, .inl a8)), (q9, .inl (c9, 16, .inl a9)), (q10, .inl (c10, 16, .inl a10)), (q11, .inl (c11, 16, .inl a11))]) [7, 1, 8, 0, 2, 3, 4, 5, 6] (by decide) rfl
            have hK9 := hK.sub (tys' := [(c1, .int), (c2, .int), (c3, .int), (c4, .int), (c8, .int), (c9, .int), (c10, .int), (c11, .int)]) [0, 1, 2, 3, 4, 5, 6, 7] rfl
            refine W.widen (k := 0) (n := 0) (Nat.le_of_ble_eq_true rfl) (Nat.le_of_ble_eq_true rfl) ?_
            exact W.iret (v := nI i) hx hb hr (fun t ht hW => ⟨⟨nI i, (), rfl, Or.inr ⟨i, by omega, rfl⟩, by rw [ht]; exact hP9, va_K.moved hW.alike hK9, hD9⟩, hS.F ht⟩) hS.2.2 dX8_at_76
  ·
    have ic_3 : (tz (winN a1 a8 a11 a9 a10 a4 17 o p1)).toInt = 0 := tx_eq rfl (by decide) c_3
    refine lv_iconst (v := (-1)) hx hb dX8_at_15 (by decide) ?_
    have hP9 := hP.sub (ws' := [(h0, .inr (8, [.int th, .ref q1, .ref q2, .ref q3, .ref q4, v5, v6, v7, .ref q8, .ref q9, .ref q10, .ref q11, v12, v13, v14, v15, v16])), (q1, .inl (c1, 16, .inl a1)), (q2, .inl (c2, 67200, .inl a2)), (q3, .inl (c3, 16, .inl a3)), (q4, .inl (c4, 16, .inl a4)), (q8, .inl (c8, 16, .inl a8)), (q9, .inl (c9, 16, .inl a9)), (q10, .inl (c10, 16, .inl a10)), (q11, .inl (c11, 16, .inl a11))]) [2, 3, 0, 1, 4, 5, 6, 7, 8] rfl
    have hD9 := hD.sub (ws' := [(h0, .inr (8, [.int th, .ref q1, .ref q2, .ref q3, .ref q4, v5, v6, v7, .ref q8, .ref q9, .ref q10, .ref q11, v12, v13, v14, v15, v16])), (q1, .inl (c1, 16, .inl a1)), (q2, .inl (c2, 67200, .inl a2)), (q3, .inl (c3, 16, .inl a3)), (q4, .inl (c4, 16, .inl a4)), (q8, .inl (c8, 16, .inl a8)), (q9, .inl (c9, 16, .inl a9)), (q10, .inl (c10, 16, .inl a10)), (q11, .inl (c11, 16, .inl a11))]) [2, 3, 0, 1, 4, 5, 6, 7, 8] (by decide) rfl
    have hK9 := hK.sub (tys' := [(c1, .int), (c2, .int), (c3, .int), (c4, .int), (c8, .int), (c9, .int), (c10, .int), (c11, .int)]) [0, 1, 2, 3, 4, 5, 6, 7] rfl
    refine W.widen (k := 0) (n := 0) (Nat.le_of_ble_eq_true rfl) (Nat.le_of_ble_eq_true rfl) ?_
    exact W.iret (v := -1) hx hb hr (fun t ht hW => ⟨⟨-1, (), rfl, Or.inl rfl, by rw [ht]; exact hP9, va_K.moved hW.alike hK9, hD9⟩, hS.F ht⟩) hS.2.2 dX8_at_16
set_option maxHeartbeats 4000000 in
set_option maxRecDepth 100000 in
/-- bin -/
theorem c_X8_bin (l : Launch) (dC : Nat → ClassId) (dI : Nat → Nat → Nat) (sz : Nat) (h0 : Nat) (th : Int32) (q5 : Nat) (q6 : Nat) (c5 : ClassId) (c6 : ClassId) (a5 : Nat → Int32) (a6 : Nat → Int32) (v1 : Value) (v2 : Value) (v3 : Value) (v4 : Value) (v7 : Value) (v8 : Value) (v9 : Value) (v10 : Value) (v11 : Value) (v12 : Value) (v13 : Value) (v14 : Value) (v15 : Value) (v16 : Value) (r : Nat) (p1 : Int32) (tb : Nat) (hr9 : r < 16) (h1tb : 1 ≤ tb) (h2tb : tb ≤ 2048) (h3tb : ∃ j : Nat, tb = 2 ^ j) (htb : a6 r = nI tb) : Met l yX8_bin wsX8_bin ({ frames := 1, cells := 0, slots := 0, locals := 40 }) (va_Pc [.ref h0, .int (nI r), .int p1] (pk_Pre (dC, dI) [(h0, .inr (8, [.int th, v1, v2, v3, v4, .ref q5, .ref q6, v7, v8, v9, v10, v11, v12, v13, v14, v15, v16])), (q5, .inl (c5, 16, .inl a5)), (q6, .inl (c6, 16, .inl a6))] [(c5, .int), (c6, .int)] sz)) (va_Qi (fun (x : Int32) (_ : Unit) => ∃ b : Nat, b < tb ∧ x = nI b) (fun (_ : Unit) (t : State) => va_P (dC, dI) vwCl [(h0, .inr (8, [.int th, v1, v2, v3, v4, .ref q5, .ref q6, v7, v8, v9, v10, v11, v12, v13, v14, v15, v16])), (q5, .inl (c5, 16, .inl a5)), (q6, .inl (c6, 16, .inl a6))] t.heap ∧ va_K (dC, dI) vwCl [(c5, .int), (c6, .int)] t ∧ va_D (va_A [(h0, .inr (8, [.int th, v1, v2, v3, v4, .ref q5, .ref q6, v7, v8, v9, v10, v11, v12, v13, v14, v15, v16])), (q5, .inl (c5, 16, .inl a5)), (q6, .inl (c6, 16, .inl a6))] sz) [(h0, .inr (8, [.int th, v1, v2, v3, v4, .ref q5, .ref q6, v7, v8, v9, v10, v11, v12, v13, v14, v15, v16])), (q5, .inl (c5, 16, .inl a5)), (q6, .inl (c6, 16, .inl a6))]) (va_A [(h0, .inr (8, [.int th, v1, v2, v3, v4, .ref q5, .ref q6, v7, v8, v9, v10, v11, v12, v13, v14, v15, v16])), (q5, .inl (c5, 16, .inl a5)), (q6, .inl (c6, 16, .inl a6))] sz)) 0 0 (va_A [(h0, .inr (8, [.int th, v1, v2, v3, v4, .ref q5, .ref q6, v7, v8, v9, v10, v11, v12, v13, v14, v15, v16])), (q5, .inl (c5, 16, .inl a5)), (q6, .inl (c6, 16, .inl a6))] sz) := by
  refine Met.ofW (cc := cX8_bin) (maxL := 4) (ret := (some .int)) (by decide) rfl ?_
  intro p e s m args below meth c s₁ B hml hv
  obtain ⟨rfl, hsz, hP, hK, hD0⟩ := hv
  have hx := B.exec
  have hb := B.bytes
  have hr := B.returns
  have hts := atoms_spec (ws := wsX8_bin) B.pre
  have hown : s.vm.findClass RX8 = some m.cls := findClass_of_methodNamed B.named
  have hlocks := B.notSynchronized
  subst hsz
  have hD := hD0.self (sz := s.heap.size)
  generalize hAe : va_A [(h0, .inr (8, [.int th, v1, v2, v3, v4, .ref q5, .ref q6, v7, v8, v9, v10, v11, v12, v13, v14, v15, v16])), (q5, .inl (c5, 16, .inl a5)), (q6, .inl (c6, 16, .inl a6))] s.heap.size = A at hD ⊢
  have hA : ∀ q : Nat, s.heap.size ≤ q → A q := fun q h => by rw [← hAe]; exact Or.inr h
  have hS : va_S A s.heap s.heap [] := va_S.rf
  have hP : va_P (dC, dI) vwCl [(h0, .inr (8, [.int th, v1, v2, v3, v4, .ref q5, .ref q6, v7, v8, v9, v10, v11, v12, v13, v14, v15, v16])), (q5, .inl (c5, 16, .inl a5)), (q6, .inl (c6, 16, .inl a6))] s.heap := hP
  have hl := lv_entry ([.ref h0, .int (nI r), .int p1]) (n := 4) (Nat.le_of_ble_eq_true rfl)
  rw [lg_entry_eq]
  generalize (lg_sl ([.ref h0, .int (nI r), .int p1]) ++ List.replicate (4 - (lg_sl ([.ref h0, .int (nI r), .int p1])).length) Slot.unset).toArray = ls at hl ⊢
  have hl : lv_has ls 4 [(0, .ref h0), (1, .int (nI r)), (2, .int p1)] := hl
  have hw0_ := hts (.fieldLink RX8 23 "KeyAtlasModel" "second" "[I") (List.mem_of_getElem? (l := wsX8_bin) (i := 1) rfl)
  have hw1_ := hts (.constant RX8 114 (-1640531527)) (List.mem_of_getElem? (l := wsX8_bin) (i := 2) rfl)
  have hw2_ := hts (.fieldLink RX8 26 "KeyAtlasModel" "table" "[I") (List.mem_of_getElem? (l := wsX8_bin) (i := 3) rfl)
  have hi0_ : ∀ w ∈ u_ws RX8 TX8 17, w ∈ wsX8_bin := fun w h => List.mem_cons_of_mem _ (List.mem_append_right _ h)
  refine lv_aload_n hx hb dX8_bin_0 rfl (lv_at hl 0 rfl) ?_
  refine va_get (D := (dC, dI)) (ci := 8) (v := .ref q5) (C := RX8) (T := TX8) (N := 17) hx hb hts hi0_ hown hK hP 0 rfl rfl 5 (by decide) hw0_ (fun _ h9 => h9) rfl dX8_bin_1 ?_
  refine lv_iload_n hx hb dX8_bin_4 rfl (lv_at hl 1 rfl) ?_
  refine va_iald (i := nI r) hx hb hK hP 1 0 rfl rfl (vp_in_nI (by omega) (by omega)) dX8_bin_5 ?_
  refine W.eq (g2 := F0 m 6 ls [.int (a5 r)]) (by rw [nI_clamp (by omega)]) ?_
  refine lv_if_ne (tgt := 13) hx hb dX8_bin_6 (by decide) (fun c_1 => ?_) (fun c_1 => ?_)
  ·
    have ic_1 : ¬ (a5 r).toInt = 0 := tx_ne rfl (by decide) c_1
    refine lv_aload_n hx hb dX8_bin_13 rfl (lv_at hl 0 rfl) ?_
    refine va_get (D := (dC, dI)) (ci := 8) (v := .ref q5) (C := RX8) (T := TX8) (N := 17) hx hb hts hi0_ hown hK hP 0 rfl rfl 5 (by decide) hw0_ (fun _ h9 => h9) rfl dX8_bin_14 ?_
    refine lv_iload_n hx hb dX8_bin_17 rfl (lv_at hl 1 rfl) ?_
    refine va_iald (i := nI r) hx hb hK hP 1 0 rfl rfl (vp_in_nI (by omega) (by omega)) dX8_bin_18 ?_
    refine W.eq (g2 := F0 m 19 ls [.int (a5 r)]) (by rw [nI_clamp (by omega)]) ?_
    refine lv_iconst (v := 1) hx hb dX8_bin_19 (by decide) ?_
    refine lv_icmp_ne (tgt := 32) hx hb dX8_bin_20 (by decide) (fun c_2 => ?_) (fun c_2 => ?_)
    ·
      have ic_2 : ¬ (a5 r).toInt = 1 := tx_ne rfl (by decide) c_2
      refine lv_aload_n hx hb dX8_bin_32 rfl (lv_at hl 0 rfl) ?_
      refine va_get (D := (dC, dI)) (ci := 8) (v := .ref q5) (C := RX8) (T := TX8) (N := 17) hx hb hts hi0_ hown hK hP 0 rfl rfl 5 (by decide) hw0_ (fun _ h9 => h9) rfl dX8_bin_33 ?_
      refine lv_iload_n hx hb dX8_bin_36 rfl (lv_at hl 1 rfl) ?_
      refine va_iald (i := nI r) hx hb hK hP 1 0 rfl rfl (vp_in_nI (by omega) (by omega)) dX8_bin_37 ?_
      refine W.eq (g2 := F0 m 38 ls [.int (a5 r)]) (by rw [nI_clamp (by omega)]) ?_
      refine lv_iconst (v := 2) hx hb dX8_bin_38 (by decide) ?_
      refine lv_icmp_ne (tgt := 47) hx hb dX8_bin_39 (by decide) (fun c_3 => ?_) (fun c_3 => ?_)
      ·
        have ic_3 : ¬ (a5 r).toInt = 2 := tx_ne rfl (by decide) c_3
        refine lv_iload_n hx hb dX8_bin_47 rfl (lv_at hl 2 rfl) ?_
        refine lv_ldc (v := (-1640531527)) hx hb hown hw1_ dX8_bin_48 ?_
        refine lv_imul hx hb dX8_bin_50 ?_
        refine lv_istore_n (lv' := [(3, .int (p1 * (-1640531527))), (0, .ref h0), (1, .int (nI r)), (2, .int p1)]) hx hb dX8_bin_51 rfl hl (by decide) rfl (fun ls hl => ?_)
        refine lv_iload_n hx hb dX8_bin_52 rfl (lv_at hl 0 rfl) ?_
        refine lv_iload_n hx hb dX8_bin_53 rfl (lv_at hl 0 rfl) ?_
        refine lv_bipush (v := 16) hx hb dX8_bin_54 (by decide) ?_
        refine lv_iushr (v := (Int32.toUInt32 (p1 * (-1640531527)) >>> (Int32.toUInt32 16 &&& Int32.toUInt32 31)).toInt32) hx hb dX8_bin_56 rfl ?_
        refine lv_topi (fun z_4 ez_4 => ?_)
        refine lv_ixor hx hb dX8_bin_57 ?_
        refine lv_aload_n hx hb dX8_bin_58 rfl (lv_at hl 1 rfl) ?_
        refine va_get (D := (dC, dI)) (ci := 8) (v := .ref q6) (C := RX8) (T := TX8) (N := 17) hx hb hts hi0_ hown hK hP 0 rfl rfl 6 (by decide) hw2_ (fun _ h9 => h9) rfl dX8_bin_59 ?_
        refine lv_iload_n hx hb dX8_bin_62 rfl (lv_at hl 2 rfl) ?_
        refine va_iald (i := nI r) hx hb hK hP 2 1 rfl rfl (vp_in_nI (by omega) (by omega)) dX8_bin_63 ?_
        refine W.eq (g2 := F0 m 64 ls [.int (a6 r), .int ((p1 * (-1640531527)) ^^^ z_4)]) (by rw [nI_clamp (by omega)]) ?_
        refine W.eq (g2 := F0 m 64 ls [.int (nI tb), .int ((p1 * (-1640531527)) ^^^ z_4)]) (by rw [htb]) ?_
        refine lv_iconst (v := 1) hx hb dX8_bin_64 (by decide) ?_
        refine lv_isub hx hb dX8_bin_65 ?_
        refine lv_topi (fun z_5 ez_5 => ?_)
        obtain rfl : z_5 = nI (tb - 1) := ez_5.trans (by rw [show (1 : Int32) = nI 1 from rfl, pk_sub (by omega)])
        refine lv_iand hx hb dX8_bin_66 ?_
        have hP9 := hP.sub (ws' := [(h0, .inr (8, [.int th, v1, v2, v3, v4, .ref q5, .ref q6, v7, v8, v9, v10, v11, v12, v13, v14, v15, v16])), (q5, .inl (c5, 16, .inl a5)), (q6, .inl (c6, 16, .inl a6))]) [0, 1, 2] rfl
        have hD9 := hD.sub (ws' := [(h0, .inr (8, [.int th, v1, v2, v3, v4, .ref q5, .ref q6, v7, v8, v9, v10, v11, v12, v13, v14, v15, v16])), (q5, .inl (c5, 16, .inl a5)), (q6, .inl (c6, 16, .inl a6))]) [0, 1, 2] (by decide) rfl
        have hK9 := hK.sub (tys' := [(c5, .int), (c6, .int)]) [0, 1] rfl
        refine W.widen (k := 0) (n := 0) (Nat.le_of_ble_eq_true rfl) (Nat.le_of_ble_eq_true rfl) ?_
        exact W.iret (v := ((p1 * (-1640531527)) ^^^ z_4) &&& (nI (tb - 1))) hx hb hr (fun t ht hW => ⟨⟨((p1 * (-1640531527)) ^^^ z_4) &&& (nI (tb - 1)), (), rfl, tx_band h1tb h2tb h3tb, by rw [ht]; exact hP9, va_K.moved hW.alike hK9, hD9⟩, hS.F ht⟩) hS.2.2 dX8_bin_67
      ·
        have ic_3 : (a5 r).toInt = 2 := tx_eq rfl (by decide) c_3
        refine lv_bipush (v := 7) hx hb dX8_bin_42 (by decide) ?_
        refine lv_goto (tgt := 51) hx hb dX8_bin_44 (by decide) ?_
        refine lv_istore_n (lv' := [(3, .int 7), (0, .ref h0), (1, .int (nI r)), (2, .int p1)]) hx hb dX8_bin_51 rfl hl (by decide) rfl (fun ls hl => ?_)
        refine lv_iload_n hx hb dX8_bin_52 rfl (lv_at hl 0 rfl) ?_
        refine lv_iload_n hx hb dX8_bin_53 rfl (lv_at hl 0 rfl) ?_
        refine lv_bipush (v := 16) hx hb dX8_bin_54 (by decide) ?_
        refine lv_iushr (v := (Int32.toUInt32 7 >>> (Int32.toUInt32 16 &&& Int32.toUInt32 31)).toInt32) hx hb dX8_bin_56 rfl ?_
        refine lv_topi (fun z_6 ez_6 => ?_)
        refine lv_ixor hx hb dX8_bin_57 ?_
        refine lv_aload_n hx hb dX8_bin_58 rfl (lv_at hl 1 rfl) ?_
        refine va_get (D := (dC, dI)) (ci := 8) (v := .ref q6) (C := RX8) (T := TX8) (N := 17) hx hb hts hi0_ hown hK hP 0 rfl rfl 6 (by decide) hw2_ (fun _ h9 => h9) rfl dX8_bin_59 ?_
        refine lv_iload_n hx hb dX8_bin_62 rfl (lv_at hl 2 rfl) ?_
        refine va_iald (i := nI r) hx hb hK hP 2 1 rfl rfl (vp_in_nI (by omega) (by omega)) dX8_bin_63 ?_
        refine W.eq (g2 := F0 m 64 ls [.int (a6 r), .int (7 ^^^ z_6)]) (by rw [nI_clamp (by omega)]) ?_
        refine W.eq (g2 := F0 m 64 ls [.int (nI tb), .int (7 ^^^ z_6)]) (by rw [htb]) ?_
        refine lv_iconst (v := 1) hx hb dX8_bin_64 (by decide) ?_
        refine lv_isub hx hb dX8_bin_65 ?_
        refine lv_topi (fun z_7 ez_7 => ?_)
        obtain rfl : z_7 = nI (tb - 1) := ez_7.trans (by rw [show (1 : Int32) = nI 1 from rfl, pk_sub (by omega)])
        refine lv_iand hx hb dX8_bin_66 ?_
        have hP9 := hP.sub (ws' := [(h0, .inr (8, [.int th, v1, v2, v3, v4, .ref q5, .ref q6, v7, v8, v9, v10, v11, v12, v13, v14, v15, v16])), (q5, .inl (c5, 16, .inl a5)), (q6, .inl (c6, 16, .inl a6))]) [0, 1, 2] rfl
        have hD9 := hD.sub (ws' := [(h0, .inr (8, [.int th, v1, v2, v3, v4, .ref q5, .ref q6, v7, v8, v9, v10, v11, v12, v13, v14, v15, v16])), (q5, .inl (c5, 16, .inl a5)), (q6, .inl (c6, 16, .inl a6))]) [0, 1, 2] (by decide) rfl
        have hK9 := hK.sub (tys' := [(c5, .int), (c6, .int)]) [0, 1] rfl
        refine W.widen (k := 0) (n := 0) (Nat.le_of_ble_eq_true rfl) (Nat.le_of_ble_eq_true rfl) ?_
        exact W.iret (v := (7 ^^^ z_6) &&& (nI (tb - 1))) hx hb hr (fun t ht hW => ⟨⟨(7 ^^^ z_6) &&& (nI (tb - 1)), (), rfl, tx_band h1tb h2tb h3tb, by rw [ht]; exact hP9, va_K.moved hW.alike hK9, hD9⟩, hS.F ht⟩) hS.2.2 dX8_bin_67
    ·
      have ic_2 : (a5 r).toInt = 1 := tx_eq rfl (by decide) c_2
      refine lv_iload_n hx hb dX8_bin_23 rfl (lv_at hl 2 rfl) ?_
      refine lv_bipush (v := 16) hx hb dX8_bin_24 (by decide) ?_
      have hPc := hP.sub (ws' := []) [] rfl
      have hDc := hD.sub (ws' := []) [] (by decide) rfl
      have hKc := hK.sub (tys' := []) [] rfl
      have hFc := va_free (wc := []) hD hS hA [] rfl
      refine va_calli (va_runS (As := [.int p1, .int 16]) (rest := []) ⟨hx, hb, hml, hown, hts⟩ (c_X8_mod l  dC dI s.heap.size p1 16 16 (by decide) (by omega) (by omega)) (va_cwS 2 hts gX8_bin_X8_mod rfl rfl rfl (by decide +kernel) ⟨(Nat.le_of_ble_eq_true rfl), (Nat.le_of_ble_eq_true rfl)⟩) ⟨pk_blind, pk_call hPc hKc hDc⟩ rfl rfl hl.1 rfl (lv_room (Nat.le_of_ble_eq_true rfl)) dX8_bin_26 ⟨(Nat.le_of_ble_eq_true rfl), (Nat.le_of_ble_eq_true rfl)⟩) hS (fun q _ h => hFc q h) hFc (fun r_8 ur_8 t H1 locs ht hvm hw hB hz1 hk1 hS => ?_)
      try dsimp only at hw
      have jr_8 := hw
      obtain ⟨hP, hD⟩ := va_join (wr := [(h0, .inr (8, [.int th, v1, v2, v3, v4, .ref q5, .ref q6, v7, v8, v9, v10, v11, v12, v13, v14, v15, v16])), (q5, .inl (c5, 16, .inl a5)), (q6, .inl (c6, 16, .inl a6))]) (w1 := []) hP hD [] [0, 1, 2] rfl rfl (by decide) (by decide) hk1 hFc tx_P0 tx_D0
      clear hk1 hz1 ht hPc hDc hKc hFc
      generalize H1 = H at hP hS ⊢
      replace hP : va_P (dC, dI) vwCl [(h0, .inr (8, [.int th, v1, v2, v3, v4, .ref q5, .ref q6, v7, v8, v9, v10, v11, v12, v13, v14, v15, v16])), (q5, .inl (c5, 16, .inl a5)), (q6, .inl (c6, 16, .inl a6))] H := hP
      replace hD : va_D A [(h0, .inr (8, [.int th, v1, v2, v3, v4, .ref q5, .ref q6, v7, v8, v9, v10, v11, v12, v13, v14, v15, v16])), (q5, .inl (c5, 16, .inl a5)), (q6, .inl (c6, 16, .inl a6))] := hD
      refine W.widen (k := 0) (n := 0) (Nat.le_of_ble_eq_true rfl) (Nat.le_of_ble_eq_true rfl) ?_
      refine W.eq (g2 := F0 m 29 ls [.int r_8]) rfl ?_
      refine lv_goto (tgt := 51) hx hb dX8_bin_29 (by decide) ?_
      refine lv_istore_n (lv' := [(3, .int r_8), (0, .ref h0), (1, .int (nI r)), (2, .int p1)]) hx hb dX8_bin_51 rfl hl (by decide) rfl (fun ls hl => ?_)
      refine lv_iload_n hx hb dX8_bin_52 rfl (lv_at hl 0 rfl) ?_
      refine lv_iload_n hx hb dX8_bin_53 rfl (lv_at hl 0 rfl) ?_
      refine lv_bipush (v := 16) hx hb dX8_bin_54 (by decide) ?_
      refine lv_iushr (v := (Int32.toUInt32 r_8 >>> (Int32.toUInt32 16 &&& Int32.toUInt32 31)).toInt32) hx hb dX8_bin_56 rfl ?_
      refine lv_topi (fun z_9 ez_9 => ?_)
      refine lv_ixor hx hb dX8_bin_57 ?_
      refine lv_aload_n hx hb dX8_bin_58 rfl (lv_at hl 1 rfl) ?_
      refine va_get (D := (dC, dI)) (ci := 8) (v := .ref q6) (C := RX8) (T := TX8) (N := 17) hx hb hts hi0_ hown hK hP 0 rfl rfl 6 (by decide) hw2_ (fun _ h9 => h9) rfl dX8_bin_59 ?_
      refine lv_iload_n hx hb dX8_bin_62 rfl (lv_at hl 2 rfl) ?_
      refine va_iald (i := nI r) hx hb hK hP 2 1 rfl rfl (vp_in_nI (by omega) (by omega)) dX8_bin_63 ?_
      refine W.eq (g2 := F0 m 64 ls [.int (a6 r), .int (r_8 ^^^ z_9)]) (by rw [nI_clamp (by omega)]) ?_
      refine W.eq (g2 := F0 m 64 ls [.int (nI tb), .int (r_8 ^^^ z_9)]) (by rw [htb]) ?_
      refine lv_iconst (v := 1) hx hb dX8_bin_64 (by decide) ?_
      refine lv_isub hx hb dX8_bin_65 ?_
      refine lv_topi (fun z_10 ez_10 => ?_)
      obtain rfl : z_10 = nI (tb - 1) := ez_10.trans (by rw [show (1 : Int32) = nI 1 from rfl, pk_sub (by omega)])
      refine lv_iand hx hb dX8_bin_66 ?_
      have hP9 := hP.sub (ws' := [(h0, .inr (8, [.int th, v1, v2, v3, v4, .ref q5, .ref q6, v7, v8, v9, v10, v11, v12, v13, v14, v15, v16])), (q5, .inl (c5, 16, .inl a5)), (q6, .inl (c6, 16, .inl a6))]) [0, 1, 2] rfl
      have hD9 := hD.sub (ws' := [(h0, .inr (8, [.int th, v1, v2, v3, v4, .ref q5, .ref q6, v7, v8, v9, v10, v11, v12, v13, v14, v15, v16])), (q5, .inl (c5, 16, .inl a5)), (q6, .inl (c6, 16, .inl a6))]) [0, 1, 2] (by decide) rfl
      have hK9 := hK.sub (tys' := [(c5, .int), (c6, .int)]) [0, 1] rfl
      refine W.widen (k := 0) (n := 0) (Nat.le_of_ble_eq_true rfl) (Nat.le_of_ble_eq_true rfl) ?_
      exact W.iret (v := (r_8 ^^^ z_9) &&& (nI (tb - 1))) hx hb hr (fun t ht hW => ⟨⟨(r_8 ^^^ z_9) &&& (nI (tb - 1)), (), rfl, tx_band h1tb h2tb h3tb, by rw [ht]; exact hP9, va_K.moved hW.alike hK9, hD9⟩, hS.F ht⟩) hS.2.2 dX8_bin_67
  ·
    have ic_1 : (a5 r).toInt = 0 := tx_eq rfl (by decide) c_1
    refine lv_iload_n hx hb dX8_bin_9 rfl (lv_at hl 2 rfl) ?_
    refine lv_goto (tgt := 51) hx hb dX8_bin_10 (by decide) ?_
    refine lv_istore_n (lv' := [(3, .int p1), (0, .ref h0), (1, .int (nI r)), (2, .int p1)]) hx hb dX8_bin_51 rfl hl (by decide) rfl (fun ls hl => ?_)
    refine lv_iload_n hx hb dX8_bin_52 rfl (lv_at hl 0 rfl) ?_
    refine lv_iload_n hx hb dX8_bin_53 rfl (lv_at hl 0 rfl) ?_
    refine lv_bipush (v := 16) hx hb dX8_bin_54 (by decide) ?_
    refine lv_iushr (v := (Int32.toUInt32 p1 >>> (Int32.toUInt32 16 &&& Int32.toUInt32 31)).toInt32) hx hb dX8_bin_56 rfl ?_
    refine lv_topi (fun z_11 ez_11 => ?_)
    refine lv_ixor hx hb dX8_bin_57 ?_
    refine lv_aload_n hx hb dX8_bin_58 rfl (lv_at hl 1 rfl) ?_
    refine va_get (D := (dC, dI)) (ci := 8) (v := .ref q6) (C := RX8) (T := TX8) (N := 17) hx hb hts hi0_ hown hK hP 0 rfl rfl 6 (by decide) hw2_ (fun _ h9 => h9) rfl dX8_bin_59 ?_
    refine lv_iload_n hx hb dX8_bin_62 rfl (lv_at hl 2 rfl) ?_
    refine va_iald (i := nI r) hx hb hK hP 2 1 rfl rfl (vp_in_nI (by omega) (by omega)) dX8_bin_63 ?_
    refine W.eq (g2 := F0 m 64 ls [.int (a6 r), .int (p1 ^^^ z_11)]) (by rw [nI_clamp (by omega)]) ?_
    refine W.eq (g2 := F0 m 64 ls [.int (nI tb), .int (p1 ^^^ z_11)]) (by rw [htb]) ?_
    refine lv_iconst (v := 1) hx hb dX8_bin_64 (by decide) ?_
    refine lv_isub hx hb dX8_bin_65 ?_
    refine lv_topi (fun z_12 ez_12 => ?_)
    obtain rfl : z_12 = nI (tb - 1) := ez_12.trans (by rw [show (1 : Int32) = nI 1 from rfl, pk_sub (by omega)])
    refine lv_iand hx hb dX8_bin_66 ?_
    have hP9 := hP.sub (ws' := [(h0, .inr (8, [.int th, v1, v2, v3, v4, .ref q5, .ref q6, v7, v8, v9, v10, v11, v12, v13, v14, v15, v16])), (q5, .inl (c5, 16, .inl a5)), (q6, .inl (c6, 16, .inl a6))]) [0, 1, 2] rfl
    have hD9 := hD.sub (ws' := [(h0, .inr (8, [.int th, v1, v2, v3, v4, .ref q5, .ref q6, v7, v8, v9, v10, v11, v12, v13, v14, v15, v16])), (q5, .inl (c5, 16, .inl a5)), (q6, .inl (c6, 16, .inl a6))]) [0, 1, 2] (by decide) rfl
    have hK9 := hK.sub (tys' := [(c5, .int), (c6, .int)]) [0, 1] rfl
    refine W.widen (k := 0) (n := 0) (Nat.le_of_ble_eq_true rfl) (Nat.le_of_ble_eq_true rfl) ?_
    exact W.iret (v := (p1 ^^^ z_11) &&& (nI (tb - 1))) hx hb hr (fun t ht hW => ⟨⟨(p1 ^^^ z_11) &&& (nI (tb - 1)), (), rfl, tx_band h1tb h2tb h3tb, by rw [ht]; exact hP9, va_K.moved hW.alike hK9, hD9⟩, hS.F ht⟩) hS.2.2 dX8_bin_67
set_option maxHeartbeats 4000000 in
set_option maxRecDepth 100000 in
/-- inBin -/
theorem c_X8_inBin (l : Launch) (dC : Nat → ClassId) (dI : Nat → Nat → Nat) (sz : Nat) (h0 : Nat) (th : Int32) (q2 : Nat) (q3 : Nat) (q5 : Nat) (q6 : Nat) (c2 : ClassId) (c3 : ClassId) (c5 : ClassId) (c6 : ClassId) (a2 : Nat → Int32) (a3 : Nat → Int32) (a5 : Nat → Int32) (a6 : Nat → Int32) (v1 : Value) (v4 : Value) (v7 : Value) (v8 : Value) (v9 : Value) (v10 : Value) (v11 : Value) (v12 : Value) (v13 : Value) (v14 : Value) (v15 : Value) (v16 : Value) (r : Nat) (p1 : Int32) (tb : Nat) (nz : Nat) (hr9 : r < 16) (h1tb : 1 ≤ tb) (h2tb : tb ≤ 2048) (h3tb : ∃ j : Nat, tb = 2 ^ j) (htb : a6 r = nI tb) (hs9 : a3 r = nI nz) (hz9 : nz ≤ 1000) : Met l yX8_inBin wsX8_inBin ({ frames := 2, cells := 0, slots := 0, locals := 80 }) (va_Pc [.ref h0, .int (nI r), .int p1] (pk_Pre (dC, dI) [(h0, .inr (8, [.int th, v1, .ref q2, .ref q3, v4, .ref q5, .ref q6, v7, v8, v9, v10, v11, v12, v13, v14, v15, v16])), (q2, .inl (c2, 67200, .inl a2)), (q3, .inl (c3, 16, .inl a3)), (q5, .inl (c5, 16, .inl a5)), (q6, .inl (c6, 16, .inl a6))] [(c2, .int), (c3, .int), (c5, .int), (c6, .int)] sz)) (va_Qi (fun (x : Int32) (_ : Unit) => ∃ b : Nat, b ≤ nz ∧ x = nI b) (fun (_ : Unit) (t : State) => va_P (dC, dI) vwCl [(h0, .inr (8, [.int th, v1, .ref q2, .ref q3, v4, .ref q5, .ref q6, v7, v8, v9, v10, v11, v12, v13, v14, v15, v16])), (q2, .inl (c2, 67200, .inl a2)), (q3, .inl (c3, 16, .inl a3)), (q5, .inl (c5, 16, .inl a5)), (q6, .inl (c6, 16, .inl a6))] t.heap ∧ va_K (dC, dI) vwCl [(c2, .int), (c3, .int), (c5, .int), (c6, .int)] t ∧ va_D (va_A [(h0, .inr (8, [.int th, v1, .ref q2, .ref q3, v4, .ref q5, .ref q6, v7, v8, v9, v10, v11, v12, v13, v14, v15, v16])), (q2, .inl (c2, 67200, .inl a2)), (q3, .inl (c3, 16, .inl a3)), (q5, .inl (c5, 16, .inl a5)), (q6, .inl (c6, 16, .inl a6))] sz) [(h0, .inr (8, [.int th, v1, .ref q2, .ref q3, v4, .ref q5, .ref q6, v7, v8, v9, v10, v11, v12, v13, v14, v15, v16])), (q2, .inl (c2, 67200, .inl a2)), (q3, .inl (c3, 16, .inl a3)), (q5, .inl (c5, 16, .inl a5)), (q6, .inl (c6, 16, .inl a6))]) (va_A [(h0, .inr (8, [.int th, v1, .ref q2, .ref q3, v4, .ref q5, .ref q6, v7, v8, v9, v10, v11, v12, v13, v14, v15, v16])), (q2, .inl (c2, 67200, .inl a2)), (q3, .inl (c3, 16, .inl a3)), (q5, .inl (c5, 16, .inl a5)), (q6, .inl (c6, 16, .inl a6))] sz)) 0 0 (va_A [(h0, .inr (8, [.int th, v1, .ref q2, .ref q3, v4, .ref q5, .ref q6, v7, v8, v9, v10, v11, v12, v13, v14, v15, v16])), (q2, .inl (c2, 67200, .inl a2)), (q3, .inl (c3, 16, .inl a3)), (q5, .inl (c5, 16, .inl a5)), (q6, .inl (c6, 16, .inl a6))] sz) := by
  refine Met.ofW (cc := cX8_inBin) (maxL := 5) (ret := (some .int)) (by decide) rfl ?_
  intro p e s m args below meth c s₁ B hml hv
  obtain ⟨rfl, hsz, hP, hK, hD0⟩ := hv
  have hx := B.exec
  have hb := B.bytes
  have hr := B.returns
  have hts := atoms_spec (ws := wsX8_inBin) B.pre
  have hown : s.vm.findClass RX8 = some m.cls := findClass_of_methodNamed B.named
  have hlocks := B.notSynchronized
  subst hsz
  have hD := hD0.self (sz := s.heap.size)
  generalize hAe : va_A [(h0, .inr (8, [.int th, v1, .ref q2, .ref q3, v4, .ref q5, .ref q6, v7, v8, v9, v10, v11, v12, v13, v14, v15, v16])), (q2, .inl (c2, 67200, .inl a2)), (q3, .inl (c3, 16, .inl a3)), (q5, .inl (c5, 16, .inl a5)), (q6, .inl (c6, 16, .inl a6))] s.heap.size = A at hD ⊢
  have hA : ∀ q : Nat, s.heap.size ≤ q → A q := fun q h => by rw [← hAe]; exact Or.inr h
  have hS : va_S A s.heap s.heap [] := va_S.rf
  have hP : va_P (dC, dI) vwCl [(h0, .inr (8, [.int th, v1, .ref q2, .ref q3, v4, .ref q5, .ref q6, v7, v8, v9, v10, v11, v12, v13, v14, v15, v16])), (q2, .inl (c2, 67200, .inl a2)), (q3, .inl (c3, 16, .inl a3)), (q5, .inl (c5, 16, .inl a5)), (q6, .inl (c6, 16, .inl a6))] s.heap := hP
  have hl := lv_entry ([.ref h0, .int (nI r), .int p1]) (n := 5) (Nat.le_of_ble_eq_true rfl)
  rw [lg_entry_eq]
  generalize (lg_sl ([.ref h0, .int (nI r), .int p1]) ++ List.replicate (5 - (lg_sl ([.ref h0, .int (nI r), .int p1])).length) Slot.unset).toArray = ls at hl ⊢
  have hl : lv_has ls 5 [(0, .ref h0), (1, .int (nI r)), (2, .int p1)] := hl
  have hw0_ := hts (.fieldLink RX8 17 "KeyAtlasModel" "size" "[I") (List.mem_of_getElem? (l := wsX8_inBin) (i := 1) rfl)
  have hi0_ : ∀ w ∈ u_ws RX8 TX8 17, w ∈ wsX8_inBin := fun w h => List.mem_cons_of_mem _ (List.mem_append_right _ h)
  refine lv_iconst (v := 0) hx hb dX8_inBin_0 (by decide) ?_
  refine lv_istore_n (lv' := [(3, .int 0), (0, .ref h0), (1, .int (nI r)), (2, .int p1)]) hx hb dX8_inBin_1 rfl hl (by decide) rfl (fun ls hl => ?_)
  refine lv_iconst (v := 0) hx hb dX8_inBin_2 (by decide) ?_
  refine lv_istore (lv' := [(4, .int 0), (3, .int 0), (0, .ref h0), (1, .int (nI r)), (2, .int p1)]) hx hb dX8_inBin_3 hl (by decide) rfl (fun ls hl => ?_)
  obtain ⟨H, hH9⟩ : ∃ H : Heap, H = s.heap := ⟨_, rfl⟩
  obtain ⟨locs, hlo9⟩ : ∃ z : List Loc, z = [] := ⟨_, rfl⟩
  refine tx_hv hH9 hlo9 ?_
  have hP : va_P (dC, dI) vwCl [(h0, .inr (8, [.int th, v1, .ref q2, .ref q3, v4, .ref q5, .ref q6, v7, v8, v9, v10, v11, v12, v13, v14, v15, v16])), (q2, .inl (c2, 67200, .inl a2)), (q3, .inl (c3, 16, .inl a3)), (q5, .inl (c5, 16, .inl a5)), (q6, .inl (c6, 16, .inl a6))] H := by rw [hH9]; exact hP
  have hS : va_S A s.heap H locs := by rw [hH9, hlo9]; exact hS
  clear hH9 hlo9
  obtain ⟨i, es_i⟩ : ∃ z : Nat, z = 0 := ⟨_, rfl⟩
  obtain ⟨x9, ex9⟩ : ∃ y : Int32, y = nI i := ⟨_, rfl⟩
  obtain ⟨e9, es_e9⟩ : ∃ z : Nat, z = 0 := ⟨_, rfl⟩
  obtain ⟨y9, ey9⟩ : ∃ y : Int32, y = nI e9 := ⟨_, rfl⟩
  obtain ⟨n9, en9⟩ : ∃ n : Nat, n = nz + 1 := ⟨_, rfl⟩
  replace hl : lv_has ls 5 [(4, .int x9), (3, .int y9), (0, .ref h0), (1, .int (nI r)), (2, .int p1)] := by subst ex9; subst es_i; subst ey9; subst es_e9; exact hl
  have hi9 : i ≤ nz := by subst ex9; subst es_i; subst ey9; subst es_e9; subst en9; exact Nat.zero_le _
  have hn9 : nz + 1 ≤ i + n9 := by subst ex9; subst es_i; subst ey9; subst es_e9; subst en9; exact by omega
  have hv9 : e9 ≤ i := by subst ex9; subst es_i; subst ey9; subst es_e9; subst en9; exact Nat.le_refl _
  clear en9 es_i es_e9
  induction n9 generalizing i x9 e9 y9 ls H locs with
  | zero => exact absurd hn9 (by omega)
  | succ n9 ih =>
    subst ex9
    subst ey9
    refine lv_iload hx hb dX8_inBin_5 (lv_at hl 0 rfl) ?_
    refine lv_aload_n hx hb dX8_inBin_7 rfl (lv_at hl 2 rfl) ?_
    refine va_get (D := (dC, dI)) (ci := 8) (v := .ref q3) (C := RX8) (T := TX8) (N := 17) hx hb hts hi0_ hown hK hP 0 rfl rfl 3 (by decide) hw0_ (fun _ h9 => h9) rfl dX8_inBin_8 ?_
    refine lv_iload_n hx hb dX8_inBin_11 rfl (lv_at hl 3 rfl) ?_
    refine va_iald (i := nI r) hx hb hK hP 2 1 rfl rfl (vp_in_nI (by omega) (by omega)) dX8_inBin_12 ?_
    refine W.eq (g2 := F0 m 13 ls [.int (a3 r), .int (nI i)]) (by rw [nI_clamp (by omega)]) ?_
    refine W.eq (g2 := F0 m 13 ls [.int (nI nz), .int (nI i)]) (by rw [hs9]) ?_
    refine lv_icmp_ge (tgt := 46) hx hb dX8_inBin_13 (by decide) (fun c_1 => ?_) (fun c_1 => ?_)
    ·
      have ic_1 : ((nz : Nat) : Int) ≤ ((i : Nat) : Int) := tx_le (nI_toInt (by omega)) (nI_toInt (by omega)) c_1
      refine lv_iload_n hx hb dX8_inBin_46 rfl (lv_at hl 1 rfl) ?_
      have hP9 := hP.sub (ws' := [(h0, .inr (8, [.int th, v1, .ref q2, .ref q3, v4, .ref q5, .ref q6, v7, v8, v9, v10, v11, v12, v13, v14, v15, v16])), (q2, .inl (c2, 67200, .inl a2)), (q3, .inl (c3, 16, .inl a3)), (q5, .inl (c5, 16, .inl a5)), (q6, .inl (c6, 16, .inl a6))]) [0, 1, 2, 3, 4] rfl
      have hD9 := hD.sub (ws' := [(h0, .inr (8, [.int th, v1, .ref q2, .ref q3, v4, .ref q5, .ref q6, v7, v8, v9, v10, v11, v12, v13, v14, v15, v16])), (q2, .inl (c2, 67200, .inl a2)), (q3, .inl (c3, 16, .inl a3)), (q5, .inl (c5, 16, .inl a5)), (q6, .inl (c6, 16, .inl a6))]) [0, 1, 2, 3, 4] (by decide) rfl
      have hK9 := hK.sub (tys' := [(c2, .int), (c3, .int), (c5, .int), (c6, .int)]) [0, 1, 2, 3] rfl
      refine W.widen (k := 0) (n := 0) (Nat.le_of_ble_eq_true rfl) (Nat.le_of_ble_eq_true rfl) ?_
      exact W.iret (v := nI e9) hx hb hr (fun t ht hW => ⟨⟨nI e9, (), rfl, ⟨e9, by omega, rfl⟩, by rw [ht]; exact hP9, va_K.moved hW.alike hK9, hD9⟩, hS.F ht⟩) hS.2.2 dX8_inBin_47
    ·
      have ic_1 : ((i : Nat) : Int) < ((nz : Nat) : Int) := tx_nle (nI_toInt (by omega)) (nI_toInt (by omega)) c_1
      refine lv_iload_n hx hb dX8_inBin_16 rfl (lv_at hl 1 rfl) ?_
      refine lv_aload_n hx hb dX8_inBin_17 rfl (lv_at hl 2 rfl) ?_
      refine lv_iload_n hx hb dX8_inBin_18 rfl (lv_at hl 3 rfl) ?_
      refine lv_aload_n hx hb dX8_inBin_19 rfl (lv_at hl 2 rfl) ?_
      refine lv_iload_n hx hb dX8_inBin_20 rfl (lv_at hl 3 rfl) ?_
      refine lv_iload hx hb dX8_inBin_21 (lv_at hl 0 rfl) ?_
      have hPc := hP.sub (ws' := [(h0, .inr (8, [.int th, v1, .ref q2, .ref q3, v4, .ref q5, .ref q6, v7, v8, v9, v10, v11, v12, v13, v14, v15, v16])), (q2, .inl (c2, 67200, .inl a2))]) [0, 1] rfl
      have hDc := hD.sub (ws' := [(h0, .inr (8, [.int th, v1, .ref q2, .ref q3, v4, .ref q5, .ref q6, v7, v8, v9, v10, v11, v12, v13, v14, v15, v16])), (q2, .inl (c2, 67200, .inl a2))]) [0, 1] (by decide) rfl
      have hKc := hK.sub (tys' := [(c2, .int)]) [0] rfl
      have hFc := va_free (wc := [(h0, .inr (8, [.int th, v1, .ref q2, .ref q3, v4, .ref q5, .ref q6, v7, v8, v9, v10, v11, v12, v13, v14, v15, v16])), (q2, .inl (c2, 67200, .inl a2))]) hD hS hA [0, 1] rfl
      refine va_calli (va_runV (As := [.int (nI r), .int (nI i)]) (rest := [.int (nI r), .ref h0, .int (nI e9)]) ⟨hx, hb, hml, hown, hts⟩ (c_X8_key l  dC dI H.size h0 th q2 c2 a2 v1 (.ref q3) v4 (.ref q5) (.ref q6) v7 v8 v9 v10 v11 v12 v13 v14 v15 v16 r i hr9 (by omega)) (cwV 2 hts gX8_inBin_X8_key rfl rfl rfl (by decide +kernel) ⟨(Nat.le_of_ble_eq_true rfl), (Nat.le_of_ble_eq_true rfl)⟩) ⟨pk_blind, va_recv hKc hPc (ci := 8) (q0 := 0) rfl rfl, pk_call hPc hKc hDc⟩ rfl rfl hl.1 rfl (lv_room (Nat.le_of_ble_eq_true rfl)) dX8_inBin_23 ⟨(Nat.le_of_ble_eq_true rfl), (Nat.le_of_ble_eq_true rfl)⟩) hS (fun q _ h => hFc q h) hFc (fun r_2 ur_2 t H1 locs ht hvm hw hB hz1 hk1 hS => ?_)
      try dsimp only at hw
      obtain ⟨hP1, hK1, hD1⟩ := hB
      rw [ht] at hP1
      have hK1 := va_K.moved hvm.symm hK1
      obtain ⟨hP, hD⟩ := va_join (wr := [(q3, .inl (c3, 16, .inl a3)), (q5, .inl (c5, 16, .inl a5)), (q6, .inl (c6, 16, .inl a6))]) (w1 := [(h0, .inr (8, [.int th, v1, .ref q2, .ref q3, v4, .ref q5, .ref q6, v7, v8, v9, v10, v11, v12, v13, v14, v15, v16])), (q2, .inl (c2, 67200, .inl a2))]) hP hD [0, 1] [2, 3, 4] rfl rfl (by decide) (by decide) hk1 hFc hP1 hD1
      clear hk1 hz1 ht hPc hDc hKc hFc
      generalize H1 = H at hP hS ⊢
      replace hP : va_P (dC, dI) vwCl [(q3, .inl (c3, 16, .inl a3)), (q5, .inl (c5, 16, .inl a5)), (q6, .inl (c6, 16, .inl a6)), (h0, .inr (8, [.int th, v1, .ref q2, .ref q3, v4, .ref q5, .ref q6, v7, v8, v9, v10, v11, v12, v13, v14, v15, v16])), (q2, .inl (c2, 67200, .inl a2))] H := hP
      replace hD : va_D A [(q3, .inl (c3, 16, .inl a3)), (q5, .inl (c5, 16, .inl a5)), (q6, .inl (c6, 16, .inl a6)), (h0, .inr (8, [.int th, v1, .ref q2, .ref q3, v4, .ref q5, .ref q6, v7, v8, v9, v10, v11, v12, v13, v14, v15, v16])), (q2, .inl (c2, 67200, .inl a2))] := hD
      refine W.widen (k := 0) (n := 0) (Nat.le_of_ble_eq_true rfl) (Nat.le_of_ble_eq_true rfl) ?_
      obtain rfl : r_2 = a2 (4200 * r + i) := hw
      refine W.eq (g2 := F0 m 26 ls [.int (a2 (4200 * r + i)), .int (nI r), .ref h0, .int (nI e9)]) rfl ?_
      have hPc := hP.sub (ws' := [(h0, .inr (8, [.int th, v1, .ref q2, .ref q3, v4, .ref q5, .ref q6, v7, v8, v9, v10, v11, v12, v13, v14, v15, v16])), (q5, .inl (c5, 16, .inl a5)), (q6, .inl (c6, 16, .inl a6))]) [3, 1, 2] rfl
      have hDc := hD.sub (ws' := [(h0, .inr (8, [.int th, v1, .ref q2, .ref q3, v4, .ref q5, .ref q6, v7, v8, v9, v10, v11, v12, v13, v14, v15, v16])), (q5, .inl (c5, 16, .inl a5)), (q6, .inl (c6, 16, .inl a6))]) [3, 1, 2] (by decide) rfl
      have hKc := hK.sub (tys' := [(c5, .int), (c6, .int)]) [2, 3] rfl
      have hFc := va_free (wc := [(h0, .inr (8, [.int th, v1, .ref q2, .ref q3, v4, .ref q5, .ref q6, v7, v8, v9, v10, v11, v12, v13, v14, v15, v16])), (q5, .inl (c5, 16, .inl a5)), (q6, .inl (c6, 16, .inl a6))]) hD hS hA [3, 1, 2] rfl
      refine va_calli (va_runV (As := [.int (nI r), .int (a2 (4200 * r + i))]) (rest := [.int (nI e9)]) ⟨hx, hb, hml, hown, hts⟩ (c_X8_bin l  dC dI H.size h0 th q5 q6 c5 c6 a5 a6 v1 (.ref q2) (.ref q3) v4 v7 v8 v9 v10 v11 v12 v13 v14 v15 v16 r (a2 (4200 * r + i)) tb hr9 h1tb h2tb h3tb htb) (cwV 2 hts gX8_inBin_X8_bin rfl rfl rfl (by decide +kernel) ⟨(Nat.le_of_ble_eq_true rfl), (Nat.le_of_ble_eq_true rfl)⟩) ⟨pk_blind, va_recv hKc hPc (ci := 8) (q0 := 0) rfl rfl, pk_call hPc hKc hDc⟩ rfl rfl hl.1 rfl (lv_room (Nat.le_of_ble_eq_true rfl)) dX8_inBin_26 ⟨(Nat.le_of_ble_eq_true rfl), (Nat.le_of_ble_eq_true rfl)⟩) hS (fun q _ h => hFc q h) hFc (fun r_3 ur_3 t H1 locs ht hvm hw hB hz1 hk1 hS => ?_)
      try dsimp only at hw
      have jr_3 := hw
      obtain ⟨hP1, hK1, hD1⟩ := hB
      rw [ht] at hP1
      have hK1 := va_K.moved hvm.symm hK1
      obtain ⟨hP, hD⟩ := va_join (wr := [(q3, .inl (c3, 16, .inl a3)), (q2, .inl (c2, 67200, .inl a2))]) (w1 := [(h0, .inr (8, [.int th, v1, .ref q2, .ref q3, v4, .ref q5, .ref q6, v7, v8, v9, v10, v11, v12, v13, v14, v15, v16])), (q5, .inl (c5, 16, .inl a5)), (q6, .inl (c6, 16, .inl a6))]) hP hD [3, 1, 2] [0, 4] rfl rfl (by decide) (by decide) hk1 hFc hP1 hD1
      clear hk1 hz1 ht hPc hDc hKc hFc
      generalize H1 = H at hP hS ⊢
      replace hP : va_P (dC, dI) vwCl [(q3, .inl (c3, 16, .inl a3)), (q2, .inl (c2, 67200, .inl a2)), (h0, .inr (8, [.int th, v1, .ref q2, .ref q3, v4, .ref q5, .ref q6, v7, v8, v9, v10, v11, v12, v13, v14, v15, v16])), (q5, .inl (c5, 16, .inl a5)), (q6, .inl (c6, 16, .inl a6))] H := hP
      replace hD : va_D A [(q3, .inl (c3, 16, .inl a3)), (q2, .inl (c2, 67200, .inl a2)), (h0, .inr (8, [.int th, v1, .ref q2, .ref q3, v4, .ref q5, .ref q6, v7, v8, v9, v10, v11, v12, v13, v14, v15, v16])), (q5, .inl (c5, 16, .inl a5)), (q6, .inl (c6, 16, .inl a6))] := hD
      refine W.widen (k := 0) (n := 0) (Nat.le_of_ble_eq_true rfl) (Nat.le_of_ble_eq_true rfl) ?_
      refine W.eq (g2 := F0 m 29 ls [.int r_3, .int (nI e9)]) rfl ?_
      refine lv_iload_n hx hb dX8_inBin_29 rfl (lv_at hl 4 rfl) ?_
      refine lv_icmp_ne (tgt := 37) hx hb dX8_inBin_30 (by decide) (fun c_4 => ?_) (fun c_4 => ?_)
      ·
        have ic_4 : ¬ r_3.toInt = p1.toInt := tx_ne rfl rfl c_4
        refine lv_iconst (v := 0) hx hb dX8_inBin_37 (by decide) ?_
        refine lv_iadd hx hb dX8_inBin_38 ?_
        refine lv_topi (fun z_5 ez_5 => ?_)
        obtain rfl : z_5 = nI (e9 + 0) := ez_5.trans (by rw [show (0 : Int32) = nI 0 from rfl, nI_add])
        refine lv_istore_n (lv' := [(3, .int (nI (e9 + 0))), (4, .int (nI i)), (0, .ref h0), (1, .int (nI r)), (2, .int p1)]) hx hb dX8_inBin_39 rfl hl (by decide) rfl (fun ls hl => ?_)
        refine lv_iinc (v := nI (i + 1)) (lv' := [(4, .int (nI (i + 1))), (3, .int (nI (e9 + 0))), (0, .ref h0), (1, .int (nI r)), (2, .int p1)]) hx hb dX8_inBin_40 hl (k := 1) rfl (by rw [show Int32.ofInt 1 = nI 1 from rfl, nI_add]) (by decide) rfl (fun ls hl => ?_)
        refine lv_goto (tgt := 5) hx hb dX8_inBin_43 (by decide) ?_
        exact ih (i := i + 1) (x9 := nI (i + 1)) (ex9 := rfl) (e9 := e9 + 0) (y9 := nI (e9 + 0)) (ey9 := rfl) (ls := ls) (H := H) (locs := locs) (hP := hP.sub (ws' := [(h0, .inr (8, [.int th, v1, .ref q2, .ref q3, v4, .ref q5, .ref q6, v7, v8, v9, v10, v11, v12, v13, v14, v15, v16])), (q2, .inl (c2, 67200, .inl a2)), (q3, .inl (c3, 16, .inl a3)), (q5, .inl (c5, 16, .inl a5)), (q6, .inl (c6, 16, .inl a6))]) [2, 1, 0, 3, 4] rfl) (hS := hS) (hi9 := by omega) (hn9 := by omega) (hv9 := by omega) (hl := lv_sub hl [0, 1, 2, 3, 4] rfl)
      ·
        have ic_4 : r_3.toInt = p1.toInt := tx_eq rfl rfl c_4
        refine lv_iconst (v := 1) hx hb dX8_inBin_33 (by decide) ?_
        refine lv_goto (tgt := 38) hx hb dX8_inBin_34 (by decide) ?_
        refine lv_iadd hx hb dX8_inBin_38 ?_
        refine lv_topi (fun z_6 ez_6 => ?_)
        obtain rfl : z_6 = nI (e9 + 1) := ez_6.trans (by rw [show (1 : Int32) = nI 1 from rfl, nI_add])
        refine lv_istore_n (lv' := [(3, .int (nI (e9 + 1))), (4, .int (nI i)), (0, .ref h0), (1, .int (nI r)), (2, .int p1)]) hx hb dX8_inBin_39 rfl hl (by decide) rfl (fun ls hl => ?_)
        refine lv_iinc (v := nI (i + 1)) (lv' := [(4, .int (nI (i + 1))), (3, .int (nI (e9 + 1))), (0, .ref h0), (1, .int (nI r)), (2, .int p1)]) hx hb dX8_inBin_40 hl (k := 1) rfl (by rw [show Int32.ofInt 1 = nI 1 from rfl, nI_add]) (by decide) rfl (fun ls hl => ?_)
        refine lv_goto (tgt := 5) hx hb dX8_inBin_43 (by decide) ?_
        exact ih (i := i + 1) (x9 := nI (i + 1)) (ex9 := rfl) (e9 := e9 + 1) (y9 := nI (e9 + 1)) (ey9 := rfl) (ls := ls) (H := H) (locs := locs) (hP := hP.sub (ws' := [(h0, .inr (8, [.int th, v1, .ref q2, .ref q3, v4, .ref q5, .ref q6, v7, v8, v9, v10, v11, v12, v13, v14, v15, v16])), (q2, .inl (c2, 67200, .inl a2)), (q3, .inl (c3, 16, .inl a3)), (q5, .inl (c5, 16, .inl a5)), (q6, .inl (c6, 16, .inl a6))]) [2, 1, 0, 3, 4] rfl) (hS := hS) (hi9 := by omega) (hn9 := by omega) (hv9 := by omega) (hl := lv_sub hl [0, 1, 2, 3, 4] rfl)
set_option maxHeartbeats 4000000 in
set_option maxRecDepth 100000 in
/-- a key comes -/
theorem c_X8_comes (l : Launch) (dC : Nat → ClassId) (dI : Nat → Nat → Nat) (sz : Nat) (h0 : Nat) (th : Int32) (q2 : Nat) (q3 : Nat) (q7 : Nat) (c2 : ClassId) (c3 : ClassId) (c7 : ClassId) (a2 : Nat → Int32) (a3 : Nat → Int32) (a7 : Nat → Int32) (v1 : Value) (v4 : Value) (v5 : Value) (v6 : Value) (v8 : Value) (v9 : Value) (v10 : Value) (v11 : Value) (v12 : Value) (v13 : Value) (v14 : Value) (v15 : Value) (v16 : Value) (r : Nat) (k9 : Nat) (p2 : Int32) (p3 : Int32) (nz : Nat) (hr9 : r < 16) (hk9 : k9 ≤ nz) (hs9 : a3 r = nI nz) (hz9 : nz < 1000) : Met l yX8_comes wsX8_comes ({ frames := 1, cells := 0, slots := 0, locals := 40 }) (va_Pc [.ref h0, .int (nI r), .int (nI k9), .int p2, .int p3] (pk_Pre (dC, dI) [(h0, .inr (8, [.int th, v1, .ref q2, .ref q3, v4, v5, v6, .ref q7, v8, v9, v10, v11, v12, v13, v14, v15, v16])), (q2, .inl (c2, 67200, .inl a2)), (q3, .inl (c3, 16, .inl a3)), (q7, .inl (c7, 16, .inl a7))] [(c2, .int), (c3, .int), (c7, .int)] sz)) (va_Qv (fun (b2 : Nat → Int32) => outR a2 b2 r) (fun (b2 : Nat → Int32) (t : State) => va_P (dC, dI) vwCl [(h0, .inr (8, [.int th, v1, .ref q2, .ref q3, v4, v5, v6, .ref q7, v8, v9, v10, v11, v12, v13, v14, v15, v16])), (q2, .inl (c2, 67200, .inl b2)), (q3, .inl (c3, 16, .inl (upd a3 r (nI (nz + 1))))), (q7, .inl (c7, 16, .inl (upd a7 r (a7 r + 1))))] t.heap ∧ va_K (dC, dI) vwCl [(c2, .int), (c3, .int), (c7, .int)] t ∧ va_D (va_A [(h0, .inr (8, [.int th, v1, .ref q2, .ref q3, v4, v5, v6, .ref q7, v8, v9, v10, v11, v12, v13, v14, v15, v16])), (q2, .inl (c2, 67200, .inl a2)), (q3, .inl (c3, 16, .inl a3)), (q7, .inl (c7, 16, .inl a7))] sz) [(h0, .inr (8, [.int th, v1, .ref q2, .ref q3, v4, v5, v6, .ref q7, v8, v9, v10, v11, v12, v13, v14, v15, v16])), (q2, .inl (c2, 67200, .inl b2)), (q3, .inl (c3, 16, .inl (upd a3 r (nI (nz + 1))))), (q7, .inl (c7, 16, .inl (upd a7 r (a7 r + 1))))]) (va_A [(h0, .inr (8, [.int th, v1, .ref q2, .ref q3, v4, v5, v6, .ref q7, v8, v9, v10, v11, v12, v13, v14, v15, v16])), (q2, .inl (c2, 67200, .inl a2)), (q3, .inl (c3, 16, .inl a3)), (q7, .inl (c7, 16, .inl a7))] sz)) 0 0 (va_A [(h0, .inr (8, [.int th, v1, .ref q2, .ref q3, v4, v5, v6, .ref q7, v8, v9, v10, v11, v12, v13, v14, v15, v16])), (q2, .inl (c2, 67200, .inl a2)), (q3, .inl (c3, 16, .inl a3)), (q7, .inl (c7, 16, .inl a7))] sz) := by
  refine Met.ofW (cc := cX8_comes) (maxL := 6) (ret := none) (by decide) rfl ?_
  intro p e s m args below meth c s₁ B hml hv
  obtain ⟨rfl, hsz, hP, hK, hD0⟩ := hv
  have hx := B.exec
  have hb := B.bytes
  have hr := B.returns
  have hts := atoms_spec (ws := wsX8_comes) B.pre
  have hown : s.vm.findClass RX8 = some m.cls := findClass_of_methodNamed B.named
  have hlocks := B.notSynchronized
  subst hsz
  have hD := hD0.self (sz := s.heap.size)
  generalize hAe : va_A [(h0, .inr (8, [.int th, v1, .ref q2, .ref q3, v4, v5, v6, .ref q7, v8, v9, v10, v11, v12, v13, v14, v15, v16])), (q2, .inl (c2, 67200, .inl a2)), (q3, .inl (c3, 16, .inl a3)), (q7, .inl (c7, 16, .inl a7))] s.heap.size = A at hD ⊢
  have hA : ∀ q : Nat, s.heap.size ≤ q → A q := fun q h => by rw [← hAe]; exact Or.inr h
  have hS : va_S A s.heap s.heap [] := va_S.rf
  have hP : va_P (dC, dI) vwCl [(h0, .inr (8, [.int th, v1, .ref q2, .ref q3, v4, v5, v6, .ref q7, v8, v9, v10, v11, v12, v13, v14, v15, v16])), (q2, .inl (c2, 67200, .inl a2)), (q3, .inl (c3, 16, .inl a3)), (q7, .inl (c7, 16, .inl a7))] s.heap := hP
  have hl := lv_entry ([.ref h0, .int (nI r), .int (nI k9), .int p2, .int p3]) (n := 6) (Nat.le_of_ble_eq_true rfl)
  rw [lg_entry_eq]
  generalize (lg_sl ([.ref h0, .int (nI r), .int (nI k9), .int p2, .int p3]) ++ List.replicate (6 - (lg_sl ([.ref h0, .int (nI r), .int (nI k9), .int p2, .int p3])).length) Slot.unset).toArray = ls at hl ⊢
  have hl : lv_has ls 6 [(0, .ref h0), (1, .int (nI r)), (2, .int (nI k9)), (3, .int p2), (4, .int p3)] := hl
  have hw0_ := hts (.fieldLink RX8 17 "KeyAtlasModel" "size" "[I") (List.mem_of_getElem? (l := wsX8_comes) (i := 1) rfl)
  have hw1_ := hts (.fieldLink RX8 29 "KeyAtlasModel" "changes" "[I") (List.mem_of_getElem? (l := wsX8_comes) (i := 2) rfl)
  have hi0_ : ∀ w ∈ u_ws RX8 TX8 17, w ∈ wsX8_comes := fun w h => List.mem_cons_of_mem _ (List.mem_append_right _ h)
  refine lv_aload_n hx hb dX8_comes_0 rfl (lv_at hl 0 rfl) ?_
  refine va_get (D := (dC, dI)) (ci := 8) (v := .ref q3) (C := RX8) (T := TX8) (N := 17) hx hb hts hi0_ hown hK hP 0 rfl rfl 3 (by decide) hw0_ (fun _ h9 => h9) rfl dX8_comes_1 ?_
  refine lv_iload_n hx hb dX8_comes_4 rfl (lv_at hl 1 rfl) ?_
  refine va_iald (i := nI r) hx hb hK hP 2 1 rfl rfl (vp_in_nI (by omega) (by omega)) dX8_comes_5 ?_
  refine W.eq (g2 := F0 m 6 ls [.int (a3 r)]) (by rw [nI_clamp (by omega)]) ?_
  refine W.eq (g2 := F0 m 6 ls [.int (nI nz)]) (by rw [hs9]) ?_
  refine lv_istore (lv' := [(5, .int (nI nz)), (0, .ref h0), (1, .int (nI r)), (2, .int (nI k9)), (3, .int p2), (4, .int p3)]) hx hb dX8_comes_6 hl (by decide) rfl (fun ls hl => ?_)
  obtain ⟨H, hH9⟩ : ∃ H : Heap, H = s.heap := ⟨_, rfl⟩
  obtain ⟨locs, hlo9⟩ : ∃ z : List Loc, z = [] := ⟨_, rfl⟩
  refine tx_hv hH9 hlo9 ?_
  have hP : va_P (dC, dI) vwCl [(h0, .inr (8, [.int th, v1, .ref q2, .ref q3, v4, v5, v6, .ref q7, v8, v9, v10, v11, v12, v13, v14, v15, v16])), (q2, .inl (c2, 67200, .inl a2)), (q3, .inl (c3, 16, .inl a3)), (q7, .inl (c7, 16, .inl a7))] H := by rw [hH9]; exact hP
  have hS : va_S A s.heap H locs := by rw [hH9, hlo9]; exact hS
  clear hH9 hlo9
  obtain ⟨i, es_i⟩ : ∃ z : Nat, z = nz := ⟨_, rfl⟩
  obtain ⟨x9, ex9⟩ : ∃ y : Int32, y = nI i := ⟨_, rfl⟩
  obtain ⟨f9, ef_f9⟩ : ∃ z : Nat → Int32, z = a2 := ⟨_, rfl⟩
  obtain ⟨n9, en9⟩ : ∃ n : Nat, n = nz + 1 := ⟨_, rfl⟩
  replace hl : lv_has ls 6 [(5, .int x9), (0, .ref h0), (1, .int (nI r)), (2, .int (nI k9)), (3, .int p2), (4, .int p3)] := by subst ex9; subst es_i; exact hl
  replace hP : va_P (dC, dI) vwCl [(h0, .inr (8, [.int th, v1, .ref q2, .ref q3, v4, v5, v6, .ref q7, v8, v9, v10, v11, v12, v13, v14, v15, v16])), (q2, .inl (c2, 67200, .inl f9)), (q3, .inl (c3, 16, .inl a3)), (q7, .inl (c7, 16, .inl a7))] H := by subst ef_f9; exact hP
  replace hD : va_D A [(h0, .inr (8, [.int th, v1, .ref q2, .ref q3, v4, v5, v6, .ref q7, v8, v9, v10, v11, v12, v13, v14, v15, v16])), (q2, .inl (c2, 67200, .inl f9)), (q3, .inl (c3, 16, .inl a3)), (q7, .inl (c7, 16, .inl a7))] := by subst ef_f9; exact hD
  have hi9 : i ≤ nz := by subst ex9; subst es_i; subst ef_f9; subst en9; exact Nat.le_refl _
  have hn9 : i + 1 ≤ n9 := by subst ex9; subst es_i; subst ef_f9; subst en9; exact Nat.le_refl _
  have hv9 : outR a2 f9 r := by subst ex9; subst es_i; subst ef_f9; subst en9; exact outR_rf
  clear en9 es_i ef_f9
  induction n9 generalizing i x9 ls H locs f9 with
  | zero => exact absurd hn9 (by omega)
  | succ n9 ih =>
    subst ex9
    refine lv_iload hx hb dX8_comes_8 (lv_at hl 0 rfl) ?_
    refine lv_iload_n hx hb dX8_comes_10 rfl (lv_at hl 3 rfl) ?_
    refine lv_icmp_le (tgt := 45) hx hb dX8_comes_11 (by decide) (fun c_1 => ?_) (fun c_1 => ?_)
    ·
      have ic_1 : ((i : Nat) : Int) ≤ ((k9 : Nat) : Int) := tx_le (nI_toInt (by omega)) (nI_toInt (by omega)) c_1
      refine lv_aload_n hx hb dX8_comes_45 rfl (lv_at hl 1 rfl) ?_
      refine lv_iload_n hx hb dX8_comes_46 rfl (lv_at hl 2 rfl) ?_
      refine lv_iload_n hx hb dX8_comes_47 rfl (lv_at hl 3 rfl) ?_
      refine lv_iload_n hx hb dX8_comes_48 rfl (lv_at hl 4 rfl) ?_
      refine lv_iload hx hb dX8_comes_49 (lv_at hl 5 rfl) ?_
      have hPc := hP.sub (ws' := [(h0, .inr (8, [.int th, v1, .ref q2, .ref q3, v4, v5, v6, .ref q7, v8, v9, v10, v11, v12, v13, v14, v15, v16])), (q2, .inl (c2, 67200, .inl f9))]) [0, 1] rfl
      have hDc := hD.sub (ws' := [(h0, .inr (8, [.int th, v1, .ref q2, .ref q3, v4, v5, v6, .ref q7, v8, v9, v10, v11, v12, v13, v14, v15, v16])), (q2, .inl (c2, 67200, .inl f9))]) [0, 1] (by decide) rfl
      have hKc := hK.sub (tys' := [(c2, .int)]) [0] rfl
      have hFc := va_free (wc := [(h0, .inr (8, [.int th, v1, .ref q2, .ref q3, v4, v5, v6, .ref q7, v8, v9, v10, v11, v12, v13, v14, v15, v16])), (q2, .inl (c2, 67200, .inl f9))]) hD hS hA [0, 1] rfl
      refine va_callv (va_runV (As := [.int (nI r), .int (nI k9), .int p2, .int p3]) (rest := []) ⟨hx, hb, hml, hown, hts⟩ (c_X8_set l  dC dI H.size h0 th q2 c2 f9 v1 (.ref q3) v4 v5 v6 (.ref q7) v8 v9 v10 v11 v12 v13 v14 v15 v16 r k9 p2 p3 hr9 (by omega)) (cwV 4 hts gX8_comes_X8_set rfl rfl rfl (by decide +kernel) ⟨(Nat.le_of_ble_eq_true rfl), (Nat.le_of_ble_eq_true rfl)⟩) ⟨pk_blind, va_recv hKc hPc (ci := 8) (q0 := 0) rfl rfl, pk_call hPc hKc hDc⟩ rfl rfl hl.1 rfl (lv_room (Nat.le_of_ble_eq_true rfl)) dX8_comes_51 ⟨(Nat.le_of_ble_eq_true rfl), (Nat.le_of_ble_eq_true rfl)⟩) hS (fun q _ h => hFc q h) hFc (fun ur_2 t H1 locs ht hvm hw hB hz1 hk1 hS => ?_)
      try dsimp only at hw
      have jr_2 := hw
      obtain ⟨hP1, hK1, hD1⟩ := hB
      rw [ht] at hP1
      have hK1 := va_K.moved hvm.symm hK1
      obtain ⟨hP, hD⟩ := va_join (wr := [(q3, .inl (c3, 16, .inl a3)), (q7, .inl (c7, 16, .inl a7))]) (w1 := [(h0, .inr (8, [.int th, v1, .ref q2, .ref q3, v4, v5, v6, .ref q7, v8, v9, v10, v11, v12, v13, v14, v15, v16])), (q2, .inl (c2, 67200, .inl (upd (upd f9 (4200 * r + k9) p2) (4200 * r + 1000 + k9) p3)))]) hP hD [0, 1] [2, 3] rfl rfl (by decide) (by decide) hk1 hFc hP1 hD1
      clear hk1 hz1 ht hPc hDc hKc hFc
      generalize H1 = H at hP hS ⊢
      replace hP : va_P (dC, dI) vwCl [(q3, .inl (c3, 16, .inl a3)), (q7, .inl (c7, 16, .inl a7)), (h0, .inr (8, [.int th, v1, .ref q2, .ref q3, v4, v5, v6, .ref q7, v8, v9, v10, v11, v12, v13, v14, v15, v16])), (q2, .inl (c2, 67200, .inl (upd (upd f9 (4200 * r + k9) p2) (4200 * r + 1000 + k9) p3)))] H := hP
      replace hD : va_D A [(q3, .inl (c3, 16, .inl a3)), (q7, .inl (c7, 16, .inl a7)), (h0, .inr (8, [.int th, v1, .ref q2, .ref q3, v4, v5, v6, .ref q7, v8, v9, v10, v11, v12, v13, v14, v15, v16])), (q2, .inl (c2, 67200, .inl (upd (upd f9 (4200 * r + k9) p2) (4200 * r + 1000 + k9) p3)))] := hD
      refine W.widen (k := 0) (n := 0) (Nat.le_of_ble_eq_true rfl) (Nat.le_of_ble_eq_true rfl) ?_
      refine W.eq (g2 := F0 m 54 ls []) rfl ?_
      refine lv_aload_n hx hb dX8_comes_54 rfl (lv_at hl 1 rfl) ?_
      refine va_get (D := (dC, dI)) (ci := 8) (v := .ref q3) (C := RX8) (T := TX8) (N := 17) hx hb hts hi0_ hown hK hP 2 rfl rfl 3 (by decide) hw0_ (fun _ h9 => h9) rfl dX8_comes_55 ?_
      refine lv_iload_n hx hb dX8_comes_58 rfl (lv_at hl 2 rfl) ?_
      refine lv_dup2_11 hx hb dX8_comes_59 rfl rfl ?_
      refine va_iald (i := nI r) hx hb hK hP 0 1 rfl rfl (vp_in_nI (by omega) (by omega)) dX8_comes_60 ?_
      refine W.eq (g2 := F0 m 61 ls [.int (a3 r), .int (nI r), .ref q3]) (by rw [nI_clamp (by omega)]) ?_
      refine W.eq (g2 := F0 m 61 ls [.int (nI nz), .int (nI r), .ref q3]) (by rw [hs9]) ?_
      refine lv_iconst (v := 1) hx hb dX8_comes_61 (by decide) ?_
      refine lv_iadd hx hb dX8_comes_62 ?_
      refine lv_topi (fun z_3 ez_3 => ?_)
      obtain rfl : z_3 = nI (nz + 1) := ez_3.trans (by rw [show (1 : Int32) = nI 1 from rfl, nI_add])
      refine va_iast (i := nI r) hx hb hK hP hD hS 0 1 rfl rfl (vp_in_nI (by omega) (by omega)) dX8_comes_63 (fun H locs hP hD hS => ?_)
      rw [nI_clamp (by omega)] at hP hD
      replace hP : va_P (dC, dI) vwCl [(q3, .inl (c3, 16, .inl (upd a3 r (nI (nz + 1))))), (q7, .inl (c7, 16, .inl a7)), (h0, .inr (8, [.int th, v1, .ref q2, .ref q3, v4, v5, v6, .ref q7, v8, v9, v10, v11, v12, v13, v14, v15, v16])), (q2, .inl (c2, 67200, .inl (upd (upd f9 (4200 * r + k9) p2) (4200 * r + 1000 + k9) p3)))] H := hP
      replace hD : va_D A [(q3, .inl (c3, 16, .inl (upd a3 r (nI (nz + 1))))), (q7, .inl (c7, 16, .inl a7)), (h0, .inr (8, [.int th, v1, .ref q2, .ref q3, v4, v5, v6, .ref q7, v8, v9, v10, v11, v12, v13, v14, v15, v16])), (q2, .inl (c2, 67200, .inl (upd (upd f9 (4200 * r + k9) p2) (4200 * r + 1000 + k9) p3)))] := hD
      refine lv_aload_n hx hb dX8_comes_64 rfl (lv_at hl 1 rfl) ?_
      refine va_get (D := (dC, dI)) (ci := 8) (v := .ref q7) (C := RX8) (T := TX8) (N := 17) hx hb hts hi0_ hown hK hP 2 rfl rfl 7 (by decide) hw1_ (fun _ h9 => h9) rfl dX8_comes_65 ?_
      refine lv_iload_n hx hb dX8_comes_68 rfl (lv_at hl 2 rfl) ?_
      refine lv_dup2_11 hx hb dX8_comes_69 rfl rfl ?_
      refine va_iald (i := nI r) hx hb hK hP 1 2 rfl rfl (vp_in_nI (by omega) (by omega)) dX8_comes_70 ?_
      refine W.eq (g2 := F0 m 71 ls [.int (a7 r), .int (nI r), .ref q7]) (by rw [nI_clamp (by omega)]) ?_
      refine lv_iconst (v := 1) hx hb dX8_comes_71 (by decide) ?_
      refine lv_iadd hx hb dX8_comes_72 ?_
      refine va_iast (i := nI r) hx hb hK hP hD hS 1 2 rfl rfl (vp_in_nI (by omega) (by omega)) dX8_comes_73 (fun H locs hP hD hS => ?_)
      rw [nI_clamp (by omega)] at hP hD
      replace hP : va_P (dC, dI) vwCl [(q3, .inl (c3, 16, .inl (upd a3 r (nI (nz + 1))))), (q7, .inl (c7, 16, .inl (upd a7 r ((a7 r) + 1)))), (h0, .inr (8, [.int th, v1, .ref q2, .ref q3, v4, v5, v6, .ref q7, v8, v9, v10, v11, v12, v13, v14, v15, v16])), (q2, .inl (c2, 67200, .inl (upd (upd f9 (4200 * r + k9) p2) (4200 * r + 1000 + k9) p3)))] H := hP
      replace hD : va_D A [(q3, .inl (c3, 16, .inl (upd a3 r (nI (nz + 1))))), (q7, .inl (c7, 16, .inl (upd a7 r ((a7 r) + 1)))), (h0, .inr (8, [.int th, v1, .ref q2, .ref q3, v4, v5, v6, .ref q7, v8, v9, v10, v11, v12, v13, v14, v15, v16])), (q2, .inl (c2, 67200, .inl (upd (upd f9 (4200 * r + k9) p2) (4200 * r + 1000 + k9) p3)))] := hD
      have hP9 := hP.sub (ws' := [(h0, .inr (8, [.int th, v1, .ref q2, .ref q3, v4, v5, v6, .ref q7, v8, v9, v10, v11, v12, v13, v14, v15, v16])), (q2, .inl (c2, 67200, .inl (upd (upd f9 (4200 * r + k9) p2) (4200 * r + 1000 + k9) p3))), (q3, .inl (c3, 16, .inl (upd a3 r (nI (nz + 1))))), (q7, .inl (c7, 16, .inl (upd a7 r ((a7 r) + 1))))]) [2, 3, 0, 1] rfl
      have hD9 := hD.sub (ws' := [(h0, .inr (8, [.int th, v1, .ref q2, .ref q3, v4, v5, v6, .ref q7, v8, v9, v10, v11, v12, v13, v14, v15, v16])), (q2, .inl (c2, 67200, .inl (upd (upd f9 (4200 * r + k9) p2) (4200 * r + 1000 + k9) p3))), (q3, .inl (c3, 16, .inl (upd a3 r (nI (nz + 1))))), (q7, .inl (c7, 16, .inl (upd a7 r ((a7 r) + 1))))]) [2, 3, 0, 1] (by decide) rfl
      have hK9 := hK.sub (tys' := [(c2, .int), (c3, .int), (c7, .int)]) [0, 1, 2] rfl
      refine W.widen (k := 0) (n := 0) (Nat.le_of_ble_eq_true rfl) (Nat.le_of_ble_eq_true rfl) ?_
      exact W.vret hx hb hr (fun t ht hW => ⟨⟨(upd (upd f9 (4200 * r + k9) p2) (4200 * r + 1000 + k9) p3), rfl, outR_up' (outR_up hv9 (by omega)) (k := 1000 + k9) (by omega) (by omega), by rw [ht]; exact hP9, va_K.moved hW.alike hK9, hD9⟩, hS.F ht⟩) hS.2.2 dX8_comes_74
    ·
      have ic_1 : ((k9 : Nat) : Int) < ((i : Nat) : Int) := tx_nle (nI_toInt (by omega)) (nI_toInt (by omega)) c_1
      refine lv_aload_n hx hb dX8_comes_14 rfl (lv_at hl 1 rfl) ?_
      refine lv_iload_n hx hb dX8_comes_15 rfl (lv_at hl 2 rfl) ?_
      refine lv_iload hx hb dX8_comes_16 (lv_at hl 0 rfl) ?_
      refine lv_aload_n hx hb dX8_comes_18 rfl (lv_at hl 1 rfl) ?_
      refine lv_iload_n hx hb dX8_comes_19 rfl (lv_at hl 2 rfl) ?_
      refine lv_iload hx hb dX8_comes_20 (lv_at hl 0 rfl) ?_
      refine lv_iconst (v := 1) hx hb dX8_comes_22 (by decide) ?_
      refine lv_isub hx hb dX8_comes_23 ?_
      refine lv_topi (fun z_4 ez_4 => ?_)
      obtain rfl : z_4 = nI (i - 1) := ez_4.trans (by rw [show (1 : Int32) = nI 1 from rfl, pk_sub (by omega)])
      have hPc := hP.sub (ws' := [(h0, .inr (8, [.int th, v1, .ref q2, .ref q3, v4, v5, v6, .ref q7, v8, v9, v10, v11, v12, v13, v14, v15, v16])), (q2, .inl (c2, 67200, .inl f9))]) [0, 1] rfl
      have hDc := hD.sub (ws' := [(h0, .inr (8, [.int th, v1, .ref q2, .ref q3, v4, v5, v6, .ref q7, v8, v9, v10, v11, v12, v13, v14, v15, v16])), (q2, .inl (c2, 67200, .inl f9))]) [0, 1] (by decide) rfl
      have hKc := hK.sub (tys' := [(c2, .int)]) [0] rfl
      have hFc := va_free (wc := [(h0, .inr (8, [.int th, v1, .ref q2, .ref q3, v4, v5, v6, .ref q7, v8, v9, v10, v11, v12, v13, v14, v15, v16])), (q2, .inl (c2, 67200, .inl f9))]) hD hS hA [0, 1] rfl
      refine va_calli (va_runV (As := [.int (nI r), .int (nI (i - 1))]) (rest := [.int (nI i), .int (nI r), .ref h0]) ⟨hx, hb, hml, hown, hts⟩ (c_X8_key l  dC dI H.size h0 th q2 c2 f9 v1 (.ref q3) v4 v5 v6 (.ref q7) v8 v9 v10 v11 v12 v13 v14 v15 v16 r (i - 1) hr9 (by omega)) (cwV 2 hts gX8_comes_X8_key rfl rfl rfl (by decide +kernel) ⟨(Nat.le_of_ble_eq_true rfl), (Nat.le_of_ble_eq_true rfl)⟩) ⟨pk_blind, va_recv hKc hPc (ci := 8) (q0 := 0) rfl rfl, pk_call hPc hKc hDc⟩ rfl rfl hl.1 rfl (lv_room (Nat.le_of_ble_eq_true rfl)) dX8_comes_24 ⟨(Nat.le_of_ble_eq_true rfl), (Nat.le_of_ble_eq_true rfl)⟩) hS (fun q _ h => hFc q h) hFc (fun r_5 ur_5 t H1 locs ht hvm hw hB hz1 hk1 hS => ?_)
      try dsimp only at hw
      obtain ⟨hP1, hK1, hD1⟩ := hB
      rw [ht] at hP1
      have hK1 := va_K.moved hvm.symm hK1
      obtain ⟨hP, hD⟩ := va_join (wr := [(q3, .inl (c3, 16, .inl a3)), (q7, .inl (c7, 16, .inl a7))]) (w1 := [(h0, .inr (8, [.int th, v1, .ref q2, .ref q3, v4, v5, v6, .ref q7, v8, v9, v10, v11, v12, v13, v14, v15, v16])), (q2, .inl (c2, 67200, .inl f9))]) hP hD [0, 1] [2, 3] rfl rfl (by decide) (by decide) hk1 hFc hP1 hD1
      clear hk1 hz1 ht hPc hDc hKc hFc
      generalize H1 = H at hP hS ⊢
      replace hP : va_P (dC, dI) vwCl [(q3, .inl (c3, 16, .inl a3)), (q7, .inl (c7, 16, .inl a7)), (h0, .inr (8, [.int th, v1, .ref q2, .ref q3, v4, v5, v6, .ref q7, v8, v9, v10, v11, v12, v13, v14, v15, v16])), (q2, .inl (c2, 67200, .inl f9))] H := hP
      replace hD : va_D A [(q3, .inl (c3, 16, .inl a3)), (q7, .inl (c7, 16, .inl a7)), (h0, .inr (8, [.int th, v1, .ref q2, .ref q3, v4, v5, v6, .ref q7, v8, v9, v10, v11, v12, v13, v14, v15, v16])), (q2, .inl (c2, 67200, .inl f9))] := hD
      refine W.widen (k := 0) (n := 0) (Nat.le_of_ble_eq_true rfl) (Nat.le_of_ble_eq_true rfl) ?_
      obtain rfl : r_5 = f9 (4200 * r + (i - 1)) := hw
      refine W.eq (g2 := F0 m 27 ls [.int (f9 (4200 * r + (i - 1))), .int (nI i), .int (nI r), .ref h0]) rfl ?_
      refine lv_aload_n hx hb dX8_comes_27 rfl (lv_at hl 1 rfl) ?_
      refine lv_iload_n hx hb dX8_comes_28 rfl (lv_at hl 2 rfl) ?_
      refine lv_iload hx hb dX8_comes_29 (lv_at hl 0 rfl) ?_
      refine lv_iconst (v := 1) hx hb dX8_comes_31 (by decide) ?_
      refine lv_isub hx hb dX8_comes_32 ?_
      refine lv_topi (fun z_6 ez_6 => ?_)
      obtain rfl : z_6 = nI (i - 1) := ez_6.trans (by rw [show (1 : Int32) = nI 1 from rfl, pk_sub (by omega)])
      have hPc := hP.sub (ws' := [(h0, .inr (8, [.int th, v1, .ref q2, .ref q3, v4, v5, v6, .ref q7, v8, v9, v10, v11, v12, v13, v14, v15, v16])), (q2, .inl (c2, 67200, .inl f9))]) [2, 3] rfl
      have hDc := hD.sub (ws' := [(h0, .inr (8, [.int th, v1, .ref q2, .ref q3, v4, v5, v6, .ref q7, v8, v9, v10, v11, v12, v13, v14, v15, v16])), (q2, .inl (c2, 67200, .inl f9))]) [2, 3] (by decide) rfl
      have hKc := hK.sub (tys' := [(c2, .int)]) [0] rfl
      have hFc := va_free (wc := [(h0, .inr (8, [.int th, v1, .ref q2, .ref q3, v4, v5, v6, .ref q7, v8, v9, v10, v11, v12, v13, v14, v15, v16])), (q2, .inl (c2, 67200, .inl f9))]) hD hS hA [2, 3] rfl
      refine va_calli (va_runV (As := [.int (nI r), .int (nI (i - 1))]) (rest := [.int (f9 (4200 * r + (i - 1))), .int (nI i), .int (nI r), .ref h0]) ⟨hx, hb, hml, hown, hts⟩ (c_X8_value l  dC dI H.size h0 th q2 c2 f9 v1 (.ref q3) v4 v5 v6 (.ref q7) v8 v9 v10 v11 v12 v13 v14 v15 v16 r (i - 1) hr9 (by omega)) (cwV 2 hts gX8_comes_X8_value rfl rfl rfl (by decide +kernel) ⟨(Nat.le_of_ble_eq_true rfl), (Nat.le_of_ble_eq_true rfl)⟩) ⟨pk_blind, va_recv hKc hPc (ci := 8) (q0 := 0) rfl rfl, pk_call hPc hKc hDc⟩ rfl rfl hl.1 rfl (lv_room (Nat.le_of_ble_eq_true rfl)) dX8_comes_33 ⟨(Nat.le_of_ble_eq_true rfl), (Nat.le_of_ble_eq_true rfl)⟩) hS (fun q _ h => hFc q h) hFc (fun r_7 ur_7 t H1 locs ht hvm hw hB hz1 hk1 hS => ?_)
      try dsimp only at hw
      obtain ⟨hP1, hK1, hD1⟩ := hB
      rw [ht] at hP1
      have hK1 := va_K.moved hvm.symm hK1
      obtain ⟨hP, hD⟩ := va_join (wr := [(q3, .inl (c3, 16, .inl a3)), (q7, .inl (c7, 16, .inl a7))]) (w1 := [(h0, .inr (8, [.int th, v1, .ref q2, .ref q3, v4, v5, v6, .ref q7, v8, v9, v10, v11, v12, v13, v14, v15, v16])), (q2, .inl (c2, 67200, .inl f9))]) hP hD [2, 3] [0, 1] rfl rfl (by decide) (by decide) hk1 hFc hP1 hD1
      clear hk1 hz1 ht hPc hDc hKc hFc
      generalize H1 = H at hP hS ⊢
      replace hP : va_P (dC, dI) vwCl [(q3, .inl (c3, 16, .inl a3)), (q7, .inl (c7, 16, .inl a7)), (h0, .inr (8, [.int th, v1, .ref q2, .ref q3, v4, v5, v6, .ref q7, v8, v9, v10, v11, v12, v13, v14, v15, v16])), (q2, .inl (c2, 67200, .inl f9))] H := hP
      replace hD : va_D A [(q3, .inl (c3, 16, .inl a3)), (q7, .inl (c7, 16, .inl a7)), (h0, .inr (8, [.int th, v1, .ref q2, .ref q3, v4, v5, v6, .ref q7, v8, v9, v10, v11, v12, v13, v14, v15, v16])), (q2, .inl (c2, 67200, .inl f9))] := hD
      refine W.widen (k := 0) (n := 0) (Nat.le_of_ble_eq_true rfl) (Nat.le_of_ble_eq_true rfl) ?_
      obtain rfl : r_7 = f9 (4200 * r + 1000 + (i - 1)) := hw
      refine W.eq (g2 := F0 m 36 ls [.int (f9 (4200 * r + 1000 + (i - 1))), .int (f9 (4200 * r + (i - 1))), .int (nI i), .int (nI r), .ref h0]) rfl ?_
      have hPc := hP.sub (ws' := [(h0, .inr (8, [.int th, v1, .ref q2, .ref q3, v4, v5, v6, .ref q7, v8, v9, v10, v11, v12, v13, v14, v15, v16])), (q2, .inl (c2, 67200, .inl f9))]) [2, 3] rfl
      have hDc := hD.sub (ws' := [(h0, .inr (8, [.int th, v1, .ref q2, .ref q3, v4, v5, v6, .ref q7, v8, v9, v10, v11, v12, v13, v14, v15, v16])), (q2, .inl (c2, 67200, .inl f9))]) [2, 3] (by decide) rfl
      have hKc := hK.sub (tys' := [(c2, .int)]) [0] rfl
      have hFc := va_free (wc := [(h0, .inr (8, [.int th, v1, .ref q2, .ref q3, v4, v5, v6, .ref q7, v8, v9, v10, v11, v12, v13, v14, v15, v16])), (q2, .inl (c2, 67200, .inl f9))]) hD hS hA [2, 3] rfl
      refine va_callv (va_runV (As := [.int (nI r), .int (nI i), .int (f9 (4200 * r + (i - 1))), .int (f9 (4200 * r + 1000 + (i - 1)))]) (rest := []) ⟨hx, hb, hml, hown, hts⟩ (c_X8_set l  dC dI H.size h0 th q2 c2 f9 v1 (.ref q3) v4 v5 v6 (.ref q7) v8 v9 v10 v11 v12 v13 v14 v15 v16 r i (f9 (4200 * r + (i - 1))) (f9 (4200 * r + 1000 + (i - 1))) hr9 (by omega)) (cwV 4 hts gX8_comes_X8_set rfl rfl rfl (by decide +kernel) ⟨(Nat.le_of_ble_eq_true rfl), (Nat.le_of_ble_eq_true rfl)⟩) ⟨pk_blind, va_recv hKc hPc (ci := 8) (q0 := 0) rfl rfl, pk_call hPc hKc hDc⟩ rfl rfl hl.1 rfl (lv_room (Nat.le_of_ble_eq_true rfl)) dX8_comes_36 ⟨(Nat.le_of_ble_eq_true rfl), (Nat.le_of_ble_eq_true rfl)⟩) hS (fun q _ h => hFc q h) hFc (fun ur_8 t H1 locs ht hvm hw hB hz1 hk1 hS => ?_)
      try dsimp only at hw
      have jr_8 := hw
      obtain ⟨hP1, hK1, hD1⟩ := hB
      rw [ht] at hP1
      have hK1 := va_K.moved hvm.symm hK1
      obtain ⟨hP, hD⟩ := va_join (wr := [(q3, .inl (c3, 16, .inl a3)), (q7, .inl (c7, 16, .inl a7))]) (w1 := [(h0, .inr (8, [.int th, v1, .ref q2, .ref q3, v4, v5, v6, .ref q7, v8, v9, v10, v11, v12, v13, v14, v15, v16])), (q2, .inl (c2, 67200, .inl (upd (upd f9 (4200 * r + i) (f9 (4200 * r + (i - 1)))) (4200 * r + 1000 + i) (f9 (4200 * r + 1000 + (i - 1))))))]) hP hD [2, 3] [0, 1] rfl rfl (by decide) (by decide) hk1 hFc hP1 hD1
      clear hk1 hz1 ht hPc hDc hKc hFc
      generalize H1 = H at hP hS ⊢
      replace hP : va_P (dC, dI) vwCl [(q3, .inl (c3, 16, .inl a3)), (q7, .inl (c7, 16, .inl a7)), (h0, .inr (8, [.int th, v1, .ref q2, .ref q3, v4, v5, v6, .ref q7, v8, v9, v10, v11, v12, v13, v14, v15, v16])), (q2, .inl (c2, 67200, .inl (upd (upd f9 (4200 * r + i) (f9 (4200 * r + (i - 1)))) (4200 * r + 1000 + i) (f9 (4200 * r + 1000 + (i - 1))))))] H := hP
      replace hD : va_D A [(q3, .inl (c3, 16, .inl a3)), (q7, .inl (c7, 16, .inl a7)), (h0, .inr (8, [.int th, v1, .ref q2, .ref q3, v4, v5, v6, .ref q7, v8, v9, v10, v11, v12, v13, v14, v15, v16])), (q2, .inl (c2, 67200, .inl (upd (upd f9 (4200 * r + i) (f9 (4200 * r + (i - 1)))) (4200 * r + 1000 + i) (f9 (4200 * r + 1000 + (i - 1))))))] := hD
      refine W.widen (k := 0) (n := 0) (Nat.le_of_ble_eq_true rfl) (Nat.le_of_ble_eq_true rfl) ?_
      refine W.eq (g2 := F0 m 39 ls []) rfl ?_
      refine lv_iinc (v := nI (i - 1)) (lv' := [(5, .int (nI (i - 1))), (0, .ref h0), (1, .int (nI r)), (2, .int (nI k9)), (3, .int p2), (4, .int p3)]) hx hb dX8_comes_39 hl (k := 0) rfl (by rw [show Int32.ofInt (-1) = -1 from rfl]; exact sb_m1 (by omega)) (by decide) rfl (fun ls hl => ?_)
      refine lv_goto (tgt := 8) hx hb dX8_comes_42 (by decide) ?_
      exact ih (i := i - 1) (x9 := nI (i - 1)) (ex9 := rfl) (ls := ls) (f9 := (upd (upd f9 (4200 * r + i) (f9 (4200 * r + (i - 1)))) (4200 * r + 1000 + i) (f9 (4200 * r + 1000 + (i - 1))))) (H := H) (locs := locs) (hP := hP.sub (ws' := [(h0, .inr (8, [.int th, v1, .ref q2, .ref q3, v4, v5, v6, .ref q7, v8, v9, v10, v11, v12, v13, v14, v15, v16])), (q2, .inl (c2, 67200, .inl (upd (upd f9 (4200 * r + i) (f9 (4200 * r + (i - 1)))) (4200 * r + 1000 + i) (f9 (4200 * r + 1000 + (i - 1)))))), (q3, .inl (c3, 16, .inl a3)), (q7, .inl (c7, 16, .inl a7))]) [2, 3, 0, 1] rfl) (hS := hS) (hD := hD.sub (ws' := [(h0, .inr (8, [.int th, v1, .ref q2, .ref q3, v4, v5, v6, .ref q7, v8, v9, v10, v11, v12, v13, v14, v15, v16])), (q2, .inl (c2, 67200, .inl (upd (upd f9 (4200 * r + i) (f9 (4200 * r + (i - 1)))) (4200 * r + 1000 + i) (f9 (4200 * r + 1000 + (i - 1)))))), (q3, .inl (c3, 16, .inl a3)), (q7, .inl (c7, 16, .inl a7))]) [2, 3, 0, 1] (by decide) rfl) (hi9 := by omega) (hn9 := by omega) (hv9 := outR_up' (outR_up hv9 (by omega)) (k := 1000 + i) (by omega) (by omega)) (hl := lv_sub hl [0, 1, 2, 3, 4, 5] rfl)
