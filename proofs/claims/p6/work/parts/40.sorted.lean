theorem dX6_edge_0 : decode cX6_edge 0 = .ok (.aload_n 0, 1) := by decide +kernel
theorem dX6_edge_1 : decode cX6_edge 1 = .ok (.getfield 22, 3) := by decide +kernel
theorem dX6_edge_4 : decode cX6_edge 4 = .ok (.ifCond .eq 13, 3) := by decide +kernel
theorem dX6_edge_17 : decode cX6_edge 17 = .ok (.aload_n 0, 1) := by decide +kernel
theorem dX6_edge_18 : decode cX6_edge 18 = .ok (.iload_n 1, 1) := by decide +kernel
set_option maxRecDepth 20000 in
theorem ggX6_edge_X6_rank : GoodIn wsX6_edge wsX6_rank := goodIn_r _ [6, 7, 8, 9, 10, 11, 12, 13, 14, 15, 16, 17, 18, 19, 20, 21, 22, 23, 24, 25] rfl (by decide +kernel)
set_option maxRecDepth 20000 in
theorem gX6_edge_X6_rank : GoodIn wsX6_edge (wsV RX6 71 RX6 yX6_rank wsX6_rank) := goodIn_app (goodIn_of _ (by decide +kernel)) ggX6_edge_X6_rank
theorem dX6_edge_19 : decode cX6_edge 19 = .ok (.invokevirtual 71, 3) := by decide +kernel
theorem dX6_edge_22 : decode cX6_edge 22 = .ok (.lreturn, 1) := by decide +kernel
theorem dX6_edge_7 : decode cX6_edge 7 = .ok (.aload_n 0, 1) := by decide +kernel
theorem dX6_edge_8 : decode cX6_edge 8 = .ok (.iload_n 1, 1) := by decide +kernel
theorem dX6_edge_9 : decode cX6_edge 9 = .ok (.invokevirtual 71, 3) := by decide +kernel
theorem dX6_edge_12 : decode cX6_edge 12 = .ok (.lconst 1, 1) := by decide +kernel
theorem dX6_edge_13 : decode cX6_edge 13 = .ok (.ladd, 1) := by decide +kernel
theorem dX6_edge_14 : decode cX6_edge 14 = .ok (.goto 8, 3) := by decide +kernel
theorem dX6_isBefore_0 : decode cX6_isBefore 0 = .ok (.aload_n 0, 1) := by decide +kernel
theorem dX6_isBefore_1 : decode cX6_isBefore 1 = .ok (.getfield 22, 3) := by decide +kernel
theorem dX6_isBefore_4 : decode cX6_isBefore 4 = .ok (.ifCond .eq 25, 3) := by decide +kernel
theorem dX6_isBefore_29 : decode cX6_isBefore 29 = .ok (.aload_n 0, 1) := by decide +kernel
theorem dX6_isBefore_30 : decode cX6_isBefore 30 = .ok (.iload_n 1, 1) := by decide +kernel
set_option maxRecDepth 20000 in
theorem ggX6_isBefore_X6_rank : GoodIn wsX6_isBefore wsX6_rank := goodIn_r _ [6, 7, 8, 9, 10, 11, 12, 13, 14, 15, 16, 17, 18, 19, 20, 21, 22, 23, 24, 25] rfl (by decide +kernel)
set_option maxRecDepth 20000 in
theorem gX6_isBefore_X6_rank : GoodIn wsX6_isBefore (wsV RX6 71 RX6 yX6_rank wsX6_rank) := goodIn_app (goodIn_of _ (by decide +kernel)) ggX6_isBefore_X6_rank
theorem dX6_isBefore_31 : decode cX6_isBefore 31 = .ok (.invokevirtual 71, 3) := by decide +kernel
theorem dX6_isBefore_34 : decode cX6_isBefore 34 = .ok (.aload_n 0, 1) := by decide +kernel
theorem dX6_isBefore_35 : decode cX6_isBefore 35 = .ok (.iload_n 2, 1) := by decide +kernel
theorem dX6_isBefore_36 : decode cX6_isBefore 36 = .ok (.invokevirtual 71, 3) := by decide +kernel
theorem dX6_isBefore_39 : decode cX6_isBefore 39 = .ok (.lcmp, 1) := by decide +kernel
theorem dX6_isBefore_40 : decode cX6_isBefore 40 = .ok (.ifCond .ge 7, 3) := by decide +kernel
theorem dX6_isBefore_47 : decode cX6_isBefore 47 = .ok (.iconst 0, 1) := by decide +kernel
theorem dX6_isBefore_48 : decode cX6_isBefore 48 = .ok (.ireturn, 1) := by decide +kernel
theorem dX6_isBefore_43 : decode cX6_isBefore 43 = .ok (.iconst 1, 1) := by decide +kernel
theorem dX6_isBefore_44 : decode cX6_isBefore 44 = .ok (.goto 4, 3) := by decide +kernel
theorem dX6_isBefore_7 : decode cX6_isBefore 7 = .ok (.aload_n 0, 1) := by decide +kernel
theorem dX6_isBefore_8 : decode cX6_isBefore 8 = .ok (.iload_n 1, 1) := by decide +kernel
theorem dX6_isBefore_9 : decode cX6_isBefore 9 = .ok (.invokevirtual 71, 3) := by decide +kernel
theorem dX6_isBefore_12 : decode cX6_isBefore 12 = .ok (.aload_n 0, 1) := by decide +kernel
theorem dX6_isBefore_13 : decode cX6_isBefore 13 = .ok (.iload_n 2, 1) := by decide +kernel
theorem dX6_isBefore_14 : decode cX6_isBefore 14 = .ok (.invokevirtual 71, 3) := by decide +kernel
theorem dX6_isBefore_17 : decode cX6_isBefore 17 = .ok (.lcmp, 1) := by decide +kernel
theorem dX6_isBefore_18 : decode cX6_isBefore 18 = .ok (.ifCond .le 7, 3) := by decide +kernel
theorem dX6_isBefore_25 : decode cX6_isBefore 25 = .ok (.iconst 0, 1) := by decide +kernel
theorem dX6_isBefore_26 : decode cX6_isBefore 26 = .ok (.goto 22, 3) := by decide +kernel
theorem dX6_isBefore_21 : decode cX6_isBefore 21 = .ok (.iconst 1, 1) := by decide +kernel
theorem dX6_isBefore_22 : decode cX6_isBefore 22 = .ok (.goto 26, 3) := by decide +kernel
theorem dX6_howManyBelow_0 : decode cX6_howManyBelow 0 = .ok (.iconst 0, 1) := by decide +kernel
theorem dX6_howManyBelow_1 : decode cX6_howManyBelow 1 = .ok (.istore_n 3, 1) := by decide +kernel
theorem dX6_howManyBelow_2 : decode cX6_howManyBelow 2 = .ok (.aload_n 0, 1) := by decide +kernel
theorem dX6_howManyBelow_3 : decode cX6_howManyBelow 3 = .ok (.getfield 37, 3) := by decide +kernel
set_option maxRecDepth 20000 in
theorem ggX6_howManyBelow_X5_size : GoodIn wsX6_howManyBelow wsX5_size := goodIn_r _ [7, 8, 50, 51, 52, 53] rfl (by decide +kernel)
set_option maxRecDepth 20000 in
theorem gX6_howManyBelow_X5_size : GoodIn wsX6_howManyBelow (wsV RX6 74 RX5 yX5_size wsX5_size) := goodIn_app (goodIn_of _ (by decide +kernel)) ggX6_howManyBelow_X5_size
theorem dX6_howManyBelow_6 : decode cX6_howManyBelow 6 = .ok (.invokevirtual 74, 3) := by decide +kernel
theorem dX6_howManyBelow_9 : decode cX6_howManyBelow 9 = .ok (.istore 4, 2) := by decide +kernel
theorem dX6_howManyBelow_11 : decode cX6_howManyBelow 11 = .ok (.iconst 0, 1) := by decide +kernel
theorem dX6_howManyBelow_12 : decode cX6_howManyBelow 12 = .ok (.istore 5, 2) := by decide +kernel
theorem dX6_howManyBelow_14 : decode cX6_howManyBelow 14 = .ok (.iload 5, 2) := by decide +kernel
theorem dX6_howManyBelow_16 : decode cX6_howManyBelow 16 = .ok (.bipush 32, 2) := by decide +kernel
theorem dX6_howManyBelow_18 : decode cX6_howManyBelow 18 = .ok (.if_icmp .ge 53, 3) := by decide +kernel
theorem dX6_howManyBelow_71 : decode cX6_howManyBelow 71 = .ok (.iload_n 3, 1) := by decide +kernel
theorem dX6_howManyBelow_72 : decode cX6_howManyBelow 72 = .ok (.ireturn, 1) := by decide +kernel
theorem dX6_howManyBelow_21 : decode cX6_howManyBelow 21 = .ok (.iload_n 3, 1) := by decide +kernel
theorem dX6_howManyBelow_22 : decode cX6_howManyBelow 22 = .ok (.iload 4, 2) := by decide +kernel
theorem dX6_howManyBelow_24 : decode cX6_howManyBelow 24 = .ok (.if_icmp .ge 47, 3) := by decide +kernel
theorem dX6_howManyBelow_27 : decode cX6_howManyBelow 27 = .ok (.iload_n 3, 1) := by decide +kernel
theorem dX6_howManyBelow_28 : decode cX6_howManyBelow 28 = .ok (.iload 4, 2) := by decide +kernel
theorem dX6_howManyBelow_30 : decode cX6_howManyBelow 30 = .ok (.iadd, 1) := by decide +kernel
theorem dX6_howManyBelow_31 : decode cX6_howManyBelow 31 = .ok (.iconst 2, 1) := by decide +kernel
theorem dX6_howManyBelow_32 : decode cX6_howManyBelow 32 = .ok (.idiv, 1) := by decide +kernel
theorem dX6_howManyBelow_33 : decode cX6_howManyBelow 33 = .ok (.istore 6, 2) := by decide +kernel
theorem dX6_howManyBelow_35 : decode cX6_howManyBelow 35 = .ok (.aload_n 0, 1) := by decide +kernel
theorem dX6_howManyBelow_36 : decode cX6_howManyBelow 36 = .ok (.aload_n 0, 1) := by decide +kernel
theorem dX6_howManyBelow_37 : decode cX6_howManyBelow 37 = .ok (.getfield 37, 3) := by decide +kernel
theorem dX6_howManyBelow_40 : decode cX6_howManyBelow 40 = .ok (.iload 6, 2) := by decide +kernel
set_option maxRecDepth 20000 in
theorem ggX6_howManyBelow_X5_key : GoodIn wsX6_howManyBelow wsX5_key := goodIn_r _ [12, 8, 13, 50, 51, 52, 53] rfl (by decide +kernel)
set_option maxRecDepth 20000 in
theorem gX6_howManyBelow_X5_key : GoodIn wsX6_howManyBelow (wsV RX6 78 RX5 yX5_key wsX5_key) := goodIn_app (goodIn_of _ (by decide +kernel)) ggX6_howManyBelow_X5_key
theorem dX6_howManyBelow_42 : decode cX6_howManyBelow 42 = .ok (.invokevirtual 78, 3) := by decide +kernel
set_option maxRecDepth 20000 in
theorem ggX6_howManyBelow_X6_rank : GoodIn wsX6_howManyBelow wsX6_rank := goodIn_r _ [18, 19, 20, 21, 22, 23, 24, 25, 26, 27, 28, 29, 30, 43, 44, 45, 46, 47, 48, 49] rfl (by decide +kernel)
set_option maxRecDepth 20000 in
theorem gX6_howManyBelow_X6_rank : GoodIn wsX6_howManyBelow (wsV RX6 71 RX6 yX6_rank wsX6_rank) := goodIn_app (goodIn_of _ (by decide +kernel)) ggX6_howManyBelow_X6_rank
theorem dX6_howManyBelow_45 : decode cX6_howManyBelow 45 = .ok (.invokevirtual 71, 3) := by decide +kernel
theorem dX6_howManyBelow_48 : decode cX6_howManyBelow 48 = .ok (.lload_n 1, 1) := by decide +kernel
theorem dX6_howManyBelow_49 : decode cX6_howManyBelow 49 = .ok (.lcmp, 1) := by decide +kernel
theorem dX6_howManyBelow_50 : decode cX6_howManyBelow 50 = .ok (.ifCond .ge 11, 3) := by decide +kernel
theorem dX6_howManyBelow_61 : decode cX6_howManyBelow 61 = .ok (.iload 6, 2) := by decide +kernel
theorem dX6_howManyBelow_63 : decode cX6_howManyBelow 63 = .ok (.istore 4, 2) := by decide +kernel
theorem dX6_howManyBelow_65 : decode cX6_howManyBelow 65 = .ok (.iinc 5 1, 3) := by decide +kernel
theorem dX6_howManyBelow_68 : decode cX6_howManyBelow 68 = .ok (.goto (-54), 3) := by decide +kernel
theorem dX6_howManyBelow_53 : decode cX6_howManyBelow 53 = .ok (.iload 6, 2) := by decide +kernel
theorem dX6_howManyBelow_55 : decode cX6_howManyBelow 55 = .ok (.iconst 1, 1) := by decide +kernel
theorem dX6_howManyBelow_56 : decode cX6_howManyBelow 56 = .ok (.iadd, 1) := by decide +kernel
theorem dX6_howManyBelow_57 : decode cX6_howManyBelow 57 = .ok (.istore_n 3, 1) := by decide +kernel
theorem dX6_howManyBelow_58 : decode cX6_howManyBelow 58 = .ok (.goto 7, 3) := by decide +kernel
theorem dX6_start_0 : decode cX6_start 0 = .ok (.aload_n 0, 1) := by decide +kernel
theorem dX6_start_1 : decode cX6_start 1 = .ok (.getfield 28, 3) := by decide +kernel
theorem dX6_start_4 : decode cX6_start 4 = .ok (.ldc2_w 26, 3) := by decide +kernel
theorem dX6_start_7 : decode cX6_start 7 = .ok (.lcmp, 1) := by decide +kernel
theorem dX6_start_8 : decode cX6_start 8 = .ok (.ifCond .ne 7, 3) := by decide +kernel
theorem dX6_start_15 : decode cX6_start 15 = .ok (.aload_n 0, 1) := by decide +kernel
theorem dX6_start_16 : decode cX6_start 16 = .ok (.aload_n 0, 1) := by decide +kernel
theorem dX6_start_17 : decode cX6_start 17 = .ok (.getfield 28, 3) := by decide +kernel
set_option maxRecDepth 20000 in
theorem ggX6_start_X6_howManyBelow : GoodIn wsX6_start wsX6_howManyBelow := goodIn_r _ [7, 8, 9, 10, 11, 12, 13, 14, 15, 16, 17, 18, 19, 20, 21, 22, 23, 6, 24, 25, 26, 27, 28, 29, 30, 31, 32, 33, 34, 35, 36, 44, 45, 46, 47, 48, 49, 50, 51, 52, 53, 54, 55, 37, 38, 39, 40, 41, 42, 43, 56, 57, 58, 59] rfl (by decide +kernel)
set_option maxRecDepth 20000 in
theorem gX6_start_X6_howManyBelow : GoodIn wsX6_start (wsV RX6 82 RX6 yX6_howManyBelow wsX6_howManyBelow) := goodIn_app (goodIn_of _ (by decide +kernel)) ggX6_start_X6_howManyBelow
theorem dX6_start_20 : decode cX6_start 20 = .ok (.invokevirtual 82, 3) := by decide +kernel
theorem dX6_start_23 : decode cX6_start 23 = .ok (.ireturn, 1) := by decide +kernel
theorem dX6_start_11 : decode cX6_start 11 = .ok (.iconst 0, 1) := by decide +kernel
theorem dX6_start_12 : decode cX6_start 12 = .ok (.goto 11, 3) := by decide +kernel
theorem dX6_end_0 : decode cX6_end 0 = .ok (.aload_n 0, 1) := by decide +kernel
theorem dX6_end_1 : decode cX6_end 1 = .ok (.getfield 34, 3) := by decide +kernel
theorem dX6_end_4 : decode cX6_end 4 = .ok (.ldc2_w 32, 3) := by decide +kernel
theorem dX6_end_7 : decode cX6_end 7 = .ok (.lcmp, 1) := by decide +kernel
theorem dX6_end_8 : decode cX6_end 8 = .ok (.ifCond .ne 13, 3) := by decide +kernel
theorem dX6_end_21 : decode cX6_end 21 = .ok (.aload_n 0, 1) := by decide +kernel
theorem dX6_end_22 : decode cX6_end 22 = .ok (.aload_n 0, 1) := by decide +kernel
theorem dX6_end_23 : decode cX6_end 23 = .ok (.getfield 34, 3) := by decide +kernel
set_option maxRecDepth 20000 in
theorem ggX6_end_X6_howManyBelow : GoodIn wsX6_end wsX6_howManyBelow := goodIn_r _ [15, 3, 4, 5, 6, 7, 8, 9, 10, 16, 17, 18, 19, 20, 21, 22, 23, 14, 24, 25, 26, 27, 28, 29, 30, 31, 32, 33, 34, 35, 36, 44, 45, 46, 47, 48, 49, 50, 51, 52, 53, 54, 55, 37, 38, 39, 40, 41, 42, 43, 56, 57, 58, 59] rfl (by decide +kernel)
set_option maxRecDepth 20000 in
theorem gX6_end_X6_howManyBelow : GoodIn wsX6_end (wsV RX6 82 RX6 yX6_howManyBelow wsX6_howManyBelow) := goodIn_app (goodIn_of _ (by decide +kernel)) ggX6_end_X6_howManyBelow
theorem dX6_end_26 : decode cX6_end 26 = .ok (.invokevirtual 82, 3) := by decide +kernel
theorem dX6_end_29 : decode cX6_end 29 = .ok (.ireturn, 1) := by decide +kernel
theorem dX6_end_11 : decode cX6_end 11 = .ok (.aload_n 0, 1) := by decide +kernel
theorem dX6_end_12 : decode cX6_end 12 = .ok (.getfield 37, 3) := by decide +kernel
set_option maxRecDepth 20000 in
theorem ggX6_end_X5_size : GoodIn wsX6_end wsX5_size := goodIn_r _ [9, 10, 56, 57, 58, 59] rfl (by decide +kernel)
set_option maxRecDepth 20000 in
theorem gX6_end_X5_size : GoodIn wsX6_end (wsV RX6 74 RX5 yX5_size wsX5_size) := goodIn_app (goodIn_of _ (by decide +kernel)) ggX6_end_X5_size
theorem dX6_end_15 : decode cX6_end 15 = .ok (.invokevirtual 74, 3) := by decide +kernel
theorem dX6_end_18 : decode cX6_end 18 = .ok (.goto 11, 3) := by decide +kernel
theorem dX6_size_0 : decode cX6_size 0 = .ok (.aload_n 0, 1) := by decide +kernel
set_option maxRecDepth 20000 in
theorem ggX6_size_X6_end : GoodIn wsX6_size wsX6_end := goodIn_r _ [5, 6, 7, 8, 9, 10, 11, 12, 13, 14, 15, 16, 17, 18, 4, 19, 20, 21, 22, 23, 24, 25, 26, 27, 28, 29, 30, 31, 32, 33, 34, 35, 36, 37, 38, 39, 40, 47, 48, 49, 50, 51, 52, 53, 54, 55, 56, 57, 58, 59, 60, 61, 62, 63, 64, 65, 66, 67, 68, 69] rfl (by decide +kernel)
set_option maxRecDepth 20000 in
theorem gX6_size_X6_end : GoodIn wsX6_size (wsV RX6 86 RX6 yX6_end wsX6_end) := goodIn_app (goodIn_of _ (by decide +kernel)) ggX6_size_X6_end
theorem dX6_size_1 : decode cX6_size 1 = .ok (.invokevirtual 86, 3) := by decide +kernel
theorem dX6_size_4 : decode cX6_size 4 = .ok (.aload_n 0, 1) := by decide +kernel
set_option maxRecDepth 20000 in
theorem ggX6_size_X6_start : GoodIn wsX6_size wsX6_start := goodIn_r _ [44, 45, 46, 16, 17, 18, 4, 19, 8, 9, 10, 11, 12, 13, 14, 15, 20, 21, 22, 23, 24, 25, 26, 27, 28, 29, 30, 31, 32, 33, 34, 35, 36, 37, 38, 39, 40, 47, 48, 49, 50, 51, 52, 53, 54, 55, 56, 57, 58, 59, 60, 61, 62, 63, 64, 65, 66, 67, 68, 69] rfl (by decide +kernel)
set_option maxRecDepth 20000 in
theorem gX6_size_X6_start : GoodIn wsX6_size (wsV RX6 89 RX6 yX6_start wsX6_start) := goodIn_app (goodIn_of _ (by decide +kernel)) ggX6_size_X6_start
theorem dX6_size_5 : decode cX6_size 5 = .ok (.invokevirtual 89, 3) := by decide +kernel
theorem dX6_size_8 : decode cX6_size 8 = .ok (.isub, 1) := by decide +kernel
theorem dX6_size_9 : decode cX6_size 9 = .ok (.ireturn, 1) := by decide +kernel
theorem dX6_placeOf_0 : decode cX6_placeOf 0 = .ok (.aload_n 0, 1) := by decide +kernel
theorem dX6_placeOf_1 : decode cX6_placeOf 1 = .ok (.getfield 22, 3) := by decide +kernel
theorem dX6_placeOf_4 : decode cX6_placeOf 4 = .ok (.ifCond .eq 14, 3) := by decide +kernel
theorem dX6_placeOf_18 : decode cX6_placeOf 18 = .ok (.aload_n 0, 1) := by decide +kernel
set_option maxRecDepth 20000 in
theorem ggX6_placeOf_X6_start : GoodIn wsX6_placeOf wsX6_start := goodIn_r _ [45, 46, 47, 17, 18, 19, 5, 20, 9, 10, 11, 12, 13, 14, 15, 16, 21, 22, 23, 24, 25, 26, 27, 28, 29, 30, 31, 32, 33, 34, 35, 36, 37, 38, 39, 40, 41, 48, 49, 50, 51, 52, 53, 54, 55, 56, 57, 58, 59, 60, 61, 62, 63, 64, 65, 66, 67, 68, 69, 70] rfl (by decide +kernel)
set_option maxRecDepth 20000 in
theorem gX6_placeOf_X6_start : GoodIn wsX6_placeOf (wsV RX6 89 RX6 yX6_start wsX6_start) := goodIn_app (goodIn_of _ (by decide +kernel)) ggX6_placeOf_X6_start
theorem dX6_placeOf_19 : decode cX6_placeOf 19 = .ok (.invokevirtual 89, 3) := by decide +kernel
theorem dX6_placeOf_22 : decode cX6_placeOf 22 = .ok (.iload_n 1, 1) := by decide +kernel
theorem dX6_placeOf_23 : decode cX6_placeOf 23 = .ok (.iadd, 1) := by decide +kernel
theorem dX6_placeOf_24 : decode cX6_placeOf 24 = .ok (.ireturn, 1) := by decide +kernel
theorem dX6_placeOf_7 : decode cX6_placeOf 7 = .ok (.aload_n 0, 1) := by decide +kernel
set_option maxRecDepth 20000 in
theorem ggX6_placeOf_X6_end : GoodIn wsX6_placeOf wsX6_end := goodIn_r _ [6, 7, 8, 9, 10, 11, 12, 13, 14, 15, 16, 17, 18, 19, 5, 20, 21, 22, 23, 24, 25, 26, 27, 28, 29, 30, 31, 32, 33, 34, 35, 36, 37, 38, 39, 40, 41, 48, 49, 50, 51, 52, 53, 54, 55, 56, 57, 58, 59, 60, 61, 62, 63, 64, 65, 66, 67, 68, 69, 70] rfl (by decide +kernel)
set_option maxRecDepth 20000 in
theorem gX6_placeOf_X6_end : GoodIn wsX6_placeOf (wsV RX6 86 RX6 yX6_end wsX6_end) := goodIn_app (goodIn_of _ (by decide +kernel)) ggX6_placeOf_X6_end
theorem dX6_placeOf_8 : decode cX6_placeOf 8 = .ok (.invokevirtual 86, 3) := by decide +kernel
theorem dX6_placeOf_11 : decode cX6_placeOf 11 = .ok (.iconst 1, 1) := by decide +kernel
theorem dX6_placeOf_12 : decode cX6_placeOf 12 = .ok (.isub, 1) := by decide +kernel
theorem dX6_placeOf_13 : decode cX6_placeOf 13 = .ok (.iload_n 1, 1) := by decide +kernel
theorem dX6_placeOf_14 : decode cX6_placeOf 14 = .ok (.isub, 1) := by decide +kernel
theorem dX6_placeOf_15 : decode cX6_placeOf 15 = .ok (.goto 9, 3) := by decide +kernel
theorem dX6_mayHold_0 : decode cX6_mayHold 0 = .ok (.aload_n 0, 1) := by decide +kernel
theorem dX6_mayHold_1 : decode cX6_mayHold 1 = .ok (.iload_n 1, 1) := by decide +kernel
set_option maxRecDepth 20000 in
theorem ggX6_mayHold_X6_rank : GoodIn wsX6_mayHold wsX6_rank := goodIn_r _ [7, 8, 9, 10, 11, 12, 13, 14, 15, 16, 17, 18, 19, 20, 21, 22, 23, 24, 25, 26] rfl (by decide +kernel)
set_option maxRecDepth 20000 in
theorem gX6_mayHold_X6_rank : GoodIn wsX6_mayHold (wsV RX6 71 RX6 yX6_rank wsX6_rank) := goodIn_app (goodIn_of _ (by decide +kernel)) ggX6_mayHold_X6_rank
theorem dX6_mayHold_2 : decode cX6_mayHold 2 = .ok (.invokevirtual 71, 3) := by decide +kernel
theorem dX6_mayHold_5 : decode cX6_mayHold 5 = .ok (.aload_n 0, 1) := by decide +kernel
theorem dX6_mayHold_6 : decode cX6_mayHold 6 = .ok (.getfield 28, 3) := by decide +kernel
theorem dX6_mayHold_9 : decode cX6_mayHold 9 = .ok (.lcmp, 1) := by decide +kernel
theorem dX6_mayHold_10 : decode cX6_mayHold 10 = .ok (.ifCond .lt 20, 3) := by decide +kernel
theorem dX6_mayHold_30 : decode cX6_mayHold 30 = .ok (.iconst 0, 1) := by decide +kernel
theorem dX6_mayHold_31 : decode cX6_mayHold 31 = .ok (.ireturn, 1) := by decide +kernel
theorem dX6_mayHold_13 : decode cX6_mayHold 13 = .ok (.aload_n 0, 1) := by decide +kernel
theorem dX6_mayHold_14 : decode cX6_mayHold 14 = .ok (.iload_n 1, 1) := by decide +kernel
theorem dX6_mayHold_15 : decode cX6_mayHold 15 = .ok (.invokevirtual 71, 3) := by decide +kernel
theorem dX6_mayHold_18 : decode cX6_mayHold 18 = .ok (.aload_n 0, 1) := by decide +kernel
theorem dX6_mayHold_19 : decode cX6_mayHold 19 = .ok (.getfield 34, 3) := by decide +kernel
theorem dX6_mayHold_22 : decode cX6_mayHold 22 = .ok (.lcmp, 1) := by decide +kernel
theorem dX6_mayHold_23 : decode cX6_mayHold 23 = .ok (.ifCond .ge 7, 3) := by decide +kernel
theorem dX6_mayHold_26 : decode cX6_mayHold 26 = .ok (.iconst 1, 1) := by decide +kernel
theorem dX6_mayHold_27 : decode cX6_mayHold 27 = .ok (.goto 4, 3) := by decide +kernel
theorem dX6_hasRoomFor_0 : decode cX6_hasRoomFor 0 = .ok (.aload_n 0, 1) := by decide +kernel
theorem dX6_hasRoomFor_1 : decode cX6_hasRoomFor 1 = .ok (.getfield 16, 3) := by decide +kernel
theorem dX6_hasRoomFor_4 : decode cX6_hasRoomFor 4 = .ok (.iconst 3, 1) := by decide +kernel
theorem dX6_hasRoomFor_5 : decode cX6_hasRoomFor 5 = .ok (.if_icmp .eq 11, 3) := by decide +kernel
theorem dX6_hasRoomFor_16 : decode cX6_hasRoomFor 16 = .ok (.iconst 1, 1) := by decide +kernel
theorem dX6_hasRoomFor_17 : decode cX6_hasRoomFor 17 = .ok (.goto 4, 3) := by decide +kernel
theorem dX6_hasRoomFor_21 : decode cX6_hasRoomFor 21 = .ok (.ireturn, 1) := by decide +kernel
theorem dX6_hasRoomFor_8 : decode cX6_hasRoomFor 8 = .ok (.aload_n 0, 1) := by decide +kernel
theorem dX6_hasRoomFor_9 : decode cX6_hasRoomFor 9 = .ok (.iload_n 1, 1) := by decide +kernel
set_option maxRecDepth 20000 in
theorem ggX6_hasRoomFor_X3_hasRoomFor : GoodIn wsX6_hasRoomFor wsX3_hasRoomFor := goodIn_r _ [7, 8, 9, 10, 11, 12, 13, 14, 22, 23, 24, 25, 26, 27, 28, 29, 30, 31, 32, 33, 15, 16, 17, 18, 19, 20, 21, 34, 35, 36, 37] rfl (by decide +kernel)
set_option maxRecDepth 20000 in
theorem gX6_hasRoomFor_X3_hasRoomFor_s92 : GoodIn wsX6_hasRoomFor (va_wsSU RX6 92 yX3_hasRoomFor wsX3_hasRoomFor) := goodIn_app (goodIn_of _ (by decide +kernel)) ggX6_hasRoomFor_X3_hasRoomFor
theorem dX6_hasRoomFor_10 : decode cX6_hasRoomFor 10 = .ok (.invokespecial 92, 3) := by decide +kernel
theorem dX6_hasRoomFor_13 : decode cX6_hasRoomFor 13 = .ok (.ifCond .eq 7, 3) := by decide +kernel
theorem dX6_hasRoomFor_20 : decode cX6_hasRoomFor 20 = .ok (.iconst 0, 1) := by decide +kernel
theorem dX6_find_0 : decode cX6_find 0 = .ok (.aload_n 0, 1) := by decide +kernel
theorem dX6_find_1 : decode cX6_find 1 = .ok (.aload_n 0, 1) := by decide +kernel
theorem dX6_find_2 : decode cX6_find 2 = .ok (.iload_n 1, 1) := by decide +kernel
set_option maxRecDepth 20000 in
theorem ggX6_find_X6_rank : GoodIn wsX6_find wsX6_rank := goodIn_r _ [7, 8, 9, 10, 11, 12, 13, 14, 15, 16, 17, 18, 19, 53, 54, 55, 56, 57, 58, 59] rfl (by decide +kernel)
set_option maxRecDepth 20000 in
theorem gX6_find_X6_rank : GoodIn wsX6_find (wsV RX6 71 RX6 yX6_rank wsX6_rank) := goodIn_app (goodIn_of _ (by decide +kernel)) ggX6_find_X6_rank
theorem dX6_find_3 : decode cX6_find 3 = .ok (.invokevirtual 71, 3) := by decide +kernel
set_option maxRecDepth 20000 in
theorem ggX6_find_X6_howManyBelow : GoodIn wsX6_find wsX6_howManyBelow := goodIn_r _ [23, 1, 2, 24, 25, 26, 27, 28, 29, 30, 31, 32, 33, 34, 3, 4, 5, 6, 7, 8, 9, 10, 11, 12, 13, 14, 15, 16, 17, 18, 19, 41, 42, 43, 44, 45, 46, 47, 48, 49, 50, 51, 52, 53, 54, 55, 56, 57, 58, 59, 60, 61, 62, 63] rfl (by decide +kernel)
set_option maxRecDepth 20000 in
theorem gX6_find_X6_howManyBelow : GoodIn wsX6_find (wsV RX6 82 RX6 yX6_howManyBelow wsX6_howManyBelow) := goodIn_app (goodIn_of _ (by decide +kernel)) ggX6_find_X6_howManyBelow
theorem dX6_find_6 : decode cX6_find 6 = .ok (.invokevirtual 82, 3) := by decide +kernel
theorem dX6_find_9 : decode cX6_find 9 = .ok (.istore_n 2, 1) := by decide +kernel
theorem dX6_find_10 : decode cX6_find 10 = .ok (.iload_n 2, 1) := by decide +kernel
theorem dX6_find_11 : decode cX6_find 11 = .ok (.aload_n 0, 1) := by decide +kernel
theorem dX6_find_12 : decode cX6_find 12 = .ok (.getfield 37, 3) := by decide +kernel
set_option maxRecDepth 20000 in
theorem ggX6_find_X5_size : GoodIn wsX6_find wsX5_size := goodIn_r _ [28, 29, 60, 61, 62, 63] rfl (by decide +kernel)
set_option maxRecDepth 20000 in
theorem gX6_find_X5_size : GoodIn wsX6_find (wsV RX6 74 RX5 yX5_size wsX5_size) := goodIn_app (goodIn_of _ (by decide +kernel)) ggX6_find_X5_size
theorem dX6_find_15 : decode cX6_find 15 = .ok (.invokevirtual 74, 3) := by decide +kernel
theorem dX6_find_18 : decode cX6_find 18 = .ok (.if_icmp .ge 28, 3) := by decide +kernel
theorem dX6_find_46 : decode cX6_find 46 = .ok (.iconst 0, 1) := by decide +kernel
theorem dX6_find_47 : decode cX6_find 47 = .ok (.istore_n 3, 1) := by decide +kernel
theorem dX6_find_48 : decode cX6_find 48 = .ok (.iload_n 3, 1) := by decide +kernel
theorem dX6_find_49 : decode cX6_find 49 = .ok (.ifCond .eq 15, 3) := by decide +kernel
theorem dX6_find_64 : decode cX6_find 64 = .ok (.iconst (-1), 1) := by decide +kernel
theorem dX6_find_65 : decode cX6_find 65 = .ok (.ireturn, 1) := by decide +kernel
theorem dX6_find_21 : decode cX6_find 21 = .ok (.aload_n 0, 1) := by decide +kernel
theorem dX6_find_22 : decode cX6_find 22 = .ok (.aload_n 0, 1) := by decide +kernel
theorem dX6_find_23 : decode cX6_find 23 = .ok (.getfield 37, 3) := by decide +kernel
theorem dX6_find_26 : decode cX6_find 26 = .ok (.iload_n 2, 1) := by decide +kernel
set_option maxRecDepth 20000 in
theorem ggX6_find_X5_key : GoodIn wsX6_find wsX5_key := goodIn_r _ [33, 29, 34, 60, 61, 62, 63] rfl (by decide +kernel)
set_option maxRecDepth 20000 in
theorem gX6_find_X5_key : GoodIn wsX6_find (wsV RX6 78 RX5 yX5_key wsX5_key) := goodIn_app (goodIn_of _ (by decide +kernel)) ggX6_find_X5_key
theorem dX6_find_27 : decode cX6_find 27 = .ok (.invokevirtual 78, 3) := by decide +kernel
theorem dX6_find_30 : decode cX6_find 30 = .ok (.invokevirtual 71, 3) := by decide +kernel
theorem dX6_find_33 : decode cX6_find 33 = .ok (.aload_n 0, 1) := by decide +kernel
theorem dX6_find_34 : decode cX6_find 34 = .ok (.iload_n 1, 1) := by decide +kernel
theorem dX6_find_35 : decode cX6_find 35 = .ok (.invokevirtual 71, 3) := by decide +kernel
theorem dX6_find_38 : decode cX6_find 38 = .ok (.lcmp, 1) := by decide +kernel
theorem dX6_find_39 : decode cX6_find 39 = .ok (.ifCond .ne 7, 3) := by decide +kernel
theorem dX6_find_42 : decode cX6_find 42 = .ok (.iconst 1, 1) := by decide +kernel
theorem dX6_find_43 : decode cX6_find 43 = .ok (.goto 4, 3) := by decide +kernel
theorem dX6_find_52 : decode cX6_find 52 = .ok (.aload_n 0, 1) := by decide +kernel
theorem dX6_find_53 : decode cX6_find 53 = .ok (.iload_n 1, 1) := by decide +kernel
set_option maxRecDepth 20000 in
theorem ggX6_find_X6_mayHold : GoodIn wsX6_find wsX6_mayHold := goodIn_r _ [38, 39, 40, 3, 4, 5, 6, 7, 8, 9, 10, 11, 12, 13, 14, 15, 16, 17, 18, 19, 53, 54, 55, 56, 57, 58, 59] rfl (by decide +kernel)
set_option maxRecDepth 20000 in
theorem gX6_find_X6_mayHold : GoodIn wsX6_find (wsV RX6 96 RX6 yX6_mayHold wsX6_mayHold) := goodIn_app (goodIn_of _ (by decide +kernel)) ggX6_find_X6_mayHold
theorem dX6_find_54 : decode cX6_find 54 = .ok (.invokevirtual 96, 3) := by decide +kernel
theorem dX6_find_57 : decode cX6_find 57 = .ok (.ifCond .eq 7, 3) := by decide +kernel
theorem dX6_find_60 : decode cX6_find 60 = .ok (.iload_n 2, 1) := by decide +kernel
theorem dX6_find_61 : decode cX6_find 61 = .ok (.goto 4, 3) := by decide +kernel
theorem dX6_enter_0 : decode cX6_enter 0 = .ok (.aload_n 0, 1) := by decide +kernel
theorem dX6_enter_1 : decode cX6_enter 1 = .ok (.getfield 37, 3) := by decide +kernel
theorem dX6_enter_4 : decode cX6_enter 4 = .ok (.aload_n 0, 1) := by decide +kernel
theorem dX6_enter_5 : decode cX6_enter 5 = .ok (.aload_n 0, 1) := by decide +kernel
theorem dX6_enter_6 : decode cX6_enter 6 = .ok (.iload_n 1, 1) := by decide +kernel
set_option maxRecDepth 20000 in
theorem ggX6_enter_X6_rank : GoodIn wsX6_enter wsX6_rank := goodIn_r _ [7, 8, 9, 10, 11, 12, 13, 14, 15, 16, 17, 18, 19, 72, 73, 74, 75, 76, 77, 78] rfl (by decide +kernel)
set_option maxRecDepth 20000 in
theorem gX6_enter_X6_rank : GoodIn wsX6_enter (wsV RX6 71 RX6 yX6_rank wsX6_rank) := goodIn_app (goodIn_of _ (by decide +kernel)) ggX6_enter_X6_rank
theorem dX6_enter_7 : decode cX6_enter 7 = .ok (.invokevirtual 71, 3) := by decide +kernel
set_option maxRecDepth 20000 in
theorem ggX6_enter_X6_howManyBelow : GoodIn wsX6_enter wsX6_howManyBelow := goodIn_r _ [23, 1, 2, 24, 25, 26, 27, 28, 29, 30, 31, 32, 33, 34, 3, 4, 5, 6, 7, 8, 9, 10, 11, 12, 13, 14, 15, 16, 17, 18, 19, 60, 61, 62, 63, 64, 65, 66, 67, 68, 69, 70, 71, 72, 73, 74, 75, 76, 77, 78, 79, 80, 81, 82] rfl (by decide +kernel)
set_option maxRecDepth 20000 in
theorem gX6_enter_X6_howManyBelow : GoodIn wsX6_enter (wsV RX6 82 RX6 yX6_howManyBelow wsX6_howManyBelow) := goodIn_app (goodIn_of _ (by decide +kernel)) ggX6_enter_X6_howManyBelow
theorem dX6_enter_10 : decode cX6_enter 10 = .ok (.invokevirtual 82, 3) := by decide +kernel
theorem dX6_enter_13 : decode cX6_enter 13 = .ok (.iload_n 1, 1) := by decide +kernel
theorem dX6_enter_14 : decode cX6_enter 14 = .ok (.iload_n 2, 1) := by decide +kernel
set_option maxRecDepth 20000 in
theorem ggX6_enter_X5_insert : GoodIn wsX6_enter wsX5_insert := goodIn_r _ [38, 29, 34, 39, 40, 41, 42, 43, 44, 45, 46, 47, 48, 49, 50, 51, 52, 53, 54, 55, 56, 57, 14, 58, 59, 79, 80, 81, 82] rfl (by decide +kernel)
set_option maxRecDepth 20000 in
theorem gX6_enter_X5_insert : GoodIn wsX6_enter (wsV RX6 99 RX5 yX5_insert wsX5_insert) := goodIn_app (goodIn_of _ (by decide +kernel)) ggX6_enter_X5_insert
theorem dX6_enter_15 : decode cX6_enter 15 = .ok (.invokevirtual 99, 3) := by decide +kernel
theorem dX6_enter_18 : decode cX6_enter 18 = .ok (.return_, 1) := by decide +kernel
theorem dX6_leaveAll_0 : decode cX6_leaveAll 0 = .ok (.aload_n 0, 1) := by decide +kernel
theorem dX6_leaveAll_1 : decode cX6_leaveAll 1 = .ok (.getfield 37, 3) := by decide +kernel
theorem dX6_leaveAll_4 : decode cX6_leaveAll 4 = .ok (.aload_n 0, 1) := by decide +kernel
set_option maxRecDepth 20000 in
theorem ggX6_leaveAll_X6_start : GoodIn wsX6_leaveAll wsX6_start := goodIn_r _ [7, 8, 9, 10, 11, 12, 6, 13, 1, 2, 14, 15, 16, 17, 18, 19, 20, 21, 22, 23, 24, 25, 26, 27, 28, 29, 30, 31, 32, 33, 34, 35, 36, 37, 38, 39, 40, 69, 70, 71, 72, 73, 74, 75, 57, 58, 59, 60, 61, 62, 63, 64, 65, 66, 67, 68, 76, 77, 78, 79] rfl (by decide +kernel)
set_option maxRecDepth 20000 in
theorem gX6_leaveAll_X6_start : GoodIn wsX6_leaveAll (wsV RX6 89 RX6 yX6_start wsX6_start) := goodIn_app (goodIn_of _ (by decide +kernel)) ggX6_leaveAll_X6_start
theorem dX6_leaveAll_5 : decode cX6_leaveAll 5 = .ok (.invokevirtual 89, 3) := by decide +kernel
theorem dX6_leaveAll_8 : decode cX6_leaveAll 8 = .ok (.aload_n 0, 1) := by decide +kernel
set_option maxRecDepth 20000 in
theorem ggX6_leaveAll_X6_end : GoodIn wsX6_leaveAll wsX6_end := goodIn_r _ [44, 45, 46, 1, 2, 14, 15, 16, 17, 18, 19, 10, 11, 12, 6, 13, 20, 21, 22, 23, 24, 25, 26, 27, 28, 29, 30, 31, 32, 33, 34, 35, 36, 37, 38, 39, 40, 69, 70, 71, 72, 73, 74, 75, 57, 58, 59, 60, 61, 62, 63, 64, 65, 66, 67, 68, 76, 77, 78, 79] rfl (by decide +kernel)
set_option maxRecDepth 20000 in
theorem gX6_leaveAll_X6_end : GoodIn wsX6_leaveAll (wsV RX6 86 RX6 yX6_end wsX6_end) := goodIn_app (goodIn_of _ (by decide +kernel)) ggX6_leaveAll_X6_end
theorem dX6_leaveAll_9 : decode cX6_leaveAll 9 = .ok (.invokevirtual 86, 3) := by decide +kernel
set_option maxRecDepth 20000 in
theorem ggX6_leaveAll_X5_remove : GoodIn wsX6_leaveAll wsX5_remove := goodIn_r _ [50, 19, 24, 51, 52, 53, 54, 55, 56, 76, 77, 78, 79] rfl (by decide +kernel)
set_option maxRecDepth 20000 in
theorem gX6_leaveAll_X5_remove : GoodIn wsX6_leaveAll (wsV RX6 103 RX5 yX5_remove wsX5_remove) := goodIn_app (goodIn_of _ (by decide +kernel)) ggX6_leaveAll_X5_remove
theorem dX6_leaveAll_12 : decode cX6_leaveAll 12 = .ok (.invokevirtual 103, 3) := by decide +kernel
theorem dX6_leaveAll_15 : decode cX6_leaveAll 15 = .ok (.return_, 1) := by decide +kernel
theorem dX6_howManyFrom_0 : decode cX6_howManyFrom 0 = .ok (.aload_n 0, 1) := by decide +kernel
set_option maxRecDepth 20000 in
theorem ggX6_howManyFrom_X6_end : GoodIn wsX6_howManyFrom wsX6_end := goodIn_r _ [12, 13, 14, 15, 16, 17, 18, 19, 20, 21, 22, 23, 24, 25, 11, 26, 27, 28, 29, 30, 31, 32, 33, 34, 35, 36, 37, 38, 39, 40, 41, 3, 42, 43, 44, 45, 46, 53, 54, 55, 56, 57, 58, 59, 60, 61, 62, 63, 64, 65, 66, 67, 68, 69, 70, 71, 72, 73, 74, 75] rfl (by decide +kernel)
set_option maxRecDepth 20000 in
theorem gX6_howManyFrom_X6_end : GoodIn wsX6_howManyFrom (wsV RX6 86 RX6 yX6_end wsX6_end) := goodIn_app (goodIn_of _ (by decide +kernel)) ggX6_howManyFrom_X6_end
theorem dX6_howManyFrom_1 : decode cX6_howManyFrom 1 = .ok (.invokevirtual 86, 3) := by decide +kernel
theorem dX6_howManyFrom_4 : decode cX6_howManyFrom 4 = .ok (.istore_n 3, 1) := by decide +kernel
theorem dX6_howManyFrom_5 : decode cX6_howManyFrom 5 = .ok (.iload_n 3, 1) := by decide +kernel
theorem dX6_howManyFrom_6 : decode cX6_howManyFrom 6 = .ok (.aload_n 0, 1) := by decide +kernel
set_option maxRecDepth 20000 in
theorem ggX6_howManyFrom_X6_start : GoodIn wsX6_howManyFrom wsX6_start := goodIn_r _ [50, 51, 52, 23, 24, 25, 11, 26, 15, 16, 17, 18, 19, 20, 21, 22, 27, 28, 29, 30, 31, 32, 33, 34, 35, 36, 37, 38, 39, 40, 41, 3, 42, 43, 44, 45, 46, 53, 54, 55, 56, 57, 58, 59, 60, 61, 62, 63, 64, 65, 66, 67, 68, 69, 70, 71, 72, 73, 74, 75] rfl (by decide +kernel)
set_option maxRecDepth 20000 in
theorem gX6_howManyFrom_X6_start : GoodIn wsX6_howManyFrom (wsV RX6 89 RX6 yX6_start wsX6_start) := goodIn_app (goodIn_of _ (by decide +kernel)) ggX6_howManyFrom_X6_start
theorem dX6_howManyFrom_7 : decode cX6_howManyFrom 7 = .ok (.invokevirtual 89, 3) := by decide +kernel
theorem dX6_howManyFrom_10 : decode cX6_howManyFrom 10 = .ok (.iload_n 3, 1) := by decide +kernel
theorem dX6_howManyFrom_11 : decode cX6_howManyFrom 11 = .ok (.aload_n 0, 1) := by decide +kernel
theorem dX6_howManyFrom_12 : decode cX6_howManyFrom 12 = .ok (.lload_n 1, 1) := by decide +kernel
set_option maxRecDepth 20000 in
theorem ggX6_howManyFrom_X6_howManyBelow : GoodIn wsX6_howManyFrom wsX6_howManyBelow := goodIn_r _ [26, 15, 16, 17, 18, 19, 20, 21, 22, 27, 28, 29, 30, 31, 32, 33, 34, 11, 35, 36, 37, 38, 39, 40, 41, 3, 42, 43, 44, 45, 46, 60, 61, 62, 63, 64, 65, 66, 67, 68, 69, 70, 71, 53, 54, 55, 56, 57, 58, 59, 72, 73, 74, 75] rfl (by decide +kernel)
set_option maxRecDepth 20000 in
theorem gX6_howManyFrom_X6_howManyBelow : GoodIn wsX6_howManyFrom (wsV RX6 82 RX6 yX6_howManyBelow wsX6_howManyBelow) := goodIn_app (goodIn_of _ (by decide +kernel)) ggX6_howManyFrom_X6_howManyBelow
theorem dX6_howManyFrom_13 : decode cX6_howManyFrom 13 = .ok (.invokevirtual 82, 3) := by decide +kernel
theorem dX6_howManyFrom_16 : decode cX6_howManyFrom 16 = .ok (.invokestatic 111, 3) := by decide +kernel
theorem dX6_howManyFrom_19 : decode cX6_howManyFrom 19 = .ok (.invokestatic 113, 3) := by decide +kernel
theorem dX6_howManyFrom_22 : decode cX6_howManyFrom 22 = .ok (.isub, 1) := by decide +kernel
theorem dX6_howManyFrom_23 : decode cX6_howManyFrom 23 = .ok (.ireturn, 1) := by decide +kernel
theorem dX6_howManyBefore_0 : decode cX6_howManyBefore 0 = .ok (.aload_n 0, 1) := by decide +kernel
theorem dX6_howManyBefore_1 : decode cX6_howManyBefore 1 = .ok (.getfield 22, 3) := by decide +kernel
theorem dX6_howManyBefore_4 : decode cX6_howManyBefore 4 = .ok (.ifCond .eq 17, 3) := by decide +kernel
theorem dX6_howManyBefore_21 : decode cX6_howManyBefore 21 = .ok (.aload_n 0, 1) := by decide +kernel
set_option maxRecDepth 20000 in
theorem ggX6_howManyBefore_X6_size : GoodIn wsX6_howManyBefore wsX6_size := goodIn_r _ [61, 29, 30, 31, 5, 32, 33, 34, 35, 36, 37, 38, 39, 40, 41, 42, 43, 44, 45, 46, 47, 48, 49, 50, 51, 2, 3, 4, 6, 7, 8, 9, 10, 11, 12, 13, 14, 15, 16, 17, 18, 52, 53, 54, 55, 56, 57, 62, 63, 64, 65, 66, 67, 68, 69, 70, 71, 72, 73, 74, 75, 76, 77, 78, 79, 80, 81, 82, 83, 84] rfl (by decide +kernel)
set_option maxRecDepth 20000 in
theorem gX6_howManyBefore_X6_size : GoodIn wsX6_howManyBefore (wsV RX6 110 RX6 yX6_size wsX6_size) := goodIn_app (goodIn_of _ (by decide +kernel)) ggX6_howManyBefore_X6_size
theorem dX6_howManyBefore_22 : decode cX6_howManyBefore 22 = .ok (.invokevirtual 110, 3) := by decide +kernel
theorem dX6_howManyBefore_25 : decode cX6_howManyBefore 25 = .ok (.aload_n 0, 1) := by decide +kernel
theorem dX6_howManyBefore_26 : decode cX6_howManyBefore 26 = .ok (.aload_n 0, 1) := by decide +kernel
theorem dX6_howManyBefore_27 : decode cX6_howManyBefore 27 = .ok (.iload_n 1, 1) := by decide +kernel
set_option maxRecDepth 20000 in
theorem ggX6_howManyBefore_X6_rank : GoodIn wsX6_howManyBefore wsX6_rank := goodIn_r _ [6, 7, 8, 9, 10, 11, 12, 13, 14, 15, 16, 17, 18, 62, 63, 64, 65, 66, 67, 68] rfl (by decide +kernel)
set_option maxRecDepth 20000 in
theorem gX6_howManyBefore_X6_rank : GoodIn wsX6_howManyBefore (wsV RX6 71 RX6 yX6_rank wsX6_rank) := goodIn_app (goodIn_of _ (by decide +kernel)) ggX6_howManyBefore_X6_rank
theorem dX6_howManyBefore_28 : decode cX6_howManyBefore 28 = .ok (.invokevirtual 71, 3) := by decide +kernel
set_option maxRecDepth 20000 in
theorem ggX6_howManyBefore_X6_howManyFrom : GoodIn wsX6_howManyBefore wsX6_howManyFrom := goodIn_r _ [22, 23, 24, 13, 25, 26, 27, 28, 29, 30, 31, 5, 32, 33, 34, 35, 36, 37, 38, 39, 40, 41, 42, 43, 44, 45, 46, 47, 48, 49, 50, 51, 2, 3, 4, 6, 7, 8, 9, 10, 11, 12, 14, 15, 16, 17, 18, 52, 53, 54, 55, 56, 57, 62, 63, 64, 65, 66, 67, 68, 69, 70, 71, 72, 73, 74, 75, 76, 77, 78, 79, 80, 81, 82, 83, 84] rfl (by decide +kernel)
set_option maxRecDepth 20000 in
theorem gX6_howManyBefore_X6_howManyFrom : GoodIn wsX6_howManyBefore (wsV RX6 107 RX6 yX6_howManyFrom wsX6_howManyFrom) := goodIn_app (goodIn_of _ (by decide +kernel)) ggX6_howManyBefore_X6_howManyFrom
theorem dX6_howManyBefore_31 : decode cX6_howManyBefore 31 = .ok (.invokevirtual 107, 3) := by decide +kernel
theorem dX6_howManyBefore_34 : decode cX6_howManyBefore 34 = .ok (.isub, 1) := by decide +kernel
theorem dX6_howManyBefore_35 : decode cX6_howManyBefore 35 = .ok (.ireturn, 1) := by decide +kernel
theorem dX6_howManyBefore_7 : decode cX6_howManyBefore 7 = .ok (.aload_n 0, 1) := by decide +kernel
theorem dX6_howManyBefore_8 : decode cX6_howManyBefore 8 = .ok (.aload_n 0, 1) := by decide +kernel
theorem dX6_howManyBefore_9 : decode cX6_howManyBefore 9 = .ok (.iload_n 1, 1) := by decide +kernel
theorem dX6_howManyBefore_10 : decode cX6_howManyBefore 10 = .ok (.invokevirtual 71, 3) := by decide +kernel
theorem dX6_howManyBefore_13 : decode cX6_howManyBefore 13 = .ok (.lconst 1, 1) := by decide +kernel
theorem dX6_howManyBefore_14 : decode cX6_howManyBefore 14 = .ok (.ladd, 1) := by decide +kernel
theorem dX6_howManyBefore_15 : decode cX6_howManyBefore 15 = .ok (.invokevirtual 107, 3) := by decide +kernel
theorem dX6_howManyBefore_18 : decode cX6_howManyBefore 18 = .ok (.goto 17, 3) := by decide +kernel
theorem dX6_howManyUpTo_0 : decode cX6_howManyUpTo 0 = .ok (.aload_n 0, 1) := by decide +kernel
theorem dX6_howManyUpTo_1 : decode cX6_howManyUpTo 1 = .ok (.getfield 22, 3) := by decide +kernel
theorem dX6_howManyUpTo_4 : decode cX6_howManyUpTo 4 = .ok (.ifCond .eq 15, 3) := by decide +kernel
theorem dX6_howManyUpTo_19 : decode cX6_howManyUpTo 19 = .ok (.aload_n 0, 1) := by decide +kernel
set_option maxRecDepth 20000 in
theorem ggX6_howManyUpTo_X6_size : GoodIn wsX6_howManyUpTo wsX6_size := goodIn_r _ [61, 29, 30, 31, 5, 32, 33, 34, 35, 36, 37, 38, 39, 40, 41, 42, 43, 44, 45, 46, 47, 48, 49, 50, 51, 2, 3, 4, 6, 7, 8, 9, 10, 11, 12, 13, 14, 15, 16, 17, 18, 52, 53, 54, 55, 56, 57, 62, 63, 64, 65, 66, 67, 68, 69, 70, 71, 72, 73, 74, 75, 76, 77, 78, 79, 80, 81, 82, 83, 84] rfl (by decide +kernel)
set_option maxRecDepth 20000 in
theorem gX6_howManyUpTo_X6_size : GoodIn wsX6_howManyUpTo (wsV RX6 110 RX6 yX6_size wsX6_size) := goodIn_app (goodIn_of _ (by decide +kernel)) ggX6_howManyUpTo_X6_size
theorem dX6_howManyUpTo_20 : decode cX6_howManyUpTo 20 = .ok (.invokevirtual 110, 3) := by decide +kernel
theorem dX6_howManyUpTo_23 : decode cX6_howManyUpTo 23 = .ok (.aload_n 0, 1) := by decide +kernel
theorem dX6_howManyUpTo_24 : decode cX6_howManyUpTo 24 = .ok (.aload_n 0, 1) := by decide +kernel
theorem dX6_howManyUpTo_25 : decode cX6_howManyUpTo 25 = .ok (.iload_n 1, 1) := by decide +kernel
set_option maxRecDepth 20000 in
theorem ggX6_howManyUpTo_X6_rank : GoodIn wsX6_howManyUpTo wsX6_rank := goodIn_r _ [6, 7, 8, 9, 10, 11, 12, 13, 14, 15, 16, 17, 18, 62, 63, 64, 65, 66, 67, 68] rfl (by decide +kernel)
set_option maxRecDepth 20000 in
theorem gX6_howManyUpTo_X6_rank : GoodIn wsX6_howManyUpTo (wsV RX6 71 RX6 yX6_rank wsX6_rank) := goodIn_app (goodIn_of _ (by decide +kernel)) ggX6_howManyUpTo_X6_rank
theorem dX6_howManyUpTo_26 : decode cX6_howManyUpTo 26 = .ok (.invokevirtual 71, 3) := by decide +kernel
theorem dX6_howManyUpTo_29 : decode cX6_howManyUpTo 29 = .ok (.lconst 1, 1) := by decide +kernel
theorem dX6_howManyUpTo_30 : decode cX6_howManyUpTo 30 = .ok (.ladd, 1) := by decide +kernel
set_option maxRecDepth 20000 in
theorem ggX6_howManyUpTo_X6_howManyFrom : GoodIn wsX6_howManyUpTo wsX6_howManyFrom := goodIn_r _ [22, 23, 24, 13, 25, 26, 27, 28, 29, 30, 31, 5, 32, 33, 34, 35, 36, 37, 38, 39, 40, 41, 42, 43, 44, 45, 46, 47, 48, 49, 50, 51, 2, 3, 4, 6, 7, 8, 9, 10, 11, 12, 14, 15, 16, 17, 18, 52, 53, 54, 55, 56, 57, 62, 63, 64, 65, 66, 67, 68, 69, 70, 71, 72, 73, 74, 75, 76, 77, 78, 79, 80, 81, 82, 83, 84] rfl (by decide +kernel)
set_option maxRecDepth 20000 in
theorem gX6_howManyUpTo_X6_howManyFrom : GoodIn wsX6_howManyUpTo (wsV RX6 107 RX6 yX6_howManyFrom wsX6_howManyFrom) := goodIn_app (goodIn_of _ (by decide +kernel)) ggX6_howManyUpTo_X6_howManyFrom
theorem dX6_howManyUpTo_31 : decode cX6_howManyUpTo 31 = .ok (.invokevirtual 107, 3) := by decide +kernel
theorem dX6_howManyUpTo_34 : decode cX6_howManyUpTo 34 = .ok (.isub, 1) := by decide +kernel
theorem dX6_howManyUpTo_35 : decode cX6_howManyUpTo 35 = .ok (.ireturn, 1) := by decide +kernel
theorem dX6_howManyUpTo_7 : decode cX6_howManyUpTo 7 = .ok (.aload_n 0, 1) := by decide +kernel
theorem dX6_howManyUpTo_8 : decode cX6_howManyUpTo 8 = .ok (.aload_n 0, 1) := by decide +kernel
theorem dX6_howManyUpTo_9 : decode cX6_howManyUpTo 9 = .ok (.iload_n 1, 1) := by decide +kernel
theorem dX6_howManyUpTo_10 : decode cX6_howManyUpTo 10 = .ok (.invokevirtual 71, 3) := by decide +kernel
theorem dX6_howManyUpTo_13 : decode cX6_howManyUpTo 13 = .ok (.invokevirtual 107, 3) := by decide +kernel
theorem dX6_howManyUpTo_16 : decode cX6_howManyUpTo 16 = .ok (.goto 19, 3) := by decide +kernel
set_option maxHeartbeats 4000000 in
set_option maxRecDepth 100000 in
/-- X6.edge -/
theorem c_X6_edge (l : Launch) (dC : Nat → ClassId) (dI : Nat → Nat → Nat) (sz : Nat) (y0 : Nat) (kd : Int32) (wh : Int32) (od : Int32) (tu : Int32) (lo : Int64) (hi : Int64) (x0 : Nat) (k0 : Nat) (w0 : Nat) (ck : ClassId) (cw : ClassId) (L : Nat) (f : Nat → Int32) (g : Nat → Int32) (nz : Nat) (ch : Int32) (p0 : Int32) (hR9 : rOK L nz) (ho1 : 0 ≤ od.toInt) (ho2 : od.toInt ≤ 3) : Met l yX6_edge wsX6_edge ({ frames := 2, cells := 0, slots := 0, locals := 80 }) (va_Pc [.ref y0, .int p0] (pk_PreR (dC, dI) [(y0, .inr (6, [.ref x0, .int kd, .int wh, .int od, .int tu, .long lo, .long hi])), (x0, .inr (5, [.ref k0, .ref w0, .int (nI nz), .int ch])), (k0, .inl (ck, L, .inl f)), (w0, .inl (cw, L, .inl g))] [(ck, .int), (cw, .int)] sz)) (va_Ql (fun (x : Int64) (u : Unit) => True) (fun _ (t : State) => t.heap.size = sz) ro_A) 0 0 ro_A := by
  refine Met.ofW (cc := cX6_edge) (maxL := 2) (ret := (some .long)) (by decide) rfl ?_
  intro p e s m args below meth c s₁ B hml hv
  obtain ⟨rfl, hsz, hP, hK⟩ := hv
  have hx := B.exec
  have hb := B.bytes
  have hr := B.returns
  have hts := atoms_spec (ws := wsX6_edge) B.pre
  have hown : s.vm.findClass RX6 = some m.cls := findClass_of_methodNamed B.named
  have hlocks := B.notSynchronized
  subst hsz
  have hS : va_S ro_A s.heap s.heap [] := va_S.rf
  have hP : va_P (dC, dI) vwCl [(y0, .inr (6, [.ref x0, .int kd, .int wh, .int od, .int tu, .long lo, .long hi])), (x0, .inr (5, [.ref k0, .ref w0, .int (nI nz), .int ch])), (k0, .inl (ck, L, .inl f)), (w0, .inl (cw, L, .inl g))] s.heap := hP
  have hl := lv_entry ([.ref y0, .int p0]) (n := 2) (Nat.le_of_ble_eq_true rfl)
  rw [lg_entry_eq]
  generalize (lg_sl ([.ref y0, .int p0]) ++ List.replicate (2 - (lg_sl ([.ref y0, .int p0])).length) Slot.unset).toArray = ls at hl ⊢
  have hl : lv_has ls 2 [(0, .ref y0), (1, .int p0)] := hl
  have hw0_ := hts (.fieldLink RX6 22 "KeyAtlas$Sorted" "isTurned" "Z") (List.mem_of_getElem? (l := wsX6_edge) (i := 1) rfl)
  have hi0_ : ∀ w ∈ u_ws RX6 TX6 7, w ∈ wsX6_edge := fun w h => List.mem_cons_of_mem _ (List.mem_append_right _ h)
  refine lv_aload_n hx hb dX6_edge_0 rfl (lv_at hl 0 rfl) ?_
  refine va_get (D := (dC, dI)) (ci := 6) (v := .int tu) (C := RX6) (T := TX6) (N := 7) hx hb hts hi0_ hown hK hP 0 rfl rfl 4 (by decide) hw0_ (fun _ h9 => h9) rfl dX6_edge_1 ?_
  refine lv_if_eq (tgt := 17) hx hb dX6_edge_4 (by decide) (fun c_1 => ?_) (fun c_1 => ?_)
  ·
    have ic_1 : tu.toInt = 0 := tx_eq rfl (by decide) c_1
    refine lv_aload_n hx hb dX6_edge_17 rfl (lv_at hl 0 rfl) ?_
    refine lv_iload_n hx hb dX6_edge_18 rfl (lv_at hl 1 rfl) ?_
    have hPc := hP.sub (ws' := [(y0, .inr (6, [.ref x0, .int kd, .int wh, .int od, .int tu, .long lo, .long hi]))]) [0] rfl
    have hKc := hK.sub (tys' := []) [] rfl
    refine ro_calll (va_runV (As := [.int p0]) (rest := []) ⟨hx, hb, hml, hown, hts⟩ (c_X6_rank l  dC dI s.heap.size y0 od (.ref x0) (.int kd) (.int wh) (.int tu) (.long lo) (.long hi) p0 ho1 ho2) (cwV 1 hts gX6_edge_X6_rank rfl rfl rfl (by decide +kernel) ⟨(Nat.le_of_ble_eq_true rfl), (Nat.le_of_ble_eq_true rfl)⟩) ⟨pk_blindR, va_recv hKc hPc (ci := 6) (q0 := 0) rfl rfl, pk_callR hPc hKc⟩ rfl rfl hl.1 rfl (lv_room (Nat.le_of_ble_eq_true rfl)) dX6_edge_19 ⟨(Nat.le_of_ble_eq_true rfl), (Nat.le_of_ble_eq_true rfl)⟩) (fun r_2 ur_2 hw => ?_)
    clear hPc hKc
    try dsimp only at hw
    have jr_2 := hw
    refine W.eq (g2 := F0 m 22 ls [.long r_2]) rfl ?_
    refine W.widen (k := 0) (n := 0) (Nat.le_of_ble_eq_true rfl) (Nat.le_of_ble_eq_true rfl) ?_
    exact W.lret (v := r_2) hx hb hr (fun t ht hW => ⟨⟨r_2, (), rfl, trivial, congrArg Array.size ht⟩, hS.F ht⟩) hS.2.2 dX6_edge_22
  ·
    have ic_1 : ¬ tu.toInt = 0 := tx_ne rfl (by decide) c_1
    refine lv_aload_n hx hb dX6_edge_7 rfl (lv_at hl 0 rfl) ?_
    refine lv_iload_n hx hb dX6_edge_8 rfl (lv_at hl 1 rfl) ?_
    have hPc := hP.sub (ws' := [(y0, .inr (6, [.ref x0, .int kd, .int wh, .int od, .int tu, .long lo, .long hi]))]) [0] rfl
    have hKc := hK.sub (tys' := []) [] rfl
    refine ro_calll (va_runV (As := [.int p0]) (rest := []) ⟨hx, hb, hml, hown, hts⟩ (c_X6_rank l  dC dI s.heap.size y0 od (.ref x0) (.int kd) (.int wh) (.int tu) (.long lo) (.long hi) p0 ho1 ho2) (cwV 1 hts gX6_edge_X6_rank rfl rfl rfl (by decide +kernel) ⟨(Nat.le_of_ble_eq_true rfl), (Nat.le_of_ble_eq_true rfl)⟩) ⟨pk_blindR, va_recv hKc hPc (ci := 6) (q0 := 0) rfl rfl, pk_callR hPc hKc⟩ rfl rfl hl.1 rfl (lv_room (Nat.le_of_ble_eq_true rfl)) dX6_edge_9 ⟨(Nat.le_of_ble_eq_true rfl), (Nat.le_of_ble_eq_true rfl)⟩) (fun r_3 ur_3 hw => ?_)
    clear hPc hKc
    try dsimp only at hw
    have jr_3 := hw
    refine W.eq (g2 := F0 m 12 ls [.long r_3]) rfl ?_
    refine lv_lconst (v := 1) hx hb dX6_edge_12 (by decide) ?_
    refine lv_ladd hx hb dX6_edge_13 ?_
    refine lv_goto (tgt := 22) hx hb dX6_edge_14 (by decide) ?_
    refine W.widen (k := 0) (n := 0) (Nat.le_of_ble_eq_true rfl) (Nat.le_of_ble_eq_true rfl) ?_
    exact W.lret (v := r_3 + 1) hx hb hr (fun t ht hW => ⟨⟨r_3 + 1, (), rfl, trivial, congrArg Array.size ht⟩, hS.F ht⟩) hS.2.2 dX6_edge_22
set_option maxHeartbeats 4000000 in
set_option maxRecDepth 100000 in
/-- X6.isBefore -/
theorem c_X6_isBefore (l : Launch) (dC : Nat → ClassId) (dI : Nat → Nat → Nat) (sz : Nat) (y0 : Nat) (kd : Int32) (wh : Int32) (od : Int32) (tu : Int32) (lo : Int64) (hi : Int64) (x0 : Nat) (k0 : Nat) (w0 : Nat) (ck : ClassId) (cw : ClassId) (L : Nat) (f : Nat → Int32) (g : Nat → Int32) (nz : Nat) (ch : Int32) (p0 : Int32) (p1 : Int32) (hR9 : rOK L nz) (ho1 : 0 ≤ od.toInt) (ho2 : od.toInt ≤ 3) : Met l yX6_isBefore wsX6_isBefore ({ frames := 2, cells := 0, slots := 0, locals := 80 }) (va_Pc [.ref y0, .int p0, .int p1] (pk_PreR (dC, dI) [(y0, .inr (6, [.ref x0, .int kd, .int wh, .int od, .int tu, .long lo, .long hi])), (x0, .inr (5, [.ref k0, .ref w0, .int (nI nz), .int ch])), (k0, .inl (ck, L, .inl f)), (w0, .inl (cw, L, .inl g))] [(ck, .int), (cw, .int)] sz)) (va_Qi (fun (x : Int32) (u : Unit) => (x.toInt = 1 ∧ ((tu.toInt = 0 ∧ rkI od.toInt p0 < rkI od.toInt p1) ∨ (¬ tu.toInt = 0 ∧ rkI od.toInt p1 < rkI od.toInt p0))) ∨ (x.toInt = 0 ∧ ((tu.toInt = 0 ∧ rkI od.toInt p1 ≤ rkI od.toInt p0) ∨ (¬ tu.toInt = 0 ∧ rkI od.toInt p0 ≤ rkI od.toInt p1)))) (fun _ (t : State) => t.heap.size = sz) ro_A) 0 0 ro_A := by
  refine Met.ofW (cc := cX6_isBefore) (maxL := 3) (ret := (some .boolean)) (by decide) rfl ?_
  intro p e s m args below meth c s₁ B hml hv
  obtain ⟨rfl, hsz, hP, hK⟩ := hv
  have hx := B.exec
  have hb := B.bytes
  have hr := B.returns
  have hts := atoms_spec (ws := wsX6_isBefore) B.pre
  have hown : s.vm.findClass RX6 = some m.cls := findClass_of_methodNamed B.named
  have hlocks := B.notSynchronized
  subst hsz
  have hS : va_S ro_A s.heap s.heap [] := va_S.rf
  have hP : va_P (dC, dI) vwCl [(y0, .inr (6, [.ref x0, .int kd, .int wh, .int od, .int tu, .long lo, .long hi])), (x0, .inr (5, [.ref k0, .ref w0, .int (nI nz), .int ch])), (k0, .inl (ck, L, .inl f)), (w0, .inl (cw, L, .inl g))] s.heap := hP
  have hl := lv_entry ([.ref y0, .int p0, .int p1]) (n := 3) (Nat.le_of_ble_eq_true rfl)
  rw [lg_entry_eq]
  generalize (lg_sl ([.ref y0, .int p0, .int p1]) ++ List.replicate (3 - (lg_sl ([.ref y0, .int p0, .int p1])).length) Slot.unset).toArray = ls at hl ⊢
  have hl : lv_has ls 3 [(0, .ref y0), (1, .int p0), (2, .int p1)] := hl
  have hw0_ := hts (.fieldLink RX6 22 "KeyAtlas$Sorted" "isTurned" "Z") (List.mem_of_getElem? (l := wsX6_isBefore) (i := 1) rfl)
  have hi0_ : ∀ w ∈ u_ws RX6 TX6 7, w ∈ wsX6_isBefore := fun w h => List.mem_cons_of_mem _ (List.mem_append_right _ h)
  refine lv_aload_n hx hb dX6_isBefore_0 rfl (lv_at hl 0 rfl) ?_
  refine va_get (D := (dC, dI)) (ci := 6) (v := .int tu) (C := RX6) (T := TX6) (N := 7) hx hb hts hi0_ hown hK hP 0 rfl rfl 4 (by decide) hw0_ (fun _ h9 => h9) rfl dX6_isBefore_1 ?_
  refine lv_if_eq (tgt := 29) hx hb dX6_isBefore_4 (by decide) (fun c_1 => ?_) (fun c_1 => ?_)
  ·
    have ic_1 : tu.toInt = 0 := tx_eq rfl (by decide) c_1
    refine lv_aload_n hx hb dX6_isBefore_29 rfl (lv_at hl 0 rfl) ?_
    refine lv_iload_n hx hb dX6_isBefore_30 rfl (lv_at hl 1 rfl) ?_
    have hPc := hP.sub (ws' := [(y0, .inr (6, [.ref x0, .int kd, .int wh, .int od, .int tu, .long lo, .long hi]))]) [0] rfl
    have hKc := hK.sub (tys' := []) [] rfl
    refine ro_calll (va_runV (As := [.int p0]) (rest := []) ⟨hx, hb, hml, hown, hts⟩ (c_X6_rank l  dC dI s.heap.size y0 od (.ref x0) (.int kd) (.int wh) (.int tu) (.long lo) (.long hi) p0 ho1 ho2) (cwV 1 hts gX6_isBefore_X6_rank rfl rfl rfl (by decide +kernel) ⟨(Nat.le_of_ble_eq_true rfl), (Nat.le_of_ble_eq_true rfl)⟩) ⟨pk_blindR, va_recv hKc hPc (ci := 6) (q0 := 0) rfl rfl, pk_callR hPc hKc⟩ rfl rfl hl.1 rfl (lv_room (Nat.le_of_ble_eq_true rfl)) dX6_isBefore_31 ⟨(Nat.le_of_ble_eq_true rfl), (Nat.le_of_ble_eq_true rfl)⟩) (fun r_2 ur_2 hw => ?_)
    clear hPc hKc
    try dsimp only at hw
    have jr_2 := hw
    refine W.eq (g2 := F0 m 34 ls [.long r_2]) rfl ?_
    refine lv_aload_n hx hb dX6_isBefore_34 rfl (lv_at hl 0 rfl) ?_
    refine lv_iload_n hx hb dX6_isBefore_35 rfl (lv_at hl 2 rfl) ?_
    have hPc := hP.sub (ws' := [(y0, .inr (6, [.ref x0, .int kd, .int wh, .int od, .int tu, .long lo, .long hi]))]) [0] rfl
    have hKc := hK.sub (tys' := []) [] rfl
    refine ro_calll (va_runV (As := [.int p1]) (rest := [.long r_2]) ⟨hx, hb, hml, hown, hts⟩ (c_X6_rank l  dC dI s.heap.size y0 od (.ref x0) (.int kd) (.int wh) (.int tu) (.long lo) (.long hi) p1 ho1 ho2) (cwV 1 hts gX6_isBefore_X6_rank rfl rfl rfl (by decide +kernel) ⟨(Nat.le_of_ble_eq_true rfl), (Nat.le_of_ble_eq_true rfl)⟩) ⟨pk_blindR, va_recv hKc hPc (ci := 6) (q0 := 0) rfl rfl, pk_callR hPc hKc⟩ rfl rfl hl.1 rfl (lv_room (Nat.le_of_ble_eq_true rfl)) dX6_isBefore_36 ⟨(Nat.le_of_ble_eq_true rfl), (Nat.le_of_ble_eq_true rfl)⟩) (fun r_3 ur_3 hw => ?_)
    clear hPc hKc
    try dsimp only at hw
    have jr_3 := hw
    refine W.eq (g2 := F0 m 39 ls [.long r_3, .long r_2]) rfl ?_
    refine W.lcmp hx hb dX6_isBefore_39 ?_
    refine lv_if_ge (tgt := 47) hx hb dX6_isBefore_40 (by decide) (fun c_4 => ?_) (fun c_4 => ?_)
    ·
      have ic_4 := lgc_ge c_4
      refine lv_iconst (v := 0) hx hb dX6_isBefore_47 (by decide) ?_
      refine W.widen (k := 0) (n := 0) (Nat.le_of_ble_eq_true rfl) (Nat.le_of_ble_eq_true rfl) ?_
      exact W.zret (v := 0) hx hb hr rfl (fun t ht hW => ⟨⟨0, (), rfl, Or.inr ⟨by decide, Or.inl ⟨by omega, by omega⟩⟩, congrArg Array.size ht⟩, hS.F ht⟩) hS.2.2 dX6_isBefore_48
    ·
      have ic_4 := lgc_nge c_4
      refine lv_iconst (v := 1) hx hb dX6_isBefore_43 (by decide) ?_
      refine lv_goto (tgt := 48) hx hb dX6_isBefore_44 (by decide) ?_
      refine W.widen (k := 0) (n := 0) (Nat.le_of_ble_eq_true rfl) (Nat.le_of_ble_eq_true rfl) ?_
      exact W.zret (v := 1) hx hb hr rfl (fun t ht hW => ⟨⟨1, (), rfl, Or.inl ⟨by decide, Or.inl ⟨by omega, by omega⟩⟩, congrArg Array.size ht⟩, hS.F ht⟩) hS.2.2 dX6_isBefore_48
  ·
    have ic_1 : ¬ tu.toInt = 0 := tx_ne rfl (by decide) c_1
    refine lv_aload_n hx hb dX6_isBefore_7 rfl (lv_at hl 0 rfl) ?_
    refine lv_iload_n hx hb dX6_isBefore_8 rfl (lv_at hl 1 rfl) ?_
    have hPc := hP.sub (ws' := [(y0, .inr (6, [.ref x0, .int kd, .int wh, .int od, .int tu, .long lo, .long hi]))]) [0] rfl
    have hKc := hK.sub (tys' := []) [] rfl
    refine ro_calll (va_runV (As := [.int p0]) (rest := []) ⟨hx, hb, hml, hown, hts⟩ (c_X6_rank l  dC dI s.heap.size y0 od (.ref x0) (.int kd) (.int wh) (.int tu) (.long lo) (.long hi) p0 ho1 ho2) (cwV 1 hts gX6_isBefore_X6_rank rfl rfl rfl (by decide +kernel) ⟨(Nat.le_of_ble_eq_true rfl), (Nat.le_of_ble_eq_true rfl)⟩) ⟨pk_blindR, va_recv hKc hPc (ci := 6) (q0 := 0) rfl rfl, pk_callR hPc hKc⟩ rfl rfl hl.1 rfl (lv_room (Nat.le_of_ble_eq_true rfl)) dX6_isBefore_9 ⟨(Nat.le_of_ble_eq_true rfl), (Nat.le_of_ble_eq_true rfl)⟩) (fun r_5 ur_5 hw => ?_)
    clear hPc hKc
    try dsimp only at hw
    have jr_5 := hw
    refine W.eq (g2 := F0 m 12 ls [.long r_5]) rfl ?_
    refine lv_aload_n hx hb dX6_isBefore_12 rfl (lv_at hl 0 rfl) ?_
    refine lv_iload_n hx hb dX6_isBefore_13 rfl (lv_at hl 2 rfl) ?_
    have hPc := hP.sub (ws' := [(y0, .inr (6, [.ref x0, .int kd, .int wh, .int od, .int tu, .long lo, .long hi]))]) [0] rfl
    have hKc := hK.sub (tys' := []) [] rfl
    refine ro_calll (va_runV (As := [.int p1]) (rest := [.long r_5]) ⟨hx, hb, hml, hown, hts⟩ (c_X6_rank l  dC dI s.heap.size y0 od (.ref x0) (.int kd) (.int wh) (.int tu) (.long lo) (.long hi) p1 ho1 ho2) (cwV 1 hts gX6_isBefore_X6_rank rfl rfl rfl (by decide +kernel) ⟨(Nat.le_of_ble_eq_true rfl), (Nat.le_of_ble_eq_true rfl)⟩) ⟨pk_blindR, va_recv hKc hPc (ci := 6) (q0 := 0) rfl rfl, pk_callR hPc hKc⟩ rfl rfl hl.1 rfl (lv_room (Nat.le_of_ble_eq_true rfl)) dX6_isBefore_14 ⟨(Nat.le_of_ble_eq_true rfl), (Nat.le_of_ble_eq_true rfl)⟩) (fun r_6 ur_6 hw => ?_)
    clear hPc hKc
    try dsimp only at hw
    have jr_6 := hw
    refine W.eq (g2 := F0 m 17 ls [.long r_6, .long r_5]) rfl ?_
    refine W.lcmp hx hb dX6_isBefore_17 ?_
    refine lv_if_le (tgt := 25) hx hb dX6_isBefore_18 (by decide) (fun c_7 => ?_) (fun c_7 => ?_)
    ·
      have ic_7 := lgc_le c_7
      refine lv_iconst (v := 0) hx hb dX6_isBefore_25 (by decide) ?_
      refine lv_goto (tgt := 48) hx hb dX6_isBefore_26 (by decide) ?_
      refine W.widen (k := 0) (n := 0) (Nat.le_of_ble_eq_true rfl) (Nat.le_of_ble_eq_true rfl) ?_
      exact W.zret (v := 0) hx hb hr rfl (fun t ht hW => ⟨⟨0, (), rfl, Or.inr ⟨by decide, Or.inr ⟨by omega, by omega⟩⟩, congrArg Array.size ht⟩, hS.F ht⟩) hS.2.2 dX6_isBefore_48
    ·
      have ic_7 := lgc_nle c_7
      refine lv_iconst (v := 1) hx hb dX6_isBefore_21 (by decide) ?_
      refine lv_goto (tgt := 48) hx hb dX6_isBefore_22 (by decide) ?_
      refine W.widen (k := 0) (n := 0) (Nat.le_of_ble_eq_true rfl) (Nat.le_of_ble_eq_true rfl) ?_
      exact W.zret (v := 1) hx hb hr rfl (fun t ht hW => ⟨⟨1, (), rfl, Or.inl ⟨by decide, Or.inr ⟨by omega, by omega⟩⟩, congrArg Array.size ht⟩, hS.F ht⟩) hS.2.2 dX6_isBefore_48
set_option maxHeartbeats 4000000 in
set_option maxRecDepth 100000 in
/-- X6.howManyBelow -/
theorem c_X6_howManyBelow (l : Launch) (dC : Nat → ClassId) (dI : Nat → Nat → Nat) (sz : Nat) (y0 : Nat) (kd : Int32) (wh : Int32) (od : Int32) (tu : Int32) (lo : Int64) (hi : Int64) (x0 : Nat) (k0 : Nat) (w0 : Nat) (ck : ClassId) (cw : ClassId) (L : Nat) (f : Nat → Int32) (g : Nat → Int32) (nz : Nat) (ch : Int32) (p0 : Int64) (hR9 : rOK L nz) (ho1 : 0 ≤ od.toInt) (ho2 : od.toInt ≤ 3) : Met l yX6_howManyBelow wsX6_howManyBelow ({ frames := 2, cells := 0, slots := 0, locals := 80 }) (va_Pc [.ref y0, .long p0] (pk_PreR (dC, dI) [(y0, .inr (6, [.ref x0, .int kd, .int wh, .int od, .int tu, .long lo, .long hi])), (x0, .inr (5, [.ref k0, .ref w0, .int (nI nz), .int ch])), (k0, .inl (ck, L, .inl f)), (w0, .inl (cw, L, .inl g))] [(ck, .int), (cw, .int)] sz)) (va_Qi (fun (x : Int32) (u : Unit) => ∃ k : Nat, k ≤ nz ∧ x = nI k) (fun _ (t : State) => t.heap.size = sz) ro_A) 0 0 ro_A := by
  refine Met.ofW (cc := cX6_howManyBelow) (maxL := 7) (ret := (some .int)) (by decide) rfl ?_
  intro p e s m args below meth c s₁ B hml hv
  obtain ⟨rfl, hsz, hP, hK⟩ := hv
  have hx := B.exec
  have hb := B.bytes
  have hr := B.returns
  have hts := atoms_spec (ws := wsX6_howManyBelow) B.pre
  have hown : s.vm.findClass RX6 = some m.cls := findClass_of_methodNamed B.named
  have hlocks := B.notSynchronized
  subst hsz
  have hS : va_S ro_A s.heap s.heap [] := va_S.rf
  have hP : va_P (dC, dI) vwCl [(y0, .inr (6, [.ref x0, .int kd, .int wh, .int od, .int tu, .long lo, .long hi])), (x0, .inr (5, [.ref k0, .ref w0, .int (nI nz), .int ch])), (k0, .inl (ck, L, .inl f)), (w0, .inl (cw, L, .inl g))] s.heap := hP
  have hl := lv_entry ([.ref y0, .long p0]) (n := 7) (Nat.le_of_ble_eq_true rfl)
  rw [lg_entry_eq]
  generalize (lg_sl ([.ref y0, .long p0]) ++ List.replicate (7 - (lg_sl ([.ref y0, .long p0])).length) Slot.unset).toArray = ls at hl ⊢
  have hl : lv_has ls 7 [(0, .ref y0), (1, .long p0)] := hl
  have hw0_ := hts (.fieldLink RX6 37 "KeyAtlas$Sorted" "rows" "LKeyAtlas$Rows;") (List.mem_of_getElem? (l := wsX6_howManyBelow) (i := 1) rfl)
  have hw1_ := hts (.sameField "KeyAtlas$Sorted" "KeyAtlas$Keyed" "rows" "LKeyAtlas$Rows;") (List.mem_of_getElem? (l := wsX6_howManyBelow) (i := 2) rfl)
  have hi0_ : ∀ w ∈ u_ws RX6 TX6 7, w ∈ wsX6_howManyBelow := fun w h => List.mem_cons_of_mem _ (List.mem_append_left _ (List.mem_append_right _ h))
  obtain ⟨hL1, hL2, hz1, hz2⟩ := id hR9
  refine lv_iconst (v := 0) hx hb dX6_howManyBelow_0 (by decide) ?_
  refine lv_istore_n (lv' := [(3, .int 0), (0, .ref y0), (1, .long p0)]) hx hb dX6_howManyBelow_1 rfl hl (by decide) rfl (fun ls hl => ?_)
  refine lv_aload_n hx hb dX6_howManyBelow_2 rfl (lv_at hl 1 rfl) ?_
  refine va_get (D := (dC, dI)) (ci := 6) (v := .ref x0) (C := RX6) (T := TX6) (N := 7) hx hb hts hi0_ hown hK hP 0 rfl rfl 0 (by decide) hw0_ (u_same hw1_) rfl dX6_howManyBelow_3 ?_
  have hPc := hP.sub (ws' := [(x0, .inr (5, [.ref k0, .ref w0, .int (nI nz), .int ch]))]) [1] rfl
  have hKc := hK.sub (tys' := []) [] rfl
  refine ro_calli (va_runV (As := []) (rest := []) ⟨hx, hb, hml, hown, hts⟩ (c_X5_size l  dC dI s.heap.size x0 (nI nz) (.ref k0) (.ref w0) (.int ch)) (cwV 0 hts gX6_howManyBelow_X5_size rfl rfl rfl (by decide +kernel) ⟨(Nat.le_of_ble_eq_true rfl), (Nat.le_of_ble_eq_true rfl)⟩) ⟨pk_blindR, va_recv hKc hPc (ci := 5) (q0 := 0) rfl rfl, pk_callR hPc hKc⟩ rfl rfl hl.1 rfl (lv_room (Nat.le_of_ble_eq_true rfl)) dX6_howManyBelow_6 ⟨(Nat.le_of_ble_eq_true rfl), (Nat.le_of_ble_eq_true rfl)⟩) (fun r_1 ur_1 hw => ?_)
  clear hPc hKc
  try dsimp only at hw
  obtain rfl : r_1 = nI nz := hw
  refine W.eq (g2 := F0 m 9 ls [.int (nI nz)]) rfl ?_
  refine lv_istore (lv' := [(4, .int (nI nz)), (3, .int 0), (0, .ref y0), (1, .long p0)]) hx hb dX6_howManyBelow_9 hl (by decide) rfl (fun ls hl => ?_)
  refine lv_iconst (v := 0) hx hb dX6_howManyBelow_11 (by decide) ?_
  refine lv_istore (lv' := [(5, .int 0), (4, .int (nI nz)), (3, .int 0), (0, .ref y0), (1, .long p0)]) hx hb dX6_howManyBelow_12 hl (by decide) rfl (fun ls hl => ?_)
  obtain ⟨i5, es_i5⟩ : ∃ z : Nat, z = 0 := ⟨_, rfl⟩
  obtain ⟨x5, ex5⟩ : ∃ y : Int32, y = nI i5 := ⟨_, rfl⟩
  obtain ⟨e3, es_e3⟩ : ∃ z : Nat, z = 0 := ⟨_, rfl⟩
  obtain ⟨x3, ex3⟩ : ∃ y : Int32, y = nI e3 := ⟨_, rfl⟩
  obtain ⟨e4, es_e4⟩ : ∃ z : Nat, z = nz := ⟨_, rfl⟩
  obtain ⟨x4, ex4⟩ : ∃ y : Int32, y = nI e4 := ⟨_, rfl⟩
  obtain ⟨n9, en9⟩ : ∃ n : Nat, n = 33 := ⟨_, rfl⟩
  replace hl : lv_has ls 7 [(5, .int x5), (4, .int x4), (3, .int x3), (0, .ref y0), (1, .long p0)] := by subst ex5; subst es_i5; subst ex3; subst es_e3; subst ex4; subst es_e4; exact hl
  have hi5 : i5 ≤ 32 := by subst ex5; subst es_i5; subst ex3; subst es_e3; subst ex4; subst es_e4; subst en9; exact by omega
  have hn5 : 33 ≤ i5 + n9 := by subst ex5; subst es_i5; subst ex3; subst es_e3; subst ex4; subst es_e4; subst en9; exact by omega
  have he3 : e3 ≤ nz := by subst ex5; subst es_i5; subst ex3; subst es_e3; subst ex4; subst es_e4; subst en9; exact by omega
  have he4 : e4 ≤ nz := by subst ex5; subst es_i5; subst ex3; subst es_e3; subst ex4; subst es_e4; subst en9; exact by omega
  clear en9 es_i5 es_e3 es_e4
  induction n9 generalizing i5 x5 e3 x3 e4 x4 ls with
  | zero => exact absurd hn5 (by omega)
  | succ n9 ih =>
    subst ex5
    subst ex3
    subst ex4
    refine lv_iload hx hb dX6_howManyBelow_14 (lv_at hl 0 rfl) ?_
    refine lv_bipush (v := 32) hx hb dX6_howManyBelow_16 (by decide) ?_
    refine lv_icmp_ge (tgt := 71) hx hb dX6_howManyBelow_18 (by decide) (fun c_2 => ?_) (fun c_2 => ?_)
    ·
      have ic_2 : 32 ≤ ((i5 : Nat) : Int) := tx_le (by decide) (nI_toInt (by omega)) c_2
      refine lv_iload_n hx hb dX6_howManyBelow_71 rfl (lv_at hl 2 rfl) ?_
      refine W.widen (k := 0) (n := 0) (Nat.le_of_ble_eq_true rfl) (Nat.le_of_ble_eq_true rfl) ?_
      exact W.iret (v := nI e3) hx hb hr (fun t ht hW => ⟨⟨nI e3, (), rfl, ⟨e3, he3, rfl⟩, congrArg Array.size ht⟩, hS.F ht⟩) hS.2.2 dX6_howManyBelow_72
    ·
      have ic_2 : ((i5 : Nat) : Int) < 32 := tx_nle (by decide) (nI_toInt (by omega)) c_2
      refine lv_iload_n hx hb dX6_howManyBelow_21 rfl (lv_at hl 2 rfl) ?_
      refine lv_iload hx hb dX6_howManyBelow_22 (lv_at hl 1 rfl) ?_
      refine lv_icmp_ge (tgt := 71) hx hb dX6_howManyBelow_24 (by decide) (fun c_3 => ?_) (fun c_3 => ?_)
      ·
        have ic_3 : ((e4 : Nat) : Int) ≤ ((e3 : Nat) : Int) := tx_le (nI_toInt (by omega)) (nI_toInt (by omega)) c_3
        refine lv_iload_n hx hb dX6_howManyBelow_71 rfl (lv_at hl 2 rfl) ?_
        refine W.widen (k := 0) (n := 0) (Nat.le_of_ble_eq_true rfl) (Nat.le_of_ble_eq_true rfl) ?_
        exact W.iret (v := nI e3) hx hb hr (fun t ht hW => ⟨⟨nI e3, (), rfl, ⟨e3, he3, rfl⟩, congrArg Array.size ht⟩, hS.F ht⟩) hS.2.2 dX6_howManyBelow_72
      ·
        have ic_3 : ((e3 : Nat) : Int) < ((e4 : Nat) : Int) := tx_nle (nI_toInt (by omega)) (nI_toInt (by omega)) c_3
        refine lv_iload_n hx hb dX6_howManyBelow_27 rfl (lv_at hl 2 rfl) ?_
        refine lv_iload hx hb dX6_howManyBelow_28 (lv_at hl 1 rfl) ?_
        refine lv_iadd hx hb dX6_howManyBelow_30 ?_
        refine lv_topi (fun z_4 ez_4 => ?_)
        obtain rfl : z_4 = nI (e3 + e4) := ez_4.trans (by rw [nI_add])
        refine lv_iconst (v := 2) hx hb dX6_howManyBelow_31 (by decide) ?_
        refine lv_idiv hx hb dX6_howManyBelow_32 (by decide) ?_
        refine lv_topi (fun z_5 ez_5 => ?_)
        obtain rfl : z_5 = nI ((e3 + e4) / 2) := ez_5.trans (by rw [show (2 : Int32) = nI 2 from rfl]; exact pk_div (by omega) (by omega) (by omega))
        refine lv_istore (lv' := [(6, .int (nI ((e3 + e4) / 2))), (5, .int (nI i5)), (4, .int (nI e4)), (3, .int (nI e3)), (0, .ref y0), (1, .long p0)]) hx hb dX6_howManyBelow_33 hl (by decide) rfl (fun ls hl => ?_)
        refine lv_aload_n hx hb dX6_howManyBelow_35 rfl (lv_at hl 4 rfl) ?_
        refine lv_aload_n hx hb dX6_howManyBelow_36 rfl (lv_at hl 4 rfl) ?_
        refine va_get (D := (dC, dI)) (ci := 6) (v := .ref x0) (C := RX6) (T := TX6) (N := 7) hx hb hts hi0_ hown hK hP 0 rfl rfl 0 (by decide) hw0_ (u_same hw1_) rfl dX6_howManyBelow_37 ?_
        refine lv_iload hx hb dX6_howManyBelow_40 (lv_at hl 0 rfl) ?_
        have hPc := hP.sub (ws' := [(x0, .inr (5, [.ref k0, .ref w0, .int (nI nz), .int ch])), (k0, .inl (ck, L, .inl f)), (w0, .inl (cw, L, .inl g))]) [1, 2, 3] rfl
        have hKc := hK.sub (tys' := [(ck, .int), (cw, .int)]) [0, 1] rfl
        refine ro_calli (va_runV (As := [.int (nI ((e3 + e4) / 2))]) (rest := [.ref y0]) ⟨hx, hb, hml, hown, hts⟩ (c_X5_key l  dC dI s.heap.size x0 k0 w0 ck cw L f g nz ch (nI ((e3 + e4) / 2)) hR9) (cwV 1 hts gX6_howManyBelow_X5_key rfl rfl rfl (by decide +kernel) ⟨(Nat.le_of_ble_eq_true rfl), (Nat.le_of_ble_eq_true rfl)⟩) ⟨pk_blindR, va_recv hKc hPc (ci := 5) (q0 := 0) rfl rfl, pk_callR hPc hKc⟩ rfl rfl hl.1 rfl (lv_room (Nat.le_of_ble_eq_true rfl)) dX6_howManyBelow_42 ⟨(Nat.le_of_ble_eq_true rfl), (Nat.le_of_ble_eq_true rfl)⟩) (fun r_6 ur_6 hw => ?_)
        clear hPc hKc
        try dsimp only at hw
        have jr_6 := hw
        refine W.eq (g2 := F0 m 45 ls [.int r_6, .ref y0]) rfl ?_
        have hPc := hP.sub (ws' := [(y0, .inr (6, [.ref x0, .int kd, .int wh, .int od, .int tu, .long lo, .long hi]))]) [0] rfl
        have hKc := hK.sub (tys' := []) [] rfl
        refine ro_calll (va_runV (As := [.int r_6]) (rest := []) ⟨hx, hb, hml, hown, hts⟩ (c_X6_rank l  dC dI s.heap.size y0 od (.ref x0) (.int kd) (.int wh) (.int tu) (.long lo) (.long hi) r_6 ho1 ho2) (cwV 1 hts gX6_howManyBelow_X6_rank rfl rfl rfl (by decide +kernel) ⟨(Nat.le_of_ble_eq_true rfl), (Nat.le_of_ble_eq_true rfl)⟩) ⟨pk_blindR, va_recv hKc hPc (ci := 6) (q0 := 0) rfl rfl, pk_callR hPc hKc⟩ rfl rfl hl.1 rfl (lv_room (Nat.le_of_ble_eq_true rfl)) dX6_howManyBelow_45 ⟨(Nat.le_of_ble_eq_true rfl), (Nat.le_of_ble_eq_true rfl)⟩) (fun r_7 ur_7 hw => ?_)
        clear hPc hKc
        try dsimp only at hw
        have jr_7 := hw
        refine W.eq (g2 := F0 m 48 ls [.long r_7]) rfl ?_
        refine lv_lload_n hx hb dX6_howManyBelow_48 rfl (lv_at hl 5 rfl) ?_
        refine W.lcmp hx hb dX6_howManyBelow_49 ?_
        refine lv_if_ge (tgt := 61) hx hb dX6_howManyBelow_50 (by decide) (fun c_8 => ?_) (fun c_8 => ?_)
        ·
          have ic_8 := lgc_ge c_8
          refine lv_iload hx hb dX6_howManyBelow_61 (lv_at hl 0 rfl) ?_
          refine lv_istore (lv' := [(4, .int (nI ((e3 + e4) / 2))), (6, .int (nI ((e3 + e4) / 2))), (5, .int (nI i5)), (3, .int (nI e3)), (0, .ref y0), (1, .long p0)]) hx hb dX6_howManyBelow_63 hl (by decide) rfl (fun ls hl => ?_)
          refine lv_iinc (v := nI (i5 + 1)) (lv' := [(5, .int (nI (i5 + 1))), (4, .int (nI ((e3 + e4) / 2))), (6, .int (nI ((e3 + e4) / 2))), (3, .int (nI e3)), (0, .ref y0), (1, .long p0)]) hx hb dX6_howManyBelow_65 hl (k := 2) rfl (by rw [show Int32.ofInt 1 = nI 1 from rfl, nI_add]) (by decide) rfl (fun ls hl => ?_)
          refine lv_goto (tgt := 14) hx hb dX6_howManyBelow_68 (by decide) ?_
          exact ih (i5 := i5 + 1) (x5 := nI (i5 + 1)) (ex5 := rfl) (e3 := e3) (x3 := nI e3) (ex3 := rfl) (e4 := (e3 + e4) / 2) (x4 := nI ((e3 + e4) / 2)) (ex4 := rfl) (ls := ls) (hi5 := by omega) (hn5 := by omega) (he3 := by omega) (he4 := by omega) (hl := lv_sub hl [0, 1, 3, 4, 5] rfl)
        ·
          have ic_8 := lgc_nge c_8
          refine lv_iload hx hb dX6_howManyBelow_53 (lv_at hl 0 rfl) ?_
          refine lv_iconst (v := 1) hx hb dX6_howManyBelow_55 (by decide) ?_
          refine lv_iadd hx hb dX6_howManyBelow_56 ?_
          refine lv_topi (fun z_9 ez_9 => ?_)
          obtain rfl : z_9 = nI (((e3 + e4) / 2) + 1) := ez_9.trans (by rw [show (1 : Int32) = nI 1 from rfl, nI_add])
          refine lv_istore_n (lv' := [(3, .int (nI (((e3 + e4) / 2) + 1))), (6, .int (nI ((e3 + e4) / 2))), (5, .int (nI i5)), (4, .int (nI e4)), (0, .ref y0), (1, .long p0)]) hx hb dX6_howManyBelow_57 rfl hl (by decide) rfl (fun ls hl => ?_)
          refine lv_goto (tgt := 65) hx hb dX6_howManyBelow_58 (by decide) ?_
          refine lv_iinc (v := nI (i5 + 1)) (lv' := [(5, .int (nI (i5 + 1))), (3, .int (nI (((e3 + e4) / 2) + 1))), (6, .int (nI ((e3 + e4) / 2))), (4, .int (nI e4)), (0, .ref y0), (1, .long p0)]) hx hb dX6_howManyBelow_65 hl (k := 2) rfl (by rw [show Int32.ofInt 1 = nI 1 from rfl, nI_add]) (by decide) rfl (fun ls hl => ?_)
          refine lv_goto (tgt := 14) hx hb dX6_howManyBelow_68 (by decide) ?_
          exact ih (i5 := i5 + 1) (x5 := nI (i5 + 1)) (ex5 := rfl) (e3 := ((e3 + e4) / 2) + 1) (x3 := nI (((e3 + e4) / 2) + 1)) (ex3 := rfl) (e4 := e4) (x4 := nI e4) (ex4 := rfl) (ls := ls) (hi5 := by omega) (hn5 := by omega) (he3 := by omega) (he4 := by omega) (hl := lv_sub hl [0, 3, 1, 4, 5] rfl)
set_option maxHeartbeats 4000000 in
set_option maxRecDepth 100000 in
/-- X6.start -/
theorem c_X6_start (l : Launch) (dC : Nat → ClassId) (dI : Nat → Nat → Nat) (sz : Nat) (y0 : Nat) (kd : Int32) (wh : Int32) (od : Int32) (tu : Int32) (lo : Int64) (hi : Int64) (x0 : Nat) (k0 : Nat) (w0 : Nat) (ck : ClassId) (cw : ClassId) (L : Nat) (f : Nat → Int32) (g : Nat → Int32) (nz : Nat) (ch : Int32) (hR9 : rOK L nz) (ho1 : 0 ≤ od.toInt) (ho2 : od.toInt ≤ 3) : Met l yX6_start wsX6_start ({ frames := 3, cells := 0, slots := 0, locals := 120 }) (va_Pc [.ref y0] (pk_PreR (dC, dI) [(y0, .inr (6, [.ref x0, .int kd, .int wh, .int od, .int tu, .long lo, .long hi])), (x0, .inr (5, [.ref k0, .ref w0, .int (nI nz), .int ch])), (k0, .inl (ck, L, .inl f)), (w0, .inl (cw, L, .inl g))] [(ck, .int), (cw, .int)] sz)) (va_Qi (fun (x : Int32) (u : Unit) => ∃ k : Nat, k ≤ nz ∧ x = nI k) (fun _ (t : State) => t.heap.size = sz) ro_A) 0 0 ro_A := by
  refine Met.ofW (cc := cX6_start) (maxL := 1) (ret := (some .int)) (by decide) rfl ?_
  intro p e s m args below meth c s₁ B hml hv
  obtain ⟨rfl, hsz, hP, hK⟩ := hv
  have hx := B.exec
  have hb := B.bytes
  have hr := B.returns
  have hts := atoms_spec (ws := wsX6_start) B.pre
  have hown : s.vm.findClass RX6 = some m.cls := findClass_of_methodNamed B.named
  have hlocks := B.notSynchronized
  subst hsz
  have hS : va_S ro_A s.heap s.heap [] := va_S.rf
  have hP : va_P (dC, dI) vwCl [(y0, .inr (6, [.ref x0, .int kd, .int wh, .int od, .int tu, .long lo, .long hi])), (x0, .inr (5, [.ref k0, .ref w0, .int (nI nz), .int ch])), (k0, .inl (ck, L, .inl f)), (w0, .inl (cw, L, .inl g))] s.heap := hP
  have hl := lv_entry ([.ref y0]) (n := 1) (Nat.le_of_ble_eq_true rfl)
  rw [lg_entry_eq]
  generalize (lg_sl ([.ref y0]) ++ List.replicate (1 - (lg_sl ([.ref y0])).length) Slot.unset).toArray = ls at hl ⊢
  have hl : lv_has ls 1 [(0, .ref y0)] := hl
  have hw0_ := hts (.fieldLink RX6 28 "KeyAtlas$Sorted" "low" "J") (List.mem_of_getElem? (l := wsX6_start) (i := 1) rfl)
  have hw1_ := hts (.constantLong RX6 26 (-9223372036854775808)) (List.mem_of_getElem? (l := wsX6_start) (i := 2) rfl)
  have hi0_ : ∀ w ∈ u_ws RX6 TX6 7, w ∈ wsX6_start := fun w h => List.mem_cons_of_mem _ (List.mem_append_left _ (List.mem_append_left _ (List.mem_append_left _ (List.mem_append_right _ h))))
  refine lv_aload_n hx hb dX6_start_0 rfl (lv_at hl 0 rfl) ?_
  refine va_get (D := (dC, dI)) (ci := 6) (v := .long lo) (C := RX6) (T := TX6) (N := 7) hx hb hts hi0_ hown hK hP 0 rfl rfl 5 (by decide) hw0_ (fun _ h9 => h9) rfl dX6_start_1 ?_
  refine lv_ldc2 (v := (-9223372036854775808)) hx hb hown hw1_ dX6_start_4 ?_
  refine W.lcmp hx hb dX6_start_7 ?_
  refine lv_if_ne (tgt := 15) hx hb dX6_start_8 (by decide) (fun c_1 => ?_) (fun c_1 => ?_)
  ·
    have ic_1 := lgc_ne c_1
    refine lv_aload_n hx hb dX6_start_15 rfl (lv_at hl 0 rfl) ?_
    refine lv_aload_n hx hb dX6_start_16 rfl (lv_at hl 0 rfl) ?_
    refine va_get (D := (dC, dI)) (ci := 6) (v := .long lo) (C := RX6) (T := TX6) (N := 7) hx hb hts hi0_ hown hK hP 0 rfl rfl 5 (by decide) hw0_ (fun _ h9 => h9) rfl dX6_start_17 ?_
    have hPc := hP.sub (ws' := [(y0, .inr (6, [.ref x0, .int kd, .int wh, .int od, .int tu, .long lo, .long hi])), (x0, .inr (5, [.ref k0, .ref w0, .int (nI nz), .int ch])), (k0, .inl (ck, L, .inl f)), (w0, .inl (cw, L, .inl g))]) [0, 1, 2, 3] rfl
    have hKc := hK.sub (tys' := [(ck, .int), (cw, .int)]) [0, 1] rfl
    refine ro_calli (va_runV (As := [.long lo]) (rest := []) ⟨hx, hb, hml, hown, hts⟩ (c_X6_howManyBelow l  dC dI s.heap.size y0 kd wh od tu lo hi x0 k0 w0 ck cw L f g nz ch lo hR9 ho1 ho2) (cwV 1 hts gX6_start_X6_howManyBelow rfl rfl rfl (by decide +kernel) ⟨(Nat.le_of_ble_eq_true rfl), (Nat.le_of_ble_eq_true rfl)⟩) ⟨pk_blindR, va_recv hKc hPc (ci := 6) (q0 := 0) rfl rfl, pk_callR hPc hKc⟩ rfl rfl hl.1 rfl (lv_room (Nat.le_of_ble_eq_true rfl)) dX6_start_20 ⟨(Nat.le_of_ble_eq_true rfl), (Nat.le_of_ble_eq_true rfl)⟩) (fun r_2 ur_2 hw => ?_)
    clear hPc hKc
    try dsimp only at hw
    have jr_2 := hw
    obtain ⟨ka, hka, rfl⟩ := jr_2
    refine W.eq (g2 := F0 m 23 ls [.int (nI ka)]) rfl ?_
    refine W.widen (k := 0) (n := 0) (Nat.le_of_ble_eq_true rfl) (Nat.le_of_ble_eq_true rfl) ?_
    exact W.iret (v := nI ka) hx hb hr (fun t ht hW => ⟨⟨nI ka, (), rfl, ⟨ka, by omega, rfl⟩, congrArg Array.size ht⟩, hS.F ht⟩) hS.2.2 dX6_start_23
  ·
    have ic_1 := lgc_eq c_1
    refine lv_iconst (v := 0) hx hb dX6_start_11 (by decide) ?_
    refine lv_goto (tgt := 23) hx hb dX6_start_12 (by decide) ?_
    refine W.widen (k := 0) (n := 0) (Nat.le_of_ble_eq_true rfl) (Nat.le_of_ble_eq_true rfl) ?_
    exact W.iret (v := 0) hx hb hr (fun t ht hW => ⟨⟨0, (), rfl, ⟨0, by omega, rfl⟩, congrArg Array.size ht⟩, hS.F ht⟩) hS.2.2 dX6_start_23
set_option maxHeartbeats 4000000 in
set_option maxRecDepth 100000 in
/-- X6.end -/
theorem c_X6_end (l : Launch) (dC : Nat → ClassId) (dI : Nat → Nat → Nat) (sz : Nat) (y0 : Nat) (kd : Int32) (wh : Int32) (od : Int32) (tu : Int32) (lo : Int64) (hi : Int64) (x0 : Nat) (k0 : Nat) (w0 : Nat) (ck : ClassId) (cw : ClassId) (L : Nat) (f : Nat → Int32) (g : Nat → Int32) (nz : Nat) (ch : Int32) (hR9 : rOK L nz) (ho1 : 0 ≤ od.toInt) (ho2 : od.toInt ≤ 3) : Met l yX6_end wsX6_end ({ frames := 3, cells := 0, slots := 0, locals := 120 }) (va_Pc [.ref y0] (pk_PreR (dC, dI) [(y0, .inr (6, [.ref x0, .int kd, .int wh, .int od, .int tu, .long lo, .long hi])), (x0, .inr (5, [.ref k0, .ref w0, .int (nI nz), .int ch])), (k0, .inl (ck, L, .inl f)), (w0, .inl (cw, L, .inl g))] [(ck, .int), (cw, .int)] sz)) (va_Qi (fun (x : Int32) (u : Unit) => ∃ k : Nat, k ≤ nz ∧ x = nI k) (fun _ (t : State) => t.heap.size = sz) ro_A) 0 0 ro_A := by
  refine Met.ofW (cc := cX6_end) (maxL := 1) (ret := (some .int)) (by decide) rfl ?_
  intro p e s m args below meth c s₁ B hml hv
  obtain ⟨rfl, hsz, hP, hK⟩ := hv
  have hx := B.exec
  have hb := B.bytes
  have hr := B.returns
  have hts := atoms_spec (ws := wsX6_end) B.pre
  have hown : s.vm.findClass RX6 = some m.cls := findClass_of_methodNamed B.named
  have hlocks := B.notSynchronized
  subst hsz
  have hS : va_S ro_A s.heap s.heap [] := va_S.rf
  have hP : va_P (dC, dI) vwCl [(y0, .inr (6, [.ref x0, .int kd, .int wh, .int od, .int tu, .long lo, .long hi])), (x0, .inr (5, [.ref k0, .ref w0, .int (nI nz), .int ch])), (k0, .inl (ck, L, .inl f)), (w0, .inl (cw, L, .inl g))] s.heap := hP
  have hl := lv_entry ([.ref y0]) (n := 1) (Nat.le_of_ble_eq_true rfl)
  rw [lg_entry_eq]
  generalize (lg_sl ([.ref y0]) ++ List.replicate (1 - (lg_sl ([.ref y0])).length) Slot.unset).toArray = ls at hl ⊢
  have hl : lv_has ls 1 [(0, .ref y0)] := hl
  have hw0_ := hts (.fieldLink RX6 34 "KeyAtlas$Sorted" "high" "J") (List.mem_of_getElem? (l := wsX6_end) (i := 1) rfl)
  have hw1_ := hts (.constantLong RX6 32 (9223372036854775807)) (List.mem_of_getElem? (l := wsX6_end) (i := 2) rfl)
  have hw2_ := hts (.fieldLink RX6 37 "KeyAtlas$Sorted" "rows" "LKeyAtlas$Rows;") (List.mem_of_getElem? (l := wsX6_end) (i := 3) rfl)
  have hw3_ := hts (.sameField "KeyAtlas$Sorted" "KeyAtlas$Keyed" "rows" "LKeyAtlas$Rows;") (List.mem_of_getElem? (l := wsX6_end) (i := 4) rfl)
  have hi0_ : ∀ w ∈ u_ws RX6 TX6 7, w ∈ wsX6_end := fun w h => List.mem_cons_of_mem _ (List.mem_append_left _ (List.mem_append_left _ (List.mem_append_left _ (List.mem_append_right _ h))))
  refine lv_aload_n hx hb dX6_end_0 rfl (lv_at hl 0 rfl) ?_
  refine va_get (D := (dC, dI)) (ci := 6) (v := .long hi) (C := RX6) (T := TX6) (N := 7) hx hb hts hi0_ hown hK hP 0 rfl rfl 6 (by decide) hw0_ (fun _ h9 => h9) rfl dX6_end_1 ?_
  refine lv_ldc2 (v := 9223372036854775807) hx hb hown hw1_ dX6_end_4 ?_
  refine W.lcmp hx hb dX6_end_7 ?_
  refine lv_if_ne (tgt := 21) hx hb dX6_end_8 (by decide) (fun c_1 => ?_) (fun c_1 => ?_)
  ·
    have ic_1 := lgc_ne c_1
    refine lv_aload_n hx hb dX6_end_21 rfl (lv_at hl 0 rfl) ?_
    refine lv_aload_n hx hb dX6_end_22 rfl (lv_at hl 0 rfl) ?_
    refine va_get (D := (dC, dI)) (ci := 6) (v := .long hi) (C := RX6) (T := TX6) (N := 7) hx hb hts hi0_ hown hK hP 0 rfl rfl 6 (by decide) hw0_ (fun _ h9 => h9) rfl dX6_end_23 ?_
    have hPc := hP.sub (ws' := [(y0, .inr (6, [.ref x0, .int kd, .int wh, .int od, .int tu, .long lo, .long hi])), (x0, .inr (5, [.ref k0, .ref w0, .int (nI nz), .int ch])), (k0, .inl (ck, L, .inl f)), (w0, .inl (cw, L, .inl g))]) [0, 1, 2, 3] rfl
    have hKc := hK.sub (tys' := [(ck, .int), (cw, .int)]) [0, 1] rfl
    refine ro_calli (va_runV (As := [.long hi]) (rest := []) ⟨hx, hb, hml, hown, hts⟩ (c_X6_howManyBelow l  dC dI s.heap.size y0 kd wh od tu lo hi x0 k0 w0 ck cw L f g nz ch hi hR9 ho1 ho2) (cwV 1 hts gX6_end_X6_howManyBelow rfl rfl rfl (by decide +kernel) ⟨(Nat.le_of_ble_eq_true rfl), (Nat.le_of_ble_eq_true rfl)⟩) ⟨pk_blindR, va_recv hKc hPc (ci := 6) (q0 := 0) rfl rfl, pk_callR hPc hKc⟩ rfl rfl hl.1 rfl (lv_room (Nat.le_of_ble_eq_true rfl)) dX6_end_26 ⟨(Nat.le_of_ble_eq_true rfl), (Nat.le_of_ble_eq_true rfl)⟩) (fun r_2 ur_2 hw => ?_)
    clear hPc hKc
    try dsimp only at hw
    have jr_2 := hw
    obtain ⟨ka, hka, rfl⟩ := jr_2
    refine W.eq (g2 := F0 m 29 ls [.int (nI ka)]) rfl ?_
    refine W.widen (k := 0) (n := 0) (Nat.le_of_ble_eq_true rfl) (Nat.le_of_ble_eq_true rfl) ?_
    exact W.iret (v := nI ka) hx hb hr (fun t ht hW => ⟨⟨nI ka, (), rfl, ⟨ka, by omega, rfl⟩, congrArg Array.size ht⟩, hS.F ht⟩) hS.2.2 dX6_end_29
  ·
    have ic_1 := lgc_eq c_1
    refine lv_aload_n hx hb dX6_end_11 rfl (lv_at hl 0 rfl) ?_
    refine va_get (D := (dC, dI)) (ci := 6) (v := .ref x0) (C := RX6) (T := TX6) (N := 7) hx hb hts hi0_ hown hK hP 0 rfl rfl 0 (by decide) hw2_ (u_same hw3_) rfl dX6_end_12 ?_
    have hPc := hP.sub (ws' := [(x0, .inr (5, [.ref k0, .ref w0, .int (nI nz), .int ch]))]) [1] rfl
    have hKc := hK.sub (tys' := []) [] rfl
    refine ro_calli (va_runV (As := []) (rest := []) ⟨hx, hb, hml, hown, hts⟩ (c_X5_size l  dC dI s.heap.size x0 (nI nz) (.ref k0) (.ref w0) (.int ch)) (cwV 0 hts gX6_end_X5_size rfl rfl rfl (by decide +kernel) ⟨(Nat.le_of_ble_eq_true rfl), (Nat.le_of_ble_eq_true rfl)⟩) ⟨pk_blindR, va_recv hKc hPc (ci := 5) (q0 := 0) rfl rfl, pk_callR hPc hKc⟩ rfl rfl hl.1 rfl (lv_room (Nat.le_of_ble_eq_true rfl)) dX6_end_15 ⟨(Nat.le_of_ble_eq_true rfl), (Nat.le_of_ble_eq_true rfl)⟩) (fun r_3 ur_3 hw => ?_)
    clear hPc hKc
    try dsimp only at hw
    obtain rfl : r_3 = nI nz := hw
    refine W.eq (g2 := F0 m 18 ls [.int (nI nz)]) rfl ?_
    refine lv_goto (tgt := 29) hx hb dX6_end_18 (by decide) ?_
    refine W.widen (k := 0) (n := 0) (Nat.le_of_ble_eq_true rfl) (Nat.le_of_ble_eq_true rfl) ?_
    exact W.iret (v := nI nz) hx hb hr (fun t ht hW => ⟨⟨nI nz, (), rfl, ⟨nz, by omega, rfl⟩, congrArg Array.size ht⟩, hS.F ht⟩) hS.2.2 dX6_end_29
set_option maxHeartbeats 4000000 in
set_option maxRecDepth 100000 in
/-- X6.size -/
theorem c_X6_size (l : Launch) (dC : Nat → ClassId) (dI : Nat → Nat → Nat) (sz : Nat) (y0 : Nat) (kd : Int32) (wh : Int32) (od : Int32) (tu : Int32) (lo : Int64) (hi : Int64) (x0 : Nat) (k0 : Nat) (w0 : Nat) (ck : ClassId) (cw : ClassId) (L : Nat) (f : Nat → Int32) (g : Nat → Int32) (nz : Nat) (ch : Int32) (hR9 : rOK L nz) (ho1 : 0 ≤ od.toInt) (ho2 : od.toInt ≤ 3) : Met l yX6_size wsX6_size ({ frames := 4, cells := 0, slots := 0, locals := 160 }) (va_Pc [.ref y0] (pk_PreR (dC, dI) [(y0, .inr (6, [.ref x0, .int kd, .int wh, .int od, .int tu, .long lo, .long hi])), (x0, .inr (5, [.ref k0, .ref w0, .int (nI nz), .int ch])), (k0, .inl (ck, L, .inl f)), (w0, .inl (cw, L, .inl g))] [(ck, .int), (cw, .int)] sz)) (va_Qi (fun (x : Int32) (u : Unit) => -1000 ≤ x.toInt ∧ x.toInt ≤ nz) (fun _ (t : State) => t.heap.size = sz) ro_A) 0 0 ro_A := by
  refine Met.ofW (cc := cX6_size) (maxL := 1) (ret := (some .int)) (by decide) rfl ?_
  intro p e s m args below meth c s₁ B hml hv
  obtain ⟨rfl, hsz, hP, hK⟩ := hv
  have hx := B.exec
  have hb := B.bytes
  have hr := B.returns
  have hts := atoms_spec (ws := wsX6_size) B.pre
  have hown : s.vm.findClass RX6 = some m.cls := findClass_of_methodNamed B.named
  have hlocks := B.notSynchronized
  subst hsz
  have hS : va_S ro_A s.heap s.heap [] := va_S.rf
  have hP : va_P (dC, dI) vwCl [(y0, .inr (6, [.ref x0, .int kd, .int wh, .int od, .int tu, .long lo, .long hi])), (x0, .inr (5, [.ref k0, .ref w0, .int (nI nz), .int ch])), (k0, .inl (ck, L, .inl f)), (w0, .inl (cw, L, .inl g))] s.heap := hP
  have hl := lv_entry ([.ref y0]) (n := 1) (Nat.le_of_ble_eq_true rfl)
  rw [lg_entry_eq]
  generalize (lg_sl ([.ref y0]) ++ List.replicate (1 - (lg_sl ([.ref y0])).length) Slot.unset).toArray = ls at hl ⊢
  have hl : lv_has ls 1 [(0, .ref y0)] := hl

  obtain ⟨hL1, hL2, hz1, hz2⟩ := id hR9
  refine lv_aload_n hx hb dX6_size_0 rfl (lv_at hl 0 rfl) ?_
  have hPc := hP.sub (ws' := [(y0, .inr (6, [.ref x0, .int kd, .int wh, .int od, .int tu, .long lo, .long hi])), (x0, .inr (5, [.ref k0, .ref w0, .int (nI nz), .int ch])), (k0, .inl (ck, L, .inl f)), (w0, .inl (cw, L, .inl g))]) [0, 1, 2, 3] rfl
  have hKc := hK.sub (tys' := [(ck, .int), (cw, .int)]) [0, 1] rfl
  refine ro_calli (va_runV (As := []) (rest := []) ⟨hx, hb, hml, hown, hts⟩ (c_X6_end l  dC dI s.heap.size y0 kd wh od tu lo hi x0 k0 w0 ck cw L f g nz ch hR9 ho1 ho2) (cwV 0 hts gX6_size_X6_end rfl rfl rfl (by decide +kernel) ⟨(Nat.le_of_ble_eq_true rfl), (Nat.le_of_ble_eq_true rfl)⟩) ⟨pk_blindR, va_recv hKc hPc (ci := 6) (q0 := 0) rfl rfl, pk_callR hPc hKc⟩ rfl rfl hl.1 rfl (lv_room (Nat.le_of_ble_eq_true rfl)) dX6_size_1 ⟨(Nat.le_of_ble_eq_true rfl), (Nat.le_of_ble_eq_true rfl)⟩) (fun r_1 ur_1 hw => ?_)
  clear hPc hKc
  try dsimp only at hw
  have jr_1 := hw
  obtain ⟨ka, hka, rfl⟩ := jr_1
  refine W.eq (g2 := F0 m 4 ls [.int (nI ka)]) rfl ?_
  refine lv_aload_n hx hb dX6_size_4 rfl (lv_at hl 0 rfl) ?_
  have hPc := hP.sub (ws' := [(y0, .inr (6, [.ref x0, .int kd, .int wh, .int od, .int tu, .long lo, .long hi])), (x0, .inr (5, [.ref k0, .ref w0, .int (nI nz), .int ch])), (k0, .inl (ck, L, .inl f)), (w0, .inl (cw, L, .inl g))]) [0, 1, 2, 3] rfl
  have hKc := hK.sub (tys' := [(ck, .int), (cw, .int)]) [0, 1] rfl
  refine ro_calli (va_runV (As := []) (rest := [.int (nI ka)]) ⟨hx, hb, hml, hown, hts⟩ (c_X6_start l  dC dI s.heap.size y0 kd wh od tu lo hi x0 k0 w0 ck cw L f g nz ch hR9 ho1 ho2) (cwV 0 hts gX6_size_X6_start rfl rfl rfl (by decide +kernel) ⟨(Nat.le_of_ble_eq_true rfl), (Nat.le_of_ble_eq_true rfl)⟩) ⟨pk_blindR, va_recv hKc hPc (ci := 6) (q0 := 0) rfl rfl, pk_callR hPc hKc⟩ rfl rfl hl.1 rfl (lv_room (Nat.le_of_ble_eq_true rfl)) dX6_size_5 ⟨(Nat.le_of_ble_eq_true rfl), (Nat.le_of_ble_eq_true rfl)⟩) (fun r_2 ur_2 hw => ?_)
  clear hPc hKc
  try dsimp only at hw
  have jr_2 := hw
  obtain ⟨kb, hkb, rfl⟩ := jr_2
  refine W.eq (g2 := F0 m 8 ls [.int (nI kb), .int (nI ka)]) rfl ?_
  refine lv_isub hx hb dX6_size_8 ?_
  refine lv_topi (fun z_ ez_ => ?_)
  obtain rfl : z_ = (nI ka) - (nI kb) := ez_.trans (rfl)
  refine W.widen (k := 0) (n := 0) (Nat.le_of_ble_eq_true rfl) (Nat.le_of_ble_eq_true rfl) ?_
  exact W.iret (v := (nI ka) - (nI kb)) hx hb hr (fun t ht hW => ⟨⟨(nI ka) - (nI kb), (), rfl, by show -1000 ≤ (nI ka - nI kb).toInt ∧ (nI ka - nI kb).toInt ≤ nz; rw [pk_sub_toInt (by omega) (by omega)]; omega, congrArg Array.size ht⟩, hS.F ht⟩) hS.2.2 dX6_size_9
set_option maxHeartbeats 4000000 in
set_option maxRecDepth 100000 in
/-- X6.placeOf -/
theorem c_X6_placeOf (l : Launch) (dC : Nat → ClassId) (dI : Nat → Nat → Nat) (sz : Nat) (y0 : Nat) (kd : Int32) (wh : Int32) (od : Int32) (tu : Int32) (lo : Int64) (hi : Int64) (x0 : Nat) (k0 : Nat) (w0 : Nat) (ck : ClassId) (cw : ClassId) (L : Nat) (f : Nat → Int32) (g : Nat → Int32) (nz : Nat) (ch : Int32) (p0 : Int32) (hR9 : rOK L nz) (ho1 : 0 ≤ od.toInt) (ho2 : od.toInt ≤ 3) : Met l yX6_placeOf wsX6_placeOf ({ frames := 4, cells := 0, slots := 0, locals := 160 }) (va_Pc [.ref y0, .int p0] (pk_PreR (dC, dI) [(y0, .inr (6, [.ref x0, .int kd, .int wh, .int od, .int tu, .long lo, .long hi])), (x0, .inr (5, [.ref k0, .ref w0, .int (nI nz), .int ch])), (k0, .inl (ck, L, .inl f)), (w0, .inl (cw, L, .inl g))] [(ck, .int), (cw, .int)] sz)) (va_Qi (fun (x : Int32) (u : Unit) => True) (fun _ (t : State) => t.heap.size = sz) ro_A) 0 0 ro_A := by
  refine Met.ofW (cc := cX6_placeOf) (maxL := 2) (ret := (some .int)) (by decide) rfl ?_
  intro p e s m args below meth c s₁ B hml hv
  obtain ⟨rfl, hsz, hP, hK⟩ := hv
  have hx := B.exec
  have hb := B.bytes
  have hr := B.returns
  have hts := atoms_spec (ws := wsX6_placeOf) B.pre
  have hown : s.vm.findClass RX6 = some m.cls := findClass_of_methodNamed B.named
  have hlocks := B.notSynchronized
  subst hsz
  have hS : va_S ro_A s.heap s.heap [] := va_S.rf
  have hP : va_P (dC, dI) vwCl [(y0, .inr (6, [.ref x0, .int kd, .int wh, .int od, .int tu, .long lo, .long hi])), (x0, .inr (5, [.ref k0, .ref w0, .int (nI nz), .int ch])), (k0, .inl (ck, L, .inl f)), (w0, .inl (cw, L, .inl g))] s.heap := hP
  have hl := lv_entry ([.ref y0, .int p0]) (n := 2) (Nat.le_of_ble_eq_true rfl)
  rw [lg_entry_eq]
  generalize (lg_sl ([.ref y0, .int p0]) ++ List.replicate (2 - (lg_sl ([.ref y0, .int p0])).length) Slot.unset).toArray = ls at hl ⊢
  have hl : lv_has ls 2 [(0, .ref y0), (1, .int p0)] := hl
  have hw0_ := hts (.fieldLink RX6 22 "KeyAtlas$Sorted" "isTurned" "Z") (List.mem_of_getElem? (l := wsX6_placeOf) (i := 1) rfl)
  have hi0_ : ∀ w ∈ u_ws RX6 TX6 7, w ∈ wsX6_placeOf := fun w h => List.mem_cons_of_mem _ (List.mem_append_left _ (List.mem_append_left _ (List.mem_append_left _ (List.mem_append_right _ h))))
  obtain ⟨hL1, hL2, hz1, hz2⟩ := id hR9
  refine lv_aload_n hx hb dX6_placeOf_0 rfl (lv_at hl 0 rfl) ?_
  refine va_get (D := (dC, dI)) (ci := 6) (v := .int tu) (C := RX6) (T := TX6) (N := 7) hx hb hts hi0_ hown hK hP 0 rfl rfl 4 (by decide) hw0_ (fun _ h9 => h9) rfl dX6_placeOf_1 ?_
  refine lv_if_eq (tgt := 18) hx hb dX6_placeOf_4 (by decide) (fun c_1 => ?_) (fun c_1 => ?_)
  ·
    have ic_1 : tu.toInt = 0 := tx_eq rfl (by decide) c_1
    refine lv_aload_n hx hb dX6_placeOf_18 rfl (lv_at hl 0 rfl) ?_
    have hPc := hP.sub (ws' := [(y0, .inr (6, [.ref x0, .int kd, .int wh, .int od, .int tu, .long lo, .long hi])), (x0, .inr (5, [.ref k0, .ref w0, .int (nI nz), .int ch])), (k0, .inl (ck, L, .inl f)), (w0, .inl (cw, L, .inl g))]) [0, 1, 2, 3] rfl
    have hKc := hK.sub (tys' := [(ck, .int), (cw, .int)]) [0, 1] rfl
    refine ro_calli (va_runV (As := []) (rest := []) ⟨hx, hb, hml, hown, hts⟩ (c_X6_start l  dC dI s.heap.size y0 kd wh od tu lo hi x0 k0 w0 ck cw L f g nz ch hR9 ho1 ho2) (cwV 0 hts gX6_placeOf_X6_start rfl rfl rfl (by decide +kernel) ⟨(Nat.le_of_ble_eq_true rfl), (Nat.le_of_ble_eq_true rfl)⟩) ⟨pk_blindR, va_recv hKc hPc (ci := 6) (q0 := 0) rfl rfl, pk_callR hPc hKc⟩ rfl rfl hl.1 rfl (lv_room (Nat.le_of_ble_eq_true rfl)) dX6_placeOf_19 ⟨(Nat.le_of_ble_eq_true rfl), (Nat.le_of_ble_eq_true rfl)⟩) (fun r_2 ur_2 hw => ?_)
    clear hPc hKc
    try dsimp only at hw
    have jr_2 := hw
    obtain ⟨kb, hkb, rfl⟩ := jr_2
    refine W.eq (g2 := F0 m 22 ls [.int (nI kb)]) rfl ?_
    refine lv_iload_n hx hb dX6_placeOf_22 rfl (lv_at hl 1 rfl) ?_
    refine lv_iadd hx hb dX6_placeOf_23 ?_
    refine W.widen (k := 0) (n := 0) (Nat.le_of_ble_eq_true rfl) (Nat.le_of_ble_eq_true rfl) ?_
    exact W.iret (v := (nI kb) + p0) hx hb hr (fun t ht hW => ⟨⟨(nI kb) + p0, (), rfl, trivial, congrArg Array.size ht⟩, hS.F ht⟩) hS.2.2 dX6_placeOf_24
  ·
    have ic_1 : ¬ tu.toInt = 0 := tx_ne rfl (by decide) c_1
    refine lv_aload_n hx hb dX6_placeOf_7 rfl (lv_at hl 0 rfl) ?_
    have hPc := hP.sub (ws' := [(y0, .inr (6, [.ref x0, .int kd, .int wh, .int od, .int tu, .long lo, .long hi])), (x0, .inr (5, [.ref k0, .ref w0, .int (nI nz), .int ch])), (k0, .inl (ck, L, .inl f)), (w0, .inl (cw, L, .inl g))]) [0, 1, 2, 3] rfl
    have hKc := hK.sub (tys' := [(ck, .int), (cw, .int)]) [0, 1] rfl
    refine ro_calli (va_runV (As := []) (rest := []) ⟨hx, hb, hml, hown, hts⟩ (c_X6_end l  dC dI s.heap.size y0 kd wh od tu lo hi x0 k0 w0 ck cw L f g nz ch hR9 ho1 ho2) (cwV 0 hts gX6_placeOf_X6_end rfl rfl rfl (by decide +kernel) ⟨(Nat.le_of_ble_eq_true rfl), (Nat.le_of_ble_eq_true rfl)⟩) ⟨pk_blindR, va_recv hKc hPc (ci := 6) (q0 := 0) rfl rfl, pk_callR hPc hKc⟩ rfl rfl hl.1 rfl (lv_room (Nat.le_of_ble_eq_true rfl)) dX6_placeOf_8 ⟨(Nat.le_of_ble_eq_true rfl), (Nat.le_of_ble_eq_true rfl)⟩) (fun r_3 ur_3 hw => ?_)
    clear hPc hKc
    try dsimp only at hw
    have jr_3 := hw
    obtain ⟨ka, hka, rfl⟩ := jr_3
    refine W.eq (g2 := F0 m 11 ls [.int (nI ka)]) rfl ?_
    refine lv_iconst (v := 1) hx hb dX6_placeOf_11 (by decide) ?_
    refine lv_isub hx hb dX6_placeOf_12 ?_
    refine lv_topi (fun z_ ez_ => ?_)
    obtain rfl : z_ = (nI ka) - 1 := ez_.trans (rfl)
    refine lv_iload_n hx hb dX6_placeOf_13 rfl (lv_at hl 1 rfl) ?_
    refine lv_isub hx hb dX6_placeOf_14 ?_
    refine lv_goto (tgt := 24) hx hb dX6_placeOf_15 (by decide) ?_
    refine W.widen (k := 0) (n := 0) (Nat.le_of_ble_eq_true rfl) (Nat.le_of_ble_eq_true rfl) ?_
    exact W.iret (v := ((nI ka) - 1) - p0) hx hb hr (fun t ht hW => ⟨⟨((nI ka) - 1) - p0, (), rfl, trivial, congrArg Array.size ht⟩, hS.F ht⟩) hS.2.2 dX6_placeOf_24
set_option maxHeartbeats 4000000 in
set_option maxRecDepth 100000 in
/-- X6.mayHold -/
theorem c_X6_mayHold (l : Launch) (dC : Nat → ClassId) (dI : Nat → Nat → Nat) (sz : Nat) (y0 : Nat) (kd : Int32) (wh : Int32) (od : Int32) (tu : Int32) (lo : Int64) (hi : Int64) (x0 : Nat) (k0 : Nat) (w0 : Nat) (ck : ClassId) (cw : ClassId) (L : Nat) (f : Nat → Int32) (g : Nat → Int32) (nz : Nat) (ch : Int32) (p0 : Int32) (hR9 : rOK L nz) (ho1 : 0 ≤ od.toInt) (ho2 : od.toInt ≤ 3) : Met l yX6_mayHold wsX6_mayHold ({ frames := 2, cells := 0, slots := 0, locals := 80 }) (va_Pc [.ref y0, .int p0] (pk_PreR (dC, dI) [(y0, .inr (6, [.ref x0, .int kd, .int wh, .int od, .int tu, .long lo, .long hi])), (x0, .inr (5, [.ref k0, .ref w0, .int (nI nz), .int ch])), (k0, .inl (ck, L, .inl f)), (w0, .inl (cw, L, .inl g))] [(ck, .int), (cw, .int)] sz)) (va_Qi (fun (x : Int32) (u : Unit) => x = 0 ∨ x = 1) (fun _ (t : State) => t.heap.size = sz) ro_A) 0 0 ro_A := by
  refine Met.ofW (cc := cX6_mayHold) (maxL := 2) (ret := (some .boolean)) (by decide) rfl ?_
  intro p e s m args below meth c s₁ B hml hv
  obtain ⟨rfl, hsz, hP, hK⟩ := hv
  have hx := B.exec
  have hb := B.bytes
  have hr := B.returns
  have hts := atoms_spec (ws := wsX6_mayHold) B.pre
  have hown : s.vm.findClass RX6 = some m.cls := findClass_of_methodNamed B.named
  have hlocks := B.notSynchronized
  subst hsz
  have hS : va_S ro_A s.heap s.heap [] := va_S.rf
  have hP : va_P (dC, dI) vwCl [(y0, .inr (6, [.ref x0, .int kd, .int wh, .int od, .int tu, .long lo, .long hi])), (x0, .inr (5, [.ref k0, .ref w0, .int (nI nz), .int ch])), (k0, .inl (ck, L, .inl f)), (w0, .inl (cw, L, .inl g))] s.heap := hP
  have hl := lv_entry ([.ref y0, .int p0]) (n := 2) (Nat.le_of_ble_eq_true rfl)
  rw [lg_entry_eq]
  generalize (lg_sl ([.ref y0, .int p0]) ++ List.replicate (2 - (lg_sl ([.ref y0, .int p0])).length) Slot.unset).toArray = ls at hl ⊢
  have hl : lv_has ls 2 [(0, .ref y0), (1, .int p0)] := hl
  have hw0_ := hts (.fieldLink RX6 28 "KeyAtlas$Sorted" "low" "J") (List.mem_of_getElem? (l := wsX6_mayHold) (i := 1) rfl)
  have hw1_ := hts (.fieldLink RX6 34 "KeyAtlas$Sorted" "high" "J") (List.mem_of_getElem? (l := wsX6_mayHold) (i := 2) rfl)
  have hi0_ : ∀ w ∈ u_ws RX6 TX6 7, w ∈ wsX6_mayHold := fun w h => List.mem_cons_of_mem _ (List.mem_append_right _ h)
  refine lv_aload_n hx hb dX6_mayHold_0 rfl (lv_at hl 0 rfl) ?_
  refine lv_iload_n hx hb dX6_mayHold_1 rfl (lv_at hl 1 rfl) ?_
  have hPc := hP.sub (ws' := [(y0, .inr (6, [.ref x0, .int kd, .int wh, .int od, .int tu, .long lo, .long hi]))]) [0] rfl
  have hKc := hK.sub (tys' := []) [] rfl
  refine ro_calll (va_runV (As := [.int p0]) (rest := []) ⟨hx, hb, hml, hown, hts⟩ (c_X6_rank l  dC dI s.heap.size y0 od (.ref x0) (.int kd) (.int wh) (.int tu) (.long lo) (.long hi) p0 ho1 ho2) (cwV 1 hts gX6_mayHold_X6_rank rfl rfl rfl (by decide +kernel) ⟨(Nat.le_of_ble_eq_true rfl), (Nat.le_of_ble_eq_true rfl)⟩) ⟨pk_blindR, va_recv hKc hPc (ci := 6) (q0 := 0) rfl rfl, pk_callR hPc hKc⟩ rfl rfl hl.1 rfl (lv_room (Nat.le_of_ble_eq_true rfl)) dX6_mayHold_2 ⟨(Nat.le_of_ble_eq_true rfl), (Nat.le_of_ble_eq_true rfl)⟩) (fun r_1 ur_1 hw => ?_)
  clear hPc hKc
  try dsimp only at hw
  have jr_1 := hw
  refine W.eq (g2 := F0 m 5 ls [.long r_1]) rfl ?_
  refine lv_aload_n hx hb dX6_mayHold_5 rfl (lv_at hl 0 rfl) ?_
  refine va_get (D := (dC, dI)) (ci := 6) (v := .long lo) (C := RX6) (T := TX6) (N := 7) hx hb hts hi0_ hown hK hP 0 rfl rfl 5 (by decide) hw0_ (fun _ h9 => h9) rfl dX6_mayHold_6 ?_
  refine W.lcmp hx hb dX6_mayHold_9 ?_
  refine lv_if_lt (tgt := 30) hx hb dX6_mayHold_10 (by decide) (fun c_2 => ?_) (fun c_2 => ?_)
  ·
    have ic_2 : (lg_cmp r_1 lo).toInt < 0 := tx_lt rfl (by decide) c_2
    refine lv_iconst (v := 0) hx hb dX6_mayHold_30 (by decide) ?_
    refine W.widen (k := 0) (n := 0) (Nat.le_of_ble_eq_true rfl) (Nat.le_of_ble_eq_true rfl) ?_
    exact W.zret (v := 0) hx hb hr rfl (fun t ht hW => ⟨⟨0, (), rfl, Or.inl rfl, congrArg Array.size ht⟩, hS.F ht⟩) hS.2.2 dX6_mayHold_31
  ·
    have ic_2 : 0 ≤ (lg_cmp r_1 lo).toInt := tx_nlt rfl (by decide) c_2
    refine lv_aload_n hx hb dX6_mayHold_13 rfl (lv_at hl 0 rfl) ?_
    refine lv_iload_n hx hb dX6_mayHold_14 rfl (lv_at hl 1 rfl) ?_
    have hPc := hP.sub (ws' := [(y0, .inr (6, [.ref x0, .int kd, .int wh, .int od, .int tu, .long lo, .long hi]))]) [0] rfl
    have hKc := hK.sub (tys' := []) [] rfl
    refine ro_calll (va_runV (As := [.int p0]) (rest := []) ⟨hx, hb, hml, hown, hts⟩ (c_X6_rank l  dC dI s.heap.size y0 od (.ref x0) (.int kd) (.int wh) (.int tu) (.long lo) (.long hi) p0 ho1 ho2) (cwV 1 hts gX6_mayHold_X6_rank rfl rfl rfl (by decide +kernel) ⟨(Nat.le_of_ble_eq_true rfl), (Nat.le_of_ble_eq_true rfl)⟩) ⟨pk_blindR, va_recv hKc hPc (ci := 6) (q0 := 0) rfl rfl, pk_callR hPc hKc⟩ rfl rfl hl.1 rfl (lv_room (Nat.le_of_ble_eq_true rfl)) dX6_mayHold_15 ⟨(Nat.le_of_ble_eq_true rfl), (Nat.le_of_ble_eq_true rfl)⟩) (fun r_3 ur_3 hw => ?_)
    clear hPc hKc
    try dsimp only at hw
    have jr_3 := hw
    refine W.eq (g2 := F0 m 18 ls [.long r_3]) rfl ?_
    refine lv_aload_n hx hb dX6_mayHold_18 rfl (lv_at hl 0 rfl) ?_
    refine va_get (D := (dC, dI)) (ci := 6) (v := .long hi) (C := RX6) (T := TX6) (N := 7) hx hb hts hi0_ hown hK hP 0 rfl rfl 6 (by decide) hw1_ (fun _ h9 => h9) rfl dX6_mayHold_19 ?_
    refine W.lcmp hx hb dX6_mayHold_22 ?_
    refine lv_if_ge (tgt := 30) hx hb dX6_mayHold_23 (by decide) (fun c_4 => ?_) (fun c_4 => ?_)
    ·
      have ic_4 := lgc_ge c_4
      refine lv_iconst (v := 0) hx hb dX6_mayHold_30 (by decide) ?_
      refine W.widen (k := 0) (n := 0) (Nat.le_of_ble_eq_true rfl) (Nat.le_of_ble_eq_true rfl) ?_
      exact W.zret (v := 0) hx hb hr rfl (fun t ht hW => ⟨⟨0, (), rfl, Or.inl rfl, congrArg Array.size ht⟩, hS.F ht⟩) hS.2.2 dX6_mayHold_31
    ·
      have ic_4 := lgc_nge c_4
      refine lv_iconst (v := 1) hx hb dX6_mayHold_26 (by decide) ?_
      refine lv_goto (tgt := 31) hx hb dX6_mayHold_27 (by decide) ?_
      refine W.widen (k := 0) (n := 0) (Nat.le_of_ble_eq_true rfl) (Nat.le_of_ble_eq_true rfl) ?_
      exact W.zret (v := 1) hx hb hr rfl (fun t ht hW => ⟨⟨1, (), rfl, Or.inr rfl, congrArg Array.size ht⟩, hS.F ht⟩) hS.2.2 dX6_mayHold_31
set_option maxHeartbeats 4000000 in
set_option maxRecDepth 100000 in
/-- X6.hasRoomFor -/
theorem c_X6_hasRoomFor (l : Launch) (dC : Nat → ClassId) (dI : Nat → Nat → Nat) (sz : Nat) (y0 : Nat) (kd : Int32) (wh : Int32) (od : Int32) (tu : Int32) (lo : Int64) (hi : Int64) (x0 : Nat) (k0 : Nat) (w0 : Nat) (ck : ClassId) (cw : ClassId) (L : Nat) (f : Nat → Int32) (g : Nat → Int32) (nz : Nat) (ch : Int32) (p0 : Int32) (hR9 : rOK L nz) (ho1 : 0 ≤ od.toInt) (ho2 : od.toInt ≤ 3) : Met l yX6_hasRoomFor wsX6_hasRoomFor ({ frames := 2, cells := 0, slots := 0, locals := 80 }) (va_Pc [.ref y0, .int p0] (pk_PreR (dC, dI) [(y0, .inr (6, [.ref x0, .int kd, .int wh, .int od, .int tu, .long lo, .long hi])), (x0, .inr (5, [.ref k0, .ref w0, .int (nI nz), .int ch])), (k0, .inl (ck, L, .inl f)), (w0, .inl (cw, L, .inl g))] [(ck, .int), (cw, .int)] sz)) (va_Qi (fun (x : Int32) (u : Unit) => x = 0 ∨ x = 1) (fun _ (t : State) => t.heap.size = sz) ro_A) 0 0 ro_A := by
  refine Met.ofW (cc := cX6_hasRoomFor) (maxL := 2) (ret := (some .boolean)) (by decide) rfl ?_
  intro p e s m args below meth c s₁ B hml hv
  obtain ⟨rfl, hsz, hP, hK⟩ := hv
  have hx := B.exec
  have hb := B.bytes
  have hr := B.returns
  have hts := atoms_spec (ws := wsX6_hasRoomFor) B.pre
  have hown : s.vm.findClass RX6 = some m.cls := findClass_of_methodNamed B.named
  have hlocks := B.notSynchronized
  subst hsz
  have hS : va_S ro_A s.heap s.heap [] := va_S.rf
  have hP : va_P (dC, dI) vwCl [(y0, .inr (6, [.ref x0, .int kd, .int wh, .int od, .int tu, .long lo, .long hi])), (x0, .inr (5, [.ref k0, .ref w0, .int (nI nz), .int ch])), (k0, .inl (ck, L, .inl f)), (w0, .inl (cw, L, .inl g))] s.heap := hP
  have hl := lv_entry ([.ref y0, .int p0]) (n := 2) (Nat.le_of_ble_eq_true rfl)
  rw [lg_entry_eq]
  generalize (lg_sl ([.ref y0, .int p0]) ++ List.replicate (2 - (lg_sl ([.ref y0, .int p0])).length) Slot.unset).toArray = ls at hl ⊢
  have hl : lv_has ls 2 [(0, .ref y0), (1, .int p0)] := hl
  have hw0_ := hts (.fieldLink RX6 16 "KeyAtlas$Sorted" "order" "I") (List.mem_of_getElem? (l := wsX6_hasRoomFor) (i := 1) rfl)
  have hi0_ : ∀ w ∈ u_ws RX6 TX6 7, w ∈ wsX6_hasRoomFor := fun w h => List.mem_cons_of_mem _ (List.mem_append_left _ (List.mem_append_left _ (List.mem_append_left _ (List.mem_append_right _ h))))
  refine lv_aload_n hx hb dX6_hasRoomFor_0 rfl (lv_at hl 0 rfl) ?_
  refine va_get (D := (dC, dI)) (ci := 6) (v := .int od) (C := RX6) (T := TX6) (N := 7) hx hb hts hi0_ hown hK hP 0 rfl rfl 3 (by decide) hw0_ (fun _ h9 => h9) rfl dX6_hasRoomFor_1 ?_
  refine lv_iconst (v := 3) hx hb dX6_hasRoomFor_4 (by decide) ?_
  refine lv_icmp_eq (tgt := 16) hx hb dX6_hasRoomFor_5 (by decide) (fun c_1 => ?_) (fun c_1 => ?_)
  ·
    have ic_1 : od.toInt = 3 := tx_eq rfl (by decide) c_1
    refine lv_iconst (v := 1) hx hb dX6_hasRoomFor_16 (by decide) ?_
    refine lv_goto (tgt := 21) hx hb dX6_hasRoomFor_17 (by decide) ?_
    refine W.widen (k := 0) (n := 0) (Nat.le_of_ble_eq_true rfl) (Nat.le_of_ble_eq_true rfl) ?_
    exact W.zret (v := 1) hx hb hr rfl (fun t ht hW => ⟨⟨1, (), rfl, Or.inr rfl, congrArg Array.size ht⟩, hS.F ht⟩) hS.2.2 dX6_hasRoomFor_21
  ·
    have ic_1 : ¬ od.toInt = 3 := tx_ne rfl (by decide) c_1
    refine lv_aload_n hx hb dX6_hasRoomFor_8 rfl (lv_at hl 0 rfl) ?_
    refine lv_iload_n hx hb dX6_hasRoomFor_9 rfl (lv_at hl 1 rfl) ?_
    have hPc := hP.sub (ws' := [(y0, .inr (6, [.ref x0, .int kd, .int wh, .int od, .int tu, .long lo, .long hi])), (x0, .inr (5, [.ref k0, .ref w0, .int (nI nz), .int ch])), (k0, .inl (ck, L, .inl f)), (w0, .inl (cw, L, .inl g))]) [0, 1, 2, 3] rfl
    have hKc := hK.sub (tys' := [(ck, .int), (cw, .int)]) [0, 1] rfl
    refine ro_calli (va_runSU (hK.1 6 _ rfl).2 (As := [.int p0]) (rest := []) ⟨hx, hb, hml, hown, hts⟩ (c_X3_hasRoomFor_S l  dC dI s.heap.size y0 (.int kd) (.int wh) (.int od) (.int tu) (.long lo) (.long hi) x0 k0 w0 ck cw L f g nz ch p0 hR9) (va_cwSU 1 hts gX6_hasRoomFor_X3_hasRoomFor_s92 rfl rfl rfl (by decide +kernel) ⟨(Nat.le_of_ble_eq_true rfl), (Nat.le_of_ble_eq_true rfl)⟩) ⟨pk_blindR, va_recv hKc hPc (ci := 6) (q0 := 0) rfl rfl, pk_callR hPc hKc⟩ rfl rfl hl.1 rfl (lv_room (Nat.le_of_ble_eq_true rfl)) dX6_hasRoomFor_10 ⟨(Nat.le_of_ble_eq_true rfl), (Nat.le_of_ble_eq_true rfl)⟩) (fun r_2 ur_2 hw => ?_)
    clear hPc hKc
    try dsimp only at hw
    have jr_2 := hw
    refine W.eq (g2 := F0 m 13 ls [.int r_2]) rfl ?_
    refine lv_if_eq (tgt := 20) hx hb dX6_hasRoomFor_13 (by decide) (fun c_3 => ?_) (fun c_3 => ?_)
    ·
      have ic_3 : r_2.toInt = 0 := tx_eq rfl (by decide) c_3
      refine lv_iconst (v := 0) hx hb dX6_hasRoomFor_20 (by decide) ?_
      refine W.widen (k := 0) (n := 0) (Nat.le_of_ble_eq_true rfl) (Nat.le_of_ble_eq_true rfl) ?_
      exact W.zret (v := 0) hx hb hr rfl (fun t ht hW => ⟨⟨0, (), rfl, Or.inl rfl, congrArg Array.size ht⟩, hS.F ht⟩) hS.2.2 dX6_hasRoomFor_21
    ·
      have ic_3 : ¬ r_2.toInt = 0 := tx_ne rfl (by decide) c_3
      refine lv_iconst (v := 1) hx hb dX6_hasRoomFor_16 (by decide) ?_
      refine lv_goto (tgt := 21) hx hb dX6_hasRoomFor_17 (by decide) ?_
      refine W.widen (k := 0) (n := 0) (Nat.le_of_ble_eq_true rfl) (Nat.le_of_ble_eq_true rfl) ?_
      exact W.zret (v := 1) hx hb hr rfl (fun t ht hW => ⟨⟨1, (), rfl, Or.inr rfl, congrArg Array.size ht⟩, hS.F ht⟩) hS.2.2 dX6_hasRoomFor_21
set_option maxHeartbeats 4000000 in
set_option maxRecDepth 100000 in
/-- X6.find -/
theorem c_X6_find (l : Launch) (dC : Nat → ClassId) (dI : Nat → Nat → Nat) (sz : Nat) (y0 : Nat) (kd : Int32) (wh : Int32) (od : Int32) (tu : Int32) (lo : Int64) (hi : Int64) (x0 : Nat) (k0 : Nat) (w0 : Nat) (ck : ClassId) (cw : ClassId) (L : Nat) (f : Nat → Int32) (g : Nat → Int32) (nz : Nat) (ch : Int32) (p0 : Int32) (hR9 : rOK L nz) (ho1 : 0 ≤ od.toInt) (ho2 : od.toInt ≤ 3) : Met l yX6_find wsX6_find ({ frames := 3, cells := 0, slots := 0, locals := 130 }) (va_Pc [.ref y0, .int p0] (pk_PreR (dC, dI) [(y0, .inr (6, [.ref x0, .int kd, .int wh, .int od, .int tu, .long lo, .long hi])), (x0, .inr (5, [.ref k0, .ref w0, .int (nI nz), .int ch])), (k0, .inl (ck, L, .inl f)), (w0, .inl (cw, L, .inl g))] [(ck, .int), (cw, .int)] sz)) (va_Qi (fun (x : Int32) (u : Unit) => x = -1 ∨ ∃ k : Nat, k < nz ∧ x = nI k) (fun _ (t : State) => t.heap.size = sz) ro_A) 0 0 ro_A := by
  refine Met.ofW (cc := cX6_find) (maxL := 4) (ret := (some .int)) (by decide) rfl ?_
  intro p e s m args below meth c s₁ B hml hv
  obtain ⟨rfl, hsz, hP, hK⟩ := hv
  have hx := B.exec
  have hb := B.bytes
  have hr := B.returns
  have hts := atoms_spec (ws := wsX6_find) B.pre
  have hown : s.vm.findClass RX6 = some m.cls := findClass_of_methodNamed B.named
  have hlocks := B.notSynchronized
  subst hsz
  have hS : va_S ro_A s.heap s.heap [] := va_S.rf
  have hP : va_P (dC, dI) vwCl [(y0, .inr (6, [.ref x0, .int kd, .int wh, .int od, .int tu, .long lo, .long hi])), (x0, .inr (5, [.ref k0, .ref w0, .int (nI nz), .int ch])), (k0, .inl (ck, L, .inl f)), (w0, .inl (cw, L, .inl g))] s.heap := hP
  have hl := lv_entry ([.ref y0, .int p0]) (n := 4) (Nat.le_of_ble_eq_true rfl)
  rw [lg_entry_eq]
  generalize (lg_sl ([.ref y0, .int p0]) ++ List.replicate (4 - (lg_sl ([.ref y0, .int p0])).length) Slot.unset).toArray = ls at hl ⊢
  have hl : lv_has ls 4 [(0, .ref y0), (1, .int p0)] := hl
  have hw0_ := hts (.fieldLink RX6 37 "KeyAtlas$Sorted" "rows" "LKeyAtlas$Rows;") (List.mem_of_getElem? (l := wsX6_find) (i := 1) rfl)
  have hw1_ := hts (.sameField "KeyAtlas$Sorted" "KeyAtlas$Keyed" "rows" "LKeyAtlas$Rows;") (List.mem_of_getElem? (l := wsX6_find) (i := 2) rfl)
  have hi0_ : ∀ w ∈ u_ws RX6 TX6 7, w ∈ wsX6_find := fun w h => List.mem_cons_of_mem _ (List.mem_append_left _ (List.mem_append_right _ h))
  obtain ⟨hL1, hL2, hz1, hz2⟩ := id hR9
  refine lv_aload_n hx hb dX6_find_0 rfl (lv_at hl 0 rfl) ?_
  refine lv_aload_n hx hb dX6_find_1 rfl (lv_at hl 0 rfl) ?_
  refine lv_iload_n hx hb dX6_find_2 rfl (lv_at hl 1 rfl) ?_
  have hPc := hP.sub (ws' := [(y0, .inr (6, [.ref x0, .int kd, .int wh, .int od, .int tu, .long lo, .long hi]))]) [0] rfl
  have hKc := hK.sub (tys' := []) [] rfl
  refine ro_calll (va_runV (As := [.int p0]) (rest := [.ref y0]) ⟨hx, hb, hml, hown, hts⟩ (c_X6_rank l  dC dI s.heap.size y0 od (.ref x0) (.int kd) (.int wh) (.int tu) (.long lo) (.long hi) p0 ho1 ho2) (cwV 1 hts gX6_find_X6_rank rfl rfl rfl (by decide +kernel) ⟨(Nat.le_of_ble_eq_true rfl), (Nat.le_of_ble_eq_true rfl)⟩) ⟨pk_blindR, va_recv hKc hPc (ci := 6) (q0 := 0) rfl rfl, pk_callR hPc hKc⟩ rfl rfl hl.1 rfl (lv_room (Nat.le_of_ble_eq_true rfl)) dX6_find_3 ⟨(Nat.le_of_ble_eq_true rfl), (Nat.le_of_ble_eq_true rfl)⟩) (fun r_1 ur_1 hw => ?_)
  clear hPc hKc
  try dsimp only at hw
  have jr_1 := hw
  refine W.eq (g2 := F0 m 6 ls [.long r_1, .ref y0]) rfl ?_
  have hPc := hP.sub (ws' := [(y0, .inr (6, [.ref x0, .int kd, .int wh, .int od, .int tu, .long lo, .long hi])), (x0, .inr (5, [.ref k0, .ref w0, .int (nI nz), .int ch])), (k0, .inl (ck, L, .inl f)), (w0, .inl (cw, L, .inl g))]) [0, 1, 2, 3] rfl
  have hKc := hK.sub (tys' := [(ck, .int), (cw, .int)]) [0, 1] rfl
  refine ro_calli (va_runV (As := [.long r_1]) (rest := []) ⟨hx, hb, hml, hown, hts⟩ (c_X6_howManyBelow l  dC dI s.heap.size y0 kd wh od tu lo hi x0 k0 w0 ck cw L f g nz ch r_1 hR9 ho1 ho2) (cwV 1 hts gX6_find_X6_howManyBelow rfl rfl rfl (by decide +kernel) ⟨(Nat.le_of_ble_eq_true rfl), (Nat.le_of_ble_eq_true rfl)⟩) ⟨pk_blindR, va_recv hKc hPc (ci := 6) (q0 := 0) rfl rfl, pk_callR hPc hKc⟩ rfl rfl hl.1 rfl (lv_room (Nat.le_of_ble_eq_true rfl)) dX6_find_6 ⟨(Nat.le_of_ble_eq_true rfl), (Nat.le_of_ble_eq_true rfl)⟩) (fun r_2 ur_2 hw => ?_)
  clear hPc hKc
  try dsimp only at hw
  have jr_2 := hw
  obtain ⟨ka, hka, rfl⟩ := jr_2
  refine W.eq (g2 := F0 m 9 ls [.int (nI ka)]) rfl ?_
  refine lv_istore_n (lv' := [(2, .int (nI ka)), (0, .ref y0), (1, .int p0)]) hx hb dX6_find_9 rfl hl (by decide) rfl (fun ls hl => ?_)
  refine lv_iload_n hx hb dX6_find_10 rfl (lv_at hl 0 rfl) ?_
  refine lv_aload_n hx hb dX6_find_11 rfl (lv_at hl 1 rfl) ?_
  refine va_get (D := (dC, dI)) (ci := 6) (v := .ref x0) (C := RX6) (T := TX6) (N := 7) hx hb hts hi0_ hown hK hP 0 rfl rfl 0 (by decide) hw0_ (u_same hw1_) rfl dX6_find_12 ?_
  have hPc := hP.sub (ws' := [(x0, .inr (5, [.ref k0, .ref w0, .int (nI nz), .int ch]))]) [1] rfl
  have hKc := hK.sub (tys' := []) [] rfl
  refine ro_calli (va_runV (As := []) (rest := [.int (nI ka)]) ⟨hx, hb, hml, hown, hts⟩ (c_X5_size l  dC dI s.heap.size x0 (nI nz) (.ref k0) (.ref w0) (.int ch)) (cwV 0 hts gX6_find_X5_size rfl rfl rfl (by decide +kernel) ⟨(Nat.le_of_ble_eq_true rfl), (Nat.le_of_ble_eq_true rfl)⟩) ⟨pk_blindR, va_recv hKc hPc (ci := 5) (q0 := 0) rfl rfl, pk_callR hPc hKc⟩ rfl rfl hl.1 rfl (lv_room (Nat.le_of_ble_eq_true rfl)) dX6_find_15 ⟨(Nat.le_of_ble_eq_true rfl), (Nat.le_of_ble_eq_true rfl)⟩) (fun r_3 ur_3 hw => ?_)
  clear hPc hKc
  try dsimp only at hw
  obtain rfl : r_3 = nI nz := hw
  refine W.eq (g2 := F0 m 18 ls [.int (nI nz), .int (nI ka)]) rfl ?_
  refine lv_icmp_ge (tgt := 46) hx hb dX6_find_18 (by decide) (fun c_4 => ?_) (fun c_4 => ?_)
  ·
    have ic_4 : ((nz : Nat) : Int) ≤ ((ka : Nat) : Int) := tx_le (nI_toInt (by omega)) (nI_toInt (by omega)) c_4
    refine lv_iconst (v := 0) hx hb dX6_find_46 (by decide) ?_
    refine lv_istore_n (lv' := [(3, .int 0), (2, .int (nI ka)), (0, .ref y0), (1, .int p0)]) hx hb dX6_find_47 rfl hl (by decide) rfl (fun ls hl => ?_)
    refine lv_iload_n hx hb dX6_find_48 rfl (lv_at hl 0 rfl) ?_
    refine lv_if_eq (tgt := 64) hx hb dX6_find_49 (by decide) (fun c_5 => ?_) (fun c_5 => absurd c_5 (by decide))
    refine lv_iconst (v := (-1)) hx hb dX6_find_64 (by decide) ?_
    refine W.widen (k := 0) (n := 0) (Nat.le_of_ble_eq_true rfl) (Nat.le_of_ble_eq_true rfl) ?_
    exact W.iret (v := -1) hx hb hr (fun t ht hW => ⟨⟨-1, (), rfl, Or.inl rfl, congrArg Array.size ht⟩, hS.F ht⟩) hS.2.2 dX6_find_65
  ·
    have ic_4 : ((ka : Nat) : Int) < ((nz : Nat) : Int) := tx_nle (nI_toInt (by omega)) (nI_toInt (by omega)) c_4
    refine lv_aload_n hx hb dX6_find_21 rfl (lv_at hl 1 rfl) ?_
    refine lv_aload_n hx hb dX6_find_22 rfl (lv_at hl 1 rfl) ?_
    refine va_get (D := (dC, dI)) (ci := 6) (v := .ref x0) (C := RX6) (T := TX6) (N := 7) hx hb hts hi0_ hown hK hP 0 rfl rfl 0 (by decide) hw0_ (u_same hw1_) rfl dX6_find_23 ?_
    refine lv_iload_n hx hb dX6_find_26 rfl (lv_at hl 0 rfl) ?_
    have hPc := hP.sub (ws' := [(x0, .inr (5, [.ref k0, .ref w0, .int (nI nz), .int ch])), (k0, .inl (ck, L, .inl f)), (w0, .inl (cw, L, .inl g))]) [1, 2, 3] rfl
    have hKc := hK.sub (tys' := [(ck, .int), (cw, .int)]) [0, 1] rfl
    refine ro_calli (va_runV (As := [.int (nI ka)]) (rest := [.ref y0]) ⟨hx, hb, hml, hown, hts⟩ (c_X5_key l  dC dI s.heap.size x0 k0 w0 ck cw L f g nz ch (nI ka) hR9) (cwV 1 hts gX6_find_X5_key rfl rfl rfl (by decide +kernel) ⟨(Nat.le_of_ble_eq_true rfl), (Nat.le_of_ble_eq_true rfl)⟩) ⟨pk_blindR, va_recv hKc hPc (ci := 5) (q0 := 0) rfl rfl, pk_callR hPc hKc⟩ rfl rfl hl.1 rfl (lv_room (Nat.le_of_ble_eq_true rfl)) dX6_find_27 ⟨(Nat.le_of_ble_eq_true rfl), (Nat.le_of_ble_eq_true rfl)⟩) (fun r_6 ur_6 hw => ?_)
    clear hPc hKc
    try dsimp only at hw
    have jr_6 := hw
    refine W.eq (g2 := F0 m 30 ls [.int r_6, .ref y0]) rfl ?_
    have hPc := hP.sub (ws' := [(y0, .inr (6, [.ref x0, .int kd, .int wh, .int od, .int tu, .long lo, .long hi]))]) [0] rfl
    have hKc := hK.sub (tys' := []) [] rfl
    refine ro_calll (va_runV (As := [.int r_6]) (rest := []) ⟨hx, hb, hml, hown, hts⟩ (c_X6_rank l  dC dI s.heap.size y0 od (.ref x0) (.int kd) (.int wh) (.int tu) (.long lo) (.long hi) r_6 ho1 ho2) (cwV 1 hts gX6_find_X6_rank rfl rfl rfl (by decide +kernel) ⟨(Nat.le_of_ble_eq_true rfl), (Nat.le_of_ble_eq_true rfl)⟩) ⟨pk_blindR, va_recv hKc hPc (ci := 6) (q0 := 0) rfl rfl, pk_callR hPc hKc⟩ rfl rfl hl.1 rfl (lv_room (Nat.le_of_ble_eq_true rfl)) dX6_find_30 ⟨(Nat.le_of_ble_eq_true rfl), (Nat.le_of_ble_eq_true rfl)⟩) (fun r_7 ur_7 hw => ?_)
    clear hPc hKc
    try dsimp only at hw
    have jr_7 := hw
    refine W.eq (g2 := F0 m 33 ls [.long r_7]) rfl ?_
    refine lv_aload_n hx hb dX6_find_33 rfl (lv_at hl 1 rfl) ?_
    refine lv_iload_n hx hb dX6_find_34 rfl (lv_at hl 2 rfl) ?_
    have hPc := hP.sub (ws' := [(y0, .inr (6, [.ref x0, .int kd, .int wh, .int od, .int tu, .long lo, .long hi]))]) [0] rfl
    have hKc := hK.sub (tys' := []) [] rfl
    refine ro_calll (va_runV (As := [.int p0]) (rest := [.long r_7]) ⟨hx, hb, hml, hown, hts⟩ (c_X6_rank l  dC dI s.heap.size y0 od (.ref x0) (.int kd) (.int wh) (.int tu) (.long lo) (.long hi) p0 ho1 ho2) (cwV 1 hts gX6_find_X6_rank rfl rfl rfl (by decide +kernel) ⟨(Nat.le_of_ble_eq_true rfl), (Nat.le_of_ble_eq_true rfl)⟩) ⟨pk_blindR, va_recv hKc hPc (ci := 6) (q0 := 0) rfl rfl, pk_callR hPc hKc⟩ rfl rfl hl.1 rfl (lv_room (Nat.le_of_ble_eq_true rfl)) dX6_find_35 ⟨(Nat.le_of_ble_eq_true rfl), (Nat.le_of_ble_eq_true rfl)⟩) (fun r_8 ur_8 hw => ?_)
    clear hPc hKc
    try dsimp only at hw
    have jr_8 := hw
    refine W.eq (g2 := F0 m 38 ls [.long r_8, .long r_7]) rfl ?_
    refine W.lcmp hx hb dX6_find_38 ?_
    refine lv_if_ne (tgt := 46) hx hb dX6_find_39 (by decide) (fun c_9 => ?_) (fun c_9 => ?_)
    ·
      have ic_9 := lgc_ne c_9
      refine lv_iconst (v := 0) hx hb dX6_find_46 (by decide) ?_
      refine lv_istore_n (lv' := [(3, .int 0), (2, .int (nI ka)), (0, .ref y0), (1, .int p0)]) hx hb dX6_find_47 rfl hl (by decide) rfl (fun ls hl => ?_)
      refine lv_iload_n hx hb dX6_find_48 rfl (lv_at hl 0 rfl) ?_
      refine lv_if_eq (tgt := 64) hx hb dX6_find_49 (by decide) (fun c_10 => ?_) (fun c_10 => absurd c_10 (by decide))
      refine lv_iconst (v := (-1)) hx hb dX6_find_64 (by decide) ?_
      refine W.widen (k := 0) (n := 0) (Nat.le_of_ble_eq_true rfl) (Nat.le_of_ble_eq_true rfl) ?_
      exact W.iret (v := -1) hx hb hr (fun t ht hW => ⟨⟨-1, (), rfl, Or.inl rfl, congrArg Array.size ht⟩, hS.F ht⟩) hS.2.2 dX6_find_65
    ·
      have ic_9 := lgc_eq c_9
      refine lv_iconst (v := 1) hx hb dX6_find_42 (by decide) ?_
      refine lv_goto (tgt := 47) hx hb dX6_find_43 (by decide) ?_
      refine lv_istore_n (lv' := [(3, .int 1), (2, .int (nI ka)), (0, .ref y0), (1, .int p0)]) hx hb dX6_find_47 rfl hl (by decide) rfl (fun ls hl => ?_)
      refine lv_iload_n hx hb dX6_find_48 rfl (lv_at hl 0 rfl) ?_
      refine lv_if_eq (tgt := 64) hx hb dX6_find_49 (by decide) (fun c_11 => absurd c_11 (by decide)) (fun c_11 => ?_)
      refine lv_aload_n hx hb dX6_find_52 rfl (lv_at hl 2 rfl) ?_
      refine lv_iload_n hx hb dX6_find_53 rfl (lv_at hl 3 rfl) ?_
      have hPc := hP.sub (ws' := [(y0, .inr (6, [.ref x0, .int kd, .int wh, .int od, .int tu, .long lo, .long hi])), (x0, .inr (5, [.ref k0, .ref w0, .int (nI nz), .int ch])), (k0, .inl (ck, L, .inl f)), (w0, .inl (cw, L, .inl g))]) [0, 1, 2, 3] rfl
      have hKc := hK.sub (tys' := [(ck, .int), (cw, .int)]) [0, 1] rfl
      refine ro_calli (va_runV (As := [.int p0]) (rest := []) ⟨hx, hb, hml, hown, hts⟩ (c_X6_mayHold l  dC dI s.heap.size y0 kd wh od tu lo hi x0 k0 w0 ck cw L f g nz ch p0 hR9 ho1 ho2) (cwV 1 hts gX6_find_X6_mayHold rfl rfl rfl (by decide +kernel) ⟨(Nat.le_of_ble_eq_true rfl), (Nat.le_of_ble_eq_true rfl)⟩) ⟨pk_blindR, va_recv hKc hPc (ci := 6) (q0 := 0) rfl rfl, pk_callR hPc hKc⟩ rfl rfl hl.1 rfl (lv_room (Nat.le_of_ble_eq_true rfl)) dX6_find_54 ⟨(Nat.le_of_ble_eq_true rfl), (Nat.le_of_ble_eq_true rfl)⟩) (fun r_12 ur_12 hw => ?_)
      clear hPc hKc
      try dsimp only at hw
      have jr_12 := hw
      refine W.eq (g2 := F0 m 57 ls [.int r_12]) rfl ?_
      refine lv_if_eq (tgt := 64) hx hb dX6_find_57 (by decide) (fun c_13 => ?_) (fun c_13 => ?_)
      ·
        have ic_13 : r_12.toInt = 0 := tx_eq rfl (by decide) c_13
        refine lv_iconst (v := (-1)) hx hb dX6_find_64 (by decide) ?_
        refine W.widen (k := 0) (n := 0) (Nat.le_of_ble_eq_true rfl) (Nat.le_of_ble_eq_true rfl) ?_
        exact W.iret (v := -1) hx hb hr (fun t ht hW => ⟨⟨-1, (), rfl, Or.inl rfl, congrArg Array.size ht⟩, hS.F ht⟩) hS.2.2 dX6_find_65
      ·
        have ic_13 : ¬ r_12.toInt = 0 := tx_ne rfl (by decide) c_13
        refine lv_iload_n hx hb dX6_find_60 rfl (lv_at hl 1 rfl) ?_
        refine lv_goto (tgt := 65) hx hb dX6_find_61 (by decide) ?_
        refine W.widen (k := 0) (n := 0) (Nat.le_of_ble_eq_true rfl) (Nat.le_of_ble_eq_true rfl) ?_
        exact W.iret (v := nI ka) hx hb hr (fun t ht hW => ⟨⟨nI ka, (), rfl, Or.inr ⟨ka, by omega, rfl⟩, congrArg Array.size ht⟩, hS.F ht⟩) hS.2.2 dX6_find_65
set_option maxHeartbeats 4000000 in
set_option maxRecDepth 100000 in
/-- X6.enter -/
theorem c_X6_enter (l : Launch) (dC : Nat → ClassId) (dI : Nat → Nat → Nat) (sz : Nat) (T0 : Nat) (y0 : Nat) (kd : Int32) (wh : Int32) (od : Int32) (tu : Int32) (lo : Int64) (hi : Int64) (x0 : Nat) (k0 : Nat) (w0 : Nat) (ck : ClassId) (cw : ClassId) (L : Nat) (f : Nat → Int32) (g : Nat → Int32) (nz : Nat) (ch : Int32) (p0 : Int32) (p1 : Int32) (gs : Nat) (hR9 : rOK L nz) (ho1 : 0 ≤ od.toInt) (ho2 : od.toInt ≤ 3) (hG9 : nz < L ∨ 4 * L ≤ gs) : Met l yX6_enter wsX6_enter ({ frames := 3, cells := 2, slots := gs, locals := 150 }) (va_Pc [.ref y0, .int p0, .int p1] (pk_PreT (dC, dI) [(y0, .inr (6, [.ref x0, .int kd, .int wh, .int od, .int tu, .long lo, .long hi])), (x0, .inr (5, [.ref k0, .ref w0, .int (nI nz), .int ch])), (k0, .inl (ck, L, .inl f)), (w0, .inl (cw, L, .inl g))] [(ck, .int), (cw, .int)] sz T0)) (va_Qv (fun (u : Nat × Nat × ClassId × ClassId × Nat × (Nat → Int32) × (Nat → Int32) × Nat × Int32) => lnP L nz (u.2.2.2.2.1) (u.2.2.2.2.2.2.2.1)) (fun (u : Nat × Nat × ClassId × ClassId × Nat × (Nat → Int32) × (Nat → Int32) × Nat × Int32) (t : State) => va_P (dC, dI) vwCl [(y0, .inr (6, [.ref x0, .int kd, .int wh, .int od, .int tu, .long lo, .long hi])), (x0, .inr (5, [.ref u.1, .ref u.2.1, .int (nI (u.2.2.2.2.2.2.2.1)), .int u.2.2.2.2.2.2.2.2])), (u.1, .inl (u.2.2.1, u.2.2.2.2.1, .inl u.2.2.2.2.2.1)), (u.2.1, .inl (u.2.2.2.1, u.2.2.2.2.1, .inl u.2.2.2.2.2.2.1))] t.heap ∧ va_K (dC, dI) vwCl [(u.2.2.1, .int), (u.2.2.2.1, .int)] t ∧ va_D (va_A [(y0, .inr (6, [.ref x0, .int kd, .int wh, .int od, .int tu, .long lo, .long hi])), (x0, .inr (5, [.ref k0, .ref w0, .int (nI nz), .int ch])), (k0, .inl (ck, L, .inl f)), (w0, .inl (cw, L, .inl g))] sz) [(y0, .inr (6, [.ref x0, .int kd, .int wh, .int od, .int tu, .long lo, .long hi])), (x0, .inr (5, [.ref u.1, .ref u.2.1, .int (nI (u.2.2.2.2.2.2.2.1)), .int u.2.2.2.2.2.2.2.2])), (u.1, .inl (u.2.2.1, u.2.2.2.2.1, .inl u.2.2.2.2.2.1)), (u.2.1, .inl (u.2.2.2.1, u.2.2.2.2.1, .inl u.2.2.2.2.2.2.1))] ∧ hT t.heap + 4 * L ≤ T0 + 4 * (u.2.2.2.2.1) ∧ t.heap.size + 2 * lgN L ≤ sz + 2 * lgN (u.2.2.2.2.1)) (va_A [(y0, .inr (6, [.ref x0, .int kd, .int wh, .int od, .int tu, .long lo, .long hi])), (x0, .inr (5, [.ref k0, .ref w0, .int (nI nz), .int ch])), (k0, .inl (ck, L, .inl f)), (w0, .inl (cw, L, .inl g))] sz)) 2 gs (va_A [(y0, .inr (6, [.ref x0, .int kd, .int wh, .int od, .int tu, .long lo, .long hi])), (x0, .inr (5, [.ref k0, .ref w0, .int (nI nz), .int ch])), (k0, .inl (ck, L, .inl f)), (w0, .inl (cw, L, .inl g))] sz) := by
  refine Met.ofW (cc := cX6_enter) (maxL := 3) (ret := none) (by decide) rfl ?_
  intro p e s m args below meth c s₁ B hml hv
  obtain ⟨rfl, ⟨hsz, hP, hK, hD0⟩, hT0⟩ := hv
  have hx := B.exec
  have hb := B.bytes
  have hr := B.returns
  have hts := atoms_spec (ws := wsX6_enter) B.pre
  have hown : s.vm.findClass RX6 = some m.cls := findClass_of_methodNamed B.named
  have hlocks := B.notSynchronized
  subst hsz
  subst hT0
  have hD := hD0.self (sz := s.heap.size)
  generalize hAe : va_A [(y0, .inr (6, [.ref x0, .int kd, .int wh, .int od, .int tu, .long lo, .long hi])), (x0, .inr (5, [.ref k0, .ref w0, .int (nI nz), .int ch])), (k0, .inl (ck, L, .inl f)), (w0, .inl (cw, L, .inl g))] s.heap.size = A at hD ⊢
  have hA : ∀ q : Nat, s.heap.size ≤ q → A q := fun q h => by rw [← hAe]; exact Or.inr h
  have hS : va_S A s.heap s.heap [] := va_S.rf
  have hP : va_P (dC, dI) vwCl [(y0, .inr (6, [.ref x0, .int kd, .int wh, .int od, .int tu, .long lo, .long hi])), (x0, .inr (5, [.ref k0, .ref w0, .int (nI nz), .int ch])), (k0, .inl (ck, L, .inl f)), (w0, .inl (cw, L, .inl g))] s.heap := hP
  have hl := lv_entry ([.ref y0, .int p0, .int p1]) (n := 3) (Nat.le_of_ble_eq_true rfl)
  rw [lg_entry_eq]
  generalize (lg_sl ([.ref y0, .int p0, .int p1]) ++ List.replicate (3 - (lg_sl ([.ref y0, .int p0, .int p1])).length) Slot.unset).toArray = ls at hl ⊢
  have hl : lv_has ls 3 [(0, .ref y0), (1, .int p0), (2, .int p1)] := hl
  have hw0_ := hts (.fieldLink RX6 37 "KeyAtlas$Sorted" "rows" "LKeyAtlas$Rows;") (List.mem_of_getElem? (l := wsX6_enter) (i := 1) rfl)
  have hw1_ := hts (.sameField "KeyAtlas$Sorted" "KeyAtlas$Keyed" "rows" "LKeyAtlas$Rows;") (List.mem_of_getElem? (l := wsX6_enter) (i := 2) rfl)
  have hi0_ : ∀ w ∈ u_ws RX6 TX6 7, w ∈ wsX6_enter := fun w h => List.mem_cons_of_mem _ (List.mem_append_left _ (List.mem_append_right _ h))
  obtain ⟨hL1, hL2, hz1, hz2⟩ := id hR9
  refine lv_aload_n hx hb dX6_enter_0 rfl (lv_at hl 0 rfl) ?_
  refine va_get (D := (dC, dI)) (ci := 6) (v := .ref x0) (C := RX6) (T := TX6) (N := 7) hx hb hts hi0_ hown hK hP 0 rfl rfl 0 (by decide) hw0_ (u_same hw1_) rfl dX6_enter_1 ?_
  refine lv_aload_n hx hb dX6_enter_4 rfl (lv_at hl 0 rfl) ?_
  refine lv_aload_n hx hb dX6_enter_5 rfl (lv_at hl 0 rfl) ?_
  refine lv_iload_n hx hb dX6_enter_6 rfl (lv_at hl 1 rfl) ?_
  have hPc := hP.sub (ws' := [(y0, .inr (6, [.ref x0, .int kd, .int wh, .int od, .int tu, .long lo, .long hi]))]) [0] rfl
  have hKc := hK.sub (tys' := []) [] rfl
  refine ro_calll (va_runV (As := [.int p0]) (rest := [.ref y0, .ref x0]) ⟨hx, hb, hml, hown, hts⟩ (c_X6_rank l  dC dI s.heap.size y0 od (.ref x0) (.int kd) (.int wh) (.int tu) (.long lo) (.long hi) p0 ho1 ho2) (cwV 1 hts gX6_enter_X6_rank rfl rfl rfl (by decide +kernel) ⟨(Nat.le_of_ble_eq_true rfl), (Nat.le_of_ble_eq_true rfl)⟩) ⟨pk_blindR, va_recv hKc hPc (ci := 6) (q0 := 0) rfl rfl, pk_callR hPc hKc⟩ rfl rfl hl.1 rfl (lv_room (Nat.le_of_ble_eq_true rfl)) dX6_enter_7 ⟨(Nat.le_of_ble_eq_true rfl), (show 0 + 0 ≤ gs by omega)⟩) (fun r_1 ur_1 hw => ?_)
  clear hPc hKc
  try dsimp only at hw
  have jr_1 := hw
  refine W.eq (g2 := F0 m 10 ls [.long r_1, .ref y0, .ref x0]) rfl ?_
  have hPc := hP.sub (ws' := [(y0, .inr (6, [.ref x0, .int kd, .int wh, .int od, .int tu, .long lo, .long hi])), (x0, .inr (5, [.ref k0, .ref w0, .int (nI nz), .int ch])), (k0, .inl (ck, L, .inl f)), (w0, .inl (cw, L, .inl g))]) [0, 1, 2, 3] rfl
  have hKc := hK.sub (tys' := [(ck, .int), (cw, .int)]) [0, 1] rfl
  refine ro_calli (va_runV (As := [.long r_1]) (rest := [.ref x0]) ⟨hx, hb, hml, hown, hts⟩ (c_X6_howManyBelow l  dC dI s.heap.size y0 kd wh od tu lo hi x0 k0 w0 ck cw L f g nz ch r_1 hR9 ho1 ho2) (cwV 1 hts gX6_enter_X6_howManyBelow rfl rfl rfl (by decide +kernel) ⟨(Nat.le_of_ble_eq_true rfl), (Nat.le_of_ble_eq_true rfl)⟩) ⟨pk_blindR, va_recv hKc hPc (ci := 6) (q0 := 0) rfl rfl, pk_callR hPc hKc⟩ rfl rfl hl.1 rfl (lv_room (Nat.le_of_ble_eq_true rfl)) dX6_enter_10 ⟨(Nat.le_of_ble_eq_true rfl), (show 0 + 0 ≤ gs by omega)⟩) (fun r_2 ur_2 hw => ?_)
  clear hPc hKc
  try dsimp only at hw
  have jr_2 := hw
  obtain ⟨ka, hka, rfl⟩ := jr_2
  refine W.eq (g2 := F0 m 13 ls [.int (nI ka), .ref x0]) rfl ?_
  refine lv_iload_n hx hb dX6_enter_13 rfl (lv_at hl 1 rfl) ?_
  refine lv_iload_n hx hb dX6_enter_14 rfl (lv_at hl 2 rfl) ?_
  have hPc := hP.sub (ws' := [(x0, .inr (5, [.ref k0, .ref w0, .int (nI nz), .int ch])), (k0, .inl (ck, L, .inl f)), (w0, .inl (cw, L, .inl g))]) [1, 2, 3] rfl
  have hDc := hD.sub (ws' := [(x0, .inr (5, [.ref k0, .ref w0, .int (nI nz), .int ch])), (k0, .inl (ck, L, .inl f)), (w0, .inl (cw, L, .inl g))]) [1, 2, 3] (by decide) rfl
  have hKc := hK.sub (tys' := [(ck, .int), (cw, .int)]) [0, 1] rfl
  have hFc := va_free (wc := [(x0, .inr (5, [.ref k0, .ref w0, .int (nI nz), .int ch])), (k0, .inl (ck, L, .inl f)), (w0, .inl (cw, L, .inl g))]) hD hS hA [1, 2, 3] rfl
  refine W.book (fun hz8_ hn8_ => ?_)
  refine va_callv (va_runV (As := [.int (nI ka), .int p0, .int p1]) (rest := []) ⟨hx, hb, hml, hown, hts⟩ (c_X5_insert l  dC dI s.heap.size (hT s.heap) x0 k0 w0 ck cw L f g nz ch (nI ka) p0 p1 2 gs hR9 (by omega)) (cwV 3 hts gX6_enter_X5_insert rfl rfl rfl (by decide +kernel) ⟨(Nat.le_of_ble_eq_true rfl), (Nat.le_of_ble_eq_true rfl)⟩) ⟨pk_blindT, va_recv hKc hPc (ci := 5) (q0 := 0) rfl rfl, pk_callT hPc hKc hDc⟩ rfl rfl hl.1 rfl (lv_room (Nat.le_of_ble_eq_true rfl)) dX6_enter_15 ⟨(Nat.le_of_ble_eq_true rfl), (show 0 + gs ≤ gs by omega)⟩) hS (fun q _ h => hFc q h) hFc (fun ur_3 t H1 locs ht hvm hw hB hz1 hk1 hS => ?_)
  try dsimp only at hw
  have jr_3 := hw
  obtain ⟨hP1, hK1, hD1, hC1_⟩ := hB
  rw [ht] at hP1 hC1_
  have hK1 := va_K.moved hvm.symm hK1
  obtain ⟨hP, hD⟩ := va_join (wr := [(y0, .inr (6, [.ref x0, .int kd, .int wh, .int od, .int tu, .long lo, .long hi]))]) (w1 := [(x0, .inr (5, [.ref ur_3.1, .ref ur_3.2.1, .int (nI (ur_3.2.2.2.2.2.2.2.1)), .int ur_3.2.2.2.2.2.2.2.2])), (ur_3.1, .inl (ur_3.2.2.1, ur_3.2.2.2.2.1, .inl ur_3.2.2.2.2.2.1)), (ur_3.2.1, .inl (ur_3.2.2.2.1, ur_3.2.2.2.2.1, .inl ur_3.2.2.2.2.2.2.1))]) hP hD [1, 2, 3] [0] rfl rfl (by decide) (by decide) hk1 hFc hP1 hD1
  have hK := hK.app hK1
  have hK : va_K (dC, dI) vwCl [(ck, .int), (cw, .int), (ur_3.2.2.1, .int), (ur_3.2.2.2.1, .int)] s := hK
  have hl7_ := jr_3.2.2.2
  have hn7_ : hT H1 ≤ hT s.heap + ((4 * (ur_3.2.2.2.2.1) - 4 * L)) := by omega
  have hz7_ : H1.size ≤ s.heap.size + ((2 * lgN (ur_3.2.2.2.2.1) - 2 * lgN L)) := by omega
  clear hC1_ hn8_ hz8_
  clear hk1 hz1 ht hPc hDc hKc hFc
  generalize H1 = H at hP hS hn7_ hz7_ ⊢
  replace hP : va_P (dC, dI) vwCl [(y0, .inr (6, [.ref x0, .int kd, .int wh, .int od, .int tu, .long lo, .long hi])), (x0, .inr (5, [.ref ur_3.1, .ref ur_3.2.1, .int (nI (ur_3.2.2.2.2.2.2.2.1)), .int ur_3.2.2.2.2.2.2.2.2])), (ur_3.1, .inl (ur_3.2.2.1, ur_3.2.2.2.2.1, .inl ur_3.2.2.2.2.2.1)), (ur_3.2.1, .inl (ur_3.2.2.2.1, ur_3.2.2.2.2.1, .inl ur_3.2.2.2.2.2.2.1))] H := hP
  replace hD : va_D A [(y0, .inr (6, [.ref x0, .int kd, .int wh, .int od, .int tu, .long lo, .long hi])), (x0, .inr (5, [.ref ur_3.1, .ref ur_3.2.1, .int (nI (ur_3.2.2.2.2.2.2.2.1)), .int ur_3.2.2.2.2.2.2.2.2])), (ur_3.1, .inl (ur_3.2.2.1, ur_3.2.2.2.2.1, .inl ur_3.2.2.2.2.2.1)), (ur_3.2.1, .inl (ur_3.2.2.2.1, ur_3.2.2.2.2.1, .inl ur_3.2.2.2.2.2.2.1))] := hD
  refine W.tight (k := (2 * lgN (ur_3.2.2.2.2.1) - 2 * lgN L)) (n := (4 * (ur_3.2.2.2.2.1) - 4 * L)) hz7_ hn7_ ?_
  clear hn7_ hz7_
  refine W.eq (g2 := F0 m 18 ls []) rfl ?_
  obtain ⟨⟨m1_, m2_, m3_, m4_⟩, m5_, m6_, m7_⟩ := jr_3
  have hlg1_ : lgN (ur_3.2.2.2.2.1) = lgN L ∨ lgN (ur_3.2.2.2.2.1) = lgN L + 1 := lgN_two (by omega) (by omega)
  refine W.book (fun hz9_ hn9_ => ?_)
  have hpost : lnP L nz (ur_3.2.2.2.2.1) (ur_3.2.2.2.2.2.2.2.1) := by unfold lnP rOK; omega
  have hlg1_ : lgN (ur_3.2.2.2.2.1) = lgN L ∨ lgN (ur_3.2.2.2.2.1) = lgN L + 1 := lgN_two (by omega) (by omega)
  have hcost : hT H + 4 * L ≤ hT s.heap + 4 * (ur_3.2.2.2.2.1) ∧ H.size + 2 * lgN L ≤ s.heap.size + 2 * lgN (ur_3.2.2.2.2.1) := by constructor <;> omega
  have hP9 := hP.sub (ws' := [(y0, .inr (6, [.ref x0, .int kd, .int wh, .int od, .int tu, .long lo, .long hi])), (x0, .inr (5, [.ref ur_3.1, .ref ur_3.2.1, .int (nI (ur_3.2.2.2.2.2.2.2.1)), .int ur_3.2.2.2.2.2.2.2.2])), (ur_3.1, .inl (ur_3.2.2.1, ur_3.2.2.2.2.1, .inl ur_3.2.2.2.2.2.1)), (ur_3.2.1, .inl (ur_3.2.2.2.1, ur_3.2.2.2.2.1, .inl ur_3.2.2.2.2.2.2.1))]) [0, 1, 2, 3] rfl
  have hD9 := hD.sub (ws' := [(y0, .inr (6, [.ref x0, .int kd, .int wh, .int od, .int tu, .long lo, .long hi])), (x0, .inr (5, [.ref ur_3.1, .ref ur_3.2.1, .int (nI (ur_3.2.2.2.2.2.2.2.1)), .int ur_3.2.2.2.2.2.2.2.2])), (ur_3.1, .inl (ur_3.2.2.1, ur_3.2.2.2.2.1, .inl ur_3.2.2.2.2.2.1)), (ur_3.2.1, .inl (ur_3.2.2.2.1, ur_3.2.2.2.2.1, .inl ur_3.2.2.2.2.2.2.1))]) [0, 1, 2, 3] (by decide) rfl
  have hK9 := hK.sub (tys' := [(ur_3.2.2.1, .int), (ur_3.2.2.2.1, .int)]) [2, 3] rfl
  refine W.widen (k := 2) (n := gs) (by omega) (by omega) ?_
  exact W.vret hx hb hr (fun t ht hW => ⟨⟨(ur_3.1, ur_3.2.1, ur_3.2.2.1, ur_3.2.2.2.1, ur_3.2.2.2.2.1, ur_3.2.2.2.2.2.1, ur_3.2.2.2.2.2.2.1, ur_3.2.2.2.2.2.2.2.1, ur_3.2.2.2.2.2.2.2.2), rfl, hpost, by rw [ht]; exact hP9, va_K.moved hW.alike hK9, hD9, by rw [ht]; exact hcost⟩, hS.F ht⟩) hS.2.2 dX6_enter_18
set_option maxHeartbeats 4000000 in
set_option maxRecDepth 100000 in
/-- X6.leaveAll -/
theorem c_X6_leaveAll (l : Launch) (dC : Nat → ClassId) (dI : Nat → Nat → Nat) (sz : Nat) (y0 : Nat) (kd : Int32) (wh : Int32) (od : Int32) (tu : Int32) (lo : Int64) (hi : Int64) (x0 : Nat) (k0 : Nat) (w0 : Nat) (ck : ClassId) (cw : ClassId) (L : Nat) (f : Nat → Int32) (g : Nat → Int32) (nz : Nat) (ch : Int32) (hR9 : rOK L nz) (ho1 : 0 ≤ od.toInt) (ho2 : od.toInt ≤ 3) : Met l yX6_leaveAll wsX6_leaveAll ({ frames := 4, cells := 0, slots := 0, locals := 170 }) (va_Pc [.ref y0] (pk_Pre (dC, dI) [(y0, .inr (6, [.ref x0, .int kd, .int wh, .int od, .int tu, .long lo, .long hi])), (x0, .inr (5, [.ref k0, .ref w0, .int (nI nz), .int ch])), (k0, .inl (ck, L, .inl f)), (w0, .inl (cw, L, .inl g))] [(ck, .int), (cw, .int)] sz)) (va_Qv (fun (u : (Nat → Int32) × (Nat → Int32) × Nat × Int32) => u.2.2.1 ≤ nz) (fun (u : (Nat → Int32) × (Nat → Int32) × Nat × Int32) (t : State) => va_P (dC, dI) vwCl [(y0, .inr (6, [.ref x0, .int kd, .int wh, .int od, .int tu, .long lo, .long hi])), (x0, .inr (5, [.ref k0, .ref w0, .int (nI (u.2.2.1)), .int u.2.2.2])), (k0, .inl (ck, L, .inl u.1)), (w0, .inl (cw, L, .inl u.2.1))] t.heap ∧ va_K (dC, dI) vwCl [(ck, .int), (cw, .int)] t ∧ va_D (va_A [(y0, .inr (6, [.ref x0, .int kd, .int wh, .int od, .int tu, .long lo, .long hi])), (x0, .inr (5, [.ref k0, .ref w0, .int (nI nz), .int ch])), (k0, .inl (ck, L, .inl f)), (w0, .inl (cw, L, .inl g))] sz) [(y0, .inr (6, [.ref x0, .int kd, .int wh, .int od, .int tu, .long lo, .long hi])), (x0, .inr (5, [.ref k0, .ref w0, .int (nI (u.2.2.1)), .int u.2.2.2])), (k0, .inl (ck, L, .inl u.1)), (w0, .inl (cw, L, .inl u.2.1))]) (va_A [(y0, .inr (6, [.ref x0, .int kd, .int wh, .int od, .int tu, .long lo, .long hi])), (x0, .inr (5, [.ref k0, .ref w0, .int (nI nz), .int ch])), (k0, .inl (ck, L, .inl f)), (w0, .inl (cw, L, .inl g))] sz)) 0 0 (va_A [(y0, .inr (6, [.ref x0, .int kd, .int wh, .int od, .int tu, .long lo, .long hi])), (x0, .inr (5, [.ref k0, .ref w0, .int (nI nz), .int ch])), (k0, .inl (ck, L, .inl f)), (w0, .inl (cw, L, .inl g))] sz) := by
  refine Met.ofW (cc := cX6_leaveAll) (maxL := 1) (ret := none) (by decide) rfl ?_
  intro p e s m args below meth c s₁ B hml hv
  obtain ⟨rfl, hsz, hP, hK, hD0⟩ := hv
  have hx := B.exec
  have hb := B.bytes
  have hr := B.returns
  have hts := atoms_spec (ws := wsX6_leaveAll) B.pre
  have hown : s.vm.findClass RX6 = some m.cls := findClass_of_methodNamed B.named
  have hlocks := B.notSynchronized
  subst hsz
  have hD := hD0.self (sz := s.heap.size)
  generalize hAe : va_A [(y0, .inr (6, [.ref x0, .int kd, .int wh, .int od, .int tu, .long lo, .long hi])), (x0, .inr (5, [.ref k0, .ref w0, .int (nI nz), .int ch])), (k0, .inl (ck, L, .inl f)), (w0, .inl (cw, L, .inl g))] s.heap.size = A at hD ⊢
  have hA : ∀ q : Nat, s.heap.size ≤ q → A q := fun q h => by rw [← hAe]; exact Or.inr h
  have hS : va_S A s.heap s.heap [] := va_S.rf
  have hP : va_P (dC, dI) vwCl [(y0, .inr (6, [.ref x0, .int kd, .int wh, .int od, .int tu, .long lo, .long hi])), (x0, .inr (5, [.ref k0, .ref w0, .int (nI nz), .int ch])), (k0, .inl (ck, L, .inl f)), (w0, .inl (cw, L, .inl g))] s.heap := hP
  have hl := lv_entry ([.ref y0]) (n := 1) (Nat.le_of_ble_eq_true rfl)
  rw [lg_entry_eq]
  generalize (lg_sl ([.ref y0]) ++ List.replicate (1 - (lg_sl ([.ref y0])).length) Slot.unset).toArray = ls at hl ⊢
  have hl : lv_has ls 1 [(0, .ref y0)] := hl
  have hw0_ := hts (.fieldLink RX6 37 "KeyAtlas$Sorted" "rows" "LKeyAtlas$Rows;") (List.mem_of_getElem? (l := wsX6_leaveAll) (i := 1) rfl)
  have hw1_ := hts (.sameField "KeyAtlas$Sorted" "KeyAtlas$Keyed" "rows" "LKeyAtlas$Rows;") (List.mem_of_getElem? (l := wsX6_leaveAll) (i := 2) rfl)
  have hi0_ : ∀ w ∈ u_ws RX6 TX6 7, w ∈ wsX6_leaveAll := fun w h => List.mem_cons_of_mem _ (List.mem_append_left _ (List.mem_append_right _ h))
  obtain ⟨hL1, hL2, hz1, hz2⟩ := id hR9
  refine lv_aload_n hx hb dX6_leaveAll_0 rfl (lv_at hl 0 rfl) ?_
  refine va_get (D := (dC, dI)) (ci := 6) (v := .ref x0) (C := RX6) (T := TX6) (N := 7) hx hb hts hi0_ hown hK hP 0 rfl rfl 0 (by decide) hw0_ (u_same hw1_) rfl dX6_leaveAll_1 ?_
  refine lv_aload_n hx hb dX6_leaveAll_4 rfl (lv_at hl 0 rfl) ?_
  have hPc := hP.sub (ws' := [(y0, .inr (6, [.ref x0, .int kd, .int wh, .int od, .int tu, .long lo, .long hi])), (x0, .inr (5, [.ref k0, .ref w0, .int (nI nz), .int ch])), (k0, .inl (ck, L, .inl f)), (w0, .inl (cw, L, .inl g))]) [0, 1, 2, 3] rfl
  have hKc := hK.sub (tys' := [(ck, .int), (cw, .int)]) [0, 1] rfl
  refine ro_calli (va_runV (As := []) (rest := [.ref x0]) ⟨hx, hb, hml, hown, hts⟩ (c_X6_start l  dC dI s.heap.size y0 kd wh od tu lo hi x0 k0 w0 ck cw L f g nz ch hR9 ho1 ho2) (cwV 0 hts gX6_leaveAll_X6_start rfl rfl rfl (by decide +kernel) ⟨(Nat.le_of_ble_eq_true rfl), (Nat.le_of_ble_eq_true rfl)⟩) ⟨pk_blindR, va_recv hKc hPc (ci := 6) (q0 := 0) rfl rfl, pk_callR hPc hKc⟩ rfl rfl hl.1 rfl (lv_room (Nat.le_of_ble_eq_true rfl)) dX6_leaveAll_5 ⟨(Nat.le_of_ble_eq_true rfl), (Nat.le_of_ble_eq_true rfl)⟩) (fun r_1 ur_1 hw => ?_)
  clear hPc hKc
  try dsimp only at hw
  have jr_1 := hw
  obtain ⟨ka, hka, rfl⟩ := jr_1
  refine W.eq (g2 := F0 m 8 ls [.int (nI ka), .ref x0]) rfl ?_
  refine lv_aload_n hx hb dX6_leaveAll_8 rfl (lv_at hl 0 rfl) ?_
  have hPc := hP.sub (ws' := [(y0, .inr (6, [.ref x0, .int kd, .int wh, .int od, .int tu, .long lo, .long hi])), (x0, .inr (5, [.ref k0, .ref w0, .int (nI nz), .int ch])), (k0, .inl (ck, L, .inl f)), (w0, .inl (cw, L, .inl g))]) [0, 1, 2, 3] rfl
  have hKc := hK.sub (tys' := [(ck, .int), (cw, .int)]) [0, 1] rfl
  refine ro_calli (va_runV (As := []) (rest := [.int (nI ka), .ref x0]) ⟨hx, hb, hml, hown, hts⟩ (c_X6_end l  dC dI s.heap.size y0 kd wh od tu lo hi x0 k0 w0 ck cw L f g nz ch hR9 ho1 ho2) (cwV 0 hts gX6_leaveAll_X6_end rfl rfl rfl (by decide +kernel) ⟨(Nat.le_of_ble_eq_true rfl), (Nat.le_of_ble_eq_true rfl)⟩) ⟨pk_blindR, va_recv hKc hPc (ci := 6) (q0 := 0) rfl rfl, pk_callR hPc hKc⟩ rfl rfl hl.1 rfl (lv_room (Nat.le_of_ble_eq_true rfl)) dX6_leaveAll_9 ⟨(Nat.le_of_ble_eq_true rfl), (Nat.le_of_ble_eq_true rfl)⟩) (fun r_2 ur_2 hw => ?_)
  clear hPc hKc
  try dsimp only at hw
  have jr_2 := hw
  obtain ⟨kb, hkb, rfl⟩ := jr_2
  refine W.eq (g2 := F0 m 12 ls [.int (nI kb), .int (nI ka), .ref x0]) rfl ?_
  have hPc := hP.sub (ws' := [(x0, .inr (5, [.ref k0, .ref w0, .int (nI nz), .int ch])), (k0, .inl (ck, L, .inl f)), (w0, .inl (cw, L, .inl g))]) [1, 2, 3] rfl
  have hDc := hD.sub (ws' := [(x0, .inr (5, [.ref k0, .ref w0, .int (nI nz), .int ch])), (k0, .inl (ck, L, .inl f)), (w0, .inl (cw, L, .inl g))]) [1, 2, 3] (by decide) rfl
  have hKc := hK.sub (tys' := [(ck, .int), (cw, .int)]) [0, 1] rfl
  have hFc := va_free (wc := [(x0, .inr (5, [.ref k0, .ref w0, .int (nI nz), .int ch])), (k0, .inl (ck, L, .inl f)), (w0, .inl (cw, L, .inl g))]) hD hS hA [1, 2, 3] rfl
  refine va_callv (va_runV (As := [.int (nI ka), .int (nI kb)]) (rest := []) ⟨hx, hb, hml, hown, hts⟩ (c_X5_remove l  dC dI s.heap.size x0 k0 w0 ck cw L f g nz ch (nI ka) (nI kb) hR9) (cwV 2 hts gX6_leaveAll_X5_remove rfl rfl rfl (by decide +kernel) ⟨(Nat.le_of_ble_eq_true rfl), (Nat.le_of_ble_eq_true rfl)⟩) ⟨pk_blind, va_recv hKc hPc (ci := 5) (q0 := 0) rfl rfl, pk_call hPc hKc hDc⟩ rfl rfl hl.1 rfl (lv_room (Nat.le_of_ble_eq_true rfl)) dX6_leaveAll_12 ⟨(Nat.le_of_ble_eq_true rfl), (Nat.le_of_ble_eq_true rfl)⟩) hS (fun q _ h => hFc q h) hFc (fun ur_3 t H1 locs ht hvm hw hB hz1 hk1 hS => ?_)
  try dsimp only at hw
  have jr_3 := hw
  obtain ⟨hP1, hK1, hD1⟩ := hB
  rw [ht] at hP1
  have hK1 := va_K.moved hvm.symm hK1
  obtain ⟨hP, hD⟩ := va_join (wr := [(y0, .inr (6, [.ref x0, .int kd, .int wh, .int od, .int tu, .long lo, .long hi]))]) (w1 := [(x0, .inr (5, [.ref k0, .ref w0, .int (nI (ur_3.2.2.1)), .int ur_3.2.2.2])), (k0, .inl (ck, L, .inl ur_3.1)), (w0, .inl (cw, L, .inl ur_3.2.1))]) hP hD [1, 2, 3] [0] rfl rfl (by decide) (by decide) hk1 hFc hP1 hD1
  clear hk1 hz1 ht hPc hDc hKc hFc
  generalize H1 = H at hP hS ⊢
  replace hP : va_P (dC, dI) vwCl [(y0, .inr (6, [.ref x0, .int kd, .int wh, .int od, .int tu, .long lo, .long hi])), (x0, .inr (5, [.ref k0, .ref w0, .int (nI (ur_3.2.2.1)), .int ur_3.2.2.2])), (k0, .inl (ck, L, .inl ur_3.1)), (w0, .inl (cw, L, .inl ur_3.2.1))] H := hP
  replace hD : va_D A [(y0, .inr (6, [.ref x0, .int kd, .int wh, .int od, .int tu, .long lo, .long hi])), (x0, .inr (5, [.ref k0, .ref w0, .int (nI (ur_3.2.2.1)), .int ur_3.2.2.2])), (k0, .inl (ck, L, .inl ur_3.1)), (w0, .inl (cw, L, .inl ur_3.2.1))] := hD
  refine W.widen (k := 0) (n := 0) (Nat.le_of_ble_eq_true rfl) (Nat.le_of_ble_eq_true rfl) ?_
  refine W.eq (g2 := F0 m 15 ls []) rfl ?_
  have hP9 := hP.sub (ws' := [(y0, .inr (6, [.ref x0, .int kd, .int wh, .int od, .int tu, .long lo, .long hi])), (x0, .inr (5, [.ref k0, .ref w0, .int (nI (ur_3.2.2.1)), .int ur_3.2.2.2])), (k0, .inl (ck, L, .inl ur_3.1)), (w0, .inl (cw, L, .inl ur_3.2.1))]) [0, 1, 2, 3] rfl
  have hD9 := hD.sub (ws' := [(y0, .inr (6, [.ref x0, .int kd, .int wh, .int od, .int tu, .long lo, .long hi])), (x0, .inr (5, [.ref k0, .ref w0, .int (nI (ur_3.2.2.1)), .int ur_3.2.2.2])), (k0, .inl (ck, L, .inl ur_3.1)), (w0, .inl (cw, L, .inl ur_3.2.1))]) [0, 1, 2, 3] (by decide) rfl
  have hK9 := hK.sub (tys' := [(ck, .int), (cw, .int)]) [0, 1] rfl
  refine W.widen (k := 0) (n := 0) (Nat.le_of_ble_eq_true rfl) (Nat.le_of_ble_eq_true rfl) ?_
  exact W.vret hx hb hr (fun t ht hW => ⟨⟨(ur_3.1, ur_3.2.1, ur_3.2.2.1, ur_3.2.2.2), rfl, jr_3, by rw [ht]; exact hP9, va_K.moved hW.alike hK9, hD9⟩, hS.F ht⟩) hS.2.2 dX6_leaveAll_15
set_option maxHeartbeats 4000000 in
set_option maxRecDepth 100000 in
/-- X6.howManyFrom -/
theorem c_X6_howManyFrom (l : Launch) (dC : Nat → ClassId) (dI : Nat → Nat → Nat) (sz : Nat) (y0 : Nat) (kd : Int32) (wh : Int32) (od : Int32) (tu : Int32) (lo : Int64) (hi : Int64) (x0 : Nat) (k0 : Nat) (w0 : Nat) (ck : ClassId) (cw : ClassId) (L : Nat) (f : Nat → Int32) (g : Nat → Int32) (nz : Nat) (ch : Int32) (p0 : Int64) (hR9 : rOK L nz) (ho1 : 0 ≤ od.toInt) (ho2 : od.toInt ≤ 3) : Met l yX6_howManyFrom wsX6_howManyFrom ({ frames := 4, cells := 0, slots := 0, locals := 170 }) (va_Pc [.ref y0, .long p0] (pk_PreR (dC, dI) [(y0, .inr (6, [.ref x0, .int kd, .int wh, .int od, .int tu, .long lo, .long hi])), (x0, .inr (5, [.ref k0, .ref w0, .int (nI nz), .int ch])), (k0, .inl (ck, L, .inl f)), (w0, .inl (cw, L, .inl g))] [(ck, .int), (cw, .int)] sz)) (va_Qi (fun (x : Int32) (u : Unit) => True) (fun _ (t : State) => t.heap.size = sz) ro_A) 0 0 ro_A := by
  refine Met.ofW (cc := cX6_howManyFrom) (maxL := 4) (ret := (some .int)) (by decide) rfl ?_
  intro p e s m args below meth c s₁ B hml hv
  obtain ⟨rfl, hsz, hP, hK⟩ := hv
  have hx := B.exec
  have hb := B.bytes
  have hr := B.returns
  have hts := atoms_spec (ws := wsX6_howManyFrom) B.pre
  have hown : s.vm.findClass RX6 = some m.cls := findClass_of_methodNamed B.named
  have hlocks := B.notSynchronized
  subst hsz
  have hS : va_S ro_A s.heap s.heap [] := va_S.rf
  have hP : va_P (dC, dI) vwCl [(y0, .inr (6, [.ref x0, .int kd, .int wh, .int od, .int tu, .long lo, .long hi])), (x0, .inr (5, [.ref k0, .ref w0, .int (nI nz), .int ch])), (k0, .inl (ck, L, .inl f)), (w0, .inl (cw, L, .inl g))] s.heap := hP
  have hl := lv_entry ([.ref y0, .long p0]) (n := 4) (Nat.le_of_ble_eq_true rfl)
  rw [lg_entry_eq]
  generalize (lg_sl ([.ref y0, .long p0]) ++ List.replicate (4 - (lg_sl ([.ref y0, .long p0])).length) Slot.unset).toArray = ls at hl ⊢
  have hl : lv_has ls 4 [(0, .ref y0), (1, .long p0)] := hl
  have hw0_ := hts (.methodLink RX6 111 Lib.Math.min.name) (List.mem_of_getElem? (l := wsX6_howManyFrom) (i := 1) rfl)
  have hw1_ := hts (.static Lib.Math.min.name) (List.mem_of_getElem? (l := wsX6_howManyFrom) (i := 2) rfl)
  have hw2_ := hts (.initialized "java/lang/Math") (List.mem_of_getElem? (l := wsX6_howManyFrom) (i := 3) rfl)
  have hw3_ := hts (.methodLink RX6 113 Lib.Math.max.name) (List.mem_of_getElem? (l := wsX6_howManyFrom) (i := 5) rfl)
  have hw4_ := hts (.static Lib.Math.max.name) (List.mem_of_getElem? (l := wsX6_howManyFrom) (i := 6) rfl)
  obtain ⟨hL1, hL2, hz1, hz2⟩ := id hR9
  refine lv_aload_n hx hb dX6_howManyFrom_0 rfl (lv_at hl 0 rfl) ?_
  have hPc := hP.sub (ws' := [(y0, .inr (6, [.ref x0, .int kd, .int wh, .int od, .int tu, .long lo, .long hi])), (x0, .inr (5, [.ref k0, .ref w0, .int (nI nz), .int ch])), (k0, .inl (ck, L, .inl f)), (w0, .inl (cw, L, .inl g))]) [0, 1, 2, 3] rfl
  have hKc := hK.sub (tys' := [(ck, .int), (cw, .int)]) [0, 1] rfl
  refine ro_calli (va_runV (As := []) (rest := []) ⟨hx, hb, hml, hown, hts⟩ (c_X6_end l  dC dI s.heap.size y0 kd wh od tu lo hi x0 k0 w0 ck cw L f g nz ch hR9 ho1 ho2) (cwV 0 hts gX6_howManyFrom_X6_end rfl rfl rfl (by decide +kernel) ⟨(Nat.le_of_ble_eq_true rfl), (Nat.le_of_ble_eq_true rfl)⟩) ⟨pk_blindR, va_recv hKc hPc (ci := 6) (q0 := 0) rfl rfl, pk_callR hPc hKc⟩ rfl rfl hl.1 rfl (lv_room (Nat.le_of_ble_eq_true rfl)) dX6_howManyFrom_1 ⟨(Nat.le_of_ble_eq_true rfl), (Nat.le_of_ble_eq_true rfl)⟩) (fun r_1 ur_1 hw => ?_)
  clear hPc hKc
  try dsimp only at hw
  have jr_1 := hw
  obtain ⟨ka, hka, rfl⟩ := jr_1
  refine W.eq (g2 := F0 m 4 ls [.int (nI ka)]) rfl ?_
  refine lv_istore_n (lv' := [(3, .int (nI ka)), (0, .ref y0), (1, .long p0)]) hx hb dX6_howManyFrom_4 rfl hl (by decide) rfl (fun ls hl => ?_)
  refine lv_iload_n hx hb dX6_howManyFrom_5 rfl (lv_at hl 0 rfl) ?_
  refine lv_aload_n hx hb dX6_howManyFrom_6 rfl (lv_at hl 1 rfl) ?_
  have hPc := hP.sub (ws' := [(y0, .inr (6, [.ref x0, .int kd, .int wh, .int od, .int tu, .long lo, .long hi])), (x0, .inr (5, [.ref k0, .ref w0, .int (nI nz), .int ch])), (k0, .inl (ck, L, .inl f)), (w0, .inl (cw, L, .inl g))]) [0, 1, 2, 3] rfl
  have hKc := hK.sub (tys' := [(ck, .int), (cw, .int)]) [0, 1] rfl
  refine ro_calli (va_runV (As := []) (rest := [.int (nI ka)]) ⟨hx, hb, hml, hown, hts⟩ (c_X6_start l  dC dI s.heap.size y0 kd wh od tu lo hi x0 k0 w0 ck cw L f g nz ch hR9 ho1 ho2) (cwV 0 hts gX6_howManyFrom_X6_start rfl rfl rfl (by decide +kernel) ⟨(Nat.le_of_ble_eq_true rfl), (Nat.le_of_ble_eq_true rfl)⟩) ⟨pk_blindR, va_recv hKc hPc (ci := 6) (q0 := 0) rfl rfl, pk_callR hPc hKc⟩ rfl rfl hl.1 rfl (lv_room (Nat.le_of_ble_eq_true rfl)) dX6_howManyFrom_7 ⟨(Nat.le_of_ble_eq_true rfl), (Nat.le_of_ble_eq_true rfl)⟩) (fun r_2 ur_2 hw => ?_)
  clear hPc hKc
  try dsimp only at hw
  have jr_2 := hw
  obtain ⟨kb, hkb, rfl⟩ := jr_2
  refine W.eq (g2 := F0 m 10 ls [.int (nI kb), .int (nI ka)]) rfl ?_
  refine lv_iload_n hx hb dX6_howManyFrom_10 rfl (lv_at hl 0 rfl) ?_
  refine lv_aload_n hx hb dX6_howManyFrom_11 rfl (lv_at hl 1 rfl) ?_
  refine lv_lload_n hx hb dX6_howManyFrom_12 rfl (lv_at hl 2 rfl) ?_
  have hPc := hP.sub (ws' := [(y0, .inr (6, [.ref x0, .int kd, .int wh, .int od, .int tu, .long lo, .long hi])), (x0, .inr (5, [.ref k0, .ref w0, .int (nI nz), .int ch])), (k0, .inl (ck, L, .inl f)), (w0, .inl (cw, L, .inl g))]) [0, 1, 2, 3] rfl
  have hKc := hK.sub (tys' := [(ck, .int), (cw, .int)]) [0, 1] rfl
  refine ro_calli (va_runV (As := [.long p0]) (rest := [.int (nI ka), .int (nI kb), .int (nI ka)]) ⟨hx, hb, hml, hown, hts⟩ (c_X6_howManyBelow l  dC dI s.heap.size y0 kd wh od tu lo hi x0 k0 w0 ck cw L f g nz ch p0 hR9 ho1 ho2) (cwV 1 hts gX6_howManyFrom_X6_howManyBelow rfl rfl rfl (by decide +kernel) ⟨(Nat.le_of_ble_eq_true rfl), (Nat.le_of_ble_eq_true rfl)⟩) ⟨pk_blindR, va_recv hKc hPc (ci := 6) (q0 := 0) rfl rfl, pk_callR hPc hKc⟩ rfl rfl hl.1 rfl (lv_room (Nat.le_of_ble_eq_true rfl)) dX6_howManyFrom_13 ⟨(Nat.le_of_ble_eq_true rfl), (Nat.le_of_ble_eq_true rfl)⟩) (fun r_3 ur_3 hw => ?_)
  clear hPc hKc
  try dsimp only at hw
  have jr_3 := hw
  obtain ⟨kc, hkc, rfl⟩ := jr_3
  refine W.eq (g2 := F0 m 16 ls [.int (nI kc), .int (nI ka), .int (nI kb), .int (nI ka)]) rfl ?_
  refine va_mmin hx hb (hml.trans hl.1.symm) hown hw0_ hw1_ hw2_ (hts (.code Lib.Math.min.name Lib.Math.min.code 2 (some .int)) (List.mem_of_getElem? (l := wsX6_howManyFrom) (i := 4) rfl)) (Nat.le_of_ble_eq_true rfl) (Nat.le_of_ble_eq_true rfl) (Nat.le_of_ble_eq_true rfl) (Nat.le_of_ble_eq_true rfl) dX6_howManyFrom_16 ?_
  refine lv_topi (fun z_4 ez_4 => ?_)
  have jz_4 := mm_min ez_4
  refine W.eq (g2 := F0 m 19 ls [.int z_4, .int (nI kb), .int (nI ka)]) rfl ?_
  refine va_mmax hx hb (hml.trans hl.1.symm) hown hw3_ hw4_ hw2_ (hts (.code Lib.Math.max.name Lib.Math.max.code 2 (some .int)) (List.mem_of_getElem? (l := wsX6_howManyFrom) (i := 7) rfl)) (Nat.le_of_ble_eq_true rfl) (Nat.le_of_ble_eq_true rfl) (Nat.le_of_ble_eq_true rfl) (Nat.le_of_ble_eq_true rfl) dX6_howManyFrom_19 ?_
  refine lv_topi (fun z_5 ez_5 => ?_)
  have jz_5 := mm_max ez_5
  refine W.eq (g2 := F0 m 22 ls [.int z_5, .int (nI ka)]) rfl ?_
  refine lv_isub hx hb dX6_howManyFrom_22 ?_
  refine W.widen (k := 0) (n := 0) (Nat.le_of_ble_eq_true rfl) (Nat.le_of_ble_eq_true rfl) ?_
  exact W.iret (v := (nI ka) - z_5) hx hb hr (fun t ht hW => ⟨⟨(nI ka) - z_5, (), rfl, trivial, congrArg Array.size ht⟩, hS.F ht⟩) hS.2.2 dX6_howManyFrom_23
set_option maxHeartbeats 4000000 in
set_option maxRecDepth 100000 in
/-- X6.howManyBefore -/
theorem c_X6_howManyBefore (l : Launch) (dC : Nat → ClassId) (dI : Nat → Nat → Nat) (sz : Nat) (y0 : Nat) (kd : Int32) (wh : Int32) (od : Int32) (tu : Int32) (lo : Int64) (hi : Int64) (x0 : Nat) (k0 : Nat) (w0 : Nat) (ck : ClassId) (cw : ClassId) (L : Nat) (f : Nat → Int32) (g : Nat → Int32) (nz : Nat) (ch : Int32) (p0 : Int32) (hR9 : rOK L nz) (ho1 : 0 ≤ od.toInt) (ho2 : od.toInt ≤ 3) : Met l yX6_howManyBefore wsX6_howManyBefore ({ frames := 5, cells := 0, slots := 0, locals := 210 }) (va_Pc [.ref y0, .int p0] (pk_PreR (dC, dI) [(y0, .inr (6, [.ref x0, .int kd, .int wh, .int od, .int tu, .long lo, .long hi])), (x0, .inr (5, [.ref k0, .ref w0, .int (nI nz), .int ch])), (k0, .inl (ck, L, .inl f)), (w0, .inl (cw, L, .inl g))] [(ck, .int), (cw, .int)] sz)) (va_Qi (fun (x : Int32) (u : Unit) => True) (fun _ (t : State) => t.heap.size = sz) ro_A) 0 0 ro_A := by
  refine Met.ofW (cc := cX6_howManyBefore) (maxL := 2) (ret := (some .int)) (by decide) rfl ?_
  intro p e s m args below meth c s₁ B hml hv
  obtain ⟨rfl, hsz, hP, hK⟩ := hv
  have hx := B.exec
  have hb := B.bytes
  have hr := B.returns
  have hts := atoms_spec (ws := wsX6_howManyBefore) B.pre
  have hown : s.vm.findClass RX6 = some m.cls := findClass_of_methodNamed B.named
  have hlocks := B.notSynchronized
  subst hsz
  have hS : va_S ro_A s.heap s.heap [] := va_S.rf
  have hP : va_P (dC, dI) vwCl [(y0, .inr (6, [.ref x0, .int kd, .int wh, .int od, .int tu, .long lo, .long hi])), (x0, .inr (5, [.ref k0, .ref w0, .int (nI nz), .int ch])), (k0, .inl (ck, L, .inl f)), (w0, .inl (cw, L, .inl g))] s.heap := hP
  have hl := lv_entry ([.ref y0, .int p0]) (n := 2) (Nat.le_of_ble_eq_true rfl)
  rw [lg_entry_eq]
  generalize (lg_sl ([.ref y0, .int p0]) ++ List.replicate (2 - (lg_sl ([.ref y0, .int p0])).length) Slot.unset).toArray = ls at hl ⊢
  have hl : lv_has ls 2 [(0, .ref y0), (1, .int p0)] := hl
  have hw0_ := hts (.fieldLink RX6 22 "KeyAtlas$Sorted" "isTurned" "Z") (List.mem_of_getElem? (l := wsX6_howManyBefore) (i := 1) rfl)
  have hi0_ : ∀ w ∈ u_ws RX6 TX6 7, w ∈ wsX6_howManyBefore := fun w h => List.mem_cons_of_mem _ (List.mem_append_left _ (List.mem_append_left _ (List.mem_append_left _ (List.mem_append_right _ h))))
  obtain ⟨hL1, hL2, hz1, hz2⟩ := id hR9
  refine lv_aload_n hx hb dX6_howManyBefore_0 rfl (lv_at hl 0 rfl) ?_
  refine va_get (D := (dC, dI)) (ci := 6) (v := .int tu) (C := RX6) (T := TX6) (N := 7) hx hb hts hi0_ hown hK hP 0 rfl rfl 4 (by decide) hw0_ (fun _ h9 => h9) rfl dX6_howManyBefore_1 ?_
  refine lv_if_eq (tgt := 21) hx hb dX6_howManyBefore_4 (by decide) (fun c_1 => ?_) (fun c_1 => ?_)
  ·
    have ic_1 : tu.toInt = 0 := tx_eq rfl (by decide) c_1
    refine lv_aload_n hx hb dX6_howManyBefore_21 rfl (lv_at hl 0 rfl) ?_
    have hPc := hP.sub (ws' := [(y0, .inr (6, [.ref x0, .int kd, .int wh, .int od, .int tu, .long lo, .long hi])), (x0, .inr (5, [.ref k0, .ref w0, .int (nI nz), .int ch])), (k0, .inl (ck, L, .inl f)), (w0, .inl (cw, L, .inl g))]) [0, 1, 2, 3] rfl
    have hKc := hK.sub (tys' := [(ck, .int), (cw, .int)]) [0, 1] rfl
    refine ro_calli (va_runV (As := []) (rest := []) ⟨hx, hb, hml, hown, hts⟩ (c_X6_size l  dC dI s.heap.size y0 kd wh od tu lo hi x0 k0 w0 ck cw L f g nz ch hR9 ho1 ho2) (cwV 0 hts gX6_howManyBefore_X6_size rfl rfl rfl (by decide +kernel) ⟨(Nat.le_of_ble_eq_true rfl), (Nat.le_of_ble_eq_true rfl)⟩) ⟨pk_blindR, va_recv hKc hPc (ci := 6) (q0 := 0) rfl rfl, pk_callR hPc hKc⟩ rfl rfl hl.1 rfl (lv_room (Nat.le_of_ble_eq_true rfl)) dX6_howManyBefore_22 ⟨(Nat.le_of_ble_eq_true rfl), (Nat.le_of_ble_eq_true rfl)⟩) (fun r_2 ur_2 hw => ?_)
    clear hPc hKc
    try dsimp only at hw
    have jr_2 := hw
    refine W.eq (g2 := F0 m 25 ls [.int r_2]) rfl ?_
    refine lv_aload_n hx hb dX6_howManyBefore_25 rfl (lv_at hl 0 rfl) ?_
    refine lv_aload_n hx hb dX6_howManyBefore_26 rfl (lv_at hl 0 rfl) ?_
    refine lv_iload_n hx hb dX6_howManyBefore_27 rfl (lv_at hl 1 rfl) ?_
    have hPc := hP.sub (ws' := [(y0, .inr (6, [.ref x0, .int kd, .int wh, .int od, .int tu, .long lo, .long hi]))]) [0] rfl
    have hKc := hK.sub (tys' := []) [] rfl
    refine ro_calll (va_runV (As := [.int p0]) (rest := [.ref y0, .int r_2]) ⟨hx, hb, hml, hown, hts⟩ (c_X6_rank l  dC dI s.heap.size y0 od (.ref x0) (.int kd) (.int wh) (.int tu) (.long lo) (.long hi) p0 ho1 ho2) (cwV 1 hts gX6_howManyBefore_X6_rank rfl rfl rfl (by decide +kernel) ⟨(Nat.le_of_ble_eq_true rfl), (Nat.le_of_ble_eq_true rfl)⟩) ⟨pk_blindR, va_recv hKc hPc (ci := 6) (q0 := 0) rfl rfl, pk_callR hPc hKc⟩ rfl rfl hl.1 rfl (lv_room (Nat.le_of_ble_eq_true rfl)) dX6_howManyBefore_28 ⟨(Nat.le_of_ble_eq_true rfl), (Nat.le_of_ble_eq_true rfl)⟩) (fun r_3 ur_3 hw => ?_)
    clear hPc hKc
    try dsimp only at hw
    have jr_3 := hw
    refine W.eq (g2 := F0 m 31 ls [.long r_3, .ref y0, .int r_2]) rfl ?_
    have hPc := hP.sub (ws' := [(y0, .inr (6, [.ref x0, .int kd, .int wh, .int od, .int tu, .long lo, .long hi])), (x0, .inr (5, [.ref k0, .ref w0, .int (nI nz), .int ch])), (k0, .inl (ck, L, .inl f)), (w0, .inl (cw, L, .inl g))]) [0, 1, 2, 3] rfl
    have hKc := hK.sub (tys' := [(ck, .int), (cw, .int)]) [0, 1] rfl
    refine ro_calli (va_runV (As := [.long r_3]) (rest := [.int r_2]) ⟨hx, hb, hml, hown, hts⟩ (c_X6_howManyFrom l  dC dI s.heap.size y0 kd wh od tu lo hi x0 k0 w0 ck cw L f g nz ch r_3 hR9 ho1 ho2) (cwV 1 hts gX6_howManyBefore_X6_howManyFrom rfl rfl rfl (by decide +kernel) ⟨(Nat.le_of_ble_eq_true rfl), (Nat.le_of_ble_eq_true rfl)⟩) ⟨pk_blindR, va_recv hKc hPc (ci := 6) (q0 := 0) rfl rfl, pk_callR hPc hKc⟩ rfl rfl hl.1 rfl (lv_room (Nat.le_of_ble_eq_true rfl)) dX6_howManyBefore_31 ⟨(Nat.le_of_ble_eq_true rfl), (Nat.le_of_ble_eq_true rfl)⟩) (fun r_4 ur_4 hw => ?_)
    clear hPc hKc
    try dsimp only at hw
    have jr_4 := hw
    refine W.eq (g2 := F0 m 34 ls [.int r_4, .int r_2]) rfl ?_
    refine lv_isub hx hb dX6_howManyBefore_34 ?_
    refine W.widen (k := 0) (n := 0) (Nat.le_of_ble_eq_true rfl) (Nat.le_of_ble_eq_true rfl) ?_
    exact W.iret (v := r_2 - r_4) hx hb hr (fun t ht hW => ⟨⟨r_2 - r_4, (), rfl, trivial, congrArg Array.size ht⟩, hS.F ht⟩) hS.2.2 dX6_howManyBefore_35
  ·
    have ic_1 : ¬ tu.toInt = 0 := tx_ne rfl (by decide) c_1
    refine lv_aload_n hx hb dX6_howManyBefore_7 rfl (lv_at hl 0 rfl) ?_
    refine lv_aload_n hx hb dX6_howManyBefore_8 rfl (lv_at hl 0 rfl) ?_
    refine lv_iload_n hx hb dX6_howManyBefore_9 rfl (lv_at hl 1 rfl) ?_
    have hPc := hP.sub (ws' := [(y0, .inr (6, [.ref x0, .int kd, .int wh, .int od, .int tu, .long lo, .long hi]))]) [0] rfl
    have hKc := hK.sub (tys' := []) [] rfl
    refine ro_calll (va_runV (As := [.int p0]) (rest := [.ref y0]) ⟨hx, hb, hml, hown, hts⟩ (c_X6_rank l  dC dI s.heap.size y0 od (.ref x0) (.int kd) (.int wh) (.int tu) (.long lo) (.long hi) p0 ho1 ho2) (cwV 1 hts gX6_howManyBefore_X6_rank rfl rfl rfl (by decide +kernel) ⟨(Nat.le_of_ble_eq_true rfl), (Nat.le_of_ble_eq_true rfl)⟩) ⟨pk_blindR, va_recv hKc hPc (ci := 6) (q0 := 0) rfl rfl, pk_callR hPc hKc⟩ rfl rfl hl.1 rfl (lv_room (Nat.le_of_ble_eq_true rfl)) dX6_howManyBefore_10 ⟨(Nat.le_of_ble_eq_true rfl), (Nat.le_of_ble_eq_true rfl)⟩) (fun r_5 ur_5 hw => ?_)
    clear hPc hKc
    try dsimp only at hw
    have jr_5 := hw
    refine W.eq (g2 := F0 m 13 ls [.long r_5, .ref y0]) rfl ?_
    refine lv_lconst (v := 1) hx hb dX6_howManyBefore_13 (by decide) ?_
    refine lv_ladd hx hb dX6_howManyBefore_14 ?_
    have hPc := hP.sub (ws' := [(y0, .inr (6, [.ref x0, .int kd, .int wh, .int od, .int tu, .long lo, .long hi])), (x0, .inr (5, [.ref k0, .ref w0, .int (nI nz), .int ch])), (k0, .inl (ck, L, .inl f)), (w0, .inl (cw, L, .inl g))]) [0, 1, 2, 3] rfl
    have hKc := hK.sub (tys' := [(ck, .int), (cw, .int)]) [0, 1] rfl
    refine ro_calli (va_runV (As := [.long (r_5 + 1)]) (rest := []) ⟨hx, hb, hml, hown, hts⟩ (c_X6_howManyFrom l  dC dI s.heap.size y0 kd wh od tu lo hi x0 k0 w0 ck cw L f g nz ch (r_5 + 1) hR9 ho1 ho2) (cwV 1 hts gX6_howManyBefore_X6_howManyFrom rfl rfl rfl (by decide +kernel) ⟨(Nat.le_of_ble_eq_true rfl), (Nat.le_of_ble_eq_true rfl)⟩) ⟨pk_blindR, va_recv hKc hPc (ci := 6) (q0 := 0) rfl rfl, pk_callR hPc hKc⟩ rfl rfl hl.1 rfl (lv_room (Nat.le_of_ble_eq_true rfl)) dX6_howManyBefore_15 ⟨(Nat.le_of_ble_eq_true rfl), (Nat.le_of_ble_eq_true rfl)⟩) (fun r_6 ur_6 hw => ?_)
    clear hPc hKc
    try dsimp only at hw
    have jr_6 := hw
    refine W.eq (g2 := F0 m 18 ls [.int r_6]) rfl ?_
    refine lv_goto (tgt := 35) hx hb dX6_howManyBefore_18 (by decide) ?_
    refine W.widen (k := 0) (n := 0) (Nat.le_of_ble_eq_true rfl) (Nat.le_of_ble_eq_true rfl) ?_
    exact W.iret (v := r_6) hx hb hr (fun t ht hW => ⟨⟨r_6, (), rfl, trivial, congrArg Array.size ht⟩, hS.F ht⟩) hS.2.2 dX6_howManyBefore_35
set_option maxHeartbeats 4000000 in
set_option maxRecDepth 100000 in
/-- X6.howManyUpTo -/
theorem c_X6_howManyUpTo (l : Launch) (dC : Nat → ClassId) (dI : Nat → Nat → Nat) (sz : Nat) (y0 : Nat) (kd : Int32) (wh : Int32) (od : Int32) (tu : Int32) (lo : Int64) (hi : Int64) (x0 : Nat) (k0 : Nat) (w0 : Nat) (ck : ClassId) (cw : ClassId) (L : Nat) (f : Nat → Int32) (g : Nat → Int32) (nz : Nat) (ch : Int32) (p0 : Int32) (hR9 : rOK L nz) (ho1 : 0 ≤ od.toInt) (ho2 : od.toInt ≤ 3) : Met l yX6_howManyUpTo wsX6_howManyUpTo ({ frames := 5, cells := 0, slots := 0, locals := 210 }) (va_Pc [.ref y0, .int p0] (pk_PreR (dC, dI) [(y0, .inr (6, [.ref x0, .int kd, .int wh, .int od, .int tu, .long lo, .long hi])), (x0, .inr (5, [.ref k0, .ref w0, .int (nI nz), .int ch])), (k0, .inl (ck, L, .inl f)), (w0, .inl (cw, L, .inl g))] [(ck, .int), (cw, .int)] sz)) (va_Qi (fun (x : Int32) (u : Unit) => True) (fun _ (t : State) => t.heap.size = sz) ro_A) 0 0 ro_A := by
  refine Met.ofW (cc := cX6_howManyUpTo) (maxL := 2) (ret := (some .int)) (by decide) rfl ?_
  intro p e s m args below meth c s₁ B hml hv
  obtain ⟨rfl, hsz, hP, hK⟩ := hv
  have hx := B.exec
  have hb := B.bytes
  have hr := B.returns
  have hts := atoms_spec (ws := wsX6_howManyUpTo) B.pre
  have hown : s.vm.findClass RX6 = some m.cls := findClass_of_methodNamed B.named
  have hlocks := B.notSynchronized
  subst hsz
  have hS : va_S ro_A s.heap s.heap [] := va_S.rf
  have hP : va_P (dC, dI) vwCl [(y0, .inr (6, [.ref x0, .int kd, .int wh, .int od, .int tu, .long lo, .long hi])), (x0, .inr (5, [.ref k0, .ref w0, .int (nI nz), .int ch])), (k0, .inl (ck, L, .inl f)), (w0, .inl (cw, L, .inl g))] s.heap := hP
  have hl := lv_entry ([.ref y0, .int p0]) (n := 2) (Nat.le_of_ble_eq_true rfl)
  rw [lg_entry_eq]
  generalize (lg_sl ([.ref y0, .int p0]) ++ List.replicate (2 - (lg_sl ([.ref y0, .int p0])).length) Slot.unset).toArray = ls at hl ⊢
  have hl : lv_has ls 2 [(0, .ref y0), (1, .int p0)] := hl
  have hw0_ := hts (.fieldLink RX6 22 "KeyAtlas$Sorted" "isTurned" "Z") (List.mem_of_getElem? (l := wsX6_howManyUpTo) (i := 1) rfl)
  have hi0_ : ∀ w ∈ u_ws RX6 TX6 7, w ∈ wsX6_howManyUpTo := fun w h => List.mem_cons_of_mem _ (List.mem_append_left _ (List.mem_append_left _ (List.mem_append_left _ (List.mem_append_right _ h))))
  obtain ⟨hL1, hL2, hz1, hz2⟩ := id hR9
  refine lv_aload_n hx hb dX6_howManyUpTo_0 rfl (lv_at hl 0 rfl) ?_
  refine va_get (D := (dC, dI)) (ci := 6) (v := .int tu) (C := RX6) (T := TX6) (N := 7) hx hb hts hi0_ hown hK hP 0 rfl rfl 4 (by decide) hw0_ (fun _ h9 => h9) rfl dX6_howManyUpTo_1 ?_
  refine lv_if_eq (tgt := 19) hx hb dX6_howManyUpTo_4 (by decide) (fun c_1 => ?_) (fun c_1 => ?_)
  ·
    have ic_1 : tu.toInt = 0 := tx_eq rfl (by decide) c_1
    refine lv_aload_n hx hb dX6_howManyUpTo_19 rfl (lv_at hl 0 rfl) ?_
    have hPc := hP.sub (ws' := [(y0, .inr (6, [.ref x0, .int kd, .int wh, .int od, .int tu, .long lo, .long hi])), (x0, .inr (5, [.ref k0, .ref w0, .int (nI nz), .int ch])), (k0, .inl (ck, L, .inl f)), (w0, .inl (cw, L, .inl g))]) [0, 1, 2, 3] rfl
    have hKc := hK.sub (tys' := [(ck, .int), (cw, .int)]) [0, 1] rfl
    refine ro_calli (va_runV (As := []) (rest := []) ⟨hx, hb, hml, hown, hts⟩ (c_X6_size l  dC dI s.heap.size y0 kd wh od tu lo hi x0 k0 w0 ck cw L f g nz ch hR9 ho1 ho2) (cwV 0 hts gX6_howManyUpTo_X6_size rfl rfl rfl (by decide +kernel) ⟨(Nat.le_of_ble_eq_true rfl), (Nat.le_of_ble_eq_true rfl)⟩) ⟨pk_blindR, va_recv hKc hPc (ci := 6) (q0 := 0) rfl rfl, pk_callR hPc hKc⟩ rfl rfl hl.1 rfl (lv_room (Nat.le_of_ble_eq_true rfl)) dX6_howManyUpTo_20 ⟨(Nat.le_of_ble_eq_true rfl), (Nat.le_of_ble_eq_true rfl)⟩) (fun r_2 ur_2 hw => ?_)
    clear hPc hKc
    try dsimp only at hw
    have jr_2 := hw
    refine W.eq (g2 := F0 m 23 ls [.int r_2]) rfl ?_
    refine lv_aload_n hx hb dX6_howManyUpTo_23 rfl (lv_at hl 0 rfl) ?_
    refine lv_aload_n hx hb dX6_howManyUpTo_24 rfl (lv_at hl 0 rfl) ?_
    refine lv_iload_n hx hb dX6_howManyUpTo_25 rfl (lv_at hl 1 rfl) ?_
    have hPc := hP.sub (ws' := [(y0, .inr (6, [.ref x0, .int kd, .int wh, .int od, .int tu, .long lo, .long hi]))]) [0] rfl
    have hKc := hK.sub (tys' := []) [] rfl
    refine ro_calll (va_runV (As := [.int p0]) (rest := [.ref y0, .int r_2]) ⟨hx, hb, hml, hown, hts⟩ (c_X6_rank l  dC dI s.heap.size y0 od (.ref x0) (.int kd) (.int wh) (.int tu) (.long lo) (.long hi) p0 ho1 ho2) (cwV 1 hts gX6_howManyUpTo_X6_rank rfl rfl rfl (by decide +kernel) ⟨(Nat.le_of_ble_eq_true rfl), (Nat.le_of_ble_eq_true rfl)⟩) ⟨pk_blindR, va_recv hKc hPc (ci := 6) (q0 := 0) rfl rfl, pk_callR hPc hKc⟩ rfl rfl hl.1 rfl (lv_room (Nat.le_of_ble_eq_true rfl)) dX6_howManyUpTo_26 ⟨(Nat.le_of_ble_eq_true rfl), (Nat.le_of_ble_eq_true rfl)⟩) (fun r_3 ur_3 hw => ?_)
    clear hPc hKc
    try dsimp only at hw
    have jr_3 := hw
    refine W.eq (g2 := F0 m 29 ls [.long r_3, .ref y0, .int r_2]) rfl ?_
    refine lv_lconst (v := 1) hx hb dX6_howManyUpTo_29 (by decide) ?_
    refine lv_ladd hx hb dX6_howManyUpTo_30 ?_
    have hPc := hP.sub (ws' := [(y0, .inr (6, [.ref x0, .int kd, .int wh, .int od, .int tu, .long lo, .long hi])), (x0, .inr (5, [.ref k0, .ref w0, .int (nI nz), .int ch])), (k0, .inl (ck, L, .inl f)), (w0, .inl (cw, L, .inl g))]) [0, 1, 2, 3] rfl
    have hKc := hK.sub (tys' := [(ck, .int), (cw, .int)]) [0, 1] rfl
    refine ro_calli (va_runV (As := [.long (r_3 + 1)]) (rest := [.int r_2]) ⟨hx, hb, hml, hown, hts⟩ (c_X6_howManyFrom l  dC dI s.heap.size y0 kd wh od tu lo hi x0 k0 w0 ck cw L f g nz ch (r_3 + 1) hR9 ho1 ho2) (cwV 1 hts gX6_howManyUpTo_X6_howManyFrom rfl rfl rfl (by decide +kernel) ⟨(Nat.le_of_ble_eq_true rfl), (Nat.le_of_ble_eq_true rfl)⟩) ⟨pk_blindR, va_recv hKc hPc (ci := 6) (q0 := 0) rfl rfl, pk_callR hPc hKc⟩ rfl rfl hl.1 rfl (lv_room (Nat.le_of_ble_eq_true rfl)) dX6_howManyUpTo_31 ⟨(Nat.le_of_ble_eq_true rfl), (Nat.le_of_ble_eq_true rfl)⟩) (fun r_4 ur_4 hw => ?_)
    clear hPc hKc
    try dsimp only at hw
    have jr_4 := hw
    refine W.eq (g2 := F0 m 34 ls [.int r_4, .int r_2]) rfl ?_
    refine lv_isub hx hb dX6_howManyUpTo_34 ?_
    refine W.widen (k := 0) (n := 0) (Nat.le_of_ble_eq_true rfl) (Nat.le_of_ble_eq_true rfl) ?_
    exact W.iret (v := r_2 - r_4) hx hb hr (fun t ht hW => ⟨⟨r_2 - r_4, (), rfl, trivial, congrArg Array.size ht⟩, hS.F ht⟩) hS.2.2 dX6_howManyUpTo_35
  ·
    have ic_1 : ¬ tu.toInt = 0 := tx_ne rfl (by decide) c_1
    refine lv_aload_n hx hb dX6_howManyUpTo_7 rfl (lv_at hl 0 rfl) ?_
    refine lv_aload_n hx hb dX6_howManyUpTo_8 rfl (lv_at hl 0 rfl) ?_
    refine lv_iload_n hx hb dX6_howManyUpTo_9 rfl (lv_at hl 1 rfl) ?_
    have hPc := hP.sub (ws' := [(y0, .inr (6, [.ref x0, .int kd, .int wh, .int od, .int tu, .long lo, .long hi]))]) [0] rfl
    have hKc := hK.sub (tys' := []) [] rfl
    refine ro_calll (va_runV (As := [.int p0]) (rest := [.ref y0]) ⟨hx, hb, hml, hown, hts⟩ (c_X6_rank l  dC dI s.heap.size y0 od (.ref x0) (.int kd) (.int wh) (.int tu) (.long lo) (.long hi) p0 ho1 ho2) (cwV 1 hts gX6_howManyUpTo_X6_rank rfl rfl rfl (by decide +kernel) ⟨(Nat.le_of_ble_eq_true rfl), (Nat.le_of_ble_eq_true rfl)⟩) ⟨pk_blindR, va_recv hKc hPc (ci := 6) (q0 := 0) rfl rfl, pk_callR hPc hKc⟩ rfl rfl hl.1 rfl (lv_room (Nat.le_of_ble_eq_true rfl)) dX6_howManyUpTo_10 ⟨(Nat.le_of_ble_eq_true rfl), (Nat.le_of_ble_eq_true rfl)⟩) (fun r_5 ur_5 hw => ?_)
    clear hPc hKc
    try dsimp only at hw
    have jr_5 := hw
    refine W.eq (g2 := F0 m 13 ls [.long r_5, .ref y0]) rfl ?_
    have hPc := hP.sub (ws' := [(y0, .inr (6, [.ref x0, .int kd, .int wh, .int od, .int tu, .long lo, .long hi])), (x0, .inr (5, [.ref k0, .ref w0, .int (nI nz), .int ch])), (k0, .inl (ck, L, .inl f)), (w0, .inl (cw, L, .inl g))]) [0, 1, 2, 3] rfl
    have hKc := hK.sub (tys' := [(ck, .int), (cw, .int)]) [0, 1] rfl
    refine ro_calli (va_runV (As := [.long r_5]) (rest := []) ⟨hx, hb, hml, hown, hts⟩ (c_X6_howManyFrom l  dC dI s.heap.size y0 kd wh od tu lo hi x0 k0 w0 ck cw L f g nz ch r_5 hR9 ho1 ho2) (cwV 1 hts gX6_howManyUpTo_X6_howManyFrom rfl rfl rfl (by decide +kernel) ⟨(Nat.le_of_ble_eq_true rfl), (Nat.le_of_ble_eq_true rfl)⟩) ⟨pk_blindR, va_recv hKc hPc (ci := 6) (q0 := 0) rfl rfl, pk_callR hPc hKc⟩ rfl rfl hl.1 rfl (lv_room (Nat.le_of_ble_eq_true rfl)) dX6_howManyUpTo_13 ⟨(Nat.le_of_ble_eq_true rfl), (Nat.le_of_ble_eq_true rfl)⟩) (fun r_6 ur_6 hw => ?_)
    clear hPc hKc
    try dsimp only at hw
    have jr_6 := hw
    refine W.eq (g2 := F0 m 16 ls [.int r_6]) rfl ?_
    refine lv_goto (tgt := 35) hx hb dX6_howManyUpTo_16 (by decide) ?_
    refine W.widen (k := 0) (n := 0) (Nat.le_of_ble_eq_true rfl) (Nat.le_of_ble_eq_true rfl) ?_
    exact W.iret (v := r_6) hx hb hr (fun t ht hW => ⟨⟨r_6, (), rfl, trivial, congrArg Array.size ht⟩, hS.F ht⟩) hS.2.2 dX6_howManyUpTo_35
