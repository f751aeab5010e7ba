theorem dX2_enter_0 : decode cX2_enter 0 = .ok (.aload_n 0, 1) := by decide +kernel
theorem dX2_enter_1 : decode cX2_enter 1 = .ok (.getfield 28, 3) := by decide +kernel
theorem dX2_enter_4 : decode cX2_enter 4 = .ok (.ifCond .ne 7, 3) := by decide +kernel
theorem dX2_enter_11 : decode cX2_enter 11 = .ok (.aload_n 0, 1) := by decide +kernel
theorem dX2_enter_12 : decode cX2_enter 12 = .ok (.iload_n 1, 1) := by decide +kernel
set_option maxRecDepth 20000 in
theorem ggX2_enter_X2_binOf : GoodIn wsX2_enter wsX2_binOf := goodIn_r _ [15, 16, 17, 1, 76, 77, 78, 79, 80, 81, 82] rfl (by decide +kernel)
set_option maxRecDepth 20000 in
theorem gX2_enter_X2_binOf : GoodIn wsX2_enter (wsV RX2 43 RX2 yX2_binOf wsX2_binOf) := goodIn_app (goodIn_of _ (by decide +kernel)) ggX2_enter_X2_binOf
theorem dX2_enter_13 : decode cX2_enter 13 = .ok (.invokevirtual 43, 3) := by decide +kernel
theorem dX2_enter_16 : decode cX2_enter 16 = .ok (.istore_n 3, 1) := by decide +kernel
theorem dX2_enter_17 : decode cX2_enter 17 = .ok (.aload_n 0, 1) := by decide +kernel
theorem dX2_enter_18 : decode cX2_enter 18 = .ok (.iload_n 3, 1) := by decide +kernel
set_option maxRecDepth 20000 in
theorem ggX2_enter_X2_howManyIn : GoodIn wsX2_enter wsX2_howManyIn := goodIn_r _ [21, 22, 23, 24, 7, 25, 2, 3, 26, 27, 28, 29, 30, 31, 32, 33, 34, 35, 36, 12, 13, 14, 15, 16, 17, 1, 76, 77, 78, 79, 80, 81, 82, 83, 84, 85, 86, 87, 88, 89, 90, 91, 92, 93, 94, 95, 96, 97, 98] rfl (by decide +kernel)
set_option maxRecDepth 20000 in
theorem gX2_enter_X2_howManyIn : GoodIn wsX2_enter (wsV RX2 52 RX2 yX2_howManyIn wsX2_howManyIn) := goodIn_app (goodIn_of _ (by decide +kernel)) ggX2_enter_X2_howManyIn
theorem dX2_enter_19 : decode cX2_enter 19 = .ok (.invokevirtual 52, 3) := by decide +kernel
theorem dX2_enter_22 : decode cX2_enter 22 = .ok (.bipush 8, 2) := by decide +kernel
theorem dX2_enter_24 : decode cX2_enter 24 = .ok (.if_icmp .lt 7, 3) := by decide +kernel
theorem dX2_enter_31 : decode cX2_enter 31 = .ok (.iconst 0, 1) := by decide +kernel
theorem dX2_enter_32 : decode cX2_enter 32 = .ok (.istore 4, 2) := by decide +kernel
theorem dX2_enter_34 : decode cX2_enter 34 = .ok (.aload_n 0, 1) := by decide +kernel
theorem dX2_enter_35 : decode cX2_enter 35 = .ok (.getfield 31, 3) := by decide +kernel
theorem dX2_enter_38 : decode cX2_enter 38 = .ok (.aload_n 0, 1) := by decide +kernel
theorem dX2_enter_39 : decode cX2_enter 39 = .ok (.iload_n 3, 1) := by decide +kernel
theorem dX2_enter_40 : decode cX2_enter 40 = .ok (.iconst 1, 1) := by decide +kernel
theorem dX2_enter_41 : decode cX2_enter 41 = .ok (.iadd, 1) := by decide +kernel
set_option maxRecDepth 20000 in
theorem ggX2_enter_X2_startOf : GoodIn wsX2_enter wsX2_startOf := goodIn_r _ [25, 2, 3, 26, 27, 28, 29, 30, 31, 32, 33, 34, 35, 36, 12, 13, 14, 7, 15, 16, 17, 1, 76, 77, 78, 79, 80, 81, 82, 83, 84, 85, 86, 87, 88, 89, 90, 91, 92, 93, 94, 95, 96, 97, 98] rfl (by decide +kernel)
set_option maxRecDepth 20000 in
theorem gX2_enter_X2_startOf : GoodIn wsX2_enter (wsV RX2 46 RX2 yX2_startOf wsX2_startOf) := goodIn_app (goodIn_of _ (by decide +kernel)) ggX2_enter_X2_startOf
theorem dX2_enter_42 : decode cX2_enter 42 = .ok (.invokevirtual 46, 3) := by decide +kernel
theorem dX2_enter_45 : decode cX2_enter 45 = .ok (.iload_n 1, 1) := by decide +kernel
theorem dX2_enter_46 : decode cX2_enter 46 = .ok (.iload_n 2, 1) := by decide +kernel
set_option maxRecDepth 20000 in
theorem ggX2_enter_X5_insert : GoodIn wsX2_enter wsX5_insert := goodIn_r _ [40, 31, 36, 41, 42, 43, 44, 45, 46, 47, 48, 49, 50, 51, 52, 53, 54, 55, 56, 57, 58, 59, 60, 61, 62, 95, 96, 97, 98] rfl (by decide +kernel)
set_option maxRecDepth 20000 in
theorem gX2_enter_X5_insert : GoodIn wsX2_enter (wsV RX2 55 RX5 yX5_insert wsX5_insert) := goodIn_app (goodIn_of _ (by decide +kernel)) ggX2_enter_X5_insert
theorem dX2_enter_47 : decode cX2_enter 47 = .ok (.invokevirtual 55, 3) := by decide +kernel
theorem dX2_enter_50 : decode cX2_enter 50 = .ok (.iload 4, 2) := by decide +kernel
theorem dX2_enter_52 : decode cX2_enter 52 = .ok (.ifCond .eq 19, 3) := by decide +kernel
theorem dX2_enter_71 : decode cX2_enter 71 = .ok (.iload 4, 2) := by decide +kernel
theorem dX2_enter_73 : decode cX2_enter 73 = .ok (.ifCond .eq 9, 3) := by decide +kernel
theorem dX2_enter_82 : decode cX2_enter 82 = .ok (.aload_n 0, 1) := by decide +kernel
theorem dX2_enter_83 : decode cX2_enter 83 = .ok (.getfield 31, 3) := by decide +kernel
set_option maxRecDepth 20000 in
theorem ggX2_enter_X5_size : GoodIn wsX2_enter wsX5_size := goodIn_r _ [30, 31, 95, 96, 97, 98] rfl (by decide +kernel)
set_option maxRecDepth 20000 in
theorem gX2_enter_X5_size : GoodIn wsX2_enter (wsV RX2 35 RX5 yX5_size wsX5_size) := goodIn_app (goodIn_of _ (by decide +kernel)) ggX2_enter_X5_size
theorem dX2_enter_86 : decode cX2_enter 86 = .ok (.invokevirtual 35, 3) := by decide +kernel
theorem dX2_enter_89 : decode cX2_enter 89 = .ok (.iconst 4, 1) := by decide +kernel
theorem dX2_enter_90 : decode cX2_enter 90 = .ok (.imul, 1) := by decide +kernel
theorem dX2_enter_91 : decode cX2_enter 91 = .ok (.aload_n 0, 1) := by decide +kernel
theorem dX2_enter_92 : decode cX2_enter 92 = .ok (.getfield 28, 3) := by decide +kernel
theorem dX2_enter_95 : decode cX2_enter 95 = .ok (.iconst 3, 1) := by decide +kernel
theorem dX2_enter_96 : decode cX2_enter 96 = .ok (.imul, 1) := by decide +kernel
theorem dX2_enter_97 : decode cX2_enter 97 = .ok (.if_icmp .le 7, 3) := by decide +kernel
theorem dX2_enter_104 : decode cX2_enter 104 = .ok (.return_, 1) := by decide +kernel
theorem dX2_enter_100 : decode cX2_enter 100 = .ok (.aload_n 0, 1) := by decide +kernel
set_option maxRecDepth 20000 in
theorem ggX2_enter_X2_doubleTable : GoodIn wsX2_enter wsX2_doubleTable := goodIn_r _ [66, 1, 67, 11, 10, 57, 2, 3, 26, 27, 28, 29, 30, 31, 32, 33, 34, 35, 36, 12, 13, 14, 7, 15, 16, 17, 68, 69, 70, 71, 41, 76, 77, 78, 79, 80, 81, 82, 83, 84, 85, 86, 87, 88, 89, 90, 91, 92, 93, 94, 95, 96, 97, 98] rfl (by decide +kernel)
set_option maxRecDepth 20000 in
theorem gX2_enter_X2_doubleTable : GoodIn wsX2_enter (wsV RX2 59 RX2 yX2_doubleTable wsX2_doubleTable) := goodIn_app (goodIn_of _ (by decide +kernel)) ggX2_enter_X2_doubleTable
theorem dX2_enter_101 : decode cX2_enter 101 = .ok (.invokevirtual 59, 3) := by decide +kernel
theorem dX2_enter_27 : decode cX2_enter 27 = .ok (.iconst 1, 1) := by decide +kernel
theorem dX2_enter_28 : decode cX2_enter 28 = .ok (.goto 4, 3) := by decide +kernel
theorem dX2_enter_55 : decode cX2_enter 55 = .ok (.aload_n 0, 1) := by decide +kernel
theorem dX2_enter_56 : decode cX2_enter 56 = .ok (.getfield 28, 3) := by decide +kernel
theorem dX2_enter_59 : decode cX2_enter 59 = .ok (.bipush 64, 2) := by decide +kernel
theorem dX2_enter_61 : decode cX2_enter 61 = .ok (.if_icmp .ge 10, 3) := by decide +kernel
theorem dX2_enter_76 : decode cX2_enter 76 = .ok (.aload_n 0, 1) := by decide +kernel
theorem dX2_enter_77 : decode cX2_enter 77 = .ok (.iload_n 3, 1) := by decide +kernel
theorem dX2_enter_78 : decode cX2_enter 78 = .ok (.iconst 1, 1) := by decide +kernel
set_option maxRecDepth 20000 in
theorem ggX2_enter_X2_setBushy : GoodIn wsX2_enter wsX2_setBushy := goodIn_r _ [75, 11, 76, 77, 78, 79, 80, 81, 82] rfl (by decide +kernel)
set_option maxRecDepth 20000 in
theorem gX2_enter_X2_setBushy : GoodIn wsX2_enter (wsV RX2 62 RX2 yX2_setBushy wsX2_setBushy) := goodIn_app (goodIn_of _ (by decide +kernel)) ggX2_enter_X2_setBushy
theorem dX2_enter_79 : decode cX2_enter 79 = .ok (.invokevirtual 62, 3) := by decide +kernel
theorem dX2_enter_64 : decode cX2_enter 64 = .ok (.aload_n 0, 1) := by decide +kernel
theorem dX2_enter_65 : decode cX2_enter 65 = .ok (.invokevirtual 59, 3) := by decide +kernel
theorem dX2_enter_68 : decode cX2_enter 68 = .ok (.goto 14, 3) := by decide +kernel
theorem dX2_enter_7 : decode cX2_enter 7 = .ok (.aload_n 0, 1) := by decide +kernel
set_option maxRecDepth 20000 in
theorem ggX2_enter_X2_layFirstTable : GoodIn wsX2_enter wsX2_layFirstTable := goodIn_r _ [8, 1, 9, 10, 11, 76, 77, 78, 79, 80, 81, 82] rfl (by decide +kernel)
set_option maxRecDepth 20000 in
theorem gX2_enter_X2_layFirstTable : GoodIn wsX2_enter (wsV RX2 49 RX2 yX2_layFirstTable wsX2_layFirstTable) := goodIn_app (goodIn_of _ (by decide +kernel)) ggX2_enter_X2_layFirstTable
theorem dX2_enter_8 : decode cX2_enter 8 = .ok (.invokevirtual 49, 3) := by decide +kernel
theorem dX2_leave_0 : decode cX2_leave 0 = .ok (.aload_n 0, 1) := by decide +kernel
theorem dX2_leave_1 : decode cX2_leave 1 = .ok (.aload_n 0, 1) := by decide +kernel
theorem dX2_leave_2 : decode cX2_leave 2 = .ok (.getfield 31, 3) := by decide +kernel
theorem dX2_leave_5 : decode cX2_leave 5 = .ok (.iload_n 1, 1) := by decide +kernel
set_option maxRecDepth 20000 in
theorem ggX2_leave_X5_key : GoodIn wsX2_leave wsX5_key := goodIn_r _ [7, 8, 9, 71, 72, 73, 74] rfl (by decide +kernel)
set_option maxRecDepth 20000 in
theorem gX2_leave_X5_key : GoodIn wsX2_leave (wsV RX2 39 RX5 yX5_key wsX5_key) := goodIn_app (goodIn_of _ (by decide +kernel)) ggX2_leave_X5_key
theorem dX2_leave_6 : decode cX2_leave 6 = .ok (.invokevirtual 39, 3) := by decide +kernel
set_option maxRecDepth 20000 in
theorem ggX2_leave_X2_binOf : GoodIn wsX2_leave wsX2_binOf := goodIn_r _ [14, 15, 16, 17, 52, 53, 54, 55, 56, 57, 58] rfl (by decide +kernel)
set_option maxRecDepth 20000 in
theorem gX2_leave_X2_binOf : GoodIn wsX2_leave (wsV RX2 43 RX2 yX2_binOf wsX2_binOf) := goodIn_app (goodIn_of _ (by decide +kernel)) ggX2_leave_X2_binOf
theorem dX2_leave_9 : decode cX2_leave 9 = .ok (.invokevirtual 43, 3) := by decide +kernel
theorem dX2_leave_12 : decode cX2_leave 12 = .ok (.istore_n 2, 1) := by decide +kernel
theorem dX2_leave_13 : decode cX2_leave 13 = .ok (.aload_n 0, 1) := by decide +kernel
theorem dX2_leave_14 : decode cX2_leave 14 = .ok (.iload_n 1, 1) := by decide +kernel
set_option maxRecDepth 20000 in
theorem ggX2_leave_X3_leave : GoodIn wsX2_leave wsX3_leave := goodIn_r _ [23, 24, 25, 26, 27, 6, 28, 8, 9, 29, 30, 31, 32, 33, 34, 52, 53, 54, 55, 56, 57, 58, 59, 60, 61, 62, 63, 64, 65, 66, 67, 68, 69, 70, 71, 72, 73, 74] rfl (by decide +kernel)
set_option maxRecDepth 20000 in
theorem gX2_leave_X3_leave_s71 : GoodIn wsX2_leave (va_wsSU RX2 71 yX3_leave wsX3_leave) := goodIn_app (goodIn_of _ (by decide +kernel)) ggX2_leave_X3_leave
theorem dX2_leave_15 : decode cX2_leave 15 = .ok (.invokespecial 71, 3) := by decide +kernel
theorem dX2_leave_18 : decode cX2_leave 18 = .ok (.aload_n 0, 1) := by decide +kernel
theorem dX2_leave_19 : decode cX2_leave 19 = .ok (.iload_n 2, 1) := by decide +kernel
set_option maxRecDepth 20000 in
theorem ggX2_leave_X2_howManyIn : GoodIn wsX2_leave wsX2_howManyIn := goodIn_r _ [38, 39, 40, 41, 13, 42, 1, 2, 43, 44, 45, 6, 46, 8, 3, 4, 5, 7, 9, 10, 11, 12, 14, 15, 16, 17, 52, 53, 54, 55, 56, 57, 58, 59, 60, 61, 62, 63, 64, 65, 66, 67, 68, 69, 70, 71, 72, 73, 74] rfl (by decide +kernel)
set_option maxRecDepth 20000 in
theorem gX2_leave_X2_howManyIn : GoodIn wsX2_leave (wsV RX2 52 RX2 yX2_howManyIn wsX2_howManyIn) := goodIn_app (goodIn_of _ (by decide +kernel)) ggX2_leave_X2_howManyIn
theorem dX2_leave_20 : decode cX2_leave 20 = .ok (.invokevirtual 52, 3) := by decide +kernel
theorem dX2_leave_23 : decode cX2_leave 23 = .ok (.bipush 6, 2) := by decide +kernel
theorem dX2_leave_25 : decode cX2_leave 25 = .ok (.if_icmp .gt 9, 3) := by decide +kernel
theorem dX2_leave_34 : decode cX2_leave 34 = .ok (.return_, 1) := by decide +kernel
theorem dX2_leave_28 : decode cX2_leave 28 = .ok (.aload_n 0, 1) := by decide +kernel
theorem dX2_leave_29 : decode cX2_leave 29 = .ok (.iload_n 2, 1) := by decide +kernel
theorem dX2_leave_30 : decode cX2_leave 30 = .ok (.iconst 0, 1) := by decide +kernel
set_option maxRecDepth 20000 in
theorem ggX2_leave_X2_setBushy : GoodIn wsX2_leave wsX2_setBushy := goodIn_r _ [50, 51, 52, 53, 54, 55, 56, 57, 58] rfl (by decide +kernel)
set_option maxRecDepth 20000 in
theorem gX2_leave_X2_setBushy : GoodIn wsX2_leave (wsV RX2 62 RX2 yX2_setBushy wsX2_setBushy) := goodIn_app (goodIn_of _ (by decide +kernel)) ggX2_leave_X2_setBushy
theorem dX2_leave_31 : decode cX2_leave 31 = .ok (.invokevirtual 62, 3) := by decide +kernel
theorem dX2_leaveAll_0 : decode cX2_leaveAll 0 = .ok (.aload_n 0, 1) := by decide +kernel
set_option maxRecDepth 20000 in
theorem ggX2_leaveAll_X3_leaveAll : GoodIn wsX2_leaveAll wsX3_leaveAll := goodIn_r _ [7, 8, 9, 10, 11, 12, 13, 14, 15, 16, 17, 18, 19, 20, 21, 22, 23, 24, 25, 26, 27, 28, 29, 30, 31, 32, 33, 34, 35, 36, 37, 38, 39, 40, 41, 42, 43, 44, 45, 46, 47, 48] rfl (by decide +kernel)
set_option maxRecDepth 20000 in
theorem gX2_leaveAll_X3_leaveAll_s75 : GoodIn wsX2_leaveAll (va_wsSU RX2 75 yX3_leaveAll wsX3_leaveAll) := goodIn_app (goodIn_of _ (by decide +kernel)) ggX2_leaveAll_X3_leaveAll
theorem dX2_leaveAll_1 : decode cX2_leaveAll 1 = .ok (.invokespecial 75, 3) := by decide +kernel
theorem dX2_leaveAll_4 : decode cX2_leaveAll 4 = .ok (.iconst 0, 1) := by decide +kernel
theorem dX2_leaveAll_5 : decode cX2_leaveAll 5 = .ok (.istore_n 1, 1) := by decide +kernel
theorem dX2_leaveAll_6 : decode cX2_leaveAll 6 = .ok (.iload_n 1, 1) := by decide +kernel
theorem dX2_leaveAll_7 : decode cX2_leaveAll 7 = .ok (.aload_n 0, 1) := by decide +kernel
theorem dX2_leaveAll_8 : decode cX2_leaveAll 8 = .ok (.getfield 14, 3) := by decide +kernel
theorem dX2_leaveAll_11 : decode cX2_leaveAll 11 = .ok (.arraylength, 1) := by decide +kernel
theorem dX2_leaveAll_12 : decode cX2_leaveAll 12 = .ok (.if_icmp .ge 16, 3) := by decide +kernel
theorem dX2_leaveAll_28 : decode cX2_leaveAll 28 = .ok (.return_, 1) := by decide +kernel
theorem dX2_leaveAll_15 : decode cX2_leaveAll 15 = .ok (.aload_n 0, 1) := by decide +kernel
theorem dX2_leaveAll_16 : decode cX2_leaveAll 16 = .ok (.getfield 14, 3) := by decide +kernel
theorem dX2_leaveAll_19 : decode cX2_leaveAll 19 = .ok (.iload_n 1, 1) := by decide +kernel
theorem dX2_leaveAll_20 : decode cX2_leaveAll 20 = .ok (.iconst 0, 1) := by decide +kernel
theorem dX2_leaveAll_21 : decode cX2_leaveAll 21 = .ok (.bastore, 1) := by decide +kernel
theorem dX2_leaveAll_22 : decode cX2_leaveAll 22 = .ok (.iinc 1 1, 3) := by decide +kernel
theorem dX2_leaveAll_25 : decode cX2_leaveAll 25 = .ok (.goto (-19), 3) := by decide +kernel
theorem dX2_tableLength_0 : decode cX2_tableLength 0 = .ok (.aload_n 0, 1) := by decide +kernel
theorem dX2_tableLength_1 : decode cX2_tableLength 1 = .ok (.getfield 28, 3) := by decide +kernel
theorem dX2_tableLength_4 : decode cX2_tableLength 4 = .ok (.ireturn, 1) := by decide +kernel
theorem dX2_howManyBushy_0 : decode cX2_howManyBushy 0 = .ok (.iconst 0, 1) := by decide +kernel
theorem dX2_howManyBushy_1 : decode cX2_howManyBushy 1 = .ok (.istore_n 1, 1) := by decide +kernel
theorem dX2_howManyBushy_2 : decode cX2_howManyBushy 2 = .ok (.iconst 0, 1) := by decide +kernel
theorem dX2_howManyBushy_3 : decode cX2_howManyBushy 3 = .ok (.istore_n 2, 1) := by decide +kernel
theorem dX2_howManyBushy_4 : decode cX2_howManyBushy 4 = .ok (.iload_n 2, 1) := by decide +kernel
theorem dX2_howManyBushy_5 : decode cX2_howManyBushy 5 = .ok (.aload_n 0, 1) := by decide +kernel
theorem dX2_howManyBushy_6 : decode cX2_howManyBushy 6 = .ok (.getfield 14, 3) := by decide +kernel
theorem dX2_howManyBushy_9 : decode cX2_howManyBushy 9 = .ok (.arraylength, 1) := by decide +kernel
theorem dX2_howManyBushy_10 : decode cX2_howManyBushy 10 = .ok (.if_icmp .ge 21, 3) := by decide +kernel
theorem dX2_howManyBushy_31 : decode cX2_howManyBushy 31 = .ok (.iload_n 1, 1) := by decide +kernel
theorem dX2_howManyBushy_32 : decode cX2_howManyBushy 32 = .ok (.ireturn, 1) := by decide +kernel
theorem dX2_howManyBushy_13 : decode cX2_howManyBushy 13 = .ok (.aload_n 0, 1) := by decide +kernel
theorem dX2_howManyBushy_14 : decode cX2_howManyBushy 14 = .ok (.getfield 14, 3) := by decide +kernel
theorem dX2_howManyBushy_17 : decode cX2_howManyBushy 17 = .ok (.iload_n 2, 1) := by decide +kernel
theorem dX2_howManyBushy_18 : decode cX2_howManyBushy 18 = .ok (.baload, 1) := by decide +kernel
theorem dX2_howManyBushy_19 : decode cX2_howManyBushy 19 = .ok (.ifCond .eq 6, 3) := by decide +kernel
theorem dX2_howManyBushy_25 : decode cX2_howManyBushy 25 = .ok (.iinc 2 1, 3) := by decide +kernel
theorem dX2_howManyBushy_28 : decode cX2_howManyBushy 28 = .ok (.goto (-24), 3) := by decide +kernel
theorem dX2_howManyBushy_22 : decode cX2_howManyBushy 22 = .ok (.iinc 1 1, 3) := by decide +kernel
set_option maxHeartbeats 4000000 in
set_option maxRecDepth 100000 in
/-- Hash.enter -/
theorem c_X2_enter (l : Launch) (dC : Nat → ClassId) (dI : Nat → Nat → Nat) (sz : Nat) (T0 : Nat) (y0 : Nat) (kd : Int32) (wh : Int32) (cap : Nat) (ru : Int32) (tb : Nat) (b0 : Nat) (cb : ClassId) (bf : Nat → Int32) (x0 : Nat) (k0 : Nat) (w0 : Nat) (ck : ClassId) (cw : ClassId) (L : Nat) (f : Nat → Int32) (g : Nat → Int32) (nz : Nat) (ch : Int32) (p0 : Int32) (p1 : Int32) (gs : Nat) (ds : Nat) (hH9 : hOK tb L nz cap) (hG9 : nz < L ∨ 4 * L ≤ gs) (hD9 : tb = 0 → 1029 + 2 * L ≤ ds) (hD8 : ¬ tb = 0 → (tb < 64 ∧ 8 ≤ nz) ∨ tb * 3 < (nz + 1) * 4 → nz < L → 4 * tb + (nz + 1) + 2 * L ≤ ds) (hD7 : ¬ tb = 0 → (tb < 64 ∧ 8 ≤ nz) ∨ tb * 3 < (nz + 1) * 4 → ¬ nz < L → 4 * tb + (nz + 1) + 4 * L ≤ ds) : Met l yX2_enter wsX2_enter ({ frames := 4, cells := 8, slots := gs + ds, locals := 190 }) (va_Pc [.ref y0, .int p0, .int p1] (pk_PreT (dC, dI) [(y0, .inr (3, [.ref x0, .int kd, .int wh, .int (nI cap), .int ru, .int (nI tb), .ref b0])), (x0, .inr (5, [.ref k0, .ref w0, .int (nI nz), .int ch])), (k0, .inl (ck, L, .inl f)), (w0, .inl (cw, L, .inl g)), (b0, .inl (cb, tb, .inl bf))] [(ck, .int), (cw, .int), (cb, .boolean)] sz T0)) (va_Qv (fun (u : Nat × Nat × ClassId × (Nat → Int32) × Nat × Nat × ClassId × ClassId × Nat × (Nat → Int32) × (Nat → Int32) × Nat × Int32) => enP tb L nz cap (u.1) (u.2.2.2.2.2.2.2.2.1) (u.2.2.2.2.2.2.2.2.2.2.2.1)) (fun (u : Nat × Nat × ClassId × (Nat → Int32) × Nat × Nat × ClassId × ClassId × Nat × (Nat → Int32) × (Nat → Int32) × Nat × Int32) (t : State) => va_P (dC, dI) vwCl [(y0, .inr (3, [.ref x0, .int kd, .int wh, .int (nI cap), .int ru, .int (nI (u.1)), .ref u.2.1])), (x0, .inr (5, [.ref u.2.2.2.2.1, .ref u.2.2.2.2.2.1, .int (nI (u.2.2.2.2.2.2.2.2.2.2.2.1)), .int u.2.2.2.2.2.2.2.2.2.2.2.2])), (u.2.2.2.2.1, .inl (u.2.2.2.2.2.2.1, u.2.2.2.2.2.2.2.2.1, .inl u.2.2.2.2.2.2.2.2.2.1)), (u.2.2.2.2.2.1, .inl (u.2.2.2.2.2.2.2.1, u.2.2.2.2.2.2.2.2.1, .inl u.2.2.2.2.2.2.2.2.2.2.1)), (u.2.1, .inl (u.2.2.1, u.1, .inl u.2.2.2.1))] t.heap ∧ va_K (dC, dI) vwCl [(u.2.2.2.2.2.2.1, .int), (u.2.2.2.2.2.2.2.1, .int), (u.2.2.1, .boolean)] t ∧ va_D (va_A [(y0, .inr (3, [.ref x0, .int kd, .int wh, .int (nI cap), .int ru, .int (nI tb), .ref b0])), (x0, .inr (5, [.ref k0, .ref w0, .int (nI nz), .int ch])), (k0, .inl (ck, L, .inl f)), (w0, .inl (cw, L, .inl g)), (b0, .inl (cb, tb, .inl bf))] sz) [(y0, .inr (3, [.ref x0, .int kd, .int wh, .int (nI cap), .int ru, .int (nI (u.1)), .ref u.2.1])), (x0, .inr (5, [.ref u.2.2.2.2.1, .ref u.2.2.2.2.2.1, .int (nI (u.2.2.2.2.2.2.2.2.2.2.2.1)), .int u.2.2.2.2.2.2.2.2.2.2.2.2])), (u.2.2.2.2.1, .inl (u.2.2.2.2.2.2.1, u.2.2.2.2.2.2.2.2.1, .inl u.2.2.2.2.2.2.2.2.2.1)), (u.2.2.2.2.2.1, .inl (u.2.2.2.2.2.2.2.1, u.2.2.2.2.2.2.2.2.1, .inl u.2.2.2.2.2.2.2.2.2.2.1)), (u.2.1, .inl (u.2.2.1, u.1, .inl u.2.2.2.1))] ∧ hT t.heap + hPS tb L ≤ T0 + hPS (u.1) (u.2.2.2.2.2.2.2.2.1) ∧ t.heap.size + hPC tb L ≤ sz + hPC (u.1) (u.2.2.2.2.2.2.2.2.1)) (va_A [(y0, .inr (3, [.ref x0, .int kd, .int wh, .int (nI cap), .int ru, .int (nI tb), .ref b0])), (x0, .inr (5, [.ref k0, .ref w0, .int (nI nz), .int ch])), (k0, .inl (ck, L, .inl f)), (w0, .inl (cw, L, .inl g)), (b0, .inl (cb, tb, .inl bf))] sz)) 8 (gs + ds) (va_A [(y0, .inr (3, [.ref x0, .int kd, .int wh, .int (nI cap), .int ru, .int (nI tb), .ref b0])), (x0, .inr (5, [.ref k0, .ref w0, .int (nI nz), .int ch])), (k0, .inl (ck, L, .inl f)), (w0, .inl (cw, L, .inl g)), (b0, .inl (cb, tb, .inl bf))] sz) := by
  refine Met.ofW (cc := cX2_enter) (maxL := 5) (ret := none) (by decide) rfl ?_
  intro p e s m args below meth c s₁ B hml hv
  obtain ⟨rfl, ⟨hsz, hP, hK, hD0⟩, hT0⟩ := hv
  have hx := B.exec
  have hb := B.bytes
  have hr := B.returns
  have hts := atoms_spec (ws := wsX2_enter) B.pre
  have hown : s.vm.findClass RX2 = some m.cls := findClass_of_methodNamed B.named
  have hlocks := B.notSynchronized
  subst hsz
  subst hT0
  have hD := hD0.self (sz := s.heap.size)
  generalize hAe : va_A [(y0, .inr (3, [.ref x0, .int kd, .int wh, .int (nI cap), .int ru, .int (nI tb), .ref b0])), (x0, .inr (5, [.ref k0, .ref w0, .int (nI nz), .int ch])), (k0, .inl (ck, L, .inl f)), (w0, .inl (cw, L, .inl g)), (b0, .inl (cb, tb, .inl bf))] s.heap.size = A at hD ⊢
  have hA : ∀ q : Nat, s.heap.size ≤ q → A q := fun q h => by rw [← hAe]; exact Or.inr h
  have hS : va_S A s.heap s.heap [] := va_S.rf
  have hP : va_P (dC, dI) vwCl [(y0, .inr (3, [.ref x0, .int kd, .int wh, .int (nI cap), .int ru, .int (nI tb), .ref b0])), (x0, .inr (5, [.ref k0, .ref w0, .int (nI nz), .int ch])), (k0, .inl (ck, L, .inl f)), (w0, .inl (cw, L, .inl g)), (b0, .inl (cb, tb, .inl bf))] s.heap := hP
  have hl := lv_entry ([.ref y0, .int p0, .int p1]) (n := 5) (Nat.le_of_ble_eq_true rfl)
  rw [lg_entry_eq]
  generalize (lg_sl ([.ref y0, .int p0, .int p1]) ++ List.replicate (5 - (lg_sl ([.ref y0, .int p0, .int p1])).length) Slot.unset).toArray = ls at hl ⊢
  have hl : lv_has ls 5 [(0, .ref y0), (1, .int p0), (2, .int p1)] := hl
  have hw0_ := hts (.fieldLink RX2 28 "KeyAtlas$Hash" "table" "I") (List.mem_of_getElem? (l := wsX2_enter) (i := 1) rfl)
  have hw1_ := hts (.fieldLink RX2 31 "KeyAtlas$Hash" "rows" "LKeyAtlas$Rows;") (List.mem_of_getElem? (l := wsX2_enter) (i := 2) rfl)
  have hw2_ := hts (.sameField "KeyAtlas$Hash" "KeyAtlas$Keyed" "rows" "LKeyAtlas$Rows;") (List.mem_of_getElem? (l := wsX2_enter) (i := 3) rfl)
  have hi0_ : ∀ w ∈ u_ws RX2 TX2 7, w ∈ wsX2_enter := fun w h => List.mem_cons_of_mem _ (List.mem_append_left _ (List.mem_append_left _ (List.mem_append_left _ (List.mem_append_right _ h))))
  obtain ⟨hR9, hpL, hcap, hcase⟩ := hH9
  obtain ⟨hL1, hL2, hz1, hz2⟩ := id hR9
  refine lv_aload_n hx hb dX2_enter_0 rfl (lv_at hl 0 rfl) ?_
  refine va_get (D := (dC, dI)) (ci := 3) (v := .int (nI tb)) (C := RX2) (T := TX2) (N := 7) hx hb hts hi0_ hown hK hP 0 rfl rfl 5 (by decide) hw0_ (fun _ h9 => h9) rfl dX2_enter_1 ?_
  refine lv_if_ne (tgt := 11) hx hb dX2_enter_4 (by decide) (fun c_1 => ?_) (fun c_1 => ?_)
  ·
    have ic_1 : ¬ ((tb : Nat) : Int) = 0 := tx_ne (nI_toInt (by omega)) (by decide) c_1
    obtain ⟨hq1, hq2, hq3, hq4, hq5⟩ := hcase.resolve_left (fun h => absurd h.1 (by omega))
    refine lv_aload_n hx hb dX2_enter_11 rfl (lv_at hl 0 rfl) ?_
    refine lv_iload_n hx hb dX2_enter_12 rfl (lv_at hl 1 rfl) ?_
    have hPc := hP.sub (ws' := [(y0, .inr (3, [.ref x0, .int kd, .int wh, .int (nI cap), .int ru, .int (nI tb), .ref b0]))]) [0] rfl
    have hKc := hK.sub (tys' := []) [] rfl
    refine ro_calli (va_runV (As := [.int p0]) (rest := []) ⟨hx, hb, hml, hown, hts⟩ (c_X2_binOf l  dC dI s.heap.size y0 ru (nI tb) (.ref x0) (.int kd) (.int wh) (.int (nI cap)) (.ref b0) p0) (cwV 1 hts gX2_enter_X2_binOf rfl rfl rfl (by decide +kernel) ⟨(Nat.le_of_ble_eq_true rfl), (Nat.le_of_ble_eq_true rfl)⟩) ⟨pk_blindR, va_recv hKc hPc (ci := 3) (q0 := 0) rfl rfl, pk_callR hPc hKc⟩ rfl rfl hl.1 rfl (lv_room (Nat.le_of_ble_eq_true rfl)) dX2_enter_13 ⟨(Nat.le_of_ble_eq_true rfl), (show 0 + 0 ≤ gs + ds by omega)⟩) (fun r_2 ur_2 hw => ?_)
    clear hPc hKc
    try dsimp only at hw
    have jr_2 := hw
    refine W.eq (g2 := F0 m 16 ls [.int r_2]) rfl ?_
    refine lv_istore_n (lv' := [(3, .int r_2), (0, .ref y0), (1, .int p0), (2, .int p1)]) hx hb dX2_enter_16 rfl hl (by decide) rfl (fun ls hl => ?_)
    refine lv_aload_n hx hb dX2_enter_17 rfl (lv_at hl 1 rfl) ?_
    refine lv_iload_n hx hb dX2_enter_18 rfl (lv_at hl 0 rfl) ?_
    have hPc := hP.sub (ws' := [(y0, .inr (3, [.ref x0, .int kd, .int wh, .int (nI cap), .int ru, .int (nI tb), .ref b0])), (x0, .inr (5, [.ref k0, .ref w0, .int (nI nz), .int ch])), (k0, .inl (ck, L, .inl f)), (w0, .inl (cw, L, .inl g)), (b0, .inl (cb, tb, .inl bf))]) [0, 1, 2, 3, 4] rfl
    have hKc := hK.sub (tys' := [(ck, .int), (cw, .int), (cb, .boolean)]) [0, 1, 2] rfl
    refine ro_calli (va_runV (As := [.int r_2]) (rest := []) ⟨hx, hb, hml, hown, hts⟩ (c_X2_howManyIn l  dC dI s.heap.size y0 kd wh cap ru tb b0 cb bf x0 k0 w0 ck cw L f g nz ch r_2 hR9) (cwV 1 hts gX2_enter_X2_howManyIn rfl rfl rfl (by decide +kernel) ⟨(Nat.le_of_ble_eq_true rfl), (Nat.le_of_ble_eq_true rfl)⟩) ⟨pk_blindR, va_recv hKc hPc (ci := 3) (q0 := 0) rfl rfl, pk_callR hPc hKc⟩ rfl rfl hl.1 rfl (lv_room (Nat.le_of_ble_eq_true rfl)) dX2_enter_19 ⟨(Nat.le_of_ble_eq_true rfl), (show 0 + 0 ≤ gs + ds by omega)⟩) (fun r_3 ur_3 hw => ?_)
    clear hPc hKc
    try dsimp only at hw
    have jr_3 := hw
    refine W.eq (g2 := F0 m 22 ls [.int r_3]) rfl ?_
    refine lv_bipush (v := 8) hx hb dX2_enter_22 (by decide) ?_
    refine lv_icmp_lt (tgt := 31) hx hb dX2_enter_24 (by decide) (fun c_4 => ?_) (fun c_4 => ?_)
    ·
      have ic_4 : r_3.toInt < 8 := tx_lt rfl (by decide) c_4
      refine lv_iconst (v := 0) hx hb dX2_enter_31 (by decide) ?_
      refine lv_istore (lv' := [(4, .int 0), (3, .int r_2), (0, .ref y0), (1, .int p0), (2, .int p1)]) hx hb dX2_enter_32 hl (by decide) rfl (fun ls hl => ?_)
      refine lv_aload_n hx hb dX2_enter_34 rfl (lv_at hl 2 rfl) ?_
      refine va_get (D := (dC, dI)) (ci := 3) (v := .ref x0) (C := RX2) (T := TX2) (N := 7) hx hb hts hi0_ hown hK hP 0 rfl rfl 0 (by decide) hw1_ (u_same hw2_) rfl dX2_enter_35 ?_
      refine lv_aload_n hx hb dX2_enter_38 rfl (lv_at hl 2 rfl) ?_
      refine lv_iload_n hx hb dX2_enter_39 rfl (lv_at hl 1 rfl) ?_
      refine lv_iconst (v := 1) hx hb dX2_enter_40 (by decide) ?_
      refine lv_iadd hx hb dX2_enter_41 ?_
      have hPc := hP.sub (ws' := [(y0, .inr (3, [.ref x0, .int kd, .int wh, .int (nI cap), .int ru, .int (nI tb), .ref b0])), (x0, .inr (5, [.ref k0, .ref w0, .int (nI nz), .int ch])), (k0, .inl (ck, L, .inl f)), (w0, .inl (cw, L, .inl g)), (b0, .inl (cb, tb, .inl bf))]) [0, 1, 2, 3, 4] rfl
      have hKc := hK.sub (tys' := [(ck, .int), (cw, .int), (cb, .boolean)]) [0, 1, 2] rfl
      refine ro_calli (va_runV (As := [.int (r_2 + 1)]) (rest := [.ref x0]) ⟨hx, hb, hml, hown, hts⟩ (c_X2_startOf l  dC dI s.heap.size y0 kd wh cap ru tb b0 cb bf x0 k0 w0 ck cw L f g nz ch (r_2 + 1) hR9) (cwV 1 hts gX2_enter_X2_startOf rfl rfl rfl (by decide +kernel) ⟨(Nat.le_of_ble_eq_true rfl), (Nat.le_of_ble_eq_true rfl)⟩) ⟨pk_blindR, va_recv hKc hPc (ci := 3) (q0 := 0) rfl rfl, pk_callR hPc hKc⟩ rfl rfl hl.1 rfl (lv_room (Nat.le_of_ble_eq_true rfl)) dX2_enter_42 ⟨(Nat.le_of_ble_eq_true rfl), (show 0 + 0 ≤ gs + ds by omega)⟩) (fun r_5 ur_5 hw => ?_)
      clear hPc hKc
      try dsimp only at hw
      have jr_5 := hw
      obtain ⟨kc, hkc, rfl⟩ := jr_5
      refine W.eq (g2 := F0 m 45 ls [.int (nI kc), .ref x0]) rfl ?_
      refine lv_iload_n hx hb dX2_enter_45 rfl (lv_at hl 3 rfl) ?_
      refine lv_iload_n hx hb dX2_enter_46 rfl (lv_at hl 4 rfl) ?_
      have hPc := hP.sub (ws' := [(x0, .inr (5, [.ref k0, .ref w0, .int (nI nz), .int ch])), (k0, .inl (ck, L, .inl f)), (w0, .inl (cw, L, .inl g))]) [1, 2, 3] rfl
      have hDc := hD.sub (ws' := [(x0, .inr (5, [.ref k0, .ref w0, .int (nI nz), .int ch])), (k0, .inl (ck, L, .inl f)), (w0, .inl (cw, L, .inl g))]) [1, 2, 3] (by decide) rfl
      have hKc := hK.sub (tys' := [(ck, .int), (cw, .int)]) [0, 1] rfl
      have hFc := va_free (wc := [(x0, .inr (5, [.ref k0, .ref w0, .int (nI nz), .int ch])), (k0, .inl (ck, L, .inl f)), (w0, .inl (cw, L, .inl g))]) hD hS hA [1, 2, 3] rfl
      refine W.book (fun hz8_ hn8_ => ?_)
      refine va_callv (va_runV (As := [.int (nI kc), .int p0, .int p1]) (rest := []) ⟨hx, hb, hml, hown, hts⟩ (c_X5_insert l  dC dI s.heap.size (hT s.heap) x0 k0 w0 ck cw L f g nz ch (nI kc) p0 p1 2 gs hR9 (by omega)) (cwV 3 hts gX2_enter_X5_insert rfl rfl rfl (by decide +kernel) ⟨(Nat.le_of_ble_eq_true rfl), (Nat.le_of_ble_eq_true rfl)⟩) ⟨pk_blindT, va_recv hKc hPc (ci := 5) (q0 := 0) rfl rfl, pk_callT hPc hKc hDc⟩ rfl rfl hl.1 rfl (lv_room (Nat.le_of_ble_eq_true rfl)) dX2_enter_47 ⟨(Nat.le_of_ble_eq_true rfl), (show 0 + gs ≤ gs + ds by omega)⟩) hS (fun q _ h => hFc q h) hFc (fun ur_6 t H1 locs ht hvm hw hB hz1 hk1 hS => ?_)
      try dsimp only at hw
      have jr_6 := hw
      obtain ⟨hP1, hK1, hD1, hC1_⟩ := hB
      rw [ht] at hP1 hC1_
      have hK1 := va_K.moved hvm.symm hK1
      obtain ⟨hP, hD⟩ := va_join (wr := [(y0, .inr (3, [.ref x0, .int kd, .int wh, .int (nI cap), .int ru, .int (nI tb), .ref b0])), (b0, .inl (cb, tb, .inl bf))]) (w1 := [(x0, .inr (5, [.ref ur_6.1, .ref ur_6.2.1, .int (nI (ur_6.2.2.2.2.2.2.2.1)), .int ur_6.2.2.2.2.2.2.2.2])), (ur_6.1, .inl (ur_6.2.2.1, ur_6.2.2.2.2.1, .inl ur_6.2.2.2.2.2.1)), (ur_6.2.1, .inl (ur_6.2.2.2.1, ur_6.2.2.2.2.1, .inl ur_6.2.2.2.2.2.2.1))]) hP hD [1, 2, 3] [0, 4] rfl rfl (by decide) (by decide) hk1 hFc hP1 hD1
      have hK := hK.app hK1
      have hK : va_K (dC, dI) vwCl [(ck, .int), (cw, .int), (cb, .boolean), (ur_6.2.2.1, .int), (ur_6.2.2.2.1, .int)] s := hK
      have hl7_ := jr_6.2.2.2
      have hn7_ : hT H1 ≤ hT s.heap + ((4 * (ur_6.2.2.2.2.1) - 4 * L)) := by omega
      have hz7_ : H1.size ≤ s.heap.size + ((2 * lgN (ur_6.2.2.2.2.1) - 2 * lgN L)) := by omega
      clear hC1_ hn8_ hz8_
      clear hk1 hz1 ht hPc hDc hKc hFc
      generalize H1 = H at hP hS hn7_ hz7_ ⊢
      replace hP : va_P (dC, dI) vwCl [(y0, .inr (3, [.ref x0, .int kd, .int wh, .int (nI cap), .int ru, .int (nI tb), .ref b0])), (b0, .inl (cb, tb, .inl bf)), (x0, .inr (5, [.ref ur_6.1, .ref ur_6.2.1, .int (nI (ur_6.2.2.2.2.2.2.2.1)), .int ur_6.2.2.2.2.2.2.2.2])), (ur_6.1, .inl (ur_6.2.2.1, ur_6.2.2.2.2.1, .inl ur_6.2.2.2.2.2.1)), (ur_6.2.1, .inl (ur_6.2.2.2.1, ur_6.2.2.2.2.1, .inl ur_6.2.2.2.2.2.2.1))] H := hP
      replace hD : va_D A [(y0, .inr (3, [.ref x0, .int kd, .int wh, .int (nI cap), .int ru, .int (nI tb), .ref b0])), (b0, .inl (cb, tb, .inl bf)), (x0, .inr (5, [.ref ur_6.1, .ref ur_6.2.1, .int (nI (ur_6.2.2.2.2.2.2.2.1)), .int ur_6.2.2.2.2.2.2.2.2])), (ur_6.1, .inl (ur_6.2.2.1, ur_6.2.2.2.2.1, .inl ur_6.2.2.2.2.2.1)), (ur_6.2.1, .inl (ur_6.2.2.2.1, ur_6.2.2.2.2.1, .inl ur_6.2.2.2.2.2.2.1))] := hD
      refine W.tight (k := (2 * lgN (ur_6.2.2.2.2.1) - 2 * lgN L)) (n := (4 * (ur_6.2.2.2.2.1) - 4 * L)) hz7_ hn7_ ?_
      clear hn7_ hz7_
      refine W.eq (g2 := F0 m 50 ls []) rfl ?_
      have hR8 := jr_6.1
      obtain ⟨⟨m1_, m2_, m3_, m4_⟩, m5_, m6_, m7_⟩ := jr_6
      have hlg1_ : lgN (ur_6.2.2.2.2.1) = lgN L ∨ lgN (ur_6.2.2.2.2.1) = lgN L + 1 := lgN_two (by omega) (by omega)
      refine lv_iload hx hb dX2_enter_50 (lv_at hl 0 rfl) ?_
      refine lv_if_eq (tgt := 71) hx hb dX2_enter_52 (by decide) (fun c_7 => ?_) (fun c_7 => absurd c_7 (by decide))
      refine lv_iload hx hb dX2_enter_71 (lv_at hl 0 rfl) ?_
      refine lv_if_eq (tgt := 82) hx hb dX2_enter_73 (by decide) (fun c_8 => ?_) (fun c_8 => absurd c_8 (by decide))
      refine lv_aload_n hx hb dX2_enter_82 rfl (lv_at hl 2 rfl) ?_
      refine va_get (D := (dC, dI)) (ci := 3) (v := .ref x0) (C := RX2) (T := TX2) (N := 7) hx hb hts hi0_ hown hK hP 0 rfl rfl 0 (by decide) hw1_ (u_same hw2_) rfl dX2_enter_83 ?_
      have hPc := hP.sub (ws' := [(x0, .inr (5, [.ref ur_6.1, .ref ur_6.2.1, .int (nI (ur_6.2.2.2.2.2.2.2.1)), .int ur_6.2.2.2.2.2.2.2.2]))]) [2] rfl
      have hKc := hK.sub (tys' := []) [] rfl
      refine ro_calli (va_runV (As := []) (rest := []) ⟨hx, hb, hml, hown, hts⟩ (c_X5_size l  dC dI H.size x0 (nI (ur_6.2.2.2.2.2.2.2.1)) (.ref ur_6.1) (.ref ur_6.2.1) (.int ur_6.2.2.2.2.2.2.2.2)) (cwV 0 hts gX2_enter_X5_size rfl rfl rfl (by decide +kernel) ⟨(Nat.le_of_ble_eq_true rfl), (Nat.le_of_ble_eq_true rfl)⟩) ⟨pk_blindR, va_recv hKc hPc (ci := 5) (q0 := 0) rfl rfl, pk_callR hPc hKc⟩ rfl rfl hl.1 rfl (lv_room (Nat.le_of_ble_eq_true rfl)) dX2_enter_86 ⟨(show (2 * lgN (ur_6.2.2.2.2.1) - 2 * lgN L) + 0 ≤ 8 by omega), (show (4 * (ur_6.2.2.2.2.1) - 4 * L) + 0 ≤ gs + ds by omega)⟩) (fun r_9 ur_9 hw => ?_)
      clear hPc hKc
      try dsimp only at hw
      obtain rfl : r_9 = nI (ur_6.2.2.2.2.2.2.2.1) := hw
      refine W.eq (g2 := F0 m 89 ls [.int (nI (ur_6.2.2.2.2.2.2.2.1))]) rfl ?_
      refine lv_iconst (v := 4) hx hb dX2_enter_89 (by decide) ?_
      refine lv_imul hx hb dX2_enter_90 ?_
      refine lv_topi (fun z_10 ez_10 => ?_)
      obtain rfl : z_10 = nI (ur_6.2.2.2.2.2.2.2.1 * 4) := ez_10.trans (by rw [show (4 : Int32) = nI 4 from rfl, pk_mul])
      refine lv_aload_n hx hb dX2_enter_91 rfl (lv_at hl 2 rfl) ?_
      refine va_get (D := (dC, dI)) (ci := 3) (v := .int (nI tb)) (C := RX2) (T := TX2) (N := 7) hx hb hts hi0_ hown hK hP 0 rfl rfl 5 (by decide) hw0_ (fun _ h9 => h9) rfl dX2_enter_92 ?_
      refine lv_iconst (v := 3) hx hb dX2_enter_95 (by decide) ?_
      refine lv_imul hx hb dX2_enter_96 ?_
      refine lv_topi (fun z_11 ez_11 => ?_)
      obtain rfl : z_11 = nI (tb * 3) := ez_11.trans (by rw [show (3 : Int32) = nI 3 from rfl, pk_mul])
      refine lv_icmp_le (tgt := 104) hx hb dX2_enter_97 (by decide) (fun c_12 => ?_) (fun c_12 => ?_)
      ·
        have ic_12 : ((ur_6.2.2.2.2.2.2.2.1 * 4 : Nat) : Int) ≤ ((tb * 3 : Nat) : Int) := tx_le (nI_toInt (by omega)) (nI_toInt (by omega)) c_12
        refine W.book (fun hz9_ hn9_ => ?_)
        have hpost : enP tb L nz cap (tb) (ur_6.2.2.2.2.1) (ur_6.2.2.2.2.2.2.2.1) := by unfold enP hOK; exact ⟨⟨hR8, en_p hpL m7_, hcap, Or.inr ⟨by omega, by first | omega | (have := p2_1024 hq3 (by omega); omega), hq3, by omega, en_L hpL (hq3) (by omega) (by omega) m7_⟩⟩, by omega, by omega, by omega, by omega⟩
        have hLT_ : ur_6.2.2.2.2.1 = 16 ∨ ur_6.2.2.2.2.1 ≤ tb := en_L' hpL hq3 hq5 hq4 m7_
        have hlg1_ : lgN (ur_6.2.2.2.2.1) = lgN L ∨ lgN (ur_6.2.2.2.2.1) = lgN L + 1 := lgN_two (by omega) (by omega)
        have hcost : hT H + hPS tb L ≤ hT s.heap + hPS (tb) (ur_6.2.2.2.2.1) ∧ H.size + hPC tb L ≤ s.heap.size + hPC (tb) (ur_6.2.2.2.2.1) := by
          rw [hPS_1 (tb := tb) (by omega), hPC_1 (tb := tb) (by omega), hPS_1 (tb := tb) (by omega), hPC_1 (tb := tb) (by omega)]
          constructor <;> omega
        have hP9 := hP.sub (ws' := [(y0, .inr (3, [.ref x0, .int kd, .int wh, .int (nI cap), .int ru, .int (nI tb), .ref b0])), (x0, .inr (5, [.ref ur_6.1, .ref ur_6.2.1, .int (nI (ur_6.2.2.2.2.2.2.2.1)), .int ur_6.2.2.2.2.2.2.2.2])), (ur_6.1, .inl (ur_6.2.2.1, ur_6.2.2.2.2.1, .inl ur_6.2.2.2.2.2.1)), (ur_6.2.1, .inl (ur_6.2.2.2.1, ur_6.2.2.2.2.1, .inl ur_6.2.2.2.2.2.2.1)), (b0, .inl (cb, tb, .inl bf))]) [0, 2, 3, 4, 1] rfl
        have hD9 := hD.sub (ws' := [(y0, .inr (3, [.ref x0, .int kd, .int wh, .int (nI cap), .int ru, .int (nI tb), .ref b0])), (x0, .inr (5, [.ref ur_6.1, .ref ur_6.2.1, .int (nI (ur_6.2.2.2.2.2.2.2.1)), .int ur_6.2.2.2.2.2.2.2.2])), (ur_6.1, .inl (ur_6.2.2.1, ur_6.2.2.2.2.1, .inl ur_6.2.2.2.2.2.1)), (ur_6.2.1, .inl (ur_6.2.2.2.1, ur_6.2.2.2.2.1, .inl ur_6.2.2.2.2.2.2.1)), (b0, .inl (cb, tb, .inl bf))]) [0, 2, 3, 4, 1] (by decide) rfl
        have hK9 := hK.sub (tys' := [(ur_6.2.2.1, .int), (ur_6.2.2.2.1, .int), (cb, .boolean)]) [3, 4, 2] rfl
        refine W.widen (k := 8) (n := gs + ds) (by omega) (by omega) ?_
        exact W.vret hx hb hr (fun t ht hW => ⟨⟨(tb, b0, cb, bf, ur_6.1, ur_6.2.1, ur_6.2.2.1, ur_6.2.2.2.1, ur_6.2.2.2.2.1, ur_6.2.2.2.2.2.1, ur_6.2.2.2.2.2.2.1, ur_6.2.2.2.2.2.2.2.1, ur_6.2.2.2.2.2.2.2.2), rfl, hpost, by rw [ht]; exact hP9, va_K.moved hW.alike hK9, hD9, by rw [ht]; exact hcost⟩, hS.F ht⟩) hS.2.2 dX2_enter_104
      ·
        have ic_12 : ((tb * 3 : Nat) : Int) < ((ur_6.2.2.2.2.2.2.2.1 * 4 : Nat) : Int) := tx_nle (nI_toInt (by omega)) (nI_toInt (by omega)) c_12
        refine lv_aload_n hx hb dX2_enter_100 rfl (lv_at hl 2 rfl) ?_
        have hPc := hP.sub (ws' := [(y0, .inr (3, [.ref x0, .int kd, .int wh, .int (nI cap), .int ru, .int (nI tb), .ref b0])), (x0, .inr (5, [.ref ur_6.1, .ref ur_6.2.1, .int (nI (ur_6.2.2.2.2.2.2.2.1)), .int ur_6.2.2.2.2.2.2.2.2])), (ur_6.1, .inl (ur_6.2.2.1, ur_6.2.2.2.2.1, .inl ur_6.2.2.2.2.2.1)), (ur_6.2.1, .inl (ur_6.2.2.2.1, ur_6.2.2.2.2.1, .inl ur_6.2.2.2.2.2.2.1)), (b0, .inl (cb, tb, .inl bf))]) [0, 2, 3, 4, 1] rfl
        have hDc := hD.sub (ws' := [(y0, .inr (3, [.ref x0, .int kd, .int wh, .int (nI cap), .int ru, .int (nI tb), .ref b0])), (x0, .inr (5, [.ref ur_6.1, .ref ur_6.2.1, .int (nI (ur_6.2.2.2.2.2.2.2.1)), .int ur_6.2.2.2.2.2.2.2.2])), (ur_6.1, .inl (ur_6.2.2.1, ur_6.2.2.2.2.1, .inl ur_6.2.2.2.2.2.1)), (ur_6.2.1, .inl (ur_6.2.2.2.1, ur_6.2.2.2.2.1, .inl ur_6.2.2.2.2.2.2.1)), (b0, .inl (cb, tb, .inl bf))]) [0, 2, 3, 4, 1] (by decide) rfl
        have hKc := hK.sub (tys' := [(ur_6.2.2.1, .int), (ur_6.2.2.2.1, .int), (cb, .boolean)]) [3, 4, 2] rfl
        have hFc := va_free (wc := [(y0, .inr (3, [.ref x0, .int kd, .int wh, .int (nI cap), .int ru, .int (nI tb), .ref b0])), (x0, .inr (5, [.ref ur_6.1, .ref ur_6.2.1, .int (nI (ur_6.2.2.2.2.2.2.2.1)), .int ur_6.2.2.2.2.2.2.2.2])), (ur_6.1, .inl (ur_6.2.2.1, ur_6.2.2.2.2.1, .inl ur_6.2.2.2.2.2.1)), (ur_6.2.1, .inl (ur_6.2.2.2.1, ur_6.2.2.2.2.1, .inl ur_6.2.2.2.2.2.2.1)), (b0, .inl (cb, tb, .inl bf))]) hD hS hA [0, 2, 3, 4, 1] rfl
        refine va_callv (va_runV (As := []) (rest := []) ⟨hx, hb, hml, hown, hts⟩ (c_X2_doubleTable l  dC dI H.size y0 kd wh cap ru tb b0 cb bf x0 ur_6.1 ur_6.2.1 ur_6.2.2.1 ur_6.2.2.2.1 ur_6.2.2.2.2.1 ur_6.2.2.2.2.2.1 ur_6.2.2.2.2.2.2.1 ur_6.2.2.2.2.2.2.2.1 ur_6.2.2.2.2.2.2.2.2 hR8 hq1 (by first | omega | exact p2_1024 hq3 (by omega))) (cwV 0 hts gX2_enter_X2_doubleTable rfl rfl rfl (by decide +kernel) ⟨(Nat.le_of_ble_eq_true rfl), (Nat.le_of_ble_eq_true rfl)⟩) ⟨pk_blind, va_recv hKc hPc (ci := 3) (q0 := 0) rfl rfl, pk_call hPc hKc hDc⟩ rfl rfl hl.1 rfl (lv_room (Nat.le_of_ble_eq_true rfl)) dX2_enter_101 ⟨(show (2 * lgN (ur_6.2.2.2.2.1) - 2 * lgN L) + 5 ≤ 8 by omega), (show (4 * (ur_6.2.2.2.2.1) - 4 * L) + (4 * tb + ur_6.2.2.2.2.2.2.2.1 + 2 * ur_6.2.2.2.2.1) ≤ gs + ds by omega)⟩) hS (fun q _ h => hFc q h) hFc (fun ur_13 t H1 locs ht hvm hw hB hz1 hk1 hS => ?_)
        try dsimp only at hw
        have jr_13 := hw
        obtain ⟨hP1, hK1, hD1⟩ := hB
        rw [ht] at hP1
        have hK1 := va_K.moved hvm.symm hK1
        obtain ⟨hP, hD⟩ := va_join (wr := []) (w1 := [(y0, .inr (3, [.ref x0, .int kd, .int wh, .int (nI cap), .int ru, .int (nI (tb * 2)), .ref ur_13.1])), (x0, .inr (5, [.ref ur_13.2.2.2.1, .ref ur_13.2.2.2.2.1, .int (nI (ur_6.2.2.2.2.2.2.2.1)), .int ur_6.2.2.2.2.2.2.2.2])), (ur_13.2.2.2.1, .inl (ur_13.2.2.2.2.2.1, ur_6.2.2.2.2.1, .inl ur_13.2.2.2.2.2.2.2.1)), (ur_13.2.2.2.2.1, .inl (ur_13.2.2.2.2.2.2.1, ur_6.2.2.2.2.1, .inl ur_13.2.2.2.2.2.2.2.2)), (ur_13.1, .inl (ur_13.2.1, tb * 2, .inl ur_13.2.2.1))]) hP hD [0, 2, 3, 4, 1] [] rfl rfl (by decide) (by decide) hk1 hFc hP1 hD1
        have hK := hK.app hK1
        have hK : va_K (dC, dI) vwCl [(ck, .int), (cw, .int), (cb, .boolean), (ur_6.2.2.1, .int), (ur_6.2.2.2.1, .int), (ur_13.2.2.2.2.2.1, .int), (ur_13.2.2.2.2.2.2.1, .int), (ur_13.2.1, .boolean)] s := hK
        clear hk1 hz1 ht hPc hDc hKc hFc
        generalize H1 = H at hP hS ⊢
        replace hP : va_P (dC, dI) vwCl [(y0, .inr (3, [.ref x0, .int kd, .int wh, .int (nI cap), .int ru, .int (nI (tb * 2)), .ref ur_13.1])), (x0, .inr (5, [.ref ur_13.2.2.2.1, .ref ur_13.2.2.2.2.1, .int (nI (ur_6.2.2.2.2.2.2.2.1)), .int ur_6.2.2.2.2.2.2.2.2])), (ur_13.2.2.2.1, .inl (ur_13.2.2.2.2.2.1, ur_6.2.2.2.2.1, .inl ur_13.2.2.2.2.2.2.2.1)), (ur_13.2.2.2.2.1, .inl (ur_13.2.2.2.2.2.2.1, ur_6.2.2.2.2.1, .inl ur_13.2.2.2.2.2.2.2.2)), (ur_13.1, .inl (ur_13.2.1, tb * 2, .inl ur_13.2.2.1))] H := hP
        replace hD : va_D A [(y0, .inr (3, [.ref x0, .int kd, .int wh, .int (nI cap), .int ru, .int (nI (tb * 2)), .ref ur_13.1])), (x0, .inr (5, [.ref ur_13.2.2.2.1, .ref ur_13.2.2.2.2.1, .int (nI (ur_6.2.2.2.2.2.2.2.1)), .int ur_6.2.2.2.2.2.2.2.2])), (ur_13.2.2.2.1, .inl (ur_13.2.2.2.2.2.1, ur_6.2.2.2.2.1, .inl ur_13.2.2.2.2.2.2.2.1)), (ur_13.2.2.2.2.1, .inl (ur_13.2.2.2.2.2.2.1, ur_6.2.2.2.2.1, .inl ur_13.2.2.2.2.2.2.2.2)), (ur_13.1, .inl (ur_13.2.1, tb * 2, .inl ur_13.2.2.1))] := hD
        refine W.widen (k := (2 * lgN (ur_6.2.2.2.2.1) - 2 * lgN L) + 5) (n := (4 * (ur_6.2.2.2.2.1) - 4 * L) + (4 * tb + ur_6.2.2.2.2.2.2.2.1 + 2 * ur_6.2.2.2.2.1)) (by omega) (by omega) ?_
        refine W.eq (g2 := F0 m 104 ls []) rfl ?_
        refine W.book (fun hz9_ hn9_ => ?_)
        have hpost : enP tb L nz cap (tb * 2) (ur_6.2.2.2.2.1) (ur_6.2.2.2.2.2.2.2.1) := by unfold enP hOK; exact ⟨⟨hR8, en_p hpL m7_, hcap, Or.inr ⟨by omega, by first | omega | (have := p2_1024 hq3 (by omega); omega), p2_dbl' hq3, by omega, en_L hpL (p2_dbl' hq3) (by omega) (by omega) m7_⟩⟩, by omega, by omega, by omega, by omega⟩
        have hLT_ : ur_6.2.2.2.2.1 = 16 ∨ ur_6.2.2.2.2.1 ≤ tb := en_L' hpL hq3 hq5 hq4 m7_
        have hlg1_ : lgN (ur_6.2.2.2.2.1) = lgN L ∨ lgN (ur_6.2.2.2.2.1) = lgN L + 1 := lgN_two (by omega) (by omega)
        have hlg2_ : lgN (tb * 2) = lgN tb + 1 := lgN_dbl (by omega)
        have hcost : hT H + hPS tb L ≤ hT s.heap + hPS (tb * 2) (ur_6.2.2.2.2.1) ∧ H.size + hPC tb L ≤ s.heap.size + hPC (tb * 2) (ur_6.2.2.2.2.1) := by
          rw [hPS_1 (tb := tb * 2) (by omega), hPC_1 (tb := tb * 2) (by omega), hPS_1 (tb := tb) (by omega), hPC_1 (tb := tb) (by omega)]
          constructor <;> omega
        have hP9 := hP.sub (ws' := [(y0, .inr (3, [.ref x0, .int kd, .int wh, .int (nI cap), .int ru, .int (nI (tb * 2)), .ref ur_13.1])), (x0, .inr (5, [.ref ur_13.2.2.2.1, .ref ur_13.2.2.2.2.1, .int (nI (ur_6.2.2.2.2.2.2.2.1)), .int ur_6.2.2.2.2.2.2.2.2])), (ur_13.2.2.2.1, .inl (ur_13.2.2.2.2.2.1, ur_6.2.2.2.2.1, .inl ur_13.2.2.2.2.2.2.2.1)), (ur_13.2.2.2.2.1, .inl (ur_13.2.2.2.2.2.2.1, ur_6.2.2.2.2.1, .inl ur_13.2.2.2.2.2.2.2.2)), (ur_13.1, .inl (ur_13.2.1, tb * 2, .inl ur_13.2.2.1))]) [0, 1, 2, 3, 4] rfl
        have hD9 := hD.sub (ws' := [(y0, .inr (3, [.ref x0, .int kd, .int wh, .int (nI cap), .int ru, .int (nI (tb * 2)), .ref ur_13.1])), (x0, .inr (5, [.ref ur_13.2.2.2.1, .ref ur_13.2.2.2.2.1, .int (nI (ur_6.2.2.2.2.2.2.2.1)), .int ur_6.2.2.2.2.2.2.2.2])), (ur_13.2.2.2.1, .inl (ur_13.2.2.2.2.2.1, ur_6.2.2.2.2.1, .inl ur_13.2.2.2.2.2.2.2.1)), (ur_13.2.2.2.2.1, .inl (ur_13.2.2.2.2.2.2.1, ur_6.2.2.2.2.1, .inl ur_13.2.2.2.2.2.2.2.2)), (ur_13.1, .inl (ur_13.2.1, tb * 2, .inl ur_13.2.2.1))]) [0, 1, 2, 3, 4] (by decide) rfl
        have hK9 := hK.sub (tys' := [(ur_13.2.2.2.2.2.1, .int), (ur_13.2.2.2.2.2.2.1, .int), (ur_13.2.1, .boolean)]) [5, 6, 7] rfl
        refine W.widen (k := 8) (n := gs + ds) (by omega) (by omega) ?_
        exact W.vret hx hb hr (fun t ht hW => ⟨⟨(tb * 2, ur_13.1, ur_13.2.1, ur_13.2.2.1, ur_13.2.2.2.1, ur_13.2.2.2.2.1, ur_13.2.2.2.2.2.1, ur_13.2.2.2.2.2.2.1, ur_6.2.2.2.2.1, ur_13.2.2.2.2.2.2.2.1, ur_13.2.2.2.2.2.2.2.2, ur_6.2.2.2.2.2.2.2.1, ur_6.2.2.2.2.2.2.2.2), rfl, hpost, by rw [ht]; exact hP9, va_K.moved hW.alike hK9, hD9, by rw [ht]; exact hcost⟩, hS.F ht⟩) hS.2.2 dX2_enter_104
    ·
      have ic_4 : 8 ≤ r_3.toInt := tx_nlt rfl (by decide) c_4
      refine lv_iconst (v := 1) hx hb dX2_enter_27 (by decide) ?_
      refine lv_goto (tgt := 32) hx hb dX2_enter_28 (by decide) ?_
      refine lv_istore (lv' := [(4, .int 1), (3, .int r_2), (0, .ref y0), (1, .int p0), (2, .int p1)]) hx hb dX2_enter_32 hl (by decide) rfl (fun ls hl => ?_)
      refine lv_aload_n hx hb dX2_enter_34 rfl (lv_at hl 2 rfl) ?_
      refine va_get (D := (dC, dI)) (ci := 3) (v := .ref x0) (C := RX2) (T := TX2) (N := 7) hx hb hts hi0_ hown hK hP 0 rfl rfl 0 (by decide) hw1_ (u_same hw2_) rfl dX2_enter_35 ?_
      refine lv_aload_n hx hb dX2_enter_38 rfl (lv_at hl 2 rfl) ?_
      refine lv_iload_n hx hb dX2_enter_39 rfl (lv_at hl 1 rfl) ?_
      refine lv_iconst (v := 1) hx hb dX2_enter_40 (by decide) ?_
      refine lv_iadd hx hb dX2_enter_41 ?_
      have hPc := hP.sub (ws' := [(y0, .inr (3, [.ref x0, .int kd, .int wh, .int (nI cap), .int ru, .int (nI tb), .ref b0])), (x0, .inr (5, [.ref k0, .ref w0, .int (nI nz), .int ch])), (k0, .inl (ck, L, .inl f)), (w0, .inl (cw, L, .inl g)), (b0, .inl (cb, tb, .inl bf))]) [0, 1, 2, 3, 4] rfl
      have hKc := hK.sub (tys' := [(ck, .int), (cw, .int), (cb, .boolean)]) [0, 1, 2] rfl
      refine ro_calli (va_runV (As := [.int (r_2 + 1)]) (rest := [.ref x0]) ⟨hx, hb, hml, hown, hts⟩ (c_X2_startOf l  dC dI s.heap.size y0 kd wh cap ru tb b0 cb bf x0 k0 w0 ck cw L f g nz ch (r_2 + 1) hR9) (cwV 1 hts gX2_enter_X2_startOf rfl rfl rfl (by decide +kernel) ⟨(Nat.le_of_ble_eq_true rfl), (Nat.le_of_ble_eq_true rfl)⟩) ⟨pk_blindR, va_recv hKc hPc (ci := 3) (q0 := 0) rfl rfl, pk_callR hPc hKc⟩ rfl rfl hl.1 rfl (lv_room (Nat.le_of_ble_eq_true rfl)) dX2_enter_42 ⟨(Nat.le_of_ble_eq_true rfl), (show 0 + 0 ≤ gs + ds by omega)⟩) (fun r_14 ur_14 hw => ?_)
      clear hPc hKc
      try dsimp only at hw
      have jr_14 := hw
      obtain ⟨kc, hkc, rfl⟩ := jr_14
      refine W.eq (g2 := F0 m 45 ls [.int (nI kc), .ref x0]) rfl ?_
      refine lv_iload_n hx hb dX2_enter_45 rfl (lv_at hl 3 rfl) ?_
      refine lv_iload_n hx hb dX2_enter_46 rfl (lv_at hl 4 rfl) ?_
      have hPc := hP.sub (ws' := [(x0, .inr (5, [.ref k0, .ref w0, .int (nI nz), .int ch])), (k0, .inl (ck, L, .inl f)), (w0, .inl (cw, L, .inl g))]) [1, 2, 3] rfl
      have hDc := hD.sub (ws' := [(x0, .inr (5, [.ref k0, .ref w0, .int (nI nz), .int ch])), (k0, .inl (ck, L, .inl f)), (w0, .inl (cw, L, .inl g))]) [1, 2, 3] (by decide) rfl
      have hKc := hK.sub (tys' := [(ck, .int), (cw, .int)]) [0, 1] rfl
      have hFc := va_free (wc := [(x0, .inr (5, [.ref k0, .ref w0, .int (nI nz), .int ch])), (k0, .inl (ck, L, .inl f)), (w0, .inl (cw, L, .inl g))]) hD hS hA [1, 2, 3] rfl
      refine W.book (fun hz8_ hn8_ => ?_)
      refine va_callv (va_runV (As := [.int (nI kc), .int p0, .int p1]) (rest := []) ⟨hx, hb, hml, hown, hts⟩ (c_X5_insert l  dC dI s.heap.size (hT s.heap) x0 k0 w0 ck cw L f g nz ch (nI kc) p0 p1 2 gs hR9 (by omega)) (cwV 3 hts gX2_enter_X5_insert rfl rfl rfl (by decide +kernel) ⟨(Nat.le_of_ble_eq_true rfl), (Nat.le_of_ble_eq_true rfl)⟩) ⟨pk_blindT, va_recv hKc hPc (ci := 5) (q0 := 0) rfl rfl, pk_callT hPc hKc hDc⟩ rfl rfl hl.1 rfl (lv_room (Nat.le_of_ble_eq_true rfl)) dX2_enter_47 ⟨(Nat.le_of_ble_eq_true rfl), (show 0 + gs ≤ gs + ds by omega)⟩) hS (fun q _ h => hFc q h) hFc (fun ur_15 t H1 locs ht hvm hw hB hz1 hk1 hS => ?_)
      try dsimp only at hw
      have jr_15 := hw
      obtain ⟨hP1, hK1, hD1, hC1_⟩ := hB
      rw [ht] at hP1 hC1_
      have hK1 := va_K.moved hvm.symm hK1
      obtain ⟨hP, hD⟩ := va_join (wr := [(y0, .inr (3, [.ref x0, .int kd, .int wh, .int (nI cap), .int ru, .int (nI tb), .ref b0])), (b0, .inl (cb, tb, .inl bf))]) (w1 := [(x0, .inr (5, [.ref ur_15.1, .ref ur_15.2.1, .int (nI (ur_15.2.2.2.2.2.2.2.1)), .int ur_15.2.2.2.2.2.2.2.2])), (ur_15.1, .inl (ur_15.2.2.1, ur_15.2.2.2.2.1, .inl ur_15.2.2.2.2.2.1)), (ur_15.2.1, .inl (ur_15.2.2.2.1, ur_15.2.2.2.2.1, .inl ur_15.2.2.2.2.2.2.1))]) hP hD [1, 2, 3] [0, 4] rfl rfl (by decide) (by decide) hk1 hFc hP1 hD1
      have hK := hK.app hK1
      have hK : va_K (dC, dI) vwCl [(ck, .int), (cw, .int), (cb, .boolean), (ur_15.2.2.1, .int), (ur_15.2.2.2.1, .int)] s := hK
      have hl7_ := jr_15.2.2.2
      have hn7_ : hT H1 ≤ hT s.heap + ((4 * (ur_15.2.2.2.2.1) - 4 * L)) := by omega
      have hz7_ : H1.size ≤ s.heap.size + ((2 * lgN (ur_15.2.2.2.2.1) - 2 * lgN L)) := by omega
      clear hC1_ hn8_ hz8_
      clear hk1 hz1 ht hPc hDc hKc hFc
      generalize H1 = H at hP hS hn7_ hz7_ ⊢
      replace hP : va_P (dC, dI) vwCl [(y0, .inr (3, [.ref x0, .int kd, .int wh, .int (nI cap), .int ru, .int (nI tb), .ref b0])), (b0, .inl (cb, tb, .inl bf)), (x0, .inr (5, [.ref ur_15.1, .ref ur_15.2.1, .int (nI (ur_15.2.2.2.2.2.2.2.1)), .int ur_15.2.2.2.2.2.2.2.2])), (ur_15.1, .inl (ur_15.2.2.1, ur_15.2.2.2.2.1, .inl ur_15.2.2.2.2.2.1)), (ur_15.2.1, .inl (ur_15.2.2.2.1, ur_15.2.2.2.2.1, .inl ur_15.2.2.2.2.2.2.1))] H := hP
      replace hD : va_D A [(y0, .inr (3, [.ref x0, .int kd, .int wh, .int (nI cap), .int ru, .int (nI tb), .ref b0])), (b0, .inl (cb, tb, .inl bf)), (x0, .inr (5, [.ref ur_15.1, .ref ur_15.2.1, .int (nI (ur_15.2.2.2.2.2.2.2.1)), .int ur_15.2.2.2.2.2.2.2.2])), (ur_15.1, .inl (ur_15.2.2.1, ur_15.2.2.2.2.1, .inl ur_15.2.2.2.2.2.1)), (ur_15.2.1, .inl (ur_15.2.2.2.1, ur_15.2.2.2.2.1, .inl ur_15.2.2.2.2.2.2.1))] := hD
      refine W.tight (k := (2 * lgN (ur_15.2.2.2.2.1) - 2 * lgN L)) (n := (4 * (ur_15.2.2.2.2.1) - 4 * L)) hz7_ hn7_ ?_
      clear hn7_ hz7_
      refine W.eq (g2 := F0 m 50 ls []) rfl ?_
      have hR8 := jr_15.1
      obtain ⟨⟨m1_, m2_, m3_, m4_⟩, m5_, m6_, m7_⟩ := jr_15
      have hlg1_ : lgN (ur_15.2.2.2.2.1) = lgN L ∨ lgN (ur_15.2.2.2.2.1) = lgN L + 1 := lgN_two (by omega) (by omega)
      refine lv_iload hx hb dX2_enter_50 (lv_at hl 0 rfl) ?_
      refine lv_if_eq (tgt := 71) hx hb dX2_enter_52 (by decide) (fun c_16 => absurd c_16 (by decide)) (fun c_16 => ?_)
      refine lv_aload_n hx hb dX2_enter_55 rfl (lv_at hl 2 rfl) ?_
      refine va_get (D := (dC, dI)) (ci := 3) (v := .int (nI tb)) (C := RX2) (T := TX2) (N := 7) hx hb hts hi0_ hown hK hP 0 rfl rfl 5 (by decide) hw0_ (fun _ h9 => h9) rfl dX2_enter_56 ?_
      refine lv_bipush (v := 64) hx hb dX2_enter_59 (by decide) ?_
      refine lv_icmp_ge (tgt := 71) hx hb dX2_enter_61 (by decide) (fun c_17 => ?_) (fun c_17 => ?_)
      ·
        have ic_17 : 64 ≤ ((tb : Nat) : Int) := tx_le (by decide) (nI_toInt (by omega)) c_17
        refine lv_iload hx hb dX2_enter_71 (lv_at hl 0 rfl) ?_
        refine lv_if_eq (tgt := 82) hx hb dX2_enter_73 (by decide) (fun c_18 => absurd c_18 (by decide)) (fun c_18 => ?_)
        refine lv_aload_n hx hb dX2_enter_76 rfl (lv_at hl 2 rfl) ?_
        refine lv_iload_n hx hb dX2_enter_77 rfl (lv_at hl 1 rfl) ?_
        refine lv_iconst (v := 1) hx hb dX2_enter_78 (by decide) ?_
        have hPc := hP.sub (ws' := [(y0, .inr (3, [.ref x0, .int kd, .int wh, .int (nI cap), .int ru, .int (nI tb), .ref b0])), (x0, .inr (5, [.ref ur_15.1, .ref ur_15.2.1, .int (nI (ur_15.2.2.2.2.2.2.2.1)), .int ur_15.2.2.2.2.2.2.2.2])), (ur_15.1, .inl (ur_15.2.2.1, ur_15.2.2.2.2.1, .inl ur_15.2.2.2.2.2.1)), (ur_15.2.1, .inl (ur_15.2.2.2.1, ur_15.2.2.2.2.1, .inl ur_15.2.2.2.2.2.2.1)), (b0, .inl (cb, tb, .inl bf))]) [0, 2, 3, 4, 1] rfl
        have hDc := hD.sub (ws' := [(y0, .inr (3, [.ref x0, .int kd, .int wh, .int (nI cap), .int ru, .int (nI tb), .ref b0])), (x0, .inr (5, [.ref ur_15.1, .ref ur_15.2.1, .int (nI (ur_15.2.2.2.2.2.2.2.1)), .int ur_15.2.2.2.2.2.2.2.2])), (ur_15.1, .inl (ur_15.2.2.1, ur_15.2.2.2.2.1, .inl ur_15.2.2.2.2.2.1)), (ur_15.2.1, .inl (ur_15.2.2.2.1, ur_15.2.2.2.2.1, .inl ur_15.2.2.2.2.2.2.1)), (b0, .inl (cb, tb, .inl bf))]) [0, 2, 3, 4, 1] (by decide) rfl
        have hKc := hK.sub (tys' := [(ur_15.2.2.1, .int), (ur_15.2.2.2.1, .int), (cb, .boolean)]) [3, 4, 2] rfl
        have hFc := va_free (wc := [(y0, .inr (3, [.ref x0, .int kd, .int wh, .int (nI cap), .int ru, .int (nI tb), .ref b0])), (x0, .inr (5, [.ref ur_15.1, .ref ur_15.2.1, .int (nI (ur_15.2.2.2.2.2.2.2.1)), .int ur_15.2.2.2.2.2.2.2.2])), (ur_15.1, .inl (ur_15.2.2.1, ur_15.2.2.2.2.1, .inl ur_15.2.2.2.2.2.1)), (ur_15.2.1, .inl (ur_15.2.2.2.1, ur_15.2.2.2.2.1, .inl ur_15.2.2.2.2.2.2.1)), (b0, .inl (cb, tb, .inl bf))]) hD hS hA [0, 2, 3, 4, 1] rfl
        refine va_callv (va_runV (As := [.int r_2, .int 1]) (rest := []) ⟨hx, hb, hml, hown, hts⟩ (c_X2_setBushy l  dC dI H.size y0 kd wh cap ru tb b0 cb bf x0 ur_15.1 ur_15.2.1 ur_15.2.2.1 ur_15.2.2.2.1 ur_15.2.2.2.2.1 ur_15.2.2.2.2.2.1 ur_15.2.2.2.2.2.2.1 ur_15.2.2.2.2.2.2.2.1 ur_15.2.2.2.2.2.2.2.2 r_2 1 (by omega)) (cwV 2 hts gX2_enter_X2_setBushy rfl rfl rfl (by decide +kernel) ⟨(Nat.le_of_ble_eq_true rfl), (Nat.le_of_ble_eq_true rfl)⟩) ⟨pk_blind, va_recv hKc hPc (ci := 3) (q0 := 0) rfl rfl, pk_call hPc hKc hDc⟩ rfl rfl hl.1 rfl (lv_room (Nat.le_of_ble_eq_true rfl)) dX2_enter_79 ⟨(show (2 * lgN (ur_15.2.2.2.2.1) - 2 * lgN L) + 0 ≤ 8 by omega), (show (4 * (ur_15.2.2.2.2.1) - 4 * L) + 0 ≤ gs + ds by omega)⟩) hS (fun q _ h => hFc q h) hFc (fun ur_19 t H1 locs ht hvm hw hB hz1 hk1 hS => ?_)
        try dsimp only at hw
        have jr_19 := hw
        obtain ⟨hP1, hK1, hD1⟩ := hB
        rw [ht] at hP1
        have hK1 := va_K.moved hvm.symm hK1
        obtain ⟨hP, hD⟩ := va_join (wr := []) (w1 := [(y0, .inr (3, [.ref x0, .int kd, .int wh, .int (nI cap), .int ru, .int (nI tb), .ref b0])), (x0, .inr (5, [.ref ur_15.1, .ref ur_15.2.1, .int (nI (ur_15.2.2.2.2.2.2.2.1)), .int ur_15.2.2.2.2.2.2.2.2])), (ur_15.1, .inl (ur_15.2.2.1, ur_15.2.2.2.2.1, .inl ur_15.2.2.2.2.2.1)), (ur_15.2.1, .inl (ur_15.2.2.2.1, ur_15.2.2.2.2.1, .inl ur_15.2.2.2.2.2.2.1)), (b0, .inl (cb, tb, .inl ur_19))]) hP hD [0, 2, 3, 4, 1] [] rfl rfl (by decide) (by decide) hk1 hFc hP1 hD1
        clear hk1 hz1 ht hPc hDc hKc hFc
        generalize H1 = H at hP hS ⊢
        replace hP : va_P (dC, dI) vwCl [(y0, .inr (3, [.ref x0, .int kd, .int wh, .int (nI cap), .int ru, .int (nI tb), .ref b0])), (x0, .inr (5, [.ref ur_15.1, .ref ur_15.2.1, .int (nI (ur_15.2.2.2.2.2.2.2.1)), .int ur_15.2.2.2.2.2.2.2.2])), (ur_15.1, .inl (ur_15.2.2.1, ur_15.2.2.2.2.1, .inl ur_15.2.2.2.2.2.1)), (ur_15.2.1, .inl (ur_15.2.2.2.1, ur_15.2.2.2.2.1, .inl ur_15.2.2.2.2.2.2.1)), (b0, .inl (cb, tb, .inl ur_19))] H := hP
        replace hD : va_D A [(y0, .inr (3, [.ref x0, .int kd, .int wh, .int (nI cap), .int ru, .int (nI tb), .ref b0])), (x0, .inr (5, [.ref ur_15.1, .ref ur_15.2.1, .int (nI (ur_15.2.2.2.2.2.2.2.1)), .int ur_15.2.2.2.2.2.2.2.2])), (ur_15.1, .inl (ur_15.2.2.1, ur_15.2.2.2.2.1, .inl ur_15.2.2.2.2.2.1)), (ur_15.2.1, .inl (ur_15.2.2.2.1, ur_15.2.2.2.2.1, .inl ur_15.2.2.2.2.2.2.1)), (b0, .inl (cb, tb, .inl ur_19))] := hD
        refine W.widen (k := (2 * lgN (ur_15.2.2.2.2.1) - 2 * lgN L)) (n := (4 * (ur_15.2.2.2.2.1) - 4 * L)) (by omega) (by omega) ?_
        refine W.eq (g2 := F0 m 82 ls []) rfl ?_
        refine lv_aload_n hx hb dX2_enter_82 rfl (lv_at hl 2 rfl) ?_
        refine va_get (D := (dC, dI)) (ci := 3) (v := .ref x0) (C := RX2) (T := TX2) (N := 7) hx hb hts hi0_ hown hK hP 0 rfl rfl 0 (by decide) hw1_ (u_same hw2_) rfl dX2_enter_83 ?_
        have hPc := hP.sub (ws' := [(x0, .inr (5, [.ref ur_15.1, .ref ur_15.2.1, .int (nI (ur_15.2.2.2.2.2.2.2.1)), .int ur_15.2.2.2.2.2.2.2.2]))]) [1] rfl
        have hKc := hK.sub (tys' := []) [] rfl
        refine ro_calli (va_runV (As := []) (rest := []) ⟨hx, hb, hml, hown, hts⟩ (c_X5_size l  dC dI H.size x0 (nI (ur_15.2.2.2.2.2.2.2.1)) (.ref ur_15.1) (.ref ur_15.2.1) (.int ur_15.2.2.2.2.2.2.2.2)) (cwV 0 hts gX2_enter_X5_size rfl rfl rfl (by decide +kernel) ⟨(Nat.le_of_ble_eq_true rfl), (Nat.le_of_ble_eq_true rfl)⟩) ⟨pk_blindR, va_recv hKc hPc (ci := 5) (q0 := 0) rfl rfl, pk_callR hPc hKc⟩ rfl rfl hl.1 rfl (lv_room (Nat.le_of_ble_eq_true rfl)) dX2_enter_86 ⟨(show (2 * lgN (ur_15.2.2.2.2.1) - 2 * lgN L) + 0 ≤ 8 by omega), (show (4 * (ur_15.2.2.2.2.1) - 4 * L) + 0 ≤ gs + ds by omega)⟩) (fun r_20 ur_20 hw => ?_)
        clear hPc hKc
        try dsimp only at hw
        obtain rfl : r_20 = nI (ur_15.2.2.2.2.2.2.2.1) := hw
        refine W.eq (g2 := F0 m 89 ls [.int (nI (ur_15.2.2.2.2.2.2.2.1))]) rfl ?_
        refine lv_iconst (v := 4) hx hb dX2_enter_89 (by decide) ?_
        refine lv_imul hx hb dX2_enter_90 ?_
        refine lv_topi (fun z_21 ez_21 => ?_)
        obtain rfl : z_21 = nI (ur_15.2.2.2.2.2.2.2.1 * 4) := ez_21.trans (by rw [show (4 : Int32) = nI 4 from rfl, pk_mul])
        refine lv_aload_n hx hb dX2_enter_91 rfl (lv_at hl 2 rfl) ?_
        refine va_get (D := (dC, dI)) (ci := 3) (v := .int (nI tb)) (C := RX2) (T := TX2) (N := 7) hx hb hts hi0_ hown hK hP 0 rfl rfl 5 (by decide) hw0_ (fun _ h9 => h9) rfl dX2_enter_92 ?_
        refine lv_iconst (v := 3) hx hb dX2_enter_95 (by decide) ?_
        refine lv_imul hx hb dX2_enter_96 ?_
        refine lv_topi (fun z_22 ez_22 => ?_)
        obtain rfl : z_22 = nI (tb * 3) := ez_22.trans (by rw [show (3 : Int32) = nI 3 from rfl, pk_mul])
        refine lv_icmp_le (tgt := 104) hx hb dX2_enter_97 (by decide) (fun c_23 => ?_) (fun c_23 => ?_)
        ·
          have ic_23 : ((ur_15.2.2.2.2.2.2.2.1 * 4 : Nat) : Int) ≤ ((tb * 3 : Nat) : Int) := tx_le (nI_toInt (by omega)) (nI_toInt (by omega)) c_23
          refine W.book (fun hz9_ hn9_ => ?_)
          have hpost : enP tb L nz cap (tb) (ur_15.2.2.2.2.1) (ur_15.2.2.2.2.2.2.2.1) := by unfold enP hOK; exact ⟨⟨hR8, en_p hpL m7_, hcap, Or.inr ⟨by omega, by first | omega | (have := p2_1024 hq3 (by omega); omega), hq3, by omega, en_L hpL (hq3) (by omega) (by omega) m7_⟩⟩, by omega, by omega, by omega, by omega⟩
          have hLT_ : ur_15.2.2.2.2.1 = 16 ∨ ur_15.2.2.2.2.1 ≤ tb := en_L' hpL hq3 hq5 hq4 m7_
          have hlg1_ : lgN (ur_15.2.2.2.2.1) = lgN L ∨ lgN (ur_15.2.2.2.2.1) = lgN L + 1 := lgN_two (by omega) (by omega)
          have hcost : hT H + hPS tb L ≤ hT s.heap + hPS (tb) (ur_15.2.2.2.2.1) ∧ H.size + hPC tb L ≤ s.heap.size + hPC (tb) (ur_15.2.2.2.2.1) := by
            rw [hPS_1 (tb := tb) (by omega), hPC_1 (tb := tb) (by omega), hPS_1 (tb := tb) (by omega), hPC_1 (tb := tb) (by omega)]
            constructor <;> omega
          have hP9 := hP.sub (ws' := [(y0, .inr (3, [.ref x0, .int kd, .int wh, .int (nI cap), .int ru, .int (nI tb), .ref b0])), (x0, .inr (5, [.ref ur_15.1, .ref ur_15.2.1, .int (nI (ur_15.2.2.2.2.2.2.2.1)), .int ur_15.2.2.2.2.2.2.2.2])), (ur_15.1, .inl (ur_15.2.2.1, ur_15.2.2.2.2.1, .inl ur_15.2.2.2.2.2.1)), (ur_15.2.1, .inl (ur_15.2.2.2.1, ur_15.2.2.2.2.1, .inl ur_15.2.2.2.2.2.2.1)), (b0, .inl (cb, tb, .inl ur_19))]) [0, 1, 2, 3, 4] rfl
          have hD9 := hD.sub (ws' := [(y0, .inr (3, [.ref x0, .int kd, .int wh, .int (nI cap), .int ru, .int (nI tb), .ref b0])), (x0, .inr (5, [.ref ur_15.1, .ref ur_15.2.1, .int (nI (ur_15.2.2.2.2.2.2.2.1)), .int ur_15.2.2.2.2.2.2.2.2])), (ur_15.1, .inl (ur_15.2.2.1, ur_15.2.2.2.2.1, .inl ur_15.2.2.2.2.2.1)), (ur_15.2.1, .inl (ur_15.2.2.2.1, ur_15.2.2.2.2.1, .inl ur_15.2.2.2.2.2.2.1)), (b0, .inl (cb, tb, .inl ur_19))]) [0, 1, 2, 3, 4] (by decide) rfl
          have hK9 := hK.sub (tys' := [(ur_15.2.2.1, .int), (ur_15.2.2.2.1, .int), (cb, .boolean)]) [3, 4, 2] rfl
          refine W.widen (k := 8) (n := gs + ds) (by omega) (by omega) ?_
          exact W.vret hx hb hr (fun t ht hW => ⟨⟨(tb, b0, cb, ur_19, ur_15.1, ur_15.2.1, ur_15.2.2.1, ur_15.2.2.2.1, ur_15.2.2.2.2.1, ur_15.2.2.2.2.2.1, ur_15.2.2.2.2.2.2.1, ur_15.2.2.2.2.2.2.2.1, ur_15.2.2.2.2.2.2.2.2), rfl, hpost, by rw [ht]; exact hP9, va_K.moved hW.alike hK9, hD9, by rw [ht]; exact hcost⟩, hS.F ht⟩) hS.2.2 dX2_enter_104
        ·
          have ic_23 : ((tb * 3 : Nat) : Int) < ((ur_15.2.2.2.2.2.2.2.1 * 4 : Nat) : Int) := tx_nle (nI_toInt (by omega)) (nI_toInt (by omega)) c_23
          refine lv_aload_n hx hb dX2_enter_100 rfl (lv_at hl 2 rfl) ?_
          have hPc := hP.sub (ws' := [(y0, .inr (3, [.ref x0, .int kd, .int wh, .int (nI cap), .int ru, .int (nI tb), .ref b0])), (x0, .inr (5, [.ref ur_15.1, .ref ur_15.2.1, .int (nI (ur_15.2.2.2.2.2.2.2.1)), .int ur_15.2.2.2.2.2.2.2.2])), (ur_15.1, .inl (ur_15.2.2.1, ur_15.2.2.2.2.1, .inl ur_15.2.2.2.2.2.1)), (ur_15.2.1, .inl (ur_15.2.2.2.1, ur_15.2.2.2.2.1, .inl ur_15.2.2.2.2.2.2.1)), (b0, .inl (cb, tb, .inl ur_19))]) [0, 1, 2, 3, 4] rfl
          have hDc := hD.sub (ws' := [(y0, .inr (3, [.ref x0, .int kd, .int wh, .int (nI cap), .int ru, .int (nI tb), .ref b0])), (x0, .inr (5, [.ref ur_15.1, .ref ur_15.2.1, .int (nI (ur_15.2.2.2.2.2.2.2.1)), .int ur_15.2.2.2.2.2.2.2.2])), (ur_15.1, .inl (ur_15.2.2.1, ur_15.2.2.2.2.1, .inl ur_15.2.2.2.2.2.1)), (ur_15.2.1, .inl (ur_15.2.2.2.1, ur_15.2.2.2.2.1, .inl ur_15.2.2.2.2.2.2.1)), (b0, .inl (cb, tb, .inl ur_19))]) [0, 1, 2, 3, 4] (by decide) rfl
          have hKc := hK.sub (tys' := [(ur_15.2.2.1, .int), (ur_15.2.2.2.1, .int), (cb, .boolean)]) [3, 4, 2] rfl
          have hFc := va_free (wc := [(y0, .inr (3, [.ref x0, .int kd, .int wh, .int (nI cap), .int ru, .int (nI tb), .ref b0])), (x0, .inr (5, [.ref ur_15.1, .ref ur_15.2.1, .int (nI (ur_15.2.2.2.2.2.2.2.1)), .int ur_15.2.2.2.2.2.2.2.2])), (ur_15.1, .inl (ur_15.2.2.1, ur_15.2.2.2.2.1, .inl ur_15.2.2.2.2.2.1)), (ur_15.2.1, .inl (ur_15.2.2.2.1, ur_15.2.2.2.2.1, .inl ur_15.2.2.2.2.2.2.1)), (b0, .inl (cb, tb, .inl ur_19))]) hD hS hA [0, 1, 2, 3, 4] rfl
          refine va_callv (va_runV (As := []) (rest := []) ⟨hx, hb, hml, hown, hts⟩ (c_X2_doubleTable l  dC dI H.size y0 kd wh cap ru tb b0 cb ur_19 x0 ur_15.1 ur_15.2.1 ur_15.2.2.1 ur_15.2.2.2.1 ur_15.2.2.2.2.1 ur_15.2.2.2.2.2.1 ur_15.2.2.2.2.2.2.1 ur_15.2.2.2.2.2.2.2.1 ur_15.2.2.2.2.2.2.2.2 hR8 hq1 (by first | omega | exact p2_1024 hq3 (by omega))) (cwV 0 hts gX2_enter_X2_doubleTable rfl rfl rfl (by decide +kernel) ⟨(Nat.le_of_ble_eq_true rfl), (Nat.le_of_ble_eq_true rfl)⟩) ⟨pk_blind, va_recv hKc hPc (ci := 3) (q0 := 0) rfl rfl, pk_call hPc hKc hDc⟩ rfl rfl hl.1 rfl (lv_room (Nat.le_of_ble_eq_true rfl)) dX2_enter_101 ⟨(show (2 * lgN (ur_15.2.2.2.2.1) - 2 * lgN L) + 5 ≤ 8 by omega), (show (4 * (ur_15.2.2.2.2.1) - 4 * L) + (4 * tb + ur_15.2.2.2.2.2.2.2.1 + 2 * ur_15.2.2.2.2.1) ≤ gs + ds by omega)⟩) hS (fun q _ h => hFc q h) hFc (fun ur_24 t H1 locs ht hvm hw hB hz1 hk1 hS => ?_)
          try dsimp only at hw
          have jr_24 := hw
          obtain ⟨hP1, hK1, hD1⟩ := hB
          rw [ht] at hP1
          have hK1 := va_K.moved hvm.symm hK1
          obtain ⟨hP, hD⟩ := va_join (wr := []) (w1 := [(y0, .inr (3, [.ref x0, .int kd, .int wh, .int (nI cap), .int ru, .int (nI (tb * 2)), .ref ur_24.1])), (x0, .inr (5, [.ref ur_24.2.2.2.1, .ref ur_24.2.2.2.2.1, .int (nI (ur_15.2.2.2.2.2.2.2.1)), .int ur_15.2.2.2.2.2.2.2.2])), (ur_24.2.2.2.1, .inl (ur_24.2.2.2.2.2.1, ur_15.2.2.2.2.1, .inl ur_24.2.2.2.2.2.2.2.1)), (ur_24.2.2.2.2.1, .inl (ur_24.2.2.2.2.2.2.1, ur_15.2.2.2.2.1, .inl ur_24.2.2.2.2.2.2.2.2)), (ur_24.1, .inl (ur_24.2.1, tb * 2, .inl ur_24.2.2.1))]) hP hD [0, 1, 2, 3, 4] [] rfl rfl (by decide) (by decide) hk1 hFc hP1 hD1
          have hK := hK.app hK1
          have hK : va_K (dC, dI) vwCl [(ck, .int), (cw, .int), (cb, .boolean), (ur_15.2.2.1, .int), (ur_15.2.2.2.1, .int), (ur_24.2.2.2.2.2.1, .int), (ur_24.2.2.2.2.2.2.1, .int), (ur_24.2.1, .boolean)] s := hK
          clear hk1 hz1 ht hPc hDc hKc hFc
          generalize H1 = H at hP hS ⊢
          replace hP : va_P (dC, dI) vwCl [(y0, .inr (3, [.ref x0, .int kd, .int wh, .int (nI cap), .int ru, .int (nI (tb * 2)), .ref ur_24.1])), (x0, .inr (5, [.ref ur_24.2.2.2.1, .ref ur_24.2.2.2.2.1, .int (nI (ur_15.2.2.2.2.2.2.2.1)), .int ur_15.2.2.2.2.2.2.2.2])), (ur_24.2.2.2.1, .inl (ur_24.2.2.2.2.2.1, ur_15.2.2.2.2.1, .inl ur_24.2.2.2.2.2.2.2.1)), (ur_24.2.2.2.2.1, .inl (ur_24.2.2.2.2.2.2.1, ur_15.2.2.2.2.1, .inl ur_24.2.2.2.2.2.2.2.2)), (ur_24.1, .inl (ur_24.2.1, tb * 2, .inl ur_24.2.2.1))] H := hP
          replace hD : va_D A [(y0, .inr (3, [.ref x0, .int kd, .int wh, .int (nI cap), .int ru, .int (nI (tb * 2)), .ref ur_24.1])), (x0, .inr (5, [.ref ur_24.2.2.2.1, .ref ur_24.2.2.2.2.1, .int (nI (ur_15.2.2.2.2.2.2.2.1)), .int ur_15.2.2.2.2.2.2.2.2])), (ur_24.2.2.2.1, .inl (ur_24.2.2.2.2.2.1, ur_15.2.2.2.2.1, .inl ur_24.2.2.2.2.2.2.2.1)), (ur_24.2.2.2.2.1, .inl (ur_24.2.2.2.2.2.2.1, ur_15.2.2.2.2.1, .inl ur_24.2.2.2.2.2.2.2.2)), (ur_24.1, .inl (ur_24.2.1, tb * 2, .inl ur_24.2.2.1))] := hD
          refine W.widen (k := (2 * lgN (ur_15.2.2.2.2.1) - 2 * lgN L) + 5) (n := (4 * (ur_15.2.2.2.2.1) - 4 * L) + (4 * tb + ur_15.2.2.2.2.2.2.2.1 + 2 * ur_15.2.2.2.2.1)) (by omega) (by omega) ?_
          refine W.eq (g2 := F0 m 104 ls []) rfl ?_
          refine W.book (fun hz9_ hn9_ => ?_)
          have hpost : enP tb L nz cap (tb * 2) (ur_15.2.2.2.2.1) (ur_15.2.2.2.2.2.2.2.1) := by unfold enP hOK; exact ⟨⟨hR8, en_p hpL m7_, hcap, Or.inr ⟨by omega, by first | omega | (have := p2_1024 hq3 (by omega); omega), p2_dbl' hq3, by omega, en_L hpL (p2_dbl' hq3) (by omega) (by omega) m7_⟩⟩, by omega, by omega, by omega, by omega⟩
          have hLT_ : ur_15.2.2.2.2.1 = 16 ∨ ur_15.2.2.2.2.1 ≤ tb := en_L' hpL hq3 hq5 hq4 m7_
          have hlg1_ : lgN (ur_15.2.2.2.2.1) = lgN L ∨ lgN (ur_15.2.2.2.2.1) = lgN L + 1 := lgN_two (by omega) (by omega)
          have hlg2_ : lgN (tb * 2) = lgN tb + 1 := lgN_dbl (by omega)
          have hcost : hT H + hPS tb L ≤ hT s.heap + hPS (tb * 2) (ur_15.2.2.2.2.1) ∧ H.size + hPC tb L ≤ s.heap.size + hPC (tb * 2) (ur_15.2.2.2.2.1) := by
            rw [hPS_1 (tb := tb * 2) (by omega), hPC_1 (tb := tb * 2) (by omega), hPS_1 (tb := tb) (by omega), hPC_1 (tb := tb) (by omega)]
            constructor <;> omega
          have hP9 := hP.sub (ws' := [(y0, .inr (3, [.ref x0, .int kd, .int wh, .int (nI cap), .int ru, .int (nI (tb * 2)), .ref ur_24.1])), (x0, .inr (5, [.ref ur_24.2.2.2.1, .ref ur_24.2.2.2.2.1, .int (nI (ur_15.2.2.2.2.2.2.2.1)), .int ur_15.2.2.2.2.2.2.2.2])), (ur_24.2.2.2.1, .inl (ur_24.2.2.2.2.2.1, ur_15.2.2.2.2.1, .inl ur_24.2.2.2.2.2.2.2.1)), (ur_24.2.2.2.2.1, .inl (ur_24.2.2.2.2.2.2.1, ur_15.2.2.2.2.1, .inl ur_24.2.2.2.2.2.2.2.2)), (ur_24.1, .inl (ur_24.2.1, tb * 2, .inl ur_24.2.2.1))]) [0, 1, 2, 3, 4] rfl
          have hD9 := hD.sub (ws' := [(y0, .inr (3, [.ref x0, .int kd, .int wh, .int (nI cap), .int ru, .int (nI (tb * 2)), .ref ur_24.1])), (x0, .inr (5, [.ref ur_24.2.2.2.1, .ref ur_24.2.2.2.2.1, .int (nI (ur_15.2.2.2.2.2.2.2.1)), .int ur_15.2.2.2.2.2.2.2.2])), (ur_24.2.2.2.1, .inl (ur_24.2.2.2.2.2.1, ur_15.2.2.2.2.1, .inl ur_24.2.2.2.2.2.2.2.1)), (ur_24.2.2.2.2.1, .inl (ur_24.2.2.2.2.2.2.1, ur_15.2.2.2.2.1, .inl ur_24.2.2.2.2.2.2.2.2)), (ur_24.1, .inl (ur_24.2.1, tb * 2, .inl ur_24.2.2.1))]) [0, 1, 2, 3, 4] (by decide) rfl
          have hK9 := hK.sub (tys' := [(ur_24.2.2.2.2.2.1, .int), (ur_24.2.2.2.2.2.2.1, .int), (ur_24.2.1, .boolean)]) [5, 6, 7] rfl
          refine W.widen (k := 8) (n := gs + ds) (by omega) (by omega) ?_
          exact W.vret hx hb hr (fun t ht hW => ⟨⟨(tb * 2, ur_24.1, ur_24.2.1, ur_24.2.2.1, ur_24.2.2.2.1, ur_24.2.2.2.2.1, ur_24.2.2.2.2.2.1, ur_24.2.2.2.2.2.2.1, ur_15.2.2.2.2.1, ur_24.2.2.2.2.2.2.2.1, ur_24.2.2.2.2.2.2.2.2, ur_15.2.2.2.2.2.2.2.1, ur_15.2.2.2.2.2.2.2.2), rfl, hpost, by rw [ht]; exact hP9, va_K.moved hW.alike hK9, hD9, by rw [ht]; exact hcost⟩, hS.F ht⟩) hS.2.2 dX2_enter_104
      ·
        have ic_17 : ((tb : Nat) : Int) < 64 := tx_nle (by decide) (nI_toInt (by omega)) c_17
        refine lv_aload_n hx hb dX2_enter_64 rfl (lv_at hl 2 rfl) ?_
        have hPc := hP.sub (ws' := [(y0, .inr (3, [.ref x0, .int kd, .int wh, .int (nI cap), .int ru, .int (nI tb), .ref b0])), (x0, .inr (5, [.ref ur_15.1, .ref ur_15.2.1, .int (nI (ur_15.2.2.2.2.2.2.2.1)), .int ur_15.2.2.2.2.2.2.2.2])), (ur_15.1, .inl (ur_15.2.2.1, ur_15.2.2.2.2.1, .inl ur_15.2.2.2.2.2.1)), (ur_15.2.1, .inl (ur_15.2.2.2.1, ur_15.2.2.2.2.1, .inl ur_15.2.2.2.2.2.2.1)), (b0, .inl (cb, tb, .inl bf))]) [0, 2, 3, 4, 1] rfl
        have hDc := hD.sub (ws' := [(y0, .inr (3, [.ref x0, .int kd, .int wh, .int (nI cap), .int ru, .int (nI tb), .ref b0])), (x0, .inr (5, [.ref ur_15.1, .ref ur_15.2.1, .int (nI (ur_15.2.2.2.2.2.2.2.1)), .int ur_15.2.2.2.2.2.2.2.2])), (ur_15.1, .inl (ur_15.2.2.1, ur_15.2.2.2.2.1, .inl ur_15.2.2.2.2.2.1)), (ur_15.2.1, .inl (ur_15.2.2.2.1, ur_15.2.2.2.2.1, .inl ur_15.2.2.2.2.2.2.1)), (b0, .inl (cb, tb, .inl bf))]) [0, 2, 3, 4, 1] (by decide) rfl
        have hKc := hK.sub (tys' := [(ur_15.2.2.1, .int), (ur_15.2.2.2.1, .int), (cb, .boolean)]) [3, 4, 2] rfl
        have hFc := va_free (wc := [(y0, .inr (3, [.ref x0, .int kd, .int wh, .int (nI cap), .int ru, .int (nI tb), .ref b0])), (x0, .inr (5, [.ref ur_15.1, .ref ur_15.2.1, .int (nI (ur_15.2.2.2.2.2.2.2.1)), .int ur_15.2.2.2.2.2.2.2.2])), (ur_15.1, .inl (ur_15.2.2.1, ur_15.2.2.2.2.1, .inl ur_15.2.2.2.2.2.1)), (ur_15.2.1, .inl (ur_15.2.2.2.1, ur_15.2.2.2.2.1, .inl ur_15.2.2.2.2.2.2.1)), (b0, .inl (cb, tb, .inl bf))]) hD hS hA [0, 2, 3, 4, 1] rfl
        refine va_callv (va_runV (As := []) (rest := []) ⟨hx, hb, hml, hown, hts⟩ (c_X2_doubleTable l  dC dI H.size y0 kd wh cap ru tb b0 cb bf x0 ur_15.1 ur_15.2.1 ur_15.2.2.1 ur_15.2.2.2.1 ur_15.2.2.2.2.1 ur_15.2.2.2.2.2.1 ur_15.2.2.2.2.2.2.1 ur_15.2.2.2.2.2.2.2.1 ur_15.2.2.2.2.2.2.2.2 hR8 hq1 (by first | omega | exact p2_1024 hq3 (by omega))) (cwV 0 hts gX2_enter_X2_doubleTable rfl rfl rfl (by decide +kernel) ⟨(Nat.le_of_ble_eq_true rfl), (Nat.le_of_ble_eq_true rfl)⟩) ⟨pk_blind, va_recv hKc hPc (ci := 3) (q0 := 0) rfl rfl, pk_call hPc hKc hDc⟩ rfl rfl hl.1 rfl (lv_room (Nat.le_of_ble_eq_true rfl)) dX2_enter_65 ⟨(show (2 * lgN (ur_15.2.2.2.2.1) - 2 * lgN L) + 5 ≤ 8 by omega), (show (4 * (ur_15.2.2.2.2.1) - 4 * L) + (4 * tb + ur_15.2.2.2.2.2.2.2.1 + 2 * ur_15.2.2.2.2.1) ≤ gs + ds by omega)⟩) hS (fun q _ h => hFc q h) hFc (fun ur_25 t H1 locs ht hvm hw hB hz1 hk1 hS => ?_)
        try dsimp only at hw
        have jr_25 := hw
        obtain ⟨hP1, hK1, hD1⟩ := hB
        rw [ht] at hP1
        have hK1 := va_K.moved hvm.symm hK1
        obtain ⟨hP, hD⟩ := va_join (wr := []) (w1 := [(y0, .inr (3, [.ref x0, .int kd, .int wh, .int (nI cap), .int ru, .int (nI (tb * 2)), .ref ur_25.1])), (x0, .inr (5, [.ref ur_25.2.2.2.1, .ref ur_25.2.2.2.2.1, .int (nI (ur_15.2.2.2.2.2.2.2.1)), .int ur_15.2.2.2.2.2.2.2.2])), (ur_25.2.2.2.1, .inl (ur_25.2.2.2.2.2.1, ur_15.2.2.2.2.1, .inl ur_25.2.2.2.2.2.2.2.1)), (ur_25.2.2.2.2.1, .inl (ur_25.2.2.2.2.2.2.1, ur_15.2.2.2.2.1, .inl ur_25.2.2.2.2.2.2.2.2)), (ur_25.1, .inl (ur_25.2.1, tb * 2, .inl ur_25.2.2.1))]) hP hD [0, 2, 3, 4, 1] [] rfl rfl (by decide) (by decide) hk1 hFc hP1 hD1
        have hK := hK.app hK1
        have hK : va_K (dC, dI) vwCl [(ck, .int), (cw, .int), (cb, .boolean), (ur_15.2.2.1, .int), (ur_15.2.2.2.1, .int), (ur_25.2.2.2.2.2.1, .int), (ur_25.2.2.2.2.2.2.1, .int), (ur_25.2.1, .boolean)] s := hK
        clear hk1 hz1 ht hPc hDc hKc hFc
        generalize H1 = H at hP hS ⊢
        replace hP : va_P (dC, dI) vwCl [(y0, .inr (3, [.ref x0, .int kd, .int wh, .int (nI cap), .int ru, .int (nI (tb * 2)), .ref ur_25.1])), (x0, .inr (5, [.ref ur_25.2.2.2.1, .ref ur_25.2.2.2.2.1, .int (nI (ur_15.2.2.2.2.2.2.2.1)), .int ur_15.2.2.2.2.2.2.2.2])), (ur_25.2.2.2.1, .inl (ur_25.2.2.2.2.2.1, ur_15.2.2.2.2.1, .inl ur_25.2.2.2.2.2.2.2.1)), (ur_25.2.2.2.2.1, .inl (ur_25.2.2.2.2.2.2.1, ur_15.2.2.2.2.1, .inl ur_25.2.2.2.2.2.2.2.2)), (ur_25.1, .inl (ur_25.2.1, tb * 2, .inl ur_25.2.2.1))] H := hP
        replace hD : va_D A [(y0, .inr (3, [.ref x0, .int kd, .int wh, .int (nI cap), .int ru, .int (nI (tb * 2)), .ref ur_25.1])), (x0, .inr (5, [.ref ur_25.2.2.2.1, .ref ur_25.2.2.2.2.1, .int (nI (ur_15.2.2.2.2.2.2.2.1)), .int ur_15.2.2.2.2.2.2.2.2])), (ur_25.2.2.2.1, .inl (ur_25.2.2.2.2.2.1, ur_15.2.2.2.2.1, .inl ur_25.2.2.2.2.2.2.2.1)), (ur_25.2.2.2.2.1, .inl (ur_25.2.2.2.2.2.2.1, ur_15.2.2.2.2.1, .inl ur_25.2.2.2.2.2.2.2.2)), (ur_25.1, .inl (ur_25.2.1, tb * 2, .inl ur_25.2.2.1))] := hD
        refine W.widen (k := (2 * lgN (ur_15.2.2.2.2.1) - 2 * lgN L) + 5) (n := (4 * (ur_15.2.2.2.2.1) - 4 * L) + (4 * tb + ur_15.2.2.2.2.2.2.2.1 + 2 * ur_15.2.2.2.2.1)) (by omega) (by omega) ?_
        refine W.eq (g2 := F0 m 68 ls []) rfl ?_
        refine lv_goto (tgt := 82) hx hb dX2_enter_68 (by decide) ?_
        refine lv_aload_n hx hb dX2_enter_82 rfl (lv_at hl 2 rfl) ?_
        refine va_get (D := (dC, dI)) (ci := 3) (v := .ref x0) (C := RX2) (T := TX2) (N := 7) hx hb hts hi0_ hown hK hP 0 rfl rfl 0 (by decide) hw1_ (u_same hw2_) rfl dX2_enter_83 ?_
        have hPc := hP.sub (ws' := [(x0, .inr (5, [.ref ur_25.2.2.2.1, .ref ur_25.2.2.2.2.1, .int (nI (ur_15.2.2.2.2.2.2.2.1)), .int ur_15.2.2.2.2.2.2.2.2]))]) [1] rfl
        have hKc := hK.sub (tys' := []) [] rfl
        refine ro_calli (va_runV (As := []) (rest := []) ⟨hx, hb, hml, hown, hts⟩ (c_X5_size l  dC dI H.size x0 (nI (ur_15.2.2.2.2.2.2.2.1)) (.ref ur_25.2.2.2.1) (.ref ur_25.2.2.2.2.1) (.int ur_15.2.2.2.2.2.2.2.2)) (cwV 0 hts gX2_enter_X5_size rfl rfl rfl (by decide +kernel) ⟨(Nat.le_of_ble_eq_true rfl), (Nat.le_of_ble_eq_true rfl)⟩) ⟨pk_blindR, va_recv hKc hPc (ci := 5) (q0 := 0) rfl rfl, pk_callR hPc hKc⟩ rfl rfl hl.1 rfl (lv_room (Nat.le_of_ble_eq_true rfl)) dX2_enter_86 ⟨(show (2 * lgN (ur_15.2.2.2.2.1) - 2 * lgN L) + 5 + 0 ≤ 8 by omega), (show (4 * (ur_15.2.2.2.2.1) - 4 * L) + (4 * tb + ur_15.2.2.2.2.2.2.2.1 + 2 * ur_15.2.2.2.2.1) + 0 ≤ gs + ds by omega)⟩) (fun r_26 ur_26 hw => ?_)
        clear hPc hKc
        try dsimp only at hw
        obtain rfl : r_26 = nI (ur_15.2.2.2.2.2.2.2.1) := hw
        refine W.eq (g2 := F0 m 89 ls [.int (nI (ur_15.2.2.2.2.2.2.2.1))]) rfl ?_
        refine lv_iconst (v := 4) hx hb dX2_enter_89 (by decide) ?_
        refine lv_imul hx hb dX2_enter_90 ?_
        refine lv_topi (fun z_27 ez_27 => ?_)
        obtain rfl : z_27 = nI (ur_15.2.2.2.2.2.2.2.1 * 4) := ez_27.trans (by rw [show (4 : Int32) = nI 4 from rfl, pk_mul])
        refine lv_aload_n hx hb dX2_enter_91 rfl (lv_at hl 2 rfl) ?_
        refine va_get (D := (dC, dI)) (ci := 3) (v := .int (nI (tb * 2))) (C := RX2) (T := TX2) (N := 7) hx hb hts hi0_ hown hK hP 0 rfl rfl 5 (by decide) hw0_ (fun _ h9 => h9) rfl dX2_enter_92 ?_
        refine lv_iconst (v := 3) hx hb dX2_enter_95 (by decide) ?_
        refine lv_imul hx hb dX2_enter_96 ?_
        refine lv_topi (fun z_28 ez_28 => ?_)
        obtain rfl : z_28 = nI ((tb * 2) * 3) := ez_28.trans (by rw [show (3 : Int32) = nI 3 from rfl, pk_mul])
        refine lv_icmp_le (tgt := 104) hx hb dX2_enter_97 (by decide) (fun c_29 => ?_) (fun c_29 => ?_)
        ·
          have ic_29 : ((ur_15.2.2.2.2.2.2.2.1 * 4 : Nat) : Int) ≤ (((tb * 2) * 3 : Nat) : Int) := tx_le (nI_toInt (by omega)) (nI_toInt (by omega)) c_29
          refine W.book (fun hz9_ hn9_ => ?_)
          have hpost : enP tb L nz cap (tb * 2) (ur_15.2.2.2.2.1) (ur_15.2.2.2.2.2.2.2.1) := by unfold enP hOK; exact ⟨⟨hR8, en_p hpL m7_, hcap, Or.inr ⟨by omega, by first | omega | (have := p2_1024 hq3 (by omega); omega), p2_dbl' hq3, by omega, en_L hpL (p2_dbl' hq3) (by omega) (by omega) m7_⟩⟩, by omega, by omega, by omega, by omega⟩
          have hLT_ : ur_15.2.2.2.2.1 = 16 ∨ ur_15.2.2.2.2.1 ≤ tb := en_L' hpL hq3 hq5 hq4 m7_
          have hlg1_ : lgN (ur_15.2.2.2.2.1) = lgN L ∨ lgN (ur_15.2.2.2.2.1) = lgN L + 1 := lgN_two (by omega) (by omega)
          have hlg2_ : lgN (tb * 2) = lgN tb + 1 := lgN_dbl (by omega)
          have hcost : hT H + hPS tb L ≤ hT s.heap + hPS (tb * 2) (ur_15.2.2.2.2.1) ∧ H.size + hPC tb L ≤ s.heap.size + hPC (tb * 2) (ur_15.2.2.2.2.1) := by
            rw [hPS_1 (tb := tb * 2) (by omega), hPC_1 (tb := tb * 2) (by omega), hPS_1 (tb := tb) (by omega), hPC_1 (tb := tb) (by omega)]
            constructor <;> omega
          have hP9 := hP.sub (ws' := [(y0, .inr (3, [.ref x0, .int kd, .int wh, .int (nI cap), .int ru, .int (nI (tb * 2)), .ref ur_25.1])), (x0, .inr (5, [.ref ur_25.2.2.2.1, .ref ur_25.2.2.2.2.1, .int (nI (ur_15.2.2.2.2.2.2.2.1)), .int ur_15.2.2.2.2.2.2.2.2])), (ur_25.2.2.2.1, .inl (ur_25.2.2.2.2.2.1, ur_15.2.2.2.2.1, .inl ur_25.2.2.2.2.2.2.2.1)), (ur_25.2.2.2.2.1, .inl (ur_25.2.2.2.2.2.2.1, ur_15.2.2.2.2.1, .inl ur_25.2.2.2.2.2.2.2.2)), (ur_25.1, .inl (ur_25.2.1, tb * 2, .inl ur_25.2.2.1))]) [0, 1, 2, 3, 4] rfl
          have hD9 := hD.sub (ws' := [(y0, .inr (3, [.ref x0, .int kd, .int wh, .int (nI cap), .int ru, .int (nI (tb * 2)), .ref ur_25.1])), (x0, .inr (5, [.ref ur_25.2.2.2.1, .ref ur_25.2.2.2.2.1, .int (nI (ur_15.2.2.2.2.2.2.2.1)), .int ur_15.2.2.2.2.2.2.2.2])), (ur_25.2.2.2.1, .inl (ur_25.2.2.2.2.2.1, ur_15.2.2.2.2.1, .inl ur_25.2.2.2.2.2.2.2.1)), (ur_25.2.2.2.2.1, .inl (ur_25.2.2.2.2.2.2.1, ur_15.2.2.2.2.1, .inl ur_25.2.2.2.2.2.2.2.2)), (ur_25.1, .inl (ur_25.2.1, tb * 2, .inl ur_25.2.2.1))]) [0, 1, 2, 3, 4] (by decide) rfl
          have hK9 := hK.sub (tys' := [(ur_25.2.2.2.2.2.1, .int), (ur_25.2.2.2.2.2.2.1, .int), (ur_25.2.1, .boolean)]) [5, 6, 7] rfl
          refine W.widen (k := 8) (n := gs + ds) (by omega) (by omega) ?_
          exact W.vret hx hb hr (fun t ht hW => ⟨⟨(tb * 2, ur_25.1, ur_25.2.1, ur_25.2.2.1, ur_25.2.2.2.1, ur_25.2.2.2.2.1, ur_25.2.2.2.2.2.1, ur_25.2.2.2.2.2.2.1, ur_15.2.2.2.2.1, ur_25.2.2.2.2.2.2.2.1, ur_25.2.2.2.2.2.2.2.2, ur_15.2.2.2.2.2.2.2.1, ur_15.2.2.2.2.2.2.2.2), rfl, hpost, by rw [ht]; exact hP9, va_K.moved hW.alike hK9, hD9, by rw [ht]; exact hcost⟩, hS.F ht⟩) hS.2.2 dX2_enter_104
        ·
          have ic_29 : (((tb * 2) * 3 : Nat) : Int) < ((ur_15.2.2.2.2.2.2.2.1 * 4 : Nat) : Int) := tx_nle (nI_toInt (by omega)) (nI_toInt (by omega)) c_29
          exfalso
          omega
  ·
    have ic_1 : ((tb : Nat) : Int) = 0 := tx_eq (nI_toInt (by omega)) (by decide) c_1
    refine lv_aload_n hx hb dX2_enter_7 rfl (lv_at hl 0 rfl) ?_
    have hPc := hP.sub (ws' := [(y0, .inr (3, [.ref x0, .int kd, .int wh, .int (nI cap), .int ru, .int (nI tb), .ref b0])), (x0, .inr (5, [.ref k0, .ref w0, .int (nI nz), .int ch])), (k0, .inl (ck, L, .inl f)), (w0, .inl (cw, L, .inl g)), (b0, .inl (cb, tb, .inl bf))]) [0, 1, 2, 3, 4] rfl
    have hDc := hD.sub (ws' := [(y0, .inr (3, [.ref x0, .int kd, .int wh, .int (nI cap), .int ru, .int (nI tb), .ref b0])), (x0, .inr (5, [.ref k0, .ref w0, .int (nI nz), .int ch])), (k0, .inl (ck, L, .inl f)), (w0, .inl (cw, L, .inl g)), (b0, .inl (cb, tb, .inl bf))]) [0, 1, 2, 3, 4] (by decide) rfl
    have hKc := hK.sub (tys' := [(ck, .int), (cw, .int), (cb, .boolean)]) [0, 1, 2] rfl
    have hFc := va_free (wc := [(y0, .inr (3, [.ref x0, .int kd, .int wh, .int (nI cap), .int ru, .int (nI tb), .ref b0])), (x0, .inr (5, [.ref k0, .ref w0, .int (nI nz), .int ch])), (k0, .inl (ck, L, .inl f)), (w0, .inl (cw, L, .inl g)), (b0, .inl (cb, tb, .inl bf))]) hD hS hA [0, 1, 2, 3, 4] rfl
    refine va_callv (va_runV (As := []) (rest := []) ⟨hx, hb, hml, hown, hts⟩ (c_X2_layFirstTable l  dC dI s.heap.size y0 kd wh cap ru tb b0 cb bf x0 k0 w0 ck cw L f g nz ch hcap) (cwV 0 hts gX2_enter_X2_layFirstTable rfl rfl rfl (by decide +kernel) ⟨(Nat.le_of_ble_eq_true rfl), (Nat.le_of_ble_eq_true rfl)⟩) ⟨pk_blind, va_recv hKc hPc (ci := 3) (q0 := 0) rfl rfl, pk_call hPc hKc hDc⟩ rfl rfl hl.1 rfl (lv_room (Nat.le_of_ble_eq_true rfl)) dX2_enter_8 ⟨(Nat.le_of_ble_eq_true rfl), (show 0 + 1024 ≤ gs + ds by omega)⟩) hS (fun q _ h => hFc q h) hFc (fun ur_30 t H1 locs ht hvm hw hB hz1 hk1 hS => ?_)
    try dsimp only at hw
    have jr_30 := hw
    obtain ⟨hP1, hK1, hD1⟩ := hB
    rw [ht] at hP1
    have hK1 := va_K.moved hvm.symm hK1
    obtain ⟨hP, hD⟩ := va_join (wr := []) (w1 := [(y0, .inr (3, [.ref x0, .int kd, .int wh, .int (nI cap), .int ru, .int (nI (ur_30.1)), .ref ur_30.2.1])), (x0, .inr (5, [.ref k0, .ref w0, .int (nI nz), .int ch])), (k0, .inl (ck, L, .inl f)), (w0, .inl (cw, L, .inl g)), (ur_30.2.1, .inl (ur_30.2.2.1, ur_30.1, .inl ur_30.2.2.2))]) hP hD [0, 1, 2, 3, 4] [] rfl rfl (by decide) (by decide) hk1 hFc hP1 hD1
    have hK := hK.app hK1
    have hK : va_K (dC, dI) vwCl [(ck, .int), (cw, .int), (cb, .boolean), (ck, .int), (cw, .int), (ur_30.2.2.1, .boolean)] s := hK
    clear hk1 hz1 ht hPc hDc hKc hFc
    generalize H1 = H at hP hS ⊢
    replace hP : va_P (dC, dI) vwCl [(y0, .inr (3, [.ref x0, .int kd, .int wh, .int (nI cap), .int ru, .int (nI (ur_30.1)), .ref ur_30.2.1])), (x0, .inr (5, [.ref k0, .ref w0, .int (nI nz), .int ch])), (k0, .inl (ck, L, .inl f)), (w0, .inl (cw, L, .inl g)), (ur_30.2.1, .inl (ur_30.2.2.1, ur_30.1, .inl ur_30.2.2.2))] H := hP
    replace hD : va_D A [(y0, .inr (3, [.ref x0, .int kd, .int wh, .int (nI cap), .int ru, .int (nI (ur_30.1)), .ref ur_30.2.1])), (x0, .inr (5, [.ref k0, .ref w0, .int (nI nz), .int ch])), (k0, .inl (ck, L, .inl f)), (w0, .inl (cw, L, .inl g)), (ur_30.2.1, .inl (ur_30.2.2.1, ur_30.1, .inl ur_30.2.2.2))] := hD
    refine W.widen (k := 1) (n := 1024) (Nat.le_of_ble_eq_true rfl) (Nat.le_of_ble_eq_true rfl) ?_
    refine W.eq (g2 := F0 m 11 ls []) rfl ?_
    obtain ⟨l1_, l2_, l3_⟩ := jr_30
    obtain ⟨g0_, g1_, g2_⟩ := hcase.resolve_right (fun h => absurd h.1 (by omega))
    have hq1 := l1_
    have hq2 : ur_30.1 ≤ 2048 := by omega
    have hq3 := l3_
    have hq4 : nz * 4 ≤ ur_30.1 * 3 := by omega
    have hq5 : L = 16 ∨ L ≤ ur_30.1 := Or.inl g2_
    refine lv_aload_n hx hb dX2_enter_11 rfl (lv_at hl 0 rfl) ?_
    refine lv_iload_n hx hb dX2_enter_12 rfl (lv_at hl 1 rfl) ?_
    have hPc := hP.sub (ws' := [(y0, .inr (3, [.ref x0, .int kd, .int wh, .int (nI cap), .int ru, .int (nI (ur_30.1)), .ref ur_30.2.1]))]) [0] rfl
    have hKc := hK.sub (tys' := []) [] rfl
    refine ro_calli (va_runV (As := [.int p0]) (rest := []) ⟨hx, hb, hml, hown, hts⟩ (c_X2_binOf l  dC dI H.size y0 ru (nI (ur_30.1)) (.ref x0) (.int kd) (.int wh) (.int (nI cap)) (.ref ur_30.2.1) p0) (cwV 1 hts gX2_enter_X2_binOf rfl rfl rfl (by decide +kernel) ⟨(Nat.le_of_ble_eq_true rfl), (Nat.le_of_ble_eq_true rfl)⟩) ⟨pk_blindR, va_recv hKc hPc (ci := 3) (q0 := 0) rfl rfl, pk_callR hPc hKc⟩ rfl rfl hl.1 rfl (lv_room (Nat.le_of_ble_eq_true rfl)) dX2_enter_13 ⟨(Nat.le_of_ble_eq_true rfl), (show 1024 + 0 ≤ gs + ds by omega)⟩) (fun r_31 ur_31 hw => ?_)
    clear hPc hKc
    try dsimp only at hw
    have jr_31 := hw
    refine W.eq (g2 := F0 m 16 ls [.int r_31]) rfl ?_
    refine lv_istore_n (lv' := [(3, .int r_31), (0, .ref y0), (1, .int p0), (2, .int p1)]) hx hb dX2_enter_16 rfl hl (by decide) rfl (fun ls hl => ?_)
    refine lv_aload_n hx hb dX2_enter_17 rfl (lv_at hl 1 rfl) ?_
    refine lv_iload_n hx hb dX2_enter_18 rfl (lv_at hl 0 rfl) ?_
    have hPc := hP.sub (ws' := [(y0, .inr (3, [.ref x0, .int kd, .int wh, .int (nI cap), .int ru, .int (nI (ur_30.1)), .ref ur_30.2.1])), (x0, .inr (5, [.ref k0, .ref w0, .int (nI nz), .int ch])), (k0, .inl (ck, L, .inl f)), (w0, .inl (cw, L, .inl g)), (ur_30.2.1, .inl (ur_30.2.2.1, ur_30.1, .inl ur_30.2.2.2))]) [0, 1, 2, 3, 4] rfl
    have hKc := hK.sub (tys' := [(ck, .int), (cw, .int), (ur_30.2.2.1, .boolean)]) [0, 1, 5] rfl
    refine ro_calli (va_runV (As := [.int r_31]) (rest := []) ⟨hx, hb, hml, hown, hts⟩ (c_X2_howManyIn l  dC dI H.size y0 kd wh cap ru ur_30.1 ur_30.2.1 ur_30.2.2.1 ur_30.2.2.2 x0 k0 w0 ck cw L f g nz ch r_31 hR9) (cwV 1 hts gX2_enter_X2_howManyIn rfl rfl rfl (by decide +kernel) ⟨(Nat.le_of_ble_eq_true rfl), (Nat.le_of_ble_eq_true rfl)⟩) ⟨pk_blindR, va_recv hKc hPc (ci := 3) (q0 := 0) rfl rfl, pk_callR hPc hKc⟩ rfl rfl hl.1 rfl (lv_room (Nat.le_of_ble_eq_true rfl)) dX2_enter_19 ⟨(Nat.le_of_ble_eq_true rfl), (show 1024 + 0 ≤ gs + ds by omega)⟩) (fun r_32 ur_32 hw => ?_)
    clear hPc hKc
    try dsimp only at hw
    have jr_32 := hw
    refine W.eq (g2 := F0 m 22 ls [.int r_32]) rfl ?_
    refine lv_bipush (v := 8) hx hb dX2_enter_22 (by decide) ?_
    refine lv_icmp_lt (tgt := 31) hx hb dX2_enter_24 (by decide) (fun c_33 => ?_) (fun c_33 => ?_)
    ·
      have ic_33 : r_32.toInt < 8 := tx_lt rfl (by decide) c_33
      refine lv_iconst (v := 0) hx hb dX2_enter_31 (by decide) ?_
      refine lv_istore (lv' := [(4, .int 0), (3, .int r_31), (0, .ref y0), (1, .int p0), (2, .int p1)]) hx hb dX2_enter_32 hl (by decide) rfl (fun ls hl => ?_)
      refine lv_aload_n hx hb dX2_enter_34 rfl (lv_at hl 2 rfl) ?_
      refine va_get (D := (dC, dI)) (ci := 3) (v := .ref x0) (C := RX2) (T := TX2) (N := 7) hx hb hts hi0_ hown hK hP 0 rfl rfl 0 (by decide) hw1_ (u_same hw2_) rfl dX2_enter_35 ?_
      refine lv_aload_n hx hb dX2_enter_38 rfl (lv_at hl 2 rfl) ?_
      refine lv_iload_n hx hb dX2_enter_39 rfl (lv_at hl 1 rfl) ?_
      refine lv_iconst (v := 1) hx hb dX2_enter_40 (by decide) ?_
      refine lv_iadd hx hb dX2_enter_41 ?_
      have hPc := hP.sub (ws' := [(y0, .inr (3, [.ref x0, .int kd, .int wh, .int (nI cap), .int ru, .int (nI (ur_30.1)), .ref ur_30.2.1])), (x0, .inr (5, [.ref k0, .ref w0, .int (nI nz), .int ch])), (k0, .inl (ck, L, .inl f)), (w0, .inl (cw, L, .inl g)), (ur_30.2.1, .inl (ur_30.2.2.1, ur_30.1, .inl ur_30.2.2.2))]) [0, 1, 2, 3, 4] rfl
      have hKc := hK.sub (tys' := [(ck, .int), (cw, .int), (ur_30.2.2.1, .boolean)]) [0, 1, 5] rfl
      refine ro_calli (va_runV (As := [.int (r_31 + 1)]) (rest := [.ref x0]) ⟨hx, hb, hml, hown, hts⟩ (c_X2_startOf l  dC dI H.size y0 kd wh cap ru ur_30.1 ur_30.2.1 ur_30.2.2.1 ur_30.2.2.2 x0 k0 w0 ck cw L f g nz ch (r_31 + 1) hR9) (cwV 1 hts gX2_enter_X2_startOf rfl rfl rfl (by decide +kernel) ⟨(Nat.le_of_ble_eq_true rfl), (Nat.le_of_ble_eq_true rfl)⟩) ⟨pk_blindR, va_recv hKc hPc (ci := 3) (q0 := 0) rfl rfl, pk_callR hPc hKc⟩ rfl rfl hl.1 rfl (lv_room (Nat.le_of_ble_eq_true rfl)) dX2_enter_42 ⟨(Nat.le_of_ble_eq_true rfl), (show 1024 + 0 ≤ gs + ds by omega)⟩) (fun r_34 ur_34 hw => ?_)
      clear hPc hKc
      try dsimp only at hw
      have jr_34 := hw
      obtain ⟨kc, hkc, rfl⟩ := jr_34
      refine W.eq (g2 := F0 m 45 ls [.int (nI kc), .ref x0]) rfl ?_
      refine lv_iload_n hx hb dX2_enter_45 rfl (lv_at hl 3 rfl) ?_
      refine lv_iload_n hx hb dX2_enter_46 rfl (lv_at hl 4 rfl) ?_
      have hPc := hP.sub (ws' := [(x0, .inr (5, [.ref k0, .ref w0, .int (nI nz), .int ch])), (k0, .inl (ck, L, .inl f)), (w0, .inl (cw, L, .inl g))]) [1, 2, 3] rfl
      have hDc := hD.sub (ws' := [(x0, .inr (5, [.ref k0, .ref w0, .int (nI nz), .int ch])), (k0, .inl (ck, L, .inl f)), (w0, .inl (cw, L, .inl g))]) [1, 2, 3] (by decide) rfl
      have hKc := hK.sub (tys' := [(ck, .int), (cw, .int)]) [0, 1] rfl
      have hFc := va_free (wc := [(x0, .inr (5, [.ref k0, .ref w0, .int (nI nz), .int ch])), (k0, .inl (ck, L, .inl f)), (w0, .inl (cw, L, .inl g))]) hD hS hA [1, 2, 3] rfl
      refine W.book (fun hz8_ hn8_ => ?_)
      refine va_callv (va_runV (As := [.int (nI kc), .int p0, .int p1]) (rest := []) ⟨hx, hb, hml, hown, hts⟩ (c_X5_insert l  dC dI H.size (hT H) x0 k0 w0 ck cw L f g nz ch (nI kc) p0 p1 2 gs hR9 (by omega)) (cwV 3 hts gX2_enter_X5_insert rfl rfl rfl (by decide +kernel) ⟨(Nat.le_of_ble_eq_true rfl), (Nat.le_of_ble_eq_true rfl)⟩) ⟨pk_blindT, va_recv hKc hPc (ci := 5) (q0 := 0) rfl rfl, pk_callT hPc hKc hDc⟩ rfl rfl hl.1 rfl (lv_room (Nat.le_of_ble_eq_true rfl)) dX2_enter_47 ⟨(Nat.le_of_ble_eq_true rfl), (show 1024 + gs ≤ gs + ds by omega)⟩) hS (fun q _ h => hFc q h) hFc (fun ur_35 t H1 locs ht hvm hw hB hz1 hk1 hS => ?_)
      try dsimp only at hw
      have jr_35 := hw
      obtain ⟨hP1, hK1, hD1, hC1_⟩ := hB
      rw [ht] at hP1 hC1_
      have hK1 := va_K.moved hvm.symm hK1
      obtain ⟨hP, hD⟩ := va_join (wr := [(y0, .inr (3, [.ref x0, .int kd, .int wh, .int (nI cap), .int ru, .int (nI (ur_30.1)), .ref ur_30.2.1])), (ur_30.2.1, .inl (ur_30.2.2.1, ur_30.1, .inl ur_30.2.2.2))]) (w1 := [(x0, .inr (5, [.ref ur_35.1, .ref ur_35.2.1, .int (nI (ur_35.2.2.2.2.2.2.2.1)), .int ur_35.2.2.2.2.2.2.2.2])), (ur_35.1, .inl (ur_35.2.2.1, ur_35.2.2.2.2.1, .inl ur_35.2.2.2.2.2.1)), (ur_35.2.1, .inl (ur_35.2.2.2.1, ur_35.2.2.2.2.1, .inl ur_35.2.2.2.2.2.2.1))]) hP hD [1, 2, 3] [0, 4] rfl rfl (by decide) (by decide) hk1 hFc hP1 hD1
      have hK := hK.app hK1
      have hK : va_K (dC, dI) vwCl [(ck, .int), (cw, .int), (cb, .boolean), (ck, .int), (cw, .int), (ur_30.2.2.1, .boolean), (ur_35.2.2.1, .int), (ur_35.2.2.2.1, .int)] s := hK
      have hl7_ := jr_35.2.2.2
      have hn7_ : hT H1 ≤ hT s.heap + (1024 + (4 * (ur_35.2.2.2.2.1) - 4 * L)) := by omega
      have hz7_ : H1.size ≤ s.heap.size + (1 + (2 * lgN (ur_35.2.2.2.2.1) - 2 * lgN L)) := by omega
      clear hC1_ hn8_ hz8_
      clear hk1 hz1 ht hPc hDc hKc hFc
      generalize H1 = H at hP hS hn7_ hz7_ ⊢
      replace hP : va_P (dC, dI) vwCl [(y0, .inr (3, [.ref x0, .int kd, .int wh, .int (nI cap), .int ru, .int (nI (ur_30.1)), .ref ur_30.2.1])), (ur_30.2.1, .inl (ur_30.2.2.1, ur_30.1, .inl ur_30.2.2.2)), (x0, .inr (5, [.ref ur_35.1, .ref ur_35.2.1, .int (nI (ur_35.2.2.2.2.2.2.2.1)), .int ur_35.2.2.2.2.2.2.2.2])), (ur_35.1, .inl (ur_35.2.2.1, ur_35.2.2.2.2.1, .inl ur_35.2.2.2.2.2.1)), (ur_35.2.1, .inl (ur_35.2.2.2.1, ur_35.2.2.2.2.1, .inl ur_35.2.2.2.2.2.2.1))] H := hP
      replace hD : va_D A [(y0, .inr (3, [.ref x0, .int kd, .int wh, .int (nI cap), .int ru, .int (nI (ur_30.1)), .ref ur_30.2.1])), (ur_30.2.1, .inl (ur_30.2.2.1, ur_30.1, .inl ur_30.2.2.2)), (x0, .inr (5, [.ref ur_35.1, .ref ur_35.2.1, .int (nI (ur_35.2.2.2.2.2.2.2.1)), .int ur_35.2.2.2.2.2.2.2.2])), (ur_35.1, .inl (ur_35.2.2.1, ur_35.2.2.2.2.1, .inl ur_35.2.2.2.2.2.1)), (ur_35.2.1, .inl (ur_35.2.2.2.1, ur_35.2.2.2.2.1, .inl ur_35.2.2.2.2.2.2.1))] := hD
      refine W.tight (k := 1 + (2 * lgN (ur_35.2.2.2.2.1) - 2 * lgN L)) (n := 1024 + (4 * (ur_35.2.2.2.2.1) - 4 * L)) hz7_ hn7_ ?_
      clear hn7_ hz7_
      refine W.eq (g2 := F0 m 50 ls []) rfl ?_
      have hR8 := jr_35.1
      obtain ⟨⟨m1_, m2_, m3_, m4_⟩, m5_, m6_, m7_⟩ := jr_35
      have hlg1_ : lgN (ur_35.2.2.2.2.1) = lgN L ∨ lgN (ur_35.2.2.2.2.1) = lgN L + 1 := lgN_two (by omega) (by omega)
      refine lv_iload hx hb dX2_enter_50 (lv_at hl 0 rfl) ?_
      refine lv_if_eq (tgt := 71) hx hb dX2_enter_52 (by decide) (fun c_36 => ?_) (fun c_36 => absurd c_36 (by decide))
      refine lv_iload hx hb dX2_enter_71 (lv_at hl 0 rfl) ?_
      refine lv_if_eq (tgt := 82) hx hb dX2_enter_73 (by decide) (fun c_37 => ?_) (fun c_37 => absurd c_37 (by decide))
      refine lv_aload_n hx hb dX2_enter_82 rfl (lv_at hl 2 rfl) ?_
      refine va_get (D := (dC, dI)) (ci := 3) (v := .ref x0) (C := RX2) (T := TX2) (N := 7) hx hb hts hi0_ hown hK hP 0 rfl rfl 0 (by decide) hw1_ (u_same hw2_) rfl dX2_enter_83 ?_
      have hPc := hP.sub (ws' := [(x0, .inr (5, [.ref ur_35.1, .ref ur_35.2.1, .int (nI (ur_35.2.2.2.2.2.2.2.1)), .int ur_35.2.2.2.2.2.2.2.2]))]) [2] rfl
      have hKc := hK.sub (tys' := []) [] rfl
      refine ro_calli (va_runV (As := []) (rest := []) ⟨hx, hb, hml, hown, hts⟩ (c_X5_size l  dC dI H.size x0 (nI (ur_35.2.2.2.2.2.2.2.1)) (.ref ur_35.1) (.ref ur_35.2.1) (.int ur_35.2.2.2.2.2.2.2.2)) (cwV 0 hts gX2_enter_X5_size rfl rfl rfl (by decide +kernel) ⟨(Nat.le_of_ble_eq_true rfl), (Nat.le_of_ble_eq_true rfl)⟩) ⟨pk_blindR, va_recv hKc hPc (ci := 5) (q0 := 0) rfl rfl, pk_callR hPc hKc⟩ rfl rfl hl.1 rfl (lv_room (Nat.le_of_ble_eq_true rfl)) dX2_enter_86 ⟨(show 1 + (2 * lgN (ur_35.2.2.2.2.1) - 2 * lgN L) + 0 ≤ 8 by omega), (show 1024 + (4 * (ur_35.2.2.2.2.1) - 4 * L) + 0 ≤ gs + ds by omega)⟩) (fun r_38 ur_38 hw => ?_)
      clear hPc hKc
      try dsimp only at hw
      obtain rfl : r_38 = nI (ur_35.2.2.2.2.2.2.2.1) := hw
      refine W.eq (g2 := F0 m 89 ls [.int (nI (ur_35.2.2.2.2.2.2.2.1))]) rfl ?_
      refine lv_iconst (v := 4) hx hb dX2_enter_89 (by decide) ?_
      refine lv_imul hx hb dX2_enter_90 ?_
      refine lv_topi (fun z_39 ez_39 => ?_)
      obtain rfl : z_39 = nI (ur_35.2.2.2.2.2.2.2.1 * 4) := ez_39.trans (by rw [show (4 : Int32) = nI 4 from rfl, pk_mul])
      refine lv_aload_n hx hb dX2_enter_91 rfl (lv_at hl 2 rfl) ?_
      refine va_get (D := (dC, dI)) (ci := 3) (v := .int (nI (ur_30.1))) (C := RX2) (T := TX2) (N := 7) hx hb hts hi0_ hown hK hP 0 rfl rfl 5 (by decide) hw0_ (fun _ h9 => h9) rfl dX2_enter_92 ?_
      refine lv_iconst (v := 3) hx hb dX2_enter_95 (by decide) ?_
      refine lv_imul hx hb dX2_enter_96 ?_
      refine lv_topi (fun z_40 ez_40 => ?_)
      obtain rfl : z_40 = nI (ur_30.1 * 3) := ez_40.trans (by rw [show (3 : Int32) = nI 3 from rfl, pk_mul])
      refine lv_icmp_le (tgt := 104) hx hb dX2_enter_97 (by decide) (fun c_41 => ?_) (fun c_41 => ?_)
      ·
        have ic_41 : ((ur_35.2.2.2.2.2.2.2.1 * 4 : Nat) : Int) ≤ ((ur_30.1 * 3 : Nat) : Int) := tx_le (nI_toInt (by omega)) (nI_toInt (by omega)) c_41
        refine W.book (fun hz9_ hn9_ => ?_)
        have hpost : enP tb L nz cap (ur_30.1) (ur_35.2.2.2.2.1) (ur_35.2.2.2.2.2.2.2.1) := by unfold enP hOK; exact ⟨⟨hR8, en_p hpL m7_, hcap, Or.inr ⟨by omega, by first | omega | (have := p2_1024 hq3 (by omega); omega), hq3, by omega, en_L hpL (hq3) (by omega) (by omega) m7_⟩⟩, by omega, by omega, by omega, by omega⟩
        have hLT_ : ur_35.2.2.2.2.1 = 16 ∨ ur_35.2.2.2.2.1 ≤ ur_30.1 := en_L' hpL hq3 hq5 hq4 m7_
        have hlg1_ : lgN (ur_35.2.2.2.2.1) = lgN L ∨ lgN (ur_35.2.2.2.2.1) = lgN L + 1 := lgN_two (by omega) (by omega)
        have hcost : hT H + hPS tb L ≤ hT s.heap + hPS (ur_30.1) (ur_35.2.2.2.2.1) ∧ H.size + hPC tb L ≤ s.heap.size + hPC (ur_30.1) (ur_35.2.2.2.2.1) := by
          rw [hPS_1 (tb := ur_30.1) (by omega), hPC_1 (tb := ur_30.1) (by omega), hPS_0 (tb := tb) (by omega), hPC_0 (tb := tb) (by omega)]
          constructor <;> omega
        have hP9 := hP.sub (ws' := [(y0, .inr (3, [.ref x0, .int kd, .int wh, .int (nI cap), .int ru, .int (nI (ur_30.1)), .ref ur_30.2.1])), (x0, .inr (5, [.ref ur_35.1, .ref ur_35.2.1, .int (nI (ur_35.2.2.2.2.2.2.2.1)), .int ur_35.2.2.2.2.2.2.2.2])), (ur_35.1, .inl (ur_35.2.2.1, ur_35.2.2.2.2.1, .inl ur_35.2.2.2.2.2.1)), (ur_35.2.1, .inl (ur_35.2.2.2.1, ur_35.2.2.2.2.1, .inl ur_35.2.2.2.2.2.2.1)), (ur_30.2.1, .inl (ur_30.2.2.1, ur_30.1, .inl ur_30.2.2.2))]) [0, 2, 3, 4, 1] rfl
        have hD9 := hD.sub (ws' := [(y0, .inr (3, [.ref x0, .int kd, .int wh, .int (nI cap), .int ru, .int (nI (ur_30.1)), .ref ur_30.2.1])), (x0, .inr (5, [.ref ur_35.1, .ref ur_35.2.1, .int (nI (ur_35.2.2.2.2.2.2.2.1)), .int ur_35.2.2.2.2.2.2.2.2])), (ur_35.1, .inl (ur_35.2.2.1, ur_35.2.2.2.2.1, .inl ur_35.2.2.2.2.2.1)), (ur_35.2.1, .inl (ur_35.2.2.2.1, ur_35.2.2.2.2.1, .inl ur_35.2.2.2.2.2.2.1)), (ur_30.2.1, .inl (ur_30.2.2.1, ur_30.1, .inl ur_30.2.2.2))]) [0, 2, 3, 4, 1] (by decide) rfl
        have hK9 := hK.sub (tys' := [(ur_35.2.2.1, .int), (ur_35.2.2.2.1, .int), (ur_30.2.2.1, .boolean)]) [6, 7, 5] rfl
        refine W.widen (k := 8) (n := gs + ds) (by omega) (by omega) ?_
        exact W.vret hx hb hr (fun t ht hW => ⟨⟨(ur_30.1, ur_30.2.1, ur_30.2.2.1, ur_30.2.2.2, ur_35.1, ur_35.2.1, ur_35.2.2.1, ur_35.2.2.2.1, ur_35.2.2.2.2.1, ur_35.2.2.2.2.2.1, ur_35.2.2.2.2.2.2.1, ur_35.2.2.2.2.2.2.2.1, ur_35.2.2.2.2.2.2.2.2), rfl, hpost, by rw [ht]; exact hP9, va_K.moved hW.alike hK9, hD9, by rw [ht]; exact hcost⟩, hS.F ht⟩) hS.2.2 dX2_enter_104
      ·
        have ic_41 : ((ur_30.1 * 3 : Nat) : Int) < ((ur_35.2.2.2.2.2.2.2.1 * 4 : Nat) : Int) := tx_nle (nI_toInt (by omega)) (nI_toInt (by omega)) c_41
        refine lv_aload_n hx hb dX2_enter_100 rfl (lv_at hl 2 rfl) ?_
        have hPc := hP.sub (ws' := [(y0, .inr (3, [.ref x0, .int kd, .int wh, .int (nI cap), .int ru, .int (nI (ur_30.1)), .ref ur_30.2.1])), (x0, .inr (5, [.ref ur_35.1, .ref ur_35.2.1, .int (nI (ur_35.2.2.2.2.2.2.2.1)), .int ur_35.2.2.2.2.2.2.2.2])), (ur_35.1, .inl (ur_35.2.2.1, ur_35.2.2.2.2.1, .inl ur_35.2.2.2.2.2.1)), (ur_35.2.1, .inl (ur_35.2.2.2.1, ur_35.2.2.2.2.1, .inl ur_35.2.2.2.2.2.2.1)), (ur_30.2.1, .inl (ur_30.2.2.1, ur_30.1, .inl ur_30.2.2.2))]) [0, 2, 3, 4, 1] rfl
        have hDc := hD.sub (ws' := [(y0, .inr (3, [.ref x0, .int kd, .int wh, .int (nI cap), .int ru, .int (nI (ur_30.1)), .ref ur_30.2.1])), (x0, .inr (5, [.ref ur_35.1, .ref ur_35.2.1, .int (nI (ur_35.2.2.2.2.2.2.2.1)), .int ur_35.2.2.2.2.2.2.2.2])), (ur_35.1, .inl (ur_35.2.2.1, ur_35.2.2.2.2.1, .inl ur_35.2.2.2.2.2.1)), (ur_35.2.1, .inl (ur_35.2.2.2.1, ur_35.2.2.2.2.1, .inl ur_35.2.2.2.2.2.2.1)), (ur_30.2.1, .inl (ur_30.2.2.1, ur_30.1, .inl ur_30.2.2.2))]) [0, 2, 3, 4, 1] (by decide) rfl
        have hKc := hK.sub (tys' := [(ur_35.2.2.1, .int), (ur_35.2.2.2.1, .int), (ur_30.2.2.1, .boolean)]) [6, 7, 5] rfl
        have hFc := va_free (wc := [(y0, .inr (3, [.ref x0, .int kd, .int wh, .int (nI cap), .int ru, .int (nI (ur_30.1)), .ref ur_30.2.1])), (x0, .inr (5, [.ref ur_35.1, .ref ur_35.2.1, .int (nI (ur_35.2.2.2.2.2.2.2.1)), .int ur_35.2.2.2.2.2.2.2.2])), (ur_35.1, .inl (ur_35.2.2.1, ur_35.2.2.2.2.1, .inl ur_35.2.2.2.2.2.1)), (ur_35.2.1, .inl (ur_35.2.2.2.1, ur_35.2.2.2.2.1, .inl ur_35.2.2.2.2.2.2.1)), (ur_30.2.1, .inl (ur_30.2.2.1, ur_30.1, .inl ur_30.2.2.2))]) hD hS hA [0, 2, 3, 4, 1] rfl
        refine va_callv (va_runV (As := []) (rest := []) ⟨hx, hb, hml, hown, hts⟩ (c_X2_doubleTable l  dC dI H.size y0 kd wh cap ru ur_30.1 ur_30.2.1 ur_30.2.2.1 ur_30.2.2.2 x0 ur_35.1 ur_35.2.1 ur_35.2.2.1 ur_35.2.2.2.1 ur_35.2.2.2.2.1 ur_35.2.2.2.2.2.1 ur_35.2.2.2.2.2.2.1 ur_35.2.2.2.2.2.2.2.1 ur_35.2.2.2.2.2.2.2.2 hR8 hq1 (by first | omega | exact p2_1024 hq3 (by omega))) (cwV 0 hts gX2_enter_X2_doubleTable rfl rfl rfl (by decide +kernel) ⟨(Nat.le_of_ble_eq_true rfl), (Nat.le_of_ble_eq_true rfl)⟩) ⟨pk_blind, va_recv hKc hPc (ci := 3) (q0 := 0) rfl rfl, pk_call hPc hKc hDc⟩ rfl rfl hl.1 rfl (lv_room (Nat.le_of_ble_eq_true rfl)) dX2_enter_101 ⟨(show 1 + (2 * lgN (ur_35.2.2.2.2.1) - 2 * lgN L) + 5 ≤ 8 by omega), (show 1024 + (4 * (ur_35.2.2.2.2.1) - 4 * L) + (4 * ur_30.1 + ur_35.2.2.2.2.2.2.2.1 + 2 * ur_35.2.2.2.2.1) ≤ gs + ds by omega)⟩) hS (fun q _ h => hFc q h) hFc (fun ur_42 t H1 locs ht hvm hw hB hz1 hk1 hS => ?_)
        try dsimp only at hw
        have jr_42 := hw
        obtain ⟨hP1, hK1, hD1⟩ := hB
        rw [ht] at hP1
        have hK1 := va_K.moved hvm.symm hK1
        obtain ⟨hP, hD⟩ := va_join (wr := []) (w1 := [(y0, .inr (3, [.ref x0, .int kd, .int wh, .int (nI cap), .int ru, .int (nI (ur_30.1 * 2)), .ref ur_42.1])), (x0, .inr (5, [.ref ur_42.2.2.2.1, .ref ur_42.2.2.2.2.1, .int (nI (ur_35.2.2.2.2.2.2.2.1)), .int ur_35.2.2.2.2.2.2.2.2])), (ur_42.2.2.2.1, .inl (ur_42.2.2.2.2.2.1, ur_35.2.2.2.2.1, .inl ur_42.2.2.2.2.2.2.2.1)), (ur_42.2.2.2.2.1, .inl (ur_42.2.2.2.2.2.2.1, ur_35.2.2.2.2.1, .inl ur_42.2.2.2.2.2.2.2.2)), (ur_42.1, .inl (ur_42.2.1, ur_30.1 * 2, .inl ur_42.2.2.1))]) hP hD [0, 2, 3, 4, 1] [] rfl rfl (by decide) (by decide) hk1 hFc hP1 hD1
        have hK := hK.app hK1
        have hK : va_K (dC, dI) vwCl [(ck, .int), (cw, .int), (cb, .boolean), (ck, .int), (cw, .int), (ur_30.2.2.1, .boolean), (ur_35.2.2.1, .int), (ur_35.2.2.2.1, .int), (ur_42.2.2.2.2.2.1, .int), (ur_42.2.2.2.2.2.2.1, .int), (ur_42.2.1, .boolean)] s := hK
        clear hk1 hz1 ht hPc hDc hKc hFc
        generalize H1 = H at hP hS ⊢
        replace hP : va_P (dC, dI) vwCl [(y0, .inr (3, [.ref x0, .int kd, .int wh, .int (nI cap), .int ru, .int (nI (ur_30.1 * 2)), .ref ur_42.1])), (x0, .inr (5, [.ref ur_42.2.2.2.1, .ref ur_42.2.2.2.2.1, .int (nI (ur_35.2.2.2.2.2.2.2.1)), .int ur_35.2.2.2.2.2.2.2.2])), (ur_42.2.2.2.1, .inl (ur_42.2.2.2.2.2.1, ur_35.2.2.2.2.1, .inl ur_42.2.2.2.2.2.2.2.1)), (ur_42.2.2.2.2.1, .inl (ur_42.2.2.2.2.2.2.1, ur_35.2.2.2.2.1, .inl ur_42.2.2.2.2.2.2.2.2)), (ur_42.1, .inl (ur_42.2.1, ur_30.1 * 2, .inl ur_42.2.2.1))] H := hP
        replace hD : va_D A [(y0, .inr (3, [.ref x0, .int kd, .int wh, .int (nI cap), .int ru, .int (nI (ur_30.1 * 2)), .ref ur_42.1])), (x0, .inr (5, [.ref ur_42.2.2.2.1, .ref ur_42.2.2.2.2.1, .int (nI (ur_35.2.2.2.2.2.2.2.1)), .int ur_35.2.2.2.2.2.2.2.2])), (ur_42.2.2.2.1, .inl (ur_42.2.2.2.2.2.1, ur_35.2.2.2.2.1, .inl ur_42.2.2.2.2.2.2.2.1)), (ur_42.2.2.2.2.1, .inl (ur_42.2.2.2.2.2.2.1, ur_35.2.2.2.2.1, .inl ur_42.2.2.2.2.2.2.2.2)), (ur_42.1, .inl (ur_42.2.1, ur_30.1 * 2, .inl ur_42.2.2.1))] := hD
        refine W.widen (k := 1 + (2 * lgN (ur_35.2.2.2.2.1) - 2 * lgN L) + 5) (n := 1024 + (4 * (ur_35.2.2.2.2.1) - 4 * L) + (4 * ur_30.1 + ur_35.2.2.2.2.2.2.2.1 + 2 * ur_35.2.2.2.2.1)) (by omega) (by omega) ?_
        refine W.eq (g2 := F0 m 104 ls []) rfl ?_
        refine W.book (fun hz9_ hn9_ => ?_)
        have hpost : enP tb L nz cap (ur_30.1 * 2) (ur_35.2.2.2.2.1) (ur_35.2.2.2.2.2.2.2.1) := by unfold enP hOK; exact ⟨⟨hR8, en_p hpL m7_, hcap, Or.inr ⟨by omega, by first | omega | (have := p2_1024 hq3 (by omega); omega), p2_dbl' hq3, by omega, en_L hpL (p2_dbl' hq3) (by omega) (by omega) m7_⟩⟩, by omega, by omega, by omega, by omega⟩
        have hLT_ : ur_35.2.2.2.2.1 = 16 ∨ ur_35.2.2.2.2.1 ≤ ur_30.1 := en_L' hpL hq3 hq5 hq4 m7_
        have hlg1_ : lgN (ur_35.2.2.2.2.1) = lgN L ∨ lgN (ur_35.2.2.2.2.1) = lgN L + 1 := lgN_two (by omega) (by omega)
        have hlg2_ : lgN (ur_30.1 * 2) = lgN ur_30.1 + 1 := lgN_dbl (by omega)
        have hcost : hT H + hPS tb L ≤ hT s.heap + hPS (ur_30.1 * 2) (ur_35.2.2.2.2.1) ∧ H.size + hPC tb L ≤ s.heap.size + hPC (ur_30.1 * 2) (ur_35.2.2.2.2.1) := by
          rw [hPS_1 (tb := ur_30.1 * 2) (by omega), hPC_1 (tb := ur_30.1 * 2) (by omega), hPS_0 (tb := tb) (by omega), hPC_0 (tb := tb) (by omega)]
          constructor <;> omega
        have hP9 := hP.sub (ws' := [(y0, .inr (3, [.ref x0, .int kd, .int wh, .int (nI cap), .int ru, .int (nI (ur_30.1 * 2)), .ref ur_42.1])), (x0, .inr (5, [.ref ur_42.2.2.2.1, .ref ur_42.2.2.2.2.1, .int (nI (ur_35.2.2.2.2.2.2.2.1)), .int ur_35.2.2.2.2.2.2.2.2])), (ur_42.2.2.2.1, .inl (ur_42.2.2.2.2.2.1, ur_35.2.2.2.2.1, .inl ur_42.2.2.2.2.2.2.2.1)), (ur_42.2.2.2.2.1, .inl (ur_42.2.2.2.2.2.2.1, ur_35.2.2.2.2.1, .inl ur_42.2.2.2.2.2.2.2.2)), (ur_42.1, .inl (ur_42.2.1, ur_30.1 * 2, .inl ur_42.2.2.1))]) [0, 1, 2, 3, 4] rfl
        have hD9 := hD.sub (ws' := [(y0, .inr (3, [.ref x0, .int kd, .int wh, .int (nI cap), .int ru, .int (nI (ur_30.1 * 2)), .ref ur_42.1])), (x0, .inr (5, [.ref ur_42.2.2.2.1, .ref ur_42.2.2.2.2.1, .int (nI (ur_35.2.2.2.2.2.2.2.1)), .int ur_35.2.2.2.2.2.2.2.2])), (ur_42.2.2.2.1, .inl (ur_42.2.2.2.2.2.1, ur_35.2.2.2.2.1, .inl ur_42.2.2.2.2.2.2.2.1)), (ur_42.2.2.2.2.1, .inl (ur_42.2.2.2.2.2.2.1, ur_35.2.2.2.2.1, .inl ur_42.2.2.2.2.2.2.2.2)), (ur_42.1, .inl (ur_42.2.1, ur_30.1 * 2, .inl ur_42.2.2.1))]) [0, 1, 2, 3, 4] (by decide) rfl
        have hK9 := hK.sub (tys' := [(ur_42.2.2.2.2.2.1, .int), (ur_42.2.2.2.2.2.2.1, .int), (ur_42.2.1, .boolean)]) [8, 9, 10] rfl
        refine W.widen (k := 8) (n := gs + ds) (by omega) (by omega) ?_
        exact W.vret hx hb hr (fun t ht hW => ⟨⟨(ur_30.1 * 2, ur_42.1, ur_42.2.1, ur_42.2.2.1, ur_42.2.2.2.1, ur_42.2.2.2.2.1, ur_42.2.2.2.2.2.1, ur_42.2.2.2.2.2.2.1, ur_35.2.2.2.2.1, ur_42.2.2.2.2.2.2.2.1, ur_42.2.2.2.2.2.2.2.2, ur_35.2.2.2.2.2.2.2.1, ur_35.2.2.2.2.2.2.2.2), rfl, hpost, by rw [ht]; exact hP9, va_K.moved hW.alike hK9, hD9, by rw [ht]; exact hcost⟩, hS.F ht⟩) hS.2.2 dX2_enter_104
    ·
      have ic_33 : 8 ≤ r_32.toInt := tx_nlt rfl (by decide) c_33
      refine lv_iconst (v := 1) hx hb dX2_enter_27 (by decide) ?_
      refine lv_goto (tgt := 32) hx hb dX2_enter_28 (by decide) ?_
      refine lv_istore (lv' := [(4, .int 1), (3, .int r_31), (0, .ref y0), (1, .int p0), (2, .int p1)]) hx hb dX2_enter_32 hl (by decide) rfl (fun ls hl => ?_)
      refine lv_aload_n hx hb dX2_enter_34 rfl (lv_at hl 2 rfl) ?_
      refine va_get (D := (dC, dI)) (ci := 3) (v := .ref x0) (C := RX2) (T := TX2) (N := 7) hx hb hts hi0_ hown hK hP 0 rfl rfl 0 (by decide) hw1_ (u_same hw2_) rfl dX2_enter_35 ?_
      refine lv_aload_n hx hb dX2_enter_38 rfl (lv_at hl 2 rfl) ?_
      refine lv_iload_n hx hb dX2_enter_39 rfl (lv_at hl 1 rfl) ?_
      refine lv_iconst (v := 1) hx hb dX2_enter_40 (by decide) ?_
      refine lv_iadd hx hb dX2_enter_41 ?_
      have hPc := hP.sub (ws' := [(y0, .inr (3, [.ref x0, .int kd, .int wh, .int (nI cap), .int ru, .int (nI (ur_30.1)), .ref ur_30.2.1])), (x0, .inr (5, [.ref k0, .ref w0, .int (nI nz), .int ch])), (k0, .inl (ck, L, .inl f)), (w0, .inl (cw, L, .inl g)), (ur_30.2.1, .inl (ur_30.2.2.1, ur_30.1, .inl ur_30.2.2.2))]) [0, 1, 2, 3, 4] rfl
      have hKc := hK.sub (tys' := [(ck, .int), (cw, .int), (ur_30.2.2.1, .boolean)]) [0, 1, 5] rfl
      refine ro_calli (va_runV (As := [.int (r_31 + 1)]) (rest := [.ref x0]) ⟨hx, hb, hml, hown, hts⟩ (c_X2_startOf l  dC dI H.size y0 kd wh cap ru ur_30.1 ur_30.2.1 ur_30.2.2.1 ur_30.2.2.2 x0 k0 w0 ck cw L f g nz ch (r_31 + 1) hR9) (cwV 1 hts gX2_enter_X2_startOf rfl rfl rfl (by decide +kernel) ⟨(Nat.le_of_ble_eq_true rfl), (Nat.le_of_ble_eq_true rfl)⟩) ⟨pk_blindR, va_recv hKc hPc (ci := 3) (q0 := 0) rfl rfl, pk_callR hPc hKc⟩ rfl rfl hl.1 rfl (lv_room (Nat.le_of_ble_eq_true rfl)) dX2_enter_42 ⟨(Nat.le_of_ble_eq_true rfl), (show 1024 + 0 ≤ gs + ds by omega)⟩) (fun r_43 ur_43 hw => ?_)
      clear hPc hKc
      try dsimp only at hw
      have jr_43 := hw
      obtain ⟨kc, hkc, rfl⟩ := jr_43
      refine W.eq (g2 := F0 m 45 ls [.int (nI kc), .ref x0]) rfl ?_
      refine lv_iload_n hx hb dX2_enter_45 rfl (lv_at hl 3 rfl) ?_
      refine lv_iload_n hx hb dX2_enter_46 rfl (lv_at hl 4 rfl) ?_
      have hPc := hP.sub (ws' := [(x0, .inr (5, [.ref k0, .ref w0, .int (nI nz), .int ch])), (k0, .inl (ck, L, .inl f)), (w0, .inl (cw, L, .inl g))]) [1, 2, 3] rfl
      have hDc := hD.sub (ws' := [(x0, .inr (5, [.ref k0, .ref w0, .int (nI nz), .int ch])), (k0, .inl (ck, L, .inl f)), (w0, .inl (cw, L, .inl g))]) [1, 2, 3] (by decide) rfl
      have hKc := hK.sub (tys' := [(ck, .int), (cw, .int)]) [0, 1] rfl
      have hFc := va_free (wc := [(x0, .inr (5, [.ref k0, .ref w0, .int (nI nz), .int ch])), (k0, .inl (ck, L, .inl f)), (w0, .inl (cw, L, .inl g))]) hD hS hA [1, 2, 3] rfl
      refine W.book (fun hz8_ hn8_ => ?_)
      refine va_callv (va_runV (As := [.int (nI kc), .int p0, .int p1]) (rest := []) ⟨hx, hb, hml, hown, hts⟩ (c_X5_insert l  dC dI H.size (hT H) x0 k0 w0 ck cw L f g nz ch (nI kc) p0 p1 2 gs hR9 (by omega)) (cwV 3 hts gX2_enter_X5_insert rfl rfl rfl (by decide +kernel) ⟨(Nat.le_of_ble_eq_true rfl), (Nat.le_of_ble_eq_true rfl)⟩) ⟨pk_blindT, va_recv hKc hPc (ci := 5) (q0 := 0) rfl rfl, pk_callT hPc hKc hDc⟩ rfl rfl hl.1 rfl (lv_room (Nat.le_of_ble_eq_true rfl)) dX2_enter_47 ⟨(Nat.le_of_ble_eq_true rfl), (show 1024 + gs ≤ gs + ds by omega)⟩) hS (fun q _ h => hFc q h) hFc (fun ur_44 t H1 locs ht hvm hw hB hz1 hk1 hS => ?_)
      try dsimp only at hw
      have jr_44 := hw
      obtain ⟨hP1, hK1, hD1, hC1_⟩ := hB
      rw [ht] at hP1 hC1_
      have hK1 := va_K.moved hvm.symm hK1
      obtain ⟨hP, hD⟩ := va_join (wr := [(y0, .inr (3, [.ref x0, .int kd, .int wh, .int (nI cap), .int ru, .int (nI (ur_30.1)), .ref ur_30.2.1])), (ur_30.2.1, .inl (ur_30.2.2.1, ur_30.1, .inl ur_30.2.2.2))]) (w1 := [(x0, .inr (5, [.ref ur_44.1, .ref ur_44.2.1, .int (nI (ur_44.2.2.2.2.2.2.2.1)), .int ur_44.2.2.2.2.2.2.2.2])), (ur_44.1, .inl (ur_44.2.2.1, ur_44.2.2.2.2.1, .inl ur_44.2.2.2.2.2.1)), (ur_44.2.1, .inl (ur_44.2.2.2.1, ur_44.2.2.2.2.1, .inl ur_44.2.2.2.2.2.2.1))]) hP hD [1, 2, 3] [0, 4] rfl rfl (by decide) (by decide) hk1 hFc hP1 hD1
      have hK := hK.app hK1
      have hK : va_K (dC, dI) vwCl [(ck, .int), (cw, .int), (cb, .boolean), (ck, .int), (cw, .int), (ur_30.2.2.1, .boolean), (ur_44.2.2.1, .int), (ur_44.2.2.2.1, .int)] s := hK
      have hl7_ := jr_44.2.2.2
      have hn7_ : hT H1 ≤ hT s.heap + (1024 + (4 * (ur_44.2.2.2.2.1) - 4 * L)) := by omega
      have hz7_ : H1.size ≤ s.heap.size + (1 + (2 * lgN (ur_44.2.2.2.2.1) - 2 * lgN L)) := by omega
      clear hC1_ hn8_ hz8_
      clear hk1 hz1 ht hPc hDc hKc hFc
      generalize H1 = H at hP hS hn7_ hz7_ ⊢
      replace hP : va_P (dC, dI) vwCl [(y0, .inr (3, [.ref x0, .int kd, .int wh, .int (nI cap), .int ru, .int (nI (ur_30.1)), .ref ur_30.2.1])), (ur_30.2.1, .inl (ur_30.2.2.1, ur_30.1, .inl ur_30.2.2.2)), (x0, .inr (5, [.ref ur_44.1, .ref ur_44.2.1, .int (nI (ur_44.2.2.2.2.2.2.2.1)), .int ur_44.2.2.2.2.2.2.2.2])), (ur_44.1, .inl (ur_44.2.2.1, ur_44.2.2.2.2.1, .inl ur_44.2.2.2.2.2.1)), (ur_44.2.1, .inl (ur_44.2.2.2.1, ur_44.2.2.2.2.1, .inl ur_44.2.2.2.2.2.2.1))] H := hP
      replace hD : va_D A [(y0, .inr (3, [.ref x0, .int kd, .int wh, .int (nI cap), .int ru, .int (nI (ur_30.1)), .ref ur_30.2.1])), (ur_30.2.1, .inl (ur_30.2.2.1, ur_30.1, .inl ur_30.2.2.2)), (x0, .inr (5, [.ref ur_44.1, .ref ur_44.2.1, .int (nI (ur_44.2.2.2.2.2.2.2.1)), .int ur_44.2.2.2.2.2.2.2.2])), (ur_44.1, .inl (ur_44.2.2.1, ur_44.2.2.2.2.1, .inl ur_44.2.2.2.2.2.1)), (ur_44.2.1, .inl (ur_44.2.2.2.1, ur_44.2.2.2.2.1, .inl ur_44.2.2.2.2.2.2.1))] := hD
      refine W.tight (k := 1 + (2 * lgN (ur_44.2.2.2.2.1) - 2 * lgN L)) (n := 1024 + (4 * (ur_44.2.2.2.2.1) - 4 * L)) hz7_ hn7_ ?_
      clear hn7_ hz7_
      refine W.eq (g2 := F0 m 50 ls []) rfl ?_
      have hR8 := jr_44.1
      obtain ⟨⟨m1_, m2_, m3_, m4_⟩, m5_, m6_, m7_⟩ := jr_44
      have hlg1_ : lgN (ur_44.2.2.2.2.1) = lgN L ∨ lgN (ur_44.2.2.2.2.1) = lgN L + 1 := lgN_two (by omega) (by omega)
      refine lv_iload hx hb dX2_enter_50 (lv_at hl 0 rfl) ?_
      refine lv_if_eq (tgt := 71) hx hb dX2_enter_52 (by decide) (fun c_45 => absurd c_45 (by decide)) (fun c_45 => ?_)
      refine lv_aload_n hx hb dX2_enter_55 rfl (lv_at hl 2 rfl) ?_
      refine va_get (D := (dC, dI)) (ci := 3) (v := .int (nI (ur_30.1))) (C := RX2) (T := TX2) (N := 7) hx hb hts hi0_ hown hK hP 0 rfl rfl 5 (by decide) hw0_ (fun _ h9 => h9) rfl dX2_enter_56 ?_
      refine lv_bipush (v := 64) hx hb dX2_enter_59 (by decide) ?_
      refine lv_icmp_ge (tgt := 71) hx hb dX2_enter_61 (by decide) (fun c_46 => ?_) (fun c_46 => ?_)
      ·
        have ic_46 : 64 ≤ ((ur_30.1 : Nat) : Int) := tx_le (by decide) (nI_toInt (by omega)) c_46
        refine lv_iload hx hb dX2_enter_71 (lv_at hl 0 rfl) ?_
        refine lv_if_eq (tgt := 82) hx hb dX2_enter_73 (by decide) (fun c_47 => absurd c_47 (by decide)) (fun c_47 => ?_)
        refine lv_aload_n hx hb dX2_enter_76 rfl (lv_at hl 2 rfl) ?_
        refine lv_iload_n hx hb dX2_enter_77 rfl (lv_at hl 1 rfl) ?_
        refine lv_iconst (v := 1) hx hb dX2_enter_78 (by decide) ?_
        have hPc := hP.sub (ws' := [(y0, .inr (3, [.ref x0, .int kd, .int wh, .int (nI cap), .int ru, .int (nI (ur_30.1)), .ref ur_30.2.1])), (x0, .inr (5, [.ref ur_44.1, .ref ur_44.2.1, .int (nI (ur_44.2.2.2.2.2.2.2.1)), .int ur_44.2.2.2.2.2.2.2.2])), (ur_44.1, .inl (ur_44.2.2.1, ur_44.2.2.2.2.1, .inl ur_44.2.2.2.2.2.1)), (ur_44.2.1, .inl (ur_44.2.2.2.1, ur_44.2.2.2.2.1, .inl ur_44.2.2.2.2.2.2.1)), (ur_30.2.1, .inl (ur_30.2.2.1, ur_30.1, .inl ur_30.2.2.2))]) [0, 2, 3, 4, 1] rfl
        have hDc := hD.sub (ws' := [(y0, .inr (3, [.ref x0, .int kd, .int wh, .int (nI cap), .int ru, .int (nI (ur_30.1)), .ref ur_30.2.1])), (x0, .inr (5, [.ref ur_44.1, .ref ur_44.2.1, .int (nI (ur_44.2.2.2.2.2.2.2.1)), .int ur_44.2.2.2.2.2.2.2.2])), (ur_44.1, .inl (ur_44.2.2.1, ur_44.2.2.2.2.1, .inl ur_44.2.2.2.2.2.1)), (ur_44.2.1, .inl (ur_44.2.2.2.1, ur_44.2.2.2.2.1, .inl ur_44.2.2.2.2.2.2.1)), (ur_30.2.1, .inl (ur_30.2.2.1, ur_30.1, .inl ur_30.2.2.2))]) [0, 2, 3, 4, 1] (by decide) rfl
        have hKc := hK.sub (tys' := [(ur_44.2.2.1, .int), (ur_44.2.2.2.1, .int), (ur_30.2.2.1, .boolean)]) [6, 7, 5] rfl
        have hFc := va_free (wc := [(y0, .inr (3, [.ref x0, .int kd, .int wh, .int (nI cap), .int ru, .int (nI (ur_30.1)), .ref ur_30.2.1])), (x0, .inr (5, [.ref ur_44.1, .ref ur_44.2.1, .int (nI (ur_44.2.2.2.2.2.2.2.1)), .int ur_44.2.2.2.2.2.2.2.2])), (ur_44.1, .inl (ur_44.2.2.1, ur_44.2.2.2.2.1, .inl ur_44.2.2.2.2.2.1)), (ur_44.2.1, .inl (ur_44.2.2.2.1, ur_44.2.2.2.2.1, .inl ur_44.2.2.2.2.2.2.1)), (ur_30.2.1, .inl (ur_30.2.2.1, ur_30.1, .inl ur_30.2.2.2))]) hD hS hA [0, 2, 3, 4, 1] rfl
        refine va_callv (va_runV (As := [.int r_31, .int 1]) (rest := []) ⟨hx, hb, hml, hown, hts⟩ (c_X2_setBushy l  dC dI H.size y0 kd wh cap ru ur_30.1 ur_30.2.1 ur_30.2.2.1 ur_30.2.2.2 x0 ur_44.1 ur_44.2.1 ur_44.2.2.1 ur_44.2.2.2.1 ur_44.2.2.2.2.1 ur_44.2.2.2.2.2.1 ur_44.2.2.2.2.2.2.1 ur_44.2.2.2.2.2.2.2.1 ur_44.2.2.2.2.2.2.2.2 r_31 1 (by omega)) (cwV 2 hts gX2_enter_X2_setBushy rfl rfl rfl (by decide +kernel) ⟨(Nat.le_of_ble_eq_true rfl), (Nat.le_of_ble_eq_true rfl)⟩) ⟨pk_blind, va_recv hKc hPc (ci := 3) (q0 := 0) rfl rfl, pk_call hPc hKc hDc⟩ rfl rfl hl.1 rfl (lv_room (Nat.le_of_ble_eq_true rfl)) dX2_enter_79 ⟨(show 1 + (2 * lgN (ur_44.2.2.2.2.1) - 2 * lgN L) + 0 ≤ 8 by omega), (show 1024 + (4 * (ur_44.2.2.2.2.1) - 4 * L) + 0 ≤ gs + ds by omega)⟩) hS (fun q _ h => hFc q h) hFc (fun ur_48 t H1 locs ht hvm hw hB hz1 hk1 hS => ?_)
        try dsimp only at hw
        have jr_48 := hw
        obtain ⟨hP1, hK1, hD1⟩ := hB
        rw [ht] at hP1
        have hK1 := va_K.moved hvm.symm hK1
        obtain ⟨hP, hD⟩ := va_join (wr := []) (w1 := [(y0, .inr (3, [.ref x0, .int kd, .int wh, .int (nI cap), .int ru, .int (nI (ur_30.1)), .ref ur_30.2.1])), (x0, .inr (5, [.ref ur_44.1, .ref ur_44.2.1, .int (nI (ur_44.2.2.2.2.2.2.2.1)), .int ur_44.2.2.2.2.2.2.2.2])), (ur_44.1, .inl (ur_44.2.2.1, ur_44.2.2.2.2.1, .inl ur_44.2.2.2.2.2.1)), (ur_44.2.1, .inl (ur_44.2.2.2.1, ur_44.2.2.2.2.1, .inl ur_44.2.2.2.2.2.2.1)), (ur_30.2.1, .inl (ur_30.2.2.1, ur_30.1, .inl ur_48))]) hP hD [0, 2, 3, 4, 1] [] rfl rfl (by decide) (by decide) hk1 hFc hP1 hD1
        clear hk1 hz1 ht hPc hDc hKc hFc
        generalize H1 = H at hP hS ⊢
        replace hP : va_P (dC, dI) vwCl [(y0, .inr (3, [.ref x0, .int kd, .int wh, .int (nI cap), .int ru, .int (nI (ur_30.1)), .ref ur_30.2.1])), (x0, .inr (5, [.ref ur_44.1, .ref ur_44.2.1, .int (nI (ur_44.2.2.2.2.2.2.2.1)), .int ur_44.2.2.2.2.2.2.2.2])), (ur_44.1, .inl (ur_44.2.2.1, ur_44.2.2.2.2.1, .inl ur_44.2.2.2.2.2.1)), (ur_44.2.1, .inl (ur_44.2.2.2.1, ur_44.2.2.2.2.1, .inl ur_44.2.2.2.2.2.2.1)), (ur_30.2.1, .inl (ur_30.2.2.1, ur_30.1, .inl ur_48))] H := hP
        replace hD : va_D A [(y0, .inr (3, [.ref x0, .int kd, .int wh, .int (nI cap), .int ru, .int (nI (ur_30.1)), .ref ur_30.2.1])), (x0, .inr (5, [.ref ur_44.1, .ref ur_44.2.1, .int (nI (ur_44.2.2.2.2.2.2.2.1)), .int ur_44.2.2.2.2.2.2.2.2])), (ur_44.1, .inl (ur_44.2.2.1, ur_44.2.2.2.2.1, .inl ur_44.2.2.2.2.2.1)), (ur_44.2.1, .inl (ur_44.2.2.2.1, ur_44.2.2.2.2.1, .inl ur_44.2.2.2.2.2.2.1)), (ur_30.2.1, .inl (ur_30.2.2.1, ur_30.1, .inl ur_48))] := hD
        refine W.widen (k := 1 + (2 * lgN (ur_44.2.2.2.2.1) - 2 * lgN L)) (n := 1024 + (4 * (ur_44.2.2.2.2.1) - 4 * L)) (by omega) (by omega) ?_
        refine W.eq (g2 := F0 m 82 ls []) rfl ?_
        refine lv_aload_n hx hb dX2_enter_82 rfl (lv_at hl 2 rfl) ?_
        refine va_get (D := (dC, dI)) (ci := 3) (v := .ref x0) (C := RX2) (T := TX2) (N := 7) hx hb hts hi0_ hown hK hP 0 rfl rfl 0 (by decide) hw1_ (u_same hw2_) rfl dX2_enter_83 ?_
        have hPc := hP.sub (ws' := [(x0, .inr (5, [.ref ur_44.1, .ref ur_44.2.1, .int (nI (ur_44.2.2.2.2.2.2.2.1)), .int ur_44.2.2.2.2.2.2.2.2]))]) [1] rfl
        have hKc := hK.sub (tys' := []) [] rfl
        refine ro_calli (va_runV (As := []) (rest := []) ⟨hx, hb, hml, hown, hts⟩ (c_X5_size l  dC dI H.size x0 (nI (ur_44.2.2.2.2.2.2.2.1)) (.ref ur_44.1) (.ref ur_44.2.1) (.int ur_44.2.2.2.2.2.2.2.2)) (cwV 0 hts gX2_enter_X5_size rfl rfl rfl (by decide +kernel) ⟨(Nat.le_of_ble_eq_true rfl), (Nat.le_of_ble_eq_true rfl)⟩) ⟨pk_blindR, va_recv hKc hPc (ci := 5) (q0 := 0) rfl rfl, pk_callR hPc hKc⟩ rfl rfl hl.1 rfl (lv_room (Nat.le_of_ble_eq_true rfl)) dX2_enter_86 ⟨(show 1 + (2 * lgN (ur_44.2.2.2.2.1) - 2 * lgN L) + 0 ≤ 8 by omega), (show 1024 + (4 * (ur_44.2.2.2.2.1) - 4 * L) + 0 ≤ gs + ds by omega)⟩) (fun r_49 ur_49 hw => ?_)
        clear hPc hKc
        try dsimp only at hw
        obtain rfl : r_49 = nI (ur_44.2.2.2.2.2.2.2.1) := hw
        refine W.eq (g2 := F0 m 89 ls [.int (nI (ur_44.2.2.2.2.2.2.2.1))]) rfl ?_
        refine lv_iconst (v := 4) hx hb dX2_enter_89 (by decide) ?_
        refine lv_imul hx hb dX2_enter_90 ?_
        refine lv_topi (fun z_50 ez_50 => ?_)
        obtain rfl : z_50 = nI (ur_44.2.2.2.2.2.2.2.1 * 4) := ez_50.trans (by rw [show (4 : Int32) = nI 4 from rfl, pk_mul])
        refine lv_aload_n hx hb dX2_enter_91 rfl (lv_at hl 2 rfl) ?_
        refine va_get (D := (dC, dI)) (ci := 3) (v := .int (nI (ur_30.1))) (C := RX2) (T := TX2) (N := 7) hx hb hts hi0_ hown hK hP 0 rfl rfl 5 (by decide) hw0_ (fun _ h9 => h9) rfl dX2_enter_92 ?_
        refine lv_iconst (v := 3) hx hb dX2_enter_95 (by decide) ?_
        refine lv_imul hx hb dX2_enter_96 ?_
        refine lv_topi (fun z_51 ez_51 => ?_)
        obtain rfl : z_51 = nI (ur_30.1 * 3) := ez_51.trans (by rw [show (3 : Int32) = nI 3 from rfl, pk_mul])
        refine lv_icmp_le (tgt := 104) hx hb dX2_enter_97 (by decide) (fun c_52 => ?_) (fun c_52 => ?_)
        ·
          have ic_52 : ((ur_44.2.2.2.2.2.2.2.1 * 4 : Nat) : Int) ≤ ((ur_30.1 * 3 : Nat) : Int) := tx_le (nI_toInt (by omega)) (nI_toInt (by omega)) c_52
          refine W.book (fun hz9_ hn9_ => ?_)
          have hpost : enP tb L nz cap (ur_30.1) (ur_44.2.2.2.2.1) (ur_44.2.2.2.2.2.2.2.1) := by unfold enP hOK; exact ⟨⟨hR8, en_p hpL m7_, hcap, Or.inr ⟨by omega, by first | omega | (have := p2_1024 hq3 (by omega); omega), hq3, by omega, en_L hpL (hq3) (by omega) (by omega) m7_⟩⟩, by omega, by omega, by omega, by omega⟩
          have hLT_ : ur_44.2.2.2.2.1 = 16 ∨ ur_44.2.2.2.2.1 ≤ ur_30.1 := en_L' hpL hq3 hq5 hq4 m7_
          have hlg1_ : lgN (ur_44.2.2.2.2.1) = lgN L ∨ lgN (ur_44.2.2.2.2.1) = lgN L + 1 := lgN_two (by omega) (by omega)
          have hcost : hT H + hPS tb L ≤ hT s.heap + hPS (ur_30.1) (ur_44.2.2.2.2.1) ∧ H.size + hPC tb L ≤ s.heap.size + hPC (ur_30.1) (ur_44.2.2.2.2.1) := by
            rw [hPS_1 (tb := ur_30.1) (by omega), hPC_1 (tb := ur_30.1) (by omega), hPS_0 (tb := tb) (by omega), hPC_0 (tb := tb) (by omega)]
            constructor <;> omega
          have hP9 := hP.sub (ws' := [(y0, .inr (3, [.ref x0, .int kd, .int wh, .int (nI cap), .int ru, .int (nI (ur_30.1)), .ref ur_30.2.1])), (x0, .inr (5, [.ref ur_44.1, .ref ur_44.2.1, .int (nI (ur_44.2.2.2.2.2.2.2.1)), .int ur_44.2.2.2.2.2.2.2.2])), (ur_44.1, .inl (ur_44.2.2.1, ur_44.2.2.2.2.1, .inl ur_44.2.2.2.2.2.1)), (ur_44.2.1, .inl (ur_44.2.2.2.1, ur_44.2.2.2.2.1, .inl ur_44.2.2.2.2.2.2.1)), (ur_30.2.1, .inl (ur_30.2.2.1, ur_30.1, .inl ur_48))]) [0, 1, 2, 3, 4] rfl
          have hD9 := hD.sub (ws' := [(y0, .inr (3, [.ref x0, .int kd, .int wh, .int (nI cap), .int ru, .int (nI (ur_30.1)), .ref ur_30.2.1])), (x0, .inr (5, [.ref ur_44.1, .ref ur_44.2.1, .int (nI (ur_44.2.2.2.2.2.2.2.1)), .int ur_44.2.2.2.2.2.2.2.2])), (ur_44.1, .inl (ur_44.2.2.1, ur_44.2.2.2.2.1, .inl ur_44.2.2.2.2.2.1)), (ur_44.2.1, .inl (ur_44.2.2.2.1, ur_44.2.2.2.2.1, .inl ur_44.2.2.2.2.2.2.1)), (ur_30.2.1, .inl (ur_30.2.2.1, ur_30.1, .inl ur_48))]) [0, 1, 2, 3, 4] (by decide) rfl
          have hK9 := hK.sub (tys' := [(ur_44.2.2.1, .int), (ur_44.2.2.2.1, .int), (ur_30.2.2.1, .boolean)]) [6, 7, 5] rfl
          refine W.widen (k := 8) (n := gs + ds) (by omega) (by omega) ?_
          exact W.vret hx hb hr (fun t ht hW => ⟨⟨(ur_30.1, ur_30.2.1, ur_30.2.2.1, ur_48, ur_44.1, ur_44.2.1, ur_44.2.2.1, ur_44.2.2.2.1, ur_44.2.2.2.2.1, ur_44.2.2.2.2.2.1, ur_44.2.2.2.2.2.2.1, ur_44.2.2.2.2.2.2.2.1, ur_44.2.2.2.2.2.2.2.2), rfl, hpost, by rw [ht]; exact hP9, va_K.moved hW.alike hK9, hD9, by rw [ht]; exact hcost⟩, hS.F ht⟩) hS.2.2 dX2_enter_104
        ·
          have ic_52 : ((ur_30.1 * 3 : Nat) : Int) < ((ur_44.2.2.2.2.2.2.2.1 * 4 : Nat) : Int) := tx_nle (nI_toInt (by omega)) (nI_toInt (by omega)) c_52
          refine lv_aload_n hx hb dX2_enter_100 rfl (lv_at hl 2 rfl) ?_
          have hPc := hP.sub (ws' := [(y0, .inr (3, [.ref x0, .int kd, .int wh, .int (nI cap), .int ru, .int (nI (ur_30.1)), .ref ur_30.2.1])), (x0, .inr (5, [.ref ur_44.1, .ref ur_44.2.1, .int (nI (ur_44.2.2.2.2.2.2.2.1)), .int ur_44.2.2.2.2.2.2.2.2])), (ur_44.1, .inl (ur_44.2.2.1, ur_44.2.2.2.2.1, .inl ur_44.2.2.2.2.2.1)), (ur_44.2.1, .inl (ur_44.2.2.2.1, ur_44.2.2.2.2.1, .inl ur_44.2.2.2.2.2.2.1)), (ur_30.2.1, .inl (ur_30.2.2.1, ur_30.1, .inl ur_48))]) [0, 1, 2, 3, 4] rfl
          have hDc := hD.sub (ws' := [(y0, .inr (3, [.ref x0, .int kd, .int wh, .int (nI cap), .int ru, .int (nI (ur_30.1)), .ref ur_30.2.1])), (x0, .inr (5, [.ref ur_44.1, .ref ur_44.2.1, .int (nI (ur_44.2.2.2.2.2.2.2.1)), .int ur_44.2.2.2.2.2.2.2.2])), (ur_44.1, .inl (ur_44.2.2.1, ur_44.2.2.2.2.1, .inl ur_44.2.2.2.2.2.1)), (ur_44.2.1, .inl (ur_44.2.2.2.1, ur_44.2.2.2.2.1, .inl ur_44.2.2.2.2.2.2.1)), (ur_30.2.1, .inl (ur_30.2.2.1, ur_30.1, .inl ur_48))]) [0, 1, 2, 3, 4] (by decide) rfl
          have hKc := hK.sub (tys' := [(ur_44.2.2.1, .int), (ur_44.2.2.2.1, .int), (ur_30.2.2.1, .boolean)]) [6, 7, 5] rfl
          have hFc := va_free (wc := [(y0, .inr (3, [.ref x0, .int kd, .int wh, .int (nI cap), .int ru, .int (nI (ur_30.1)), .ref ur_30.2.1])), (x0, .inr (5, [.ref ur_44.1, .ref ur_44.2.1, .int (nI (ur_44.2.2.2.2.2.2.2.1)), .int ur_44.2.2.2.2.2.2.2.2])), (ur_44.1, .inl (ur_44.2.2.1, ur_44.2.2.2.2.1, .inl ur_44.2.2.2.2.2.1)), (ur_44.2.1, .inl (ur_44.2.2.2.1, ur_44.2.2.2.2.1, .inl ur_44.2.2.2.2.2.2.1)), (ur_30.2.1, .inl (ur_30.2.2.1, ur_30.1, .inl ur_48))]) hD hS hA [0, 1, 2, 3, 4] rfl
          refine va_callv (va_runV (As := []) (rest := []) ⟨hx, hb, hml, hown, hts⟩ (c_X2_doubleTable l  dC dI H.size y0 kd wh cap ru ur_30.1 ur_30.2.1 ur_30.2.2.1 ur_48 x0 ur_44.1 ur_44.2.1 ur_44.2.2.1 ur_44.2.2.2.1 ur_44.2.2.2.2.1 ur_44.2.2.2.2.2.1 ur_44.2.2.2.2.2.2.1 ur_44.2.2.2.2.2.2.2.1 ur_44.2.2.2.2.2.2.2.2 hR8 hq1 (by first | omega | exact p2_1024 hq3 (by omega))) (cwV 0 hts gX2_enter_X2_doubleTable rfl rfl rfl (by decide +kernel) ⟨(Nat.le_of_ble_eq_true rfl), (Nat.le_of_ble_eq_true rfl)⟩) ⟨pk_blind, va_recv hKc hPc (ci := 3) (q0 := 0) rfl rfl, pk_call hPc hKc hDc⟩ rfl rfl hl.1 rfl (lv_room (Nat.le_of_ble_eq_true rfl)) dX2_enter_101 ⟨(show 1 + (2 * lgN (ur_44.2.2.2.2.1) - 2 * lgN L) + 5 ≤ 8 by omega), (show 1024 + (4 * (ur_44.2.2.2.2.1) - 4 * L) + (4 * ur_30.1 + ur_44.2.2.2.2.2.2.2.1 + 2 * ur_44.2.2.2.2.1) ≤ gs + ds by omega)⟩) hS (fun q _ h => hFc q h) hFc (fun ur_53 t H1 locs ht hvm hw hB hz1 hk1 hS => ?_)
          try dsimp only at hw
          have jr_53 := hw
          obtain ⟨hP1, hK1, hD1⟩ := hB
          rw [ht] at hP1
          have hK1 := va_K.moved hvm.symm hK1
          obtain ⟨hP, hD⟩ := va_join (wr := []) (w1 := [(y0, .inr (3, [.ref x0, .int kd, .int wh, .int (nI cap), .int ru, .int (nI (ur_30.1 * 2)), .ref ur_53.1])), (x0, .inr (5, [.ref ur_53.2.2.2.1, .ref ur_53.2.2.2.2.1, .int (nI (ur_44.2.2.2.2.2.2.2.1)), .int ur_44.2.2.2.2.2.2.2.2])), (ur_53.2.2.2.1, .inl (ur_53.2.2.2.2.2.1, ur_44.2.2.2.2.1, .inl ur_53.2.2.2.2.2.2.2.1)), (ur_53.2.2.2.2.1, .inl (ur_53.2.2.2.2.2.2.1, ur_44.2.2.2.2.1, .inl ur_53.2.2.2.2.2.2.2.2)), (ur_53.1, .inl (ur_53.2.1, ur_30.1 * 2, .inl ur_53.2.2.1))]) hP hD [0, 1, 2, 3, 4] [] rfl rfl (by decide) (by decide) hk1 hFc hP1 hD1
          have hK := hK.app hK1
          have hK : va_K (dC, dI) vwCl [(ck, .int), (cw, .int), (cb, .boolean), (ck, .int), (cw, .int), (ur_30.2.2.1, .boolean), (ur_44.2.2.1, .int), (ur_44.2.2.2.1, .int), (ur_53.2.2.2.2.2.1, .int), (ur_53.2.2.2.2.2.2.1, .int), (ur_53.2.1, .boolean)] s := hK
          clear hk1 hz1 ht hPc hDc hKc hFc
          generalize H1 = H at hP hS ⊢
          replace hP : va_P (dC, dI) vwCl [(y0, .inr (3, [.ref x0, .int kd, .int wh, .int (nI cap), .int ru, .int (nI (ur_30.1 * 2)), .ref ur_53.1])), (x0, .inr (5, [.ref ur_53.2.2.2.1, .ref ur_53.2.2.2.2.1, .int (nI (ur_44.2.2.2.2.2.2.2.1)), .int ur_44.2.2.2.2.2.2.2.2])), (ur_53.2.2.2.1, .inl (ur_53.2.2.2.2.2.1, ur_44.2.2.2.2.1, .inl ur_53.2.2.2.2.2.2.2.1)), (ur_53.2.2.2.2.1, .inl (ur_53.2.2.2.2.2.2.1, ur_44.2.2.2.2.1, .inl ur_53.2.2.2.2.2.2.2.2)), (ur_53.1, .inl (ur_53.2.1, ur_30.1 * 2, .inl ur_53.2.2.1))] H := hP
          replace hD : va_D A [(y0, .inr (3, [.ref x0, .int kd, .int wh, .int (nI cap), .int ru, .int (nI (ur_30.1 * 2)), .ref ur_53.1])), (x0, .inr (5, [.ref ur_53.2.2.2.1, .ref ur_53.2.2.2.2.1, .int (nI (ur_44.2.2.2.2.2.2.2.1)), .int ur_44.2.2.2.2.2.2.2.2])), (ur_53.2.2.2.1, .inl (ur_53.2.2.2.2.2.1, ur_44.2.2.2.2.1, .inl ur_53.2.2.2.2.2.2.2.1)), (ur_53.2.2.2.2.1, .inl (ur_53.2.2.2.2.2.2.1, ur_44.2.2.2.2.1, .inl ur_53.2.2.2.2.2.2.2.2)), (ur_53.1, .inl (ur_53.2.1, ur_30.1 * 2, .inl ur_53.2.2.1))] := hD
          refine W.widen (k := 1 + (2 * lgN (ur_44.2.2.2.2.1) - 2 * lgN L) + 5) (n := 1024 + (4 * (ur_44.2.2.2.2.1) - 4 * L) + (4 * ur_30.1 + ur_44.2.2.2.2.2.2.2.1 + 2 * ur_44.2.2.2.2.1)) (by omega) (by omega) ?_
          refine W.eq (g2 := F0 m 104 ls []) rfl ?_
          refine W.book (fun hz9_ hn9_ => ?_)
          have hpost : enP tb L nz cap (ur_30.1 * 2) (ur_44.2.2.2.2.1) (ur_44.2.2.2.2.2.2.2.1) := by unfold enP hOK; exact ⟨⟨hR8, en_p hpL m7_, hcap, Or.inr ⟨by omega, by first | omega | (have := p2_1024 hq3 (by omega); omega), p2_dbl' hq3, by omega, en_L hpL (p2_dbl' hq3) (by omega) (by omega) m7_⟩⟩, by omega, by omega, by omega, by omega⟩
          have hLT_ : ur_44.2.2.2.2.1 = 16 ∨ ur_44.2.2.2.2.1 ≤ ur_30.1 := en_L' hpL hq3 hq5 hq4 m7_
          have hlg1_ : lgN (ur_44.2.2.2.2.1) = lgN L ∨ lgN (ur_44.2.2.2.2.1) = lgN L + 1 := lgN_two (by omega) (by omega)
          have hlg2_ : lgN (ur_30.1 * 2) = lgN ur_30.1 + 1 := lgN_dbl (by omega)
          have hcost : hT H + hPS tb L ≤ hT s.heap + hPS (ur_30.1 * 2) (ur_44.2.2.2.2.1) ∧ H.size + hPC tb L ≤ s.heap.size + hPC (ur_30.1 * 2) (ur_44.2.2.2.2.1) := by
            rw [hPS_1 (tb := ur_30.1 * 2) (by omega), hPC_1 (tb := ur_30.1 * 2) (by omega), hPS_0 (tb := tb) (by omega), hPC_0 (tb := tb) (by omega)]
            constructor <;> omega
          have hP9 := hP.sub (ws' := [(y0, .inr (3, [.ref x0, .int kd, .int wh, .int (nI cap), .int ru, .int (nI (ur_30.1 * 2)), .ref ur_53.1])), (x0, .inr (5, [.ref ur_53.2.2.2.1, .ref ur_53.2.2.2.2.1, .int (nI (ur_44.2.2.2.2.2.2.2.1)), .int ur_44.2.2.2.2.2.2.2.2])), (ur_53.2.2.2.1, .inl (ur_53.2.2.2.2.2.1, ur_44.2.2.2.2.1, .inl ur_53.2.2.2.2.2.2.2.1)), (ur_53.2.2.2.2.1, .inl (ur_53.2.2.2.2.2.2.1, ur_44.2.2.2.2.1, .inl ur_53.2.2.2.2.2.2.2.2)), (ur_53.1, .inl (ur_53.2.1, ur_30.1 * 2, .inl ur_53.2.2.1))]) [0, 1, 2, 3, 4] rfl
          have hD9 := hD.sub (ws' := [(y0, .inr (3, [.ref x0, .int kd, .int wh, .int (nI cap), .int ru, .int (nI (ur_30.1 * 2)), .ref ur_53.1])), (x0, .inr (5, [.ref ur_53.2.2.2.1, .ref ur_53.2.2.2.2.1, .int (nI (ur_44.2.2.2.2.2.2.2.1)), .int ur_44.2.2.2.2.2.2.2.2])), (ur_53.2.2.2.1, .inl (ur_53.2.2.2.2.2.1, ur_44.2.2.2.2.1, .inl ur_53.2.2.2.2.2.2.2.1)), (ur_53.2.2.2.2.1, .inl (ur_53.2.2.2.2.2.2.1, ur_44.2.2.2.2.1, .inl ur_53.2.2.2.2.2.2.2.2)), (ur_53.1, .inl (ur_53.2.1, ur_30.1 * 2, .inl ur_53.2.2.1))]) [0, 1, 2, 3, 4] (by decide) rfl
          have hK9 := hK.sub (tys' := [(ur_53.2.2.2.2.2.1, .int), (ur_53.2.2.2.2.2.2.1, .int), (ur_53.2.1, .boolean)]) [8, 9, 10] rfl
          refine W.widen (k := 8) (n := gs + ds) (by omega) (by omega) ?_
          exact W.vret hx hb hr (fun t ht hW => ⟨⟨(ur_30.1 * 2, ur_53.1, ur_53.2.1, ur_53.2.2.1, ur_53.2.2.2.1, ur_53.2.2.2.2.1, ur_53.2.2.2.2.2.1, ur_53.2.2.2.2.2.2.1, ur_44.2.2.2.2.1, ur_53.2.2.2.2.2.2.2.1, ur_53.2.2.2.2.2.2.2.2, ur_44.2.2.2.2.2.2.2.1, ur_44.2.2.2.2.2.2.2.2), rfl, hpost, by rw [ht]; exact hP9, va_K.moved hW.alike hK9, hD9, by rw [ht]; exact hcost⟩, hS.F ht⟩) hS.2.2 dX2_enter_104
      ·
        have ic_46 : ((ur_30.1 : Nat) : Int) < 64 := tx_nle (by decide) (nI_toInt (by omega)) c_46
        refine lv_aload_n hx hb dX2_enter_64 rfl (lv_at hl 2 rfl) ?_
        have hPc := hP.sub (ws' := [(y0, .inr (3, [.ref x0, .int kd, .int wh, .int (nI cap), .int ru, .int (nI (ur_30.1)), .ref ur_30.2.1])), (x0, .inr (5, [.ref ur_44.1, .ref ur_44.2.1, .int (nI (ur_44.2.2.2.2.2.2.2.1)), .int ur_44.2.2.2.2.2.2.2.2])), (ur_44.1, .inl (ur_44.2.2.1, ur_44.2.2.2.2.1, .inl ur_44.2.2.2.2.2.1)), (ur_44.2.1, .inl (ur_44.2.2.2.1, ur_44.2.2.2.2.1, .inl ur_44.2.2.2.2.2.2.1)), (ur_30.2.1, .inl (ur_30.2.2.1, ur_30.1, .inl ur_30.2.2.2))]) [0, 2, 3, 4, 1] rfl
        have hDc := hD.sub (ws' := [(y0, .inr (3, [.ref x0, .int kd, .int wh, .int (nI cap), .int ru, .int (nI (ur_30.1)), .ref ur_30.2.1])), (x0, .inr (5, [.ref ur_44.1, .ref ur_44.2.1, .int (nI (ur_44.2.2.2.2.2.2.2.1)), .int ur_44.2.2.2.2.2.2.2.2])), (ur_44.1, .inl (ur_44.2.2.1, ur_44.2.2.2.2.1, .inl ur_44.2.2.2.2.2.1)), (ur_44.2.1, .inl (ur_44.2.2.2.1, ur_44.2.2.2.2.1, .inl ur_44.2.2.2.2.2.2.1)), (ur_30.2.1, .inl (ur_30.2.2.1, ur_30.1, .inl ur_30.2.2.2))]) [0, 2, 3, 4, 1] (by decide) rfl
        have hKc := hK.sub (tys' := [(ur_44.2.2.1, .int), (ur_44.2.2.2.1, .int), (ur_30.2.2.1, .boolean)]) [6, 7, 5] rfl
        have hFc := va_free (wc := [(y0, .inr (3, [.ref x0, .int kd, .int wh, .int (nI cap), .int ru, .int (nI (ur_30.1)), .ref ur_30.2.1])), (x0, .inr (5, [.ref ur_44.1, .ref ur_44.2.1, .int (nI (ur_44.2.2.2.2.2.2.2.1)), .int ur_44.2.2.2.2.2.2.2.2])), (ur_44.1, .inl (ur_44.2.2.1, ur_44.2.2.2.2.1, .inl ur_44.2.2.2.2.2.1)), (ur_44.2.1, .inl (ur_44.2.2.2.1, ur_44.2.2.2.2.1, .inl ur_44.2.2.2.2.2.2.1)), (ur_30.2.1, .inl (ur_30.2.2.1, ur_30.1, .inl ur_30.2.2.2))]) hD hS hA [0, 2, 3, 4, 1] rfl
        refine va_callv (va_runV (As := []) (rest := []) ⟨hx, hb, hml, hown, hts⟩ (c_X2_doubleTable l  dC dI H.size y0 kd wh cap ru ur_30.1 ur_30.2.1 ur_30.2.2.1 ur_30.2.2.2 x0 ur_44.1 ur_44.2.1 ur_44.2.2.1 ur_44.2.2.2.1 ur_44.2.2.2.2.1 ur_44.2.2.2.2.2.1 ur_44.2.2.2.2.2.2.1 ur_44.2.2.2.2.2.2.2.1 ur_44.2.2.2.2.2.2.2.2 hR8 hq1 (by first | omega | exact p2_1024 hq3 (by omega))) (cwV 0 hts gX2_enter_X2_doubleTable rfl rfl rfl (by decide +kernel) ⟨(Nat.le_of_ble_eq_true rfl), (Nat.le_of_ble_eq_true rfl)⟩) ⟨pk_blind, va_recv hKc hPc (ci := 3) (q0 := 0) rfl rfl, pk_call hPc hKc hDc⟩ rfl rfl hl.1 rfl (lv_room (Nat.le_of_ble_eq_true rfl)) dX2_enter_65 ⟨(show 1 + (2 * lgN (ur_44.2.2.2.2.1) - 2 * lgN L) + 5 ≤ 8 by omega), (show 1024 + (4 * (ur_44.2.2.2.2.1) - 4 * L) + (4 * ur_30.1 + ur_44.2.2.2.2.2.2.2.1 + 2 * ur_44.2.2.2.2.1) ≤ gs + ds by omega)⟩) hS (fun q _ h => hFc q h) hFc (fun ur_54 t H1 locs ht hvm hw hB hz1 hk1 hS => ?_)
        try dsimp only at hw
        have jr_54 := hw
        obtain ⟨hP1, hK1, hD1⟩ := hB
        rw [ht] at hP1
        have hK1 := va_K.moved hvm.symm hK1
        obtain ⟨hP, hD⟩ := va_join (wr := []) (w1 := [(y0, .inr (3, [.ref x0, .int kd, .int wh, .int (nI cap), .int ru, .int (nI (ur_30.1 * 2)), .ref ur_54.1])), (x0, .inr (5, [.ref ur_54.2.2.2.1, .ref ur_54.2.2.2.2.1, .int (nI (ur_44.2.2.2.2.2.2.2.1)), .int ur_44.2.2.2.2.2.2.2.2])), (ur_54.2.2.2.1, .inl (ur_54.2.2.2.2.2.1, ur_44.2.2.2.2.1, .inl ur_54.2.2.2.2.2.2.2.1)), (ur_54.2.2.2.2.1, .inl (ur_54.2.2.2.2.2.2.1, ur_44.2.2.2.2.1, .inl ur_54.2.2.2.2.2.2.2.2)), (ur_54.1, .inl (ur_54.2.1, ur_30.1 * 2, .inl ur_54.2.2.1))]) hP hD [0, 2, 3, 4, 1] [] rfl rfl (by decide) (by decide) hk1 hFc hP1 hD1
        have hK := hK.app hK1
        have hK : va_K (dC, dI) vwCl [(ck, .int), (cw, .int), (cb, .boolean), (ck, .int), (cw, .int), (ur_30.2.2.1, .boolean), (ur_44.2.2.1, .int), (ur_44.2.2.2.1, .int), (ur_54.2.2.2.2.2.1, .int), (ur_54.2.2.2.2.2.2.1, .int), (ur_54.2.1, .boolean)] s := hK
        clear hk1 hz1 ht hPc hDc hKc hFc
        generalize H1 = H at hP hS ⊢
        replace hP : va_P (dC, dI) vwCl [(y0, .inr (3, [.ref x0, .int kd, .int wh, .int (nI cap), .int ru, .int (nI (ur_30.1 * 2)), .ref ur_54.1])), (x0, .inr (5, [.ref ur_54.2.2.2.1, .ref ur_54.2.2.2.2.1, .int (nI (ur_44.2.2.2.2.2.2.2.1)), .int ur_44.2.2.2.2.2.2.2.2])), (ur_54.2.2.2.1, .inl (ur_54.2.2.2.2.2.1, ur_44.2.2.2.2.1, .inl ur_54.2.2.2.2.2.2.2.1)), (ur_54.2.2.2.2.1, .inl (ur_54.2.2.2.2.2.2.1, ur_44.2.2.2.2.1, .inl ur_54.2.2.2.2.2.2.2.2)), (ur_54.1, .inl (ur_54.2.1, ur_30.1 * 2, .inl ur_54.2.2.1))] H := hP
        replace hD : va_D A [(y0, .inr (3, [.ref x0, .int kd, .int wh, .int (nI cap), .int ru, .int (nI (ur_30.1 * 2)), .ref ur_54.1])), (x0, .inr (5, [.ref ur_54.2.2.2.1, .ref ur_54.2.2.2.2.1, .int (nI (ur_44.2.2.2.2.2.2.2.1)), .int ur_44.2.2.2.2.2.2.2.2])), (ur_54.2.2.2.1, .inl (ur_54.2.2.2.2.2.1, ur_44.2.2.2.2.1, .inl ur_54.2.2.2.2.2.2.2.1)), (ur_54.2.2.2.2.1, .inl (ur_54.2.2.2.2.2.2.1, ur_44.2.2.2.2.1, .inl ur_54.2.2.2.2.2.2.2.2)), (ur_54.1, .inl (ur_54.2.1, ur_30.1 * 2, .inl ur_54.2.2.1))] := hD
        refine W.widen (k := 1 + (2 * lgN (ur_44.2.2.2.2.1) - 2 * lgN L) + 5) (n := 1024 + (4 * (ur_44.2.2.2.2.1) - 4 * L) + (4 * ur_30.1 + ur_44.2.2.2.2.2.2.2.1 + 2 * ur_44.2.2.2.2.1)) (by omega) (by omega) ?_
        refine W.eq (g2 := F0 m 68 ls []) rfl ?_
        refine lv_goto (tgt := 82) hx hb dX2_enter_68 (by decide) ?_
        refine lv_aload_n hx hb dX2_enter_82 rfl (lv_at hl 2 rfl) ?_
        refine va_get (D := (dC, dI)) (ci := 3) (v := .ref x0) (C := RX2) (T := TX2) (N := 7) hx hb hts hi0_ hown hK hP 0 rfl rfl 0 (by decide) hw1_ (u_same hw2_) rfl dX2_enter_83 ?_
        have hPc := hP.sub (ws' := [(x0, .inr (5, [.ref ur_54.2.2.2.1, .ref ur_54.2.2.2.2.1, .int (nI (ur_44.2.2.2.2.2.2.2.1)), .int ur_44.2.2.2.2.2.2.2.2]))]) [1] rfl
        have hKc := hK.sub (tys' := []) [] rfl
        refine ro_calli (va_runV (As := []) (rest := []) ⟨hx, hb, hml, hown, hts⟩ (c_X5_size l  dC dI H.size x0 (nI (ur_44.2.2.2.2.2.2.2.1)) (.ref ur_54.2.2.2.1) (.ref ur_54.2.2.2.2.1) (.int ur_44.2.2.2.2.2.2.2.2)) (cwV 0 hts gX2_enter_X5_size rfl rfl rfl (by decide +kernel) ⟨(Nat.le_of_ble_eq_true rfl), (Nat.le_of_ble_eq_true rfl)⟩) ⟨pk_blindR, va_recv hKc hPc (ci := 5) (q0 := 0) rfl rfl, pk_callR hPc hKc⟩ rfl rfl hl.1 rfl (lv_room (Nat.le_of_ble_eq_true rfl)) dX2_enter_86 ⟨(show 1 + (2 * lgN (ur_44.2.2.2.2.1) - 2 * lgN L) + 5 + 0 ≤ 8 by omega), (show 1024 + (4 * (ur_44.2.2.2.2.1) - 4 * L) + (4 * ur_30.1 + ur_44.2.2.2.2.2.2.2.1 + 2 * ur_44.2.2.2.2.1) + 0 ≤ gs + ds by omega)⟩) (fun r_55 ur_55 hw => ?_)
        clear hPc hKc
        try dsimp only at hw
        obtain rfl : r_55 = nI (ur_44.2.2.2.2.2.2.2.1) := hw
        refine W.eq (g2 := F0 m 89 ls [.int (nI (ur_44.2.2.2.2.2.2.2.1))]) rfl ?_
        refine lv_iconst (v := 4) hx hb dX2_enter_89 (by decide) ?_
        refine lv_imul hx hb dX2_enter_90 ?_
        refine lv_topi (fun z_56 ez_56 => ?_)
        obtain rfl : z_56 = nI (ur_44.2.2.2.2.2.2.2.1 * 4) := ez_56.trans (by rw [show (4 : Int32) = nI 4 from rfl, pk_mul])
        refine lv_aload_n hx hb dX2_enter_91 rfl (lv_at hl 2 rfl) ?_
        refine va_get (D := (dC, dI)) (ci := 3) (v := .int (nI (ur_30.1 * 2))) (C := RX2) (T := TX2) (N := 7) hx hb hts hi0_ hown hK hP 0 rfl rfl 5 (by decide) hw0_ (fun _ h9 => h9) rfl dX2_enter_92 ?_
        refine lv_iconst (v := 3) hx hb dX2_enter_95 (by decide) ?_
        refine lv_imul hx hb dX2_enter_96 ?_
        refine lv_topi (fun z_57 ez_57 => ?_)
        obtain rfl : z_57 = nI ((ur_30.1 * 2) * 3) := ez_57.trans (by rw [show (3 : Int32) = nI 3 from rfl, pk_mul])
        refine lv_icmp_le (tgt := 104) hx hb dX2_enter_97 (by decide) (fun c_58 => ?_) (fun c_58 => ?_)
        ·
          have ic_58 : ((ur_44.2.2.2.2.2.2.2.1 * 4 : Nat) : Int) ≤ (((ur_30.1 * 2) * 3 : Nat) : Int) := tx_le (nI_toInt (by omega)) (nI_toInt (by omega)) c_58
          refine W.book (fun hz9_ hn9_ => ?_)
          have hpost : enP tb L nz cap (ur_30.1 * 2) (ur_44.2.2.2.2.1) (ur_44.2.2.2.2.2.2.2.1) := by unfold enP hOK; exact ⟨⟨hR8, en_p hpL m7_, hcap, Or.inr ⟨by omega, by first | omega | (have := p2_1024 hq3 (by omega); omega), p2_dbl' hq3, by omega, en_L hpL (p2_dbl' hq3) (by omega) (by omega) m7_⟩⟩, by omega, by omega, by omega, by omega⟩
          have hLT_ : ur_44.2.2.2.2.1 = 16 ∨ ur_44.2.2.2.2.1 ≤ ur_30.1 := en_L' hpL hq3 hq5 hq4 m7_
          have hlg1_ : lgN (ur_44.2.2.2.2.1) = lgN L ∨ lgN (ur_44.2.2.2.2.1) = lgN L + 1 := lgN_two (by omega) (by omega)
          have hlg2_ : lgN (ur_30.1 * 2) = lgN ur_30.1 + 1 := lgN_dbl (by omega)
          have hcost : hT H + hPS tb L ≤ hT s.heap + hPS (ur_30.1 * 2) (ur_44.2.2.2.2.1) ∧ H.size + hPC tb L ≤ s.heap.size + hPC (ur_30.1 * 2) (ur_44.2.2.2.2.1) := by
            rw [hPS_1 (tb := ur_30.1 * 2) (by omega), hPC_1 (tb := ur_30.1 * 2) (by omega), hPS_0 (tb := tb) (by omega), hPC_0 (tb := tb) (by omega)]
            constructor <;> omega
          have hP9 := hP.sub (ws' := [(y0, .inr (3, [.ref x0, .int kd, .int wh, .int (nI cap), .int ru, .int (nI (ur_30.1 * 2)), .ref ur_54.1])), (x0, .inr (5, [.ref ur_54.2.2.2.1, .ref ur_54.2.2.2.2.1, .int (nI (ur_44.2.2.2.2.2.2.2.1)), .int ur_44.2.2.2.2.2.2.2.2])), (ur_54.2.2.2.1, .inl (ur_54.2.2.2.2.2.1, ur_44.2.2.2.2.1, .inl ur_54.2.2.2.2.2.2.2.1)), (ur_54.2.2.2.2.1, .inl (ur_54.2.2.2.2.2.2.1, ur_44.2.2.2.2.1, .inl ur_54.2.2.2.2.2.2.2.2)), (ur_54.1, .inl (ur_54.2.1, ur_30.1 * 2, .inl ur_54.2.2.1))]) [0, 1, 2, 3, 4] rfl
          have hD9 := hD.sub (ws' := [(y0, .inr (3, [.ref x0, .int kd, .int wh, .int (nI cap), .int ru, .int (nI (ur_30.1 * 2)), .ref ur_54.1])), (x0, .inr (5, [.ref ur_54.2.2.2.1, .ref ur_54.2.2.2.2.1, .int (nI (ur_44.2.2.2.2.2.2.2.1)), .int ur_44.2.2.2.2.2.2.2.2])), (ur_54.2.2.2.1, .inl (ur_54.2.2.2.2.2.1, ur_44.2.2.2.2.1, .inl ur_54.2.2.2.2.2.2.2.1)), (ur_54.2.2.2.2.1, .inl (ur_54.2.2.2.2.2.2.1, ur_44.2.2.2.2.1, .inl ur_54.2.2.2.2.2.2.2.2)), (ur_54.1, .inl (ur_54.2.1, ur_30.1 * 2, .inl ur_54.2.2.1))]) [0, 1, 2, 3, 4] (by decide) rfl
          have hK9 := hK.sub (tys' := [(ur_54.2.2.2.2.2.1, .int), (ur_54.2.2.2.2.2.2.1, .int), (ur_54.2.1, .boolean)]) [8, 9, 10] rfl
          refine W.widen (k := 8) (n := gs + ds) (by omega) (by omega) ?_
          exact W.vret hx hb hr (fun t ht hW => ⟨⟨(ur_30.1 * 2, ur_54.1, ur_54.2.1, ur_54.2.2.1, ur_54.2.2.2.1, ur_54.2.2.2.2.1, ur_54.2.2.2.2.2.1, ur_54.2.2.2.2.2.2.1, ur_44.2.2.2.2.1, ur_54.2.2.2.2.2.2.2.1, ur_54.2.2.2.2.2.2.2.2, ur_44.2.2.2.2.2.2.2.1, ur_44.2.2.2.2.2.2.2.2), rfl, hpost, by rw [ht]; exact hP9, va_K.moved hW.alike hK9, hD9, by rw [ht]; exact hcost⟩, hS.F ht⟩) hS.2.2 dX2_enter_104
        ·
          have ic_58 : (((ur_30.1 * 2) * 3 : Nat) : Int) < ((ur_44.2.2.2.2.2.2.2.1 * 4 : Nat) : Int) := tx_nle (nI_toInt (by omega)) (nI_toInt (by omega)) c_58
          exfalso
          omega
set_option maxHeartbeats 4000000 in
set_option maxRecDepth 100000 in
/-- Hash.leave -/
theorem c_X2_leave (l : Launch) (dC : Nat → ClassId) (dI : Nat → Nat → Nat) (sz : Nat) (y0 : Nat) (kd : Int32) (wh : Int32) (cap : Nat) (ru : Int32) (tb : Nat) (b0 : Nat) (cb : ClassId) (bf : Nat → Int32) (x0 : Nat) (k0 : Nat) (w0 : Nat) (ck : ClassId) (cw : ClassId) (L : Nat) (f : Nat → Int32) (g : Nat → Int32) (nz : Nat) (ch : Int32) (p0 : Int32) (hH9 : hOK tb L nz cap) : Met l yX2_leave wsX2_leave ({ frames := 4, cells := 0, slots := 0, locals := 190 }) (va_Pc [.ref y0, .int p0] (pk_Pre (dC, dI) [(y0, .inr (3, [.ref x0, .int kd, .int wh, .int (nI cap), .int ru, .int (nI tb), .ref b0])), (x0, .inr (5, [.ref k0, .ref w0, .int (nI nz), .int ch])), (k0, .inl (ck, L, .inl f)), (w0, .inl (cw, L, .inl g)), (b0, .inl (cb, tb, .inl bf))] [(ck, .int), (cw, .int), (cb, .boolean)] sz)) (va_Qv (fun (u : (Nat → Int32) × (Nat → Int32) × Nat × Int32 × (Nat → Int32)) => u.2.2.1 ≤ nz) (fun (u : (Nat → Int32) × (Nat → Int32) × Nat × Int32 × (Nat → Int32)) (t : State) => va_P (dC, dI) vwCl [(y0, .inr (3, [.ref x0, .int kd, .int wh, .int (nI cap), .int ru, .int (nI tb), .ref b0])), (x0, .inr (5, [.ref k0, .ref w0, .int (nI (u.2.2.1)), .int u.2.2.2.1])), (k0, .inl (ck, L, .inl u.1)), (w0, .inl (cw, L, .inl u.2.1)), (b0, .inl (cb, tb, .inl u.2.2.2.2))] t.heap ∧ va_K (dC, dI) vwCl [(ck, .int), (cw, .int), (cb, .boolean)] t ∧ va_D (va_A [(y0, .inr (3, [.ref x0, .int kd, .int wh, .int (nI cap), .int ru, .int (nI tb), .ref b0])), (x0, .inr (5, [.ref k0, .ref w0, .int (nI nz), .int ch])), (k0, .inl (ck, L, .inl f)), (w0, .inl (cw, L, .inl g)), (b0, .inl (cb, tb, .inl bf))] sz) [(y0, .inr (3, [.ref x0, .int kd, .int wh, .int (nI cap), .int ru, .int (nI tb), .ref b0])), (x0, .inr (5, [.ref k0, .ref w0, .int (nI (u.2.2.1)), .int u.2.2.2.1])), (k0, .inl (ck, L, .inl u.1)), (w0, .inl (cw, L, .inl u.2.1)), (b0, .inl (cb, tb, .inl u.2.2.2.2))]) (va_A [(y0, .inr (3, [.ref x0, .int kd, .int wh, .int (nI cap), .int ru, .int (nI tb), .ref b0])), (x0, .inr (5, [.ref k0, .ref w0, .int (nI nz), .int ch])), (k0, .inl (ck, L, .inl f)), (w0, .inl (cw, L, .inl g)), (b0, .inl (cb, tb, .inl bf))] sz)) 0 0 (va_A [(y0, .inr (3, [.ref x0, .int kd, .int wh, .int (nI cap), .int ru, .int (nI tb), .ref b0])), (x0, .inr (5, [.ref k0, .ref w0, .int (nI nz), .int ch])), (k0, .inl (ck, L, .inl f)), (w0, .inl (cw, L, .inl g)), (b0, .inl (cb, tb, .inl bf))] sz) := by
  refine Met.ofW (cc := cX2_leave) (maxL := 3) (ret := none) (by decide) rfl ?_
  intro p e s m args below meth c s₁ B hml hv
  obtain ⟨rfl, hsz, hP, hK, hD0⟩ := hv
  have hx := B.exec
  have hb := B.bytes
  have hr := B.returns
  have hts := atoms_spec (ws := wsX2_leave) B.pre
  have hown : s.vm.findClass RX2 = some m.cls := findClass_of_methodNamed B.named
  have hlocks := B.notSynchronized
  subst hsz
  have hD := hD0.self (sz := s.heap.size)
  generalize hAe : va_A [(y0, .inr (3, [.ref x0, .int kd, .int wh, .int (nI cap), .int ru, .int (nI tb), .ref b0])), (x0, .inr (5, [.ref k0, .ref w0, .int (nI nz), .int ch])), (k0, .inl (ck, L, .inl f)), (w0, .inl (cw, L, .inl g)), (b0, .inl (cb, tb, .inl bf))] s.heap.size = A at hD ⊢
  have hA : ∀ q : Nat, s.heap.size ≤ q → A q := fun q h => by rw [← hAe]; exact Or.inr h
  have hS : va_S A s.heap s.heap [] := va_S.rf
  have hP : va_P (dC, dI) vwCl [(y0, .inr (3, [.ref x0, .int kd, .int wh, .int (nI cap), .int ru, .int (nI tb), .ref b0])), (x0, .inr (5, [.ref k0, .ref w0, .int (nI nz), .int ch])), (k0, .inl (ck, L, .inl f)), (w0, .inl (cw, L, .inl g)), (b0, .inl (cb, tb, .inl bf))] s.heap := hP
  have hl := lv_entry ([.ref y0, .int p0]) (n := 3) (Nat.le_of_ble_eq_true rfl)
  rw [lg_entry_eq]
  generalize (lg_sl ([.ref y0, .int p0]) ++ List.replicate (3 - (lg_sl ([.ref y0, .int p0])).length) Slot.unset).toArray = ls at hl ⊢
  have hl : lv_has ls 3 [(0, .ref y0), (1, .int p0)] := hl
  have hw0_ := hts (.fieldLink RX2 31 "KeyAtlas$Hash" "rows" "LKeyAtlas$Rows;") (List.mem_of_getElem? (l := wsX2_leave) (i := 1) rfl)
  have hw1_ := hts (.sameField "KeyAtlas$Hash" "KeyAtlas$Keyed" "rows" "LKeyAtlas$Rows;") (List.mem_of_getElem? (l := wsX2_leave) (i := 2) rfl)
  have hi0_ : ∀ w ∈ u_ws RX2 TX2 7, w ∈ wsX2_leave := fun w h => List.mem_cons_of_mem _ (List.mem_append_left _ (List.mem_append_left _ (List.mem_append_left _ (List.mem_append_right _ h))))
  have hR9 : rOK L nz := hH9.1
  have htb := hOK_tb hH9
  obtain ⟨hL1, hL2, hz1, hz2⟩ := id hR9
  refine lv_aload_n hx hb dX2_leave_0 rfl (lv_at hl 0 rfl) ?_
  refine lv_aload_n hx hb dX2_leave_1 rfl (lv_at hl 0 rfl) ?_
  refine va_get (D := (dC, dI)) (ci := 3) (v := .ref x0) (C := RX2) (T := TX2) (N := 7) hx hb hts hi0_ hown hK hP 0 rfl rfl 0 (by decide) hw0_ (u_same hw1_) rfl dX2_leave_2 ?_
  refine lv_iload_n hx hb dX2_leave_5 rfl (lv_at hl 1 rfl) ?_
  have hPc := hP.sub (ws' := [(x0, .inr (5, [.ref k0, .ref w0, .int (nI nz), .int ch])), (k0, .inl (ck, L, .inl f)), (w0, .inl (cw, L, .inl g))]) [1, 2, 3] rfl
  have hKc := hK.sub (tys' := [(ck, .int), (cw, .int)]) [0, 1] rfl
  refine ro_calli (va_runV (As := [.int p0]) (rest := [.ref y0]) ⟨hx, hb, hml, hown, hts⟩ (c_X5_key l  dC dI s.heap.size x0 k0 w0 ck cw L f g nz ch p0 hR9) (cwV 1 hts gX2_leave_X5_key rfl rfl rfl (by decide +kernel) ⟨(Nat.le_of_ble_eq_true rfl), (Nat.le_of_ble_eq_true rfl)⟩) ⟨pk_blindR, va_recv hKc hPc (ci := 5) (q0 := 0) rfl rfl, pk_callR hPc hKc⟩ rfl rfl hl.1 rfl (lv_room (Nat.le_of_ble_eq_true rfl)) dX2_leave_6 ⟨(Nat.le_of_ble_eq_true rfl), (Nat.le_of_ble_eq_true rfl)⟩) (fun r_1 ur_1 hw => ?_)
  clear hPc hKc
  try dsimp only at hw
  have jr_1 := hw
  refine W.eq (g2 := F0 m 9 ls [.int r_1, .ref y0]) rfl ?_
  have hPc := hP.sub (ws' := [(y0, .inr (3, [.ref x0, .int kd, .int wh, .int (nI cap), .int ru, .int (nI tb), .ref b0]))]) [0] rfl
  have hKc := hK.sub (tys' := []) [] rfl
  refine ro_calli (va_runV (As := [.int r_1]) (rest := []) ⟨hx, hb, hml, hown, hts⟩ (c_X2_binOf l  dC dI s.heap.size y0 ru (nI tb) (.ref x0) (.int kd) (.int wh) (.int (nI cap)) (.ref b0) r_1) (cwV 1 hts gX2_leave_X2_binOf rfl rfl rfl (by decide +kernel) ⟨(Nat.le_of_ble_eq_true rfl), (Nat.le_of_ble_eq_true rfl)⟩) ⟨pk_blindR, va_recv hKc hPc (ci := 3) (q0 := 0) rfl rfl, pk_callR hPc hKc⟩ rfl rfl hl.1 rfl (lv_room (Nat.le_of_ble_eq_true rfl)) dX2_leave_9 ⟨(Nat.le_of_ble_eq_true rfl), (Nat.le_of_ble_eq_true rfl)⟩) (fun r_2 ur_2 hw => ?_)
  clear hPc hKc
  try dsimp only at hw
  have jr_2 := hw
  refine W.eq (g2 := F0 m 12 ls [.int r_2]) rfl ?_
  refine lv_istore_n (lv' := [(2, .int r_2), (0, .ref y0), (1, .int p0)]) hx hb dX2_leave_12 rfl hl (by decide) rfl (fun ls hl => ?_)
  refine lv_aload_n hx hb dX2_leave_13 rfl (lv_at hl 1 rfl) ?_
  refine lv_iload_n hx hb dX2_leave_14 rfl (lv_at hl 2 rfl) ?_
  have hPc := hP.sub (ws' := [(y0, .inr (3, [.ref x0, .int kd, .int wh, .int (nI cap), .int ru, .int (nI tb), .ref b0])), (x0, .inr (5, [.ref k0, .ref w0, .int (nI nz), .int ch])), (k0, .inl (ck, L, .inl f)), (w0, .inl (cw, L, .inl g))]) [0, 1, 2, 3] rfl
  have hDc := hD.sub (ws' := [(y0, .inr (3, [.ref x0, .int kd, .int wh, .int (nI cap), .int ru, .int (nI tb), .ref b0])), (x0, .inr (5, [.ref k0, .ref w0, .int (nI nz), .int ch])), (k0, .inl (ck, L, .inl f)), (w0, .inl (cw, L, .inl g))]) [0, 1, 2, 3] (by decide) rfl
  have hKc := hK.sub (tys' := [(ck, .int), (cw, .int)]) [0, 1] rfl
  have hFc := va_free (wc := [(y0, .inr (3, [.ref x0, .int kd, .int wh, .int (nI cap), .int ru, .int (nI tb), .ref b0])), (x0, .inr (5, [.ref k0, .ref w0, .int (nI nz), .int ch])), (k0, .inl (ck, L, .inl f)), (w0, .inl (cw, L, .inl g))]) hD hS hA [0, 1, 2, 3] rfl
  refine va_callv (va_runSU (hK.1 3 _ rfl).2 (As := [.int p0]) (rest := []) ⟨hx, hb, hml, hown, hts⟩ (c_X3_leave_H l  dC dI s.heap.size y0 (.int kd) (.int wh) (.int (nI cap)) (.int ru) (.int (nI tb)) (.ref b0) x0 k0 w0 ck cw L f g nz ch p0 hR9) (va_cwSU 1 hts gX2_leave_X3_leave_s71 rfl rfl rfl (by decide +kernel) ⟨(Nat.le_of_ble_eq_true rfl), (Nat.le_of_ble_eq_true rfl)⟩) ⟨pk_blind, va_recv hKc hPc (ci := 3) (q0 := 0) rfl rfl, pk_call hPc hKc hDc⟩ rfl rfl hl.1 rfl (lv_room (Nat.le_of_ble_eq_true rfl)) dX2_leave_15 ⟨(Nat.le_of_ble_eq_true rfl), (Nat.le_of_ble_eq_true rfl)⟩) hS (fun q _ h => hFc q h) hFc (fun ur_3 t H1 locs ht hvm hw hB hz1 hk1 hS => ?_)
  try dsimp only at hw
  have jr_3 := hw
  obtain ⟨hP1, hK1, hD1⟩ := hB
  rw [ht] at hP1
  have hK1 := va_K.moved hvm.symm hK1
  obtain ⟨hP, hD⟩ := va_join (wr := [(b0, .inl (cb, tb, .inl bf))]) (w1 := [(y0, .inr (3, [.ref x0, .int kd, .int wh, .int (nI cap), .int ru, .int (nI tb), .ref b0])), (x0, .inr (5, [.ref k0, .ref w0, .int (nI (ur_3.2.2.1)), .int ur_3.2.2.2])), (k0, .inl (ck, L, .inl ur_3.1)), (w0, .inl (cw, L, .inl ur_3.2.1))]) hP hD [0, 1, 2, 3] [4] rfl rfl (by decide) (by decide) hk1 hFc hP1 hD1
  clear hk1 hz1 ht hPc hDc hKc hFc
  generalize H1 = H at hP hS ⊢
  replace hP : va_P (dC, dI) vwCl [(b0, .inl (cb, tb, .inl bf)), (y0, .inr (3, [.ref x0, .int kd, .int wh, .int (nI cap), .int ru, .int (nI tb), .ref b0])), (x0, .inr (5, [.ref k0, .ref w0, .int (nI (ur_3.2.2.1)), .int ur_3.2.2.2])), (k0, .inl (ck, L, .inl ur_3.1)), (w0, .inl (cw, L, .inl ur_3.2.1))] H := hP
  replace hD : va_D A [(b0, .inl (cb, tb, .inl bf)), (y0, .inr (3, [.ref x0, .int kd, .int wh, .int (nI cap), .int ru, .int (nI tb), .ref b0])), (x0, .inr (5, [.ref k0, .ref w0, .int (nI (ur_3.2.2.1)), .int ur_3.2.2.2])), (k0, .inl (ck, L, .inl ur_3.1)), (w0, .inl (cw, L, .inl ur_3.2.1))] := hD
  refine W.widen (k := 0) (n := 0) (Nat.le_of_ble_eq_true rfl) (Nat.le_of_ble_eq_true rfl) ?_
  refine W.eq (g2 := F0 m 18 ls []) rfl ?_
  have hR9 : rOK L (ur_3.2.2.1) := rOK_le hR9 jr_3
  refine lv_aload_n hx hb dX2_leave_18 rfl (lv_at hl 1 rfl) ?_
  refine lv_iload_n hx hb dX2_leave_19 rfl (lv_at hl 0 rfl) ?_
  have hPc := hP.sub (ws' := [(y0, .inr (3, [.ref x0, .int kd, .int wh, .int (nI cap), .int ru, .int (nI tb), .ref b0])), (x0, .inr (5, [.ref k0, .ref w0, .int (nI (ur_3.2.2.1)), .int ur_3.2.2.2])), (k0, .inl (ck, L, .inl ur_3.1)), (w0, .inl (cw, L, .inl ur_3.2.1)), (b0, .inl (cb, tb, .inl bf))]) [1, 2, 3, 4, 0] rfl
  have hKc := hK.sub (tys' := [(ck, .int), (cw, .int), (cb, .boolean)]) [0, 1, 2] rfl
  refine ro_calli (va_runV (As := [.int r_2]) (rest := []) ⟨hx, hb, hml, hown, hts⟩ (c_X2_howManyIn l  dC dI H.size y0 kd wh cap ru tb b0 cb bf x0 k0 w0 ck cw L ur_3.1 ur_3.2.1 ur_3.2.2.1 ur_3.2.2.2 r_2 hR9) (cwV 1 hts gX2_leave_X2_howManyIn rfl rfl rfl (by decide +kernel) ⟨(Nat.le_of_ble_eq_true rfl), (Nat.le_of_ble_eq_true rfl)⟩) ⟨pk_blindR, va_recv hKc hPc (ci := 3) (q0 := 0) rfl rfl, pk_callR hPc hKc⟩ rfl rfl hl.1 rfl (lv_room (Nat.le_of_ble_eq_true rfl)) dX2_leave_20 ⟨(Nat.le_of_ble_eq_true rfl), (Nat.le_of_ble_eq_true rfl)⟩) (fun r_4 ur_4 hw => ?_)
  clear hPc hKc
  try dsimp only at hw
  have jr_4 := hw
  refine W.eq (g2 := F0 m 23 ls [.int r_4]) rfl ?_
  refine lv_bipush (v := 6) hx hb dX2_leave_23 (by decide) ?_
  refine lv_icmp_gt (tgt := 34) hx hb dX2_leave_25 (by decide) (fun c_5 => ?_) (fun c_5 => ?_)
  ·
    have ic_5 : 6 < r_4.toInt := tx_lt (by decide) rfl c_5
    have hpost : ur_3.2.2.1 ≤ nz := by omega
    have hP9 := hP.sub (ws' := [(y0, .inr (3, [.ref x0, .int kd, .int wh, .int (nI cap), .int ru, .int (nI tb), .ref b0])), (x0, .inr (5, [.ref k0, .ref w0, .int (nI (ur_3.2.2.1)), .int ur_3.2.2.2])), (k0, .inl (ck, L, .inl ur_3.1)), (w0, .inl (cw, L, .inl ur_3.2.1)), (b0, .inl (cb, tb, .inl bf))]) [1, 2, 3, 4, 0] rfl
    have hD9 := hD.sub (ws' := [(y0, .inr (3, [.ref x0, .int kd, .int wh, .int (nI cap), .int ru, .int (nI tb), .ref b0])), (x0, .inr (5, [.ref k0, .ref w0, .int (nI (ur_3.2.2.1)), .int ur_3.2.2.2])), (k0, .inl (ck, L, .inl ur_3.1)), (w0, .inl (cw, L, .inl ur_3.2.1)), (b0, .inl (cb, tb, .inl bf))]) [1, 2, 3, 4, 0] (by decide) rfl
    have hK9 := hK.sub (tys' := [(ck, .int), (cw, .int), (cb, .boolean)]) [0, 1, 2] rfl
    refine W.widen (k := 0) (n := 0) (Nat.le_of_ble_eq_true rfl) (Nat.le_of_ble_eq_true rfl) ?_
    exact W.vret hx hb hr (fun t ht hW => ⟨⟨(ur_3.1, ur_3.2.1, ur_3.2.2.1, ur_3.2.2.2, bf), rfl, hpost, by rw [ht]; exact hP9, va_K.moved hW.alike hK9, hD9⟩, hS.F ht⟩) hS.2.2 dX2_leave_34
  ·
    have ic_5 : r_4.toInt ≤ 6 := tx_nlt (by decide) rfl c_5
    refine lv_aload_n hx hb dX2_leave_28 rfl (lv_at hl 1 rfl) ?_
    refine lv_iload_n hx hb dX2_leave_29 rfl (lv_at hl 0 rfl) ?_
    refine lv_iconst (v := 0) hx hb dX2_leave_30 (by decide) ?_
    have hPc := hP.sub (ws' := [(y0, .inr (3, [.ref x0, .int kd, .int wh, .int (nI cap), .int ru, .int (nI tb), .ref b0])), (x0, .inr (5, [.ref k0, .ref w0, .int (nI (ur_3.2.2.1)), .int ur_3.2.2.2])), (k0, .inl (ck, L, .inl ur_3.1)), (w0, .inl (cw, L, .inl ur_3.2.1)), (b0, .inl (cb, tb, .inl bf))]) [1, 2, 3, 4, 0] rfl
    have hDc := hD.sub (ws' := [(y0, .inr (3, [.ref x0, .int kd, .int wh, .int (nI cap), .int ru, .int (nI tb), .ref b0])), (x0, .inr (5, [.ref k0, .ref w0, .int (nI (ur_3.2.2.1)), .int ur_3.2.2.2])), (k0, .inl (ck, L, .inl ur_3.1)), (w0, .inl (cw, L, .inl ur_3.2.1)), (b0, .inl (cb, tb, .inl bf))]) [1, 2, 3, 4, 0] (by decide) rfl
    have hKc := hK.sub (tys' := [(ck, .int), (cw, .int), (cb, .boolean)]) [0, 1, 2] rfl
    have hFc := va_free (wc := [(y0, .inr (3, [.ref x0, .int kd, .int wh, .int (nI cap), .int ru, .int (nI tb), .ref b0])), (x0, .inr (5, [.ref k0, .ref w0, .int (nI (ur_3.2.2.1)), .int ur_3.2.2.2])), (k0, .inl (ck, L, .inl ur_3.1)), (w0, .inl (cw, L, .inl ur_3.2.1)), (b0, .inl (cb, tb, .inl bf))]) hD hS hA [1, 2, 3, 4, 0] rfl
    refine va_callv (va_runV (As := [.int r_2, .int 0]) (rest := []) ⟨hx, hb, hml, hown, hts⟩ (c_X2_setBushy l  dC dI H.size y0 kd wh cap ru tb b0 cb bf x0 k0 w0 ck cw L ur_3.1 ur_3.2.1 ur_3.2.2.1 ur_3.2.2.2 r_2 0 (by omega)) (cwV 2 hts gX2_leave_X2_setBushy rfl rfl rfl (by decide +kernel) ⟨(Nat.le_of_ble_eq_true rfl), (Nat.le_of_ble_eq_true rfl)⟩) ⟨pk_blind, va_recv hKc hPc (ci := 3) (q0 := 0) rfl rfl, pk_call hPc hKc hDc⟩ rfl rfl hl.1 rfl (lv_room (Nat.le_of_ble_eq_true rfl)) dX2_leave_31 ⟨(Nat.le_of_ble_eq_true rfl), (Nat.le_of_ble_eq_true rfl)⟩) hS (fun q _ h => hFc q h) hFc (fun ur_6 t H1 locs ht hvm hw hB hz1 hk1 hS => ?_)
    try dsimp only at hw
    have jr_6 := hw
    obtain ⟨hP1, hK1, hD1⟩ := hB
    rw [ht] at hP1
    have hK1 := va_K.moved hvm.symm hK1
    obtain ⟨hP, hD⟩ := va_join (wr := []) (w1 := [(y0, .inr (3, [.ref x0, .int kd, .int wh, .int (nI cap), .int ru, .int (nI tb), .ref b0])), (x0, .inr (5, [.ref k0, .ref w0, .int (nI (ur_3.2.2.1)), .int ur_3.2.2.2])), (k0, .inl (ck, L, .inl ur_3.1)), (w0, .inl (cw, L, .inl ur_3.2.1)), (b0, .inl (cb, tb, .inl ur_6))]) hP hD [1, 2, 3, 4, 0] [] rfl rfl (by decide) (by decide) hk1 hFc hP1 hD1
    clear hk1 hz1 ht hPc hDc hKc hFc
    generalize H1 = H at hP hS ⊢
    replace hP : va_P (dC, dI) vwCl [(y0, .inr (3, [.ref x0, .int kd, .int wh, .int (nI cap), .int ru, .int (nI tb), .ref b0])), (x0, .inr (5, [.ref k0, .ref w0, .int (nI (ur_3.2.2.1)), .int ur_3.2.2.2])), (k0, .inl (ck, L, .inl ur_3.1)), (w0, .inl (cw, L, .inl ur_3.2.1)), (b0, .inl (cb, tb, .inl ur_6))] H := hP
    replace hD : va_D A [(y0, .inr (3, [.ref x0, .int kd, .int wh, .int (nI cap), .int ru, .int (nI tb), .ref b0])), (x0, .inr (5, [.ref k0, .ref w0, .int (nI (ur_3.2.2.1)), .int ur_3.2.2.2])), (k0, .inl (ck, L, .inl ur_3.1)), (w0, .inl (cw, L, .inl ur_3.2.1)), (b0, .inl (cb, tb, .inl ur_6))] := hD
    refine W.widen (k := 0) (n := 0) (Nat.le_of_ble_eq_true rfl) (Nat.le_of_ble_eq_true rfl) ?_
    refine W.eq (g2 := F0 m 34 ls []) rfl ?_
    have hpost : ur_3.2.2.1 ≤ nz := by omega
    have hP9 := hP.sub (ws' := [(y0, .inr (3, [.ref x0, .int kd, .int wh, .int (nI cap), .int ru, .int (nI tb), .ref b0])), (x0, .inr (5, [.ref k0, .ref w0, .int (nI (ur_3.2.2.1)), .int ur_3.2.2.2])), (k0, .inl (ck, L, .inl ur_3.1)), (w0, .inl (cw, L, .inl ur_3.2.1)), (b0, .inl (cb, tb, .inl ur_6))]) [0, 1, 2, 3, 4] rfl
    have hD9 := hD.sub (ws' := [(y0, .inr (3, [.ref x0, .int kd, .int wh, .int (nI cap), .int ru, .int (nI tb), .ref b0])), (x0, .inr (5, [.ref k0, .ref w0, .int (nI (ur_3.2.2.1)), .int ur_3.2.2.2])), (k0, .inl (ck, L, .inl ur_3.1)), (w0, .inl (cw, L, .inl ur_3.2.1)), (b0, .inl (cb, tb, .inl ur_6))]) [0, 1, 2, 3, 4] (by decide) rfl
    have hK9 := hK.sub (tys' := [(ck, .int), (cw, .int), (cb, .boolean)]) [0, 1, 2] rfl
    refine W.widen (k := 0) (n := 0) (Nat.le_of_ble_eq_true rfl) (Nat.le_of_ble_eq_true rfl) ?_
    exact W.vret hx hb hr (fun t ht hW => ⟨⟨(ur_3.1, ur_3.2.1, ur_3.2.2.1, ur_3.2.2.2, ur_6), rfl, hpost, by rw [ht]; exact hP9, va_K.moved hW.alike hK9, hD9⟩, hS.F ht⟩) hS.2.2 dX2_leave_34
set_option maxHeartbeats 4000000 in
set_option maxRecDepth 100000 in
/-- Hash.leaveAll -/
theorem c_X2_leaveAll (l : Launch) (dC : Nat → ClassId) (dI : Nat → Nat → Nat) (sz : Nat) (y0 : Nat) (kd : Int32) (wh : Int32) (cap : Nat) (ru : Int32) (tb : Nat) (b0 : Nat) (cb : ClassId) (bf : Nat → Int32) (x0 : Nat) (k0 : Nat) (w0 : Nat) (ck : ClassId) (cw : ClassId) (L : Nat) (f : Nat → Int32) (g : Nat → Int32) (nz : Nat) (ch : Int32) (hH9 : hOK tb L nz cap) : Met l yX2_leaveAll wsX2_leaveAll ({ frames := 3, cells := 0, slots := 0, locals := 130 }) (va_Pc [.ref y0] (pk_Pre (dC, dI) [(y0, .inr (3, [.ref x0, .int kd, .int wh, .int (nI cap), .int ru, .int (nI tb), .ref b0])), (x0, .inr (5, [.ref k0, .ref w0, .int (nI nz), .int ch])), (k0, .inl (ck, L, .inl f)), (w0, .inl (cw, L, .inl g)), (b0, .inl (cb, tb, .inl bf))] [(ck, .int), (cw, .int), (cb, .boolean)] sz)) (va_Qv (fun (u : (Nat → Int32) × (Nat → Int32) × Nat × Int32 × (Nat → Int32)) => u.2.2.1 ≤ nz) (fun (u : (Nat → Int32) × (Nat → Int32) × Nat × Int32 × (Nat → Int32)) (t : State) => va_P (dC, dI) vwCl [(y0, .inr (3, [.ref x0, .int kd, .int wh, .int (nI cap), .int ru, .int (nI tb), .ref b0])), (x0, .inr (5, [.ref k0, .ref w0, .int (nI (u.2.2.1)), .int u.2.2.2.1])), (k0, .inl (ck, L, .inl u.1)), (w0, .inl (cw, L, .inl u.2.1)), (b0, .inl (cb, tb, .inl u.2.2.2.2))] t.heap ∧ va_K (dC, dI) vwCl [(ck, .int), (cw, .int), (cb, .boolean)] t ∧ va_D (va_A [(y0, .inr (3, [.ref x0, .int kd, .int wh, .int (nI cap), .int ru, .int (nI tb), .ref b0])), (x0, .inr (5, [.ref k0, .ref w0, .int (nI nz), .int ch])), (k0, .inl (ck, L, .inl f)), (w0, .inl (cw, L, .inl g)), (b0, .inl (cb, tb, .inl bf))] sz) [(y0, .inr (3, [.ref x0, .int kd, .int wh, .int (nI cap), .int ru, .int (nI tb), .ref b0])), (x0, .inr (5, [.ref k0, .ref w0, .int (nI (u.2.2.1)), .int u.2.2.2.1])), (k0, .inl (ck, L, .inl u.1)), (w0, .inl (cw, L, .inl u.2.1)), (b0, .inl (cb, tb, .inl u.2.2.2.2))]) (va_A [(y0, .inr (3, [.ref x0, .int kd, .int wh, .int (nI cap), .int ru, .int (nI tb), .ref b0])), (x0, .inr (5, [.ref k0, .ref w0, .int (nI nz), .int ch])), (k0, .inl (ck, L, .inl f)), (w0, .inl (cw, L, .inl g)), (b0, .inl (cb, tb, .inl bf))] sz)) 0 0 (va_A [(y0, .inr (3, [.ref x0, .int kd, .int wh, .int (nI cap), .int ru, .int (nI tb), .ref b0])), (x0, .inr (5, [.ref k0, .ref w0, .int (nI nz), .int ch])), (k0, .inl (ck, L, .inl f)), (w0, .inl (cw, L, .inl g)), (b0, .inl (cb, tb, .inl bf))] sz) := by
  refine Met.ofW (cc := cX2_leaveAll) (maxL := 2) (ret := none) (by decide) rfl ?_
  intro p e s m args below meth c s₁ B hml hv
  obtain ⟨rfl, hsz, hP, hK, hD0⟩ := hv
  have hx := B.exec
  have hb := B.bytes
  have hr := B.returns
  have hts := atoms_spec (ws := wsX2_leaveAll) B.pre
  have hown : s.vm.findClass RX2 = some m.cls := findClass_of_methodNamed B.named
  have hlocks := B.notSynchronized
  subst hsz
  have hD := hD0.self (sz := s.heap.size)
  generalize hAe : va_A [(y0, .inr (3, [.ref x0, .int kd, .int wh, .int (nI cap), .int ru, .int (nI tb), .ref b0])), (x0, .inr (5, [.ref k0, .ref w0, .int (nI nz), .int ch])), (k0, .inl (ck, L, .inl f)), (w0, .inl (cw, L, .inl g)), (b0, .inl (cb, tb, .inl bf))] s.heap.size = A at hD ⊢
  have hA : ∀ q : Nat, s.heap.size ≤ q → A q := fun q h => by rw [← hAe]; exact Or.inr h
  have hS : va_S A s.heap s.heap [] := va_S.rf
  have hP : va_P (dC, dI) vwCl [(y0, .inr (3, [.ref x0, .int kd, .int wh, .int (nI cap), .int ru, .int (nI tb), .ref b0])), (x0, .inr (5, [.ref k0, .ref w0, .int (nI nz), .int ch])), (k0, .inl (ck, L, .inl f)), (w0, .inl (cw, L, .inl g)), (b0, .inl (cb, tb, .inl bf))] s.heap := hP
  have hl := lv_entry ([.ref y0]) (n := 2) (Nat.le_of_ble_eq_true rfl)
  rw [lg_entry_eq]
  generalize (lg_sl ([.ref y0]) ++ List.replicate (2 - (lg_sl ([.ref y0])).length) Slot.unset).toArray = ls at hl ⊢
  have hl : lv_has ls 2 [(0, .ref y0)] := hl
  have hw0_ := hts (.fieldLink RX2 14 "KeyAtlas$Hash" "bushy" "[Z") (List.mem_of_getElem? (l := wsX2_leaveAll) (i := 1) rfl)
  have hi0_ : ∀ w ∈ u_ws RX2 TX2 7, w ∈ wsX2_leaveAll := fun w h => List.mem_cons_of_mem _ (List.mem_append_left _ (List.mem_append_left _ (List.mem_append_left _ (List.mem_append_right _ h))))
  have hR9 : rOK L nz := hH9.1
  have htb := hOK_tb hH9
  obtain ⟨hL1, hL2, hz1, hz2⟩ := id hR9
  refine lv_aload_n hx hb dX2_leaveAll_0 rfl (lv_at hl 0 rfl) ?_
  have hPc := hP.sub (ws' := [(y0, .inr (3, [.ref x0, .int kd, .int wh, .int (nI cap), .int ru, .int (nI tb), .ref b0])), (x0, .inr (5, [.ref k0, .ref w0, .int (nI nz), .int ch])), (k0, .inl (ck, L, .inl f)), (w0, .inl (cw, L, .inl g))]) [0, 1, 2, 3] rfl
  have hDc := hD.sub (ws' := [(y0, .inr (3, [.ref x0, .int kd, .int wh, .int (nI cap), .int ru, .int (nI tb), .ref b0])), (x0, .inr (5, [.ref k0, .ref w0, .int (nI nz), .int ch])), (k0, .inl (ck, L, .inl f)), (w0, .inl (cw, L, .inl g))]) [0, 1, 2, 3] (by decide) rfl
  have hKc := hK.sub (tys' := [(ck, .int), (cw, .int)]) [0, 1] rfl
  have hFc := va_free (wc := [(y0, .inr (3, [.ref x0, .int kd, .int wh, .int (nI cap), .int ru, .int (nI tb), .ref b0])), (x0, .inr (5, [.ref k0, .ref w0, .int (nI nz), .int ch])), (k0, .inl (ck, L, .inl f)), (w0, .inl (cw, L, .inl g))]) hD hS hA [0, 1, 2, 3] rfl
  refine va_callv (va_runSU (hK.1 3 _ rfl).2 (As := []) (rest := []) ⟨hx, hb, hml, hown, hts⟩ (c_X3_leaveAll_H l  dC dI s.heap.size y0 (.int kd) (.int wh) (.int (nI cap)) (.int ru) (.int (nI tb)) (.ref b0) x0 k0 w0 ck cw L f g nz ch hR9) (va_cwSU 0 hts gX2_leaveAll_X3_leaveAll_s75 rfl rfl rfl (by decide +kernel) ⟨(Nat.le_of_ble_eq_true rfl), (Nat.le_of_ble_eq_true rfl)⟩) ⟨pk_blind, va_recv hKc hPc (ci := 3) (q0 := 0) rfl rfl, pk_call hPc hKc hDc⟩ rfl rfl hl.1 rfl (lv_room (Nat.le_of_ble_eq_true rfl)) dX2_leaveAll_1 ⟨(Nat.le_of_ble_eq_true rfl), (Nat.le_of_ble_eq_true rfl)⟩) hS (fun q _ h => hFc q h) hFc (fun ur_1 t H1 locs ht hvm hw hB hz1 hk1 hS => ?_)
  try dsimp only at hw
  have jr_1 := hw
  obtain ⟨hP1, hK1, hD1⟩ := hB
  rw [ht] at hP1
  have hK1 := va_K.moved hvm.symm hK1
  obtain ⟨hP, hD⟩ := va_join (wr := [(b0, .inl (cb, tb, .inl bf))]) (w1 := [(y0, .inr (3, [.ref x0, .int kd, .int wh, .int (nI cap), .int ru, .int (nI tb), .ref b0])), (x0, .inr (5, [.ref k0, .ref w0, .int (nI (ur_1.2.2.1)), .int ur_1.2.2.2])), (k0, .inl (ck, L, .inl ur_1.1)), (w0, .inl (cw, L, .inl ur_1.2.1))]) hP hD [0, 1, 2, 3] [4] rfl rfl (by decide) (by decide) hk1 hFc hP1 hD1
  clear hk1 hz1 ht hPc hDc hKc hFc
  generalize H1 = H at hP hS ⊢
  replace hP : va_P (dC, dI) vwCl [(b0, .inl (cb, tb, .inl bf)), (y0, .inr (3, [.ref x0, .int kd, .int wh, .int (nI cap), .int ru, .int (nI tb), .ref b0])), (x0, .inr (5, [.ref k0, .ref w0, .int (nI (ur_1.2.2.1)), .int ur_1.2.2.2])), (k0, .inl (ck, L, .inl ur_1.1)), (w0, .inl (cw, L, .inl ur_1.2.1))] H := hP
  replace hD : va_D A [(b0, .inl (cb, tb, .inl bf)), (y0, .inr (3, [.ref x0, .int kd, .int wh, .int (nI cap), .int ru, .int (nI tb), .ref b0])), (x0, .inr (5, [.ref k0, .ref w0, .int (nI (ur_1.2.2.1)), .int ur_1.2.2.2])), (k0, .inl (ck, L, .inl ur_1.1)), (w0, .inl (cw, L, .inl ur_1.2.1))] := hD
  refine W.widen (k := 0) (n := 0) (Nat.le_of_ble_eq_true rfl) (Nat.le_of_ble_eq_true rfl) ?_
  refine W.eq (g2 := F0 m 4 ls []) rfl ?_
  refine lv_iconst (v := 0) hx hb dX2_leaveAll_4 (by decide) ?_
  refine lv_istore_n (lv' := [(1, .int 0), (0, .ref y0)]) hx hb dX2_leaveAll_5 rfl hl (by decide) rfl (fun ls hl => ?_)
  obtain ⟨i1, es_i1⟩ : ∃ z : Nat, z = 0 := ⟨_, rfl⟩
  obtain ⟨x1, ex1⟩ : ∃ y : Int32, y = nI i1 := ⟨_, rfl⟩
  obtain ⟨fb9, ef_fb9⟩ : ∃ z : Nat → Int32, z = bf := ⟨_, rfl⟩
  obtain ⟨n9, en9⟩ : ∃ n : Nat, n = tb + 1 := ⟨_, rfl⟩
  replace hl : lv_has ls 2 [(1, .int x1), (0, .ref y0)] := by subst ex1; subst es_i1; exact hl
  replace hP : va_P (dC, dI) vwCl [(b0, .inl (cb, tb, .inl fb9)), (y0, .inr (3, [.ref x0, .int kd, .int wh, .int (nI cap), .int ru, .int (nI tb), .ref b0])), (x0, .inr (5, [.ref k0, .ref w0, .int (nI (ur_1.2.2.1)), .int ur_1.2.2.2])), (k0, .inl (ck, L, .inl ur_1.1)), (w0, .inl (cw, L, .inl ur_1.2.1))] H := by subst ef_fb9; exact hP
  replace hD : va_D A [(b0, .inl (cb, tb, .inl fb9)), (y0, .inr (3, [.ref x0, .int kd, .int wh, .int (nI cap), .int ru, .int (nI tb), .ref b0])), (x0, .inr (5, [.ref k0, .ref w0, .int (nI (ur_1.2.2.1)), .int ur_1.2.2.2])), (k0, .inl (ck, L, .inl ur_1.1)), (w0, .inl (cw, L, .inl ur_1.2.1))] := by subst ef_fb9; exact hD
  have hi1 : i1 ≤ tb := by subst ex1; subst es_i1; subst ef_fb9; subst en9; exact Nat.zero_le _
  have hn1 : tb + 1 ≤ i1 + n9 := by subst ex1; subst es_i1; subst ef_fb9; subst en9; exact by omega
  clear en9 es_i1 ef_fb9
  induction n9 generalizing i1 x1 ls H locs fb9 with
  | zero => exact absurd hn1 (by omega)
  | succ n9 ih =>
    subst ex1
    refine lv_iload_n hx hb dX2_leaveAll_6 rfl (lv_at hl 0 rfl) ?_
    refine lv_aload_n hx hb dX2_leaveAll_7 rfl (lv_at hl 1 rfl) ?_
    refine va_get (D := (dC, dI)) (ci := 3) (v := .ref b0) (C := RX2) (T := TX2) (N := 7) hx hb hts hi0_ hown hK hP 1 rfl rfl 6 (by decide) hw0_ (fun _ h9 => h9) rfl dX2_leaveAll_8 ?_
    refine va_alen (v := nI tb) hx hb hK hP 0 2 rfl rfl rfl dX2_leaveAll_11 ?_
    refine lv_icmp_ge (tgt := 28) hx hb dX2_leaveAll_12 (by decide) (fun c_2 => ?_) (fun c_2 => ?_)
    ·
      have ic_2 : ((tb : Nat) : Int) ≤ ((i1 : Nat) : Int) := tx_le (nI_toInt (by omega)) (nI_toInt (by omega)) c_2
      have hpost : ur_1.2.2.1 ≤ nz := by omega
      have hP9 := hP.sub (ws' := [(y0, .inr (3, [.ref x0, .int kd, .int wh, .int (nI cap), .int ru, .int (nI tb), .ref b0])), (x0, .inr (5, [.ref k0, .ref w0, .int (nI (ur_1.2.2.1)), .int ur_1.2.2.2])), (k0, .inl (ck, L, .inl ur_1.1)), (w0, .inl (cw, L, .inl ur_1.2.1)), (b0, .inl (cb, tb, .inl fb9))]) [1, 2, 3, 4, 0] rfl
      have hD9 := hD.sub (ws' := [(y0, .inr (3, [.ref x0, .int kd, .int wh, .int (nI cap), .int ru, .int (nI tb), .ref b0])), (x0, .inr (5, [.ref k0, .ref w0, .int (nI (ur_1.2.2.1)), .int ur_1.2.2.2])), (k0, .inl (ck, L, .inl ur_1.1)), (w0, .inl (cw, L, .inl ur_1.2.1)), (b0, .inl (cb, tb, .inl fb9))]) [1, 2, 3, 4, 0] (by decide) rfl
      have hK9 := hK.sub (tys' := [(ck, .int), (cw, .int), (cb, .boolean)]) [0, 1, 2] rfl
      refine W.widen (k := 0) (n := 0) (Nat.le_of_ble_eq_true rfl) (Nat.le_of_ble_eq_true rfl) ?_
      exact W.vret hx hb hr (fun t ht hW => ⟨⟨(ur_1.1, ur_1.2.1, ur_1.2.2.1, ur_1.2.2.2, fb9), rfl, hpost, by rw [ht]; exact hP9, va_K.moved hW.alike hK9, hD9⟩, hS.F ht⟩) hS.2.2 dX2_leaveAll_28
    ·
      have ic_2 : ((i1 : Nat) : Int) < ((tb : Nat) : Int) := tx_nle (nI_toInt (by omega)) (nI_toInt (by omega)) c_2
      refine lv_aload_n hx hb dX2_leaveAll_15 rfl (lv_at hl 1 rfl) ?_
      refine va_get (D := (dC, dI)) (ci := 3) (v := .ref b0) (C := RX2) (T := TX2) (N := 7) hx hb hts hi0_ hown hK hP 1 rfl rfl 6 (by decide) hw0_ (fun _ h9 => h9) rfl dX2_leaveAll_16 ?_
      refine lv_iload_n hx hb dX2_leaveAll_19 rfl (lv_at hl 0 rfl) ?_
      refine lv_iconst (v := 0) hx hb dX2_leaveAll_20 (by decide) ?_
      refine va_zast (i := nI i1) hx hb hK hP hD hS 0 2 rfl rfl (vp_in_nI (by omega) (by omega)) dX2_leaveAll_21 (fun H locs hP hD hS => ?_)
      rw [nI_clamp (by omega)] at hP hD
      replace hP : va_P (dC, dI) vwCl [(b0, .inl (cb, tb, .inl (upd fb9 i1 0))), (y0, .inr (3, [.ref x0, .int kd, .int wh, .int (nI cap), .int ru, .int (nI tb), .ref b0])), (x0, .inr (5, [.ref k0, .ref w0, .int (nI (ur_1.2.2.1)), .int ur_1.2.2.2])), (k0, .inl (ck, L, .inl ur_1.1)), (w0, .inl (cw, L, .inl ur_1.2.1))] H := hP
      replace hD : va_D A [(b0, .inl (cb, tb, .inl (upd fb9 i1 0))), (y0, .inr (3, [.ref x0, .int kd, .int wh, .int (nI cap), .int ru, .int (nI tb), .ref b0])), (x0, .inr (5, [.ref k0, .ref w0, .int (nI (ur_1.2.2.1)), .int ur_1.2.2.2])), (k0, .inl (ck, L, .inl ur_1.1)), (w0, .inl (cw, L, .inl ur_1.2.1))] := hD
      refine lv_iinc (v := nI (i1 + 1)) (lv' := [(1, .int (nI (i1 + 1))), (0, .ref y0)]) hx hb dX2_leaveAll_22 hl (k := 0) rfl (by rw [show Int32.ofInt 1 = nI 1 from rfl, nI_add]) (by decide) rfl (fun ls hl => ?_)
      refine lv_goto (tgt := 6) hx hb dX2_leaveAll_25 (by decide) ?_
      exact ih (i1 := i1 + 1) (x1 := nI (i1 + 1)) (ex1 := rfl) (ls := ls) (fb9 := (upd fb9 i1 0)) (H := H) (locs := locs) (hP := hP.sub (ws' := [(b0, .inl (cb, tb, .inl (upd fb9 i1 0))), (y0, .inr (3, [.ref x0, .int kd, .int wh, .int (nI cap), .int ru, .int (nI tb), .ref b0])), (x0, .inr (5, [.ref k0, .ref w0, .int (nI (ur_1.2.2.1)), .int ur_1.2.2.2])), (k0, .inl (ck, L, .inl ur_1.1)), (w0, .inl (cw, L, .inl ur_1.2.1))]) [0, 1, 2, 3, 4] rfl) (hS := hS) (hD := hD.sub (ws' := [(b0, .inl (cb, tb, .inl (upd fb9 i1 0))), (y0, .inr (3, [.ref x0, .int kd, .int wh, .int (nI cap), .int ru, .int (nI tb), .ref b0])), (x0, .inr (5, [.ref k0, .ref w0, .int (nI (ur_1.2.2.1)), .int ur_1.2.2.2])), (k0, .inl (ck, L, .inl ur_1.1)), (w0, .inl (cw, L, .inl ur_1.2.1))]) [0, 1, 2, 3, 4] (by decide) rfl) (hi1 := by omega) (hn1 := by omega) (hl := lv_sub hl [0, 1] rfl)
set_option maxHeartbeats 4000000 in
set_option maxRecDepth 100000 in
/-- Hash.tableLength -/
theorem c_X2_tableLength (l : Launch) (dC : Nat → ClassId) (dI : Nat → Nat → Nat) (sz : Nat) (y0 : Nat) (kd : Int32) (wh : Int32) (cap : Nat) (ru : Int32) (tb : Nat) (b0 : Nat) (cb : ClassId) (bf : Nat → Int32) (x0 : Nat) (k0 : Nat) (w0 : Nat) (ck : ClassId) (cw : ClassId) (L : Nat) (f : Nat → Int32) (g : Nat → Int32) (nz : Nat) (ch : Int32) (hH9 : hOK tb L nz cap) : Met l yX2_tableLength wsX2_tableLength ({ frames := 0, cells := 0, slots := 0, locals := 0 }) (va_Pc [.ref y0] (pk_PreR (dC, dI) [(y0, .inr (3, [.ref x0, .int kd, .int wh, .int (nI cap), .int ru, .int (nI tb), .ref b0])), (x0, .inr (5, [.ref k0, .ref w0, .int (nI nz), .int ch])), (k0, .inl (ck, L, .inl f)), (w0, .inl (cw, L, .inl g)), (b0, .inl (cb, tb, .inl bf))] [(ck, .int), (cw, .int), (cb, .boolean)] sz)) (va_Qi (fun (x : Int32) (u : Unit) => True) (fun _ (t : State) => t.heap.size = sz) ro_A) 0 0 ro_A := by
  refine Met.ofW (cc := cX2_tableLength) (maxL := 1) (ret := (some .int)) (by decide) rfl ?_
  intro p e s m args below meth c s₁ B hml hv
  obtain ⟨rfl, hsz, hP, hK⟩ := hv
  have hx := B.exec
  have hb := B.bytes
  have hr := B.returns
  have hts := atoms_spec (ws := wsX2_tableLength) B.pre
  have hown : s.vm.findClass RX2 = some m.cls := findClass_of_methodNamed B.named
  have hlocks := B.notSynchronized
  subst hsz
  have hS : va_S ro_A s.heap s.heap [] := va_S.rf
  have hP : va_P (dC, dI) vwCl [(y0, .inr (3, [.ref x0, .int kd, .int wh, .int (nI cap), .int ru, .int (nI tb), .ref b0])), (x0, .inr (5, [.ref k0, .ref w0, .int (nI nz), .int ch])), (k0, .inl (ck, L, .inl f)), (w0, .inl (cw, L, .inl g)), (b0, .inl (cb, tb, .inl bf))] s.heap := hP
  have hl := lv_entry ([.ref y0]) (n := 1) (Nat.le_of_ble_eq_true rfl)
  rw [lg_entry_eq]
  generalize (lg_sl ([.ref y0]) ++ List.replicate (1 - (lg_sl ([.ref y0])).length) Slot.unset).toArray = ls at hl ⊢
  have hl : lv_has ls 1 [(0, .ref y0)] := hl
  have hw0_ := hts (.fieldLink RX2 28 "KeyAtlas$Hash" "table" "I") (List.mem_of_getElem? (l := wsX2_tableLength) (i := 1) rfl)
  have hi0_ : ∀ w ∈ u_ws RX2 TX2 7, w ∈ wsX2_tableLength := fun w h => List.mem_cons_of_mem _ (List.mem_append_right _ h)
  refine lv_aload_n hx hb dX2_tableLength_0 rfl (lv_at hl 0 rfl) ?_
  refine va_get (D := (dC, dI)) (ci := 3) (v := .int (nI tb)) (C := RX2) (T := TX2) (N := 7) hx hb hts hi0_ hown hK hP 0 rfl rfl 5 (by decide) hw0_ (fun _ h9 => h9) rfl dX2_tableLength_1 ?_
  refine W.widen (k := 0) (n := 0) (Nat.le_of_ble_eq_true rfl) (Nat.le_of_ble_eq_true rfl) ?_
  exact W.iret (v := nI tb) hx hb hr (fun t ht hW => ⟨⟨nI tb, (), rfl, trivial, congrArg Array.size ht⟩, hS.F ht⟩) hS.2.2 dX2_tableLength_4
set_option maxHeartbeats 4000000 in
set_option maxRecDepth 100000 in
/-- Hash.howManyBushy -/
theorem c_X2_howManyBushy (l : Launch) (dC : Nat → ClassId) (dI : Nat → Nat → Nat) (sz : Nat) (y0 : Nat) (kd : Int32) (wh : Int32) (cap : Nat) (ru : Int32) (tb : Nat) (b0 : Nat) (cb : ClassId) (bf : Nat → Int32) (x0 : Nat) (k0 : Nat) (w0 : Nat) (ck : ClassId) (cw : ClassId) (L : Nat) (f : Nat → Int32) (g : Nat → Int32) (nz : Nat) (ch : Int32) (hH9 : hOK tb L nz cap) : Met l yX2_howManyBushy wsX2_howManyBushy ({ frames := 0, cells := 0, slots := 0, locals := 0 }) (va_Pc [.ref y0] (pk_PreR (dC, dI) [(y0, .inr (3, [.ref x0, .int kd, .int wh, .int (nI cap), .int ru, .int (nI tb), .ref b0])), (x0, .inr (5, [.ref k0, .ref w0, .int (nI nz), .int ch])), (k0, .inl (ck, L, .inl f)), (w0, .inl (cw, L, .inl g)), (b0, .inl (cb, tb, .inl bf))] [(ck, .int), (cw, .int), (cb, .boolean)] sz)) (va_Qi (fun (x : Int32) (u : Unit) => True) (fun _ (t : State) => t.heap.size = sz) ro_A) 0 0 ro_A := by
  refine Met.ofW (cc := cX2_howManyBushy) (maxL := 3) (ret := (some .int)) (by decide) rfl ?_
  intro p e s m args below meth c s₁ B hml hv
  obtain ⟨rfl, hsz, hP, hK⟩ := hv
  have hx := B.exec
  have hb := B.bytes
  have hr := B.returns
  have hts := atoms_spec (ws := wsX2_howManyBushy) B.pre
  have hown : s.vm.findClass RX2 = some m.cls := findClass_of_methodNamed B.named
  have hlocks := B.notSynchronized
  subst hsz
  have hS : va_S ro_A s.heap s.heap [] := va_S.rf
  have hP : va_P (dC, dI) vwCl [(y0, .inr (3, [.ref x0, .int kd, .int wh, .int (nI cap), .int ru, .int (nI tb), .ref b0])), (x0, .inr (5, [.ref k0, .ref w0, .int (nI nz), .int ch])), (k0, .inl (ck, L, .inl f)), (w0, .inl (cw, L, .inl g)), (b0, .inl (cb, tb, .inl bf))] s.heap := hP
  have hl := lv_entry ([.ref y0]) (n := 3) (Nat.le_of_ble_eq_true rfl)
  rw [lg_entry_eq]
  generalize (lg_sl ([.ref y0]) ++ List.replicate (3 - (lg_sl ([.ref y0])).length) Slot.unset).toArray = ls at hl ⊢
  have hl : lv_has ls 3 [(0, .ref y0)] := hl
  have hw0_ := hts (.fieldLink RX2 14 "KeyAtlas$Hash" "bushy" "[Z") (List.mem_of_getElem? (l := wsX2_howManyBushy) (i := 1) rfl)
  have hi0_ : ∀ w ∈ u_ws RX2 TX2 7, w ∈ wsX2_howManyBushy := fun w h => List.mem_cons_of_mem _ (List.mem_append_right _ h)
  have hR9 : rOK L nz := hH9.1
  have htb := hOK_tb hH9
  obtain ⟨hL1, hL2, hz1, hz2⟩ := id hR9
  refine lv_iconst (v := 0) hx hb dX2_howManyBushy_0 (by decide) ?_
  refine lv_istore_n (lv' := [(1, .int 0), (0, .ref y0)]) hx hb dX2_howManyBushy_1 rfl hl (by decide) rfl (fun ls hl => ?_)
  refine lv_iconst (v := 0) hx hb dX2_howManyBushy_2 (by decide) ?_
  refine lv_istore_n (lv' := [(2, .int 0), (1, .int 0), (0, .ref y0)]) hx hb dX2_howManyBushy_3 rfl hl (by decide) rfl (fun ls hl => ?_)
  obtain ⟨i2, es_i2⟩ : ∃ z : Nat, z = 0 := ⟨_, rfl⟩
  obtain ⟨x2, ex2⟩ : ∃ y : Int32, y = nI i2 := ⟨_, rfl⟩
  obtain ⟨g1, es_g1⟩ : ∃ z : Int32, z = 0 := ⟨_, rfl⟩
  obtain ⟨n9, en9⟩ : ∃ n : Nat, n = tb + 1 := ⟨_, rfl⟩
  replace hl : lv_has ls 3 [(2, .int x2), (1, .int g1), (0, .ref y0)] := by subst ex2; subst es_i2; subst es_g1; exact hl
  have hi2 : i2 ≤ tb := by subst ex2; subst es_i2; subst es_g1; subst en9; exact Nat.zero_le _
  have hn2 : tb + 1 ≤ i2 + n9 := by subst ex2; subst es_i2; subst es_g1; subst en9; exact by omega
  clear en9 es_i2 es_g1
  induction n9 generalizing i2 x2 g1 ls with
  | zero => exact absurd hn2 (by omega)
  | succ n9 ih =>
    subst ex2
    refine lv_iload_n hx hb dX2_howManyBushy_4 rfl (lv_at hl 0 rfl) ?_
    refine lv_aload_n hx hb dX2_howManyBushy_5 rfl (lv_at hl 2 rfl) ?_
    refine va_get (D := (dC, dI)) (ci := 3) (v := .ref b0) (C := RX2) (T := TX2) (N := 7) hx hb hts hi0_ hown hK hP 0 rfl rfl 6 (by decide) hw0_ (fun _ h9 => h9) rfl dX2_howManyBushy_6 ?_
    refine va_alen (v := nI tb) hx hb hK hP 4 2 rfl rfl rfl dX2_howManyBushy_9 ?_
    refine lv_icmp_ge (tgt := 31) hx hb dX2_howManyBushy_10 (by decide) (fun c_1 => ?_) (fun c_1 => ?_)
    ·
      have ic_1 : ((tb : Nat) : Int) ≤ ((i2 : Nat) : Int) := tx_le (nI_toInt (by omega)) (nI_toInt (by omega)) c_1
      refine lv_iload_n hx hb dX2_howManyBushy_31 rfl (lv_at hl 1 rfl) ?_
      refine W.widen (k := 0) (n := 0) (Nat.le_of_ble_eq_true rfl) (Nat.le_of_ble_eq_true rfl) ?_
      exact W.iret (v := g1) hx hb hr (fun t ht hW => ⟨⟨g1, (), rfl, trivial, congrArg Array.size ht⟩, hS.F ht⟩) hS.2.2 dX2_howManyBushy_32
    ·
      have ic_1 : ((i2 : Nat) : Int) < ((tb : Nat) : Int) := tx_nle (nI_toInt (by omega)) (nI_toInt (by omega)) c_1
      refine lv_aload_n hx hb dX2_howManyBushy_13 rfl (lv_at hl 2 rfl) ?_
      refine va_get (D := (dC, dI)) (ci := 3) (v := .ref b0) (C := RX2) (T := TX2) (N := 7) hx hb hts hi0_ hown hK hP 0 rfl rfl 6 (by decide) hw0_ (fun _ h9 => h9) rfl dX2_howManyBushy_14 ?_
      refine lv_iload_n hx hb dX2_howManyBushy_17 rfl (lv_at hl 0 rfl) ?_
      refine va_zald (i := nI i2) hx hb hK hP 4 2 rfl rfl (vp_in_nI (by omega) (by omega)) dX2_howManyBushy_18 ?_
      refine W.eq (g2 := F0 m 19 ls [.int (bf i2)]) (by rw [nI_clamp (by omega)]) ?_
      refine lv_if_eq (tgt := 25) hx hb dX2_howManyBushy_19 (by decide) (fun c_2 => ?_) (fun c_2 => ?_)
      ·
        have ic_2 : (bf i2).toInt = 0 := tx_eq rfl (by decide) c_2
        refine lv_iinc (v := nI (i2 + 1)) (lv' := [(2, .int (nI (i2 + 1))), (1, .int g1), (0, .ref y0)]) hx hb dX2_howManyBushy_25 hl (k := 0) rfl (by rw [show Int32.ofInt 1 = nI 1 from rfl, nI_add]) (by decide) rfl (fun ls hl => ?_)
        refine lv_goto (tgt := 4) hx hb dX2_howManyBushy_28 (by decide) ?_
        exact ih (i2 := i2 + 1) (x2 := nI (i2 + 1)) (ex2 := rfl) (g1 := g1) (ls := ls) (hi2 := by omega) (hn2 := by omega) (hl := lv_sub hl [0, 1, 2] rfl)
      ·
        have ic_2 : ¬ (bf i2).toInt = 0 := tx_ne rfl (by decide) c_2
        refine lv_iinc (v := g1 + 1) (lv' := [(1, .int (g1 + 1)), (2, .int (nI i2)), (0, .ref y0)]) hx hb dX2_howManyBushy_22 hl (k := 1) rfl rfl (by decide) rfl (fun ls hl => ?_)
        refine lv_iinc (v := nI (i2 + 1)) (lv' := [(2, .int (nI (i2 + 1))), (1, .int (g1 + 1)), (0, .ref y0)]) hx hb dX2_howManyBushy_25 hl (k := 1) rfl (by rw [show Int32.ofInt 1 = nI 1 from rfl, nI_add]) (by decide) rfl (fun ls hl => ?_)
        refine lv_goto (tgt := 4) hx hb dX2_howManyBushy_28 (by decide) ?_
        exact ih (i2 := i2 + 1) (x2 := nI (i2 + 1)) (ex2 := rfl) (g1 := g1 + 1) (ls := ls) (hi2 := by omega) (hn2 := by omega) (hl := lv_sub hl [0, 1, 2] rfl)
