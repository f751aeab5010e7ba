theorem dX3_put_0 : decode cX3_put 0 = .ok (.aload_n 0, 1) := by decide +kernel
theorem dX3_put_1 : decode cX3_put 1 = .ok (.iload_n 1, 1) := by decide +kernel
set_option maxRecDepth 20000 in
theorem ggX3_put_X2_find : GoodIn wsX3_put wsX2_find := goodIn_r _ [7, 8, 9, 10, 11, 12, 13, 6, 14, 15, 16, 17, 18, 19, 20, 21, 22, 23, 24, 25, 26, 27, 28, 29, 30, 31, 214, 215, 216, 217, 218, 219, 220, 221, 222, 223, 224, 225, 226, 227, 228, 229, 230, 231, 232, 233, 234, 235, 236] rfl (by decide +kernel)
set_option maxRecDepth 20000 in
theorem gX3_put_X2_find_u46X2 : GoodIn wsX3_put (va_wsU RX3 46 RX2 "KeyAtlas$Keyed" ⟨"KeyAtlas$Keyed", "find", "(I)I"⟩ yX2_find wsX2_find) := goodIn_app (goodIn_of _ (by decide +kernel)) ggX3_put_X2_find
theorem dX3_put_2 : decode cX3_put 2 = .ok (.invokevirtual 46, 3) := by decide +kernel
theorem dX3_put_5 : decode cX3_put 5 = .ok (.istore_n 3, 1) := by decide +kernel
theorem dX3_put_6 : decode cX3_put 6 = .ok (.iload_n 3, 1) := by decide +kernel
theorem dX3_put_7 : decode cX3_put 7 = .ok (.ifCond .ge 13, 3) := by decide +kernel
theorem dX3_put_20 : decode cX3_put 20 = .ok (.aload_n 0, 1) := by decide +kernel
theorem dX3_put_21 : decode cX3_put 21 = .ok (.iload_n 3, 1) := by decide +kernel
theorem dX3_put_22 : decode cX3_put 22 = .ok (.iload_n 2, 1) := by decide +kernel
set_option maxRecDepth 20000 in
theorem ggX3_put_X3_replace : GoodIn wsX3_put wsX3_replace := goodIn_r _ [188, 97, 189, 190, 191, 24, 192, 26, 131, 193, 194, 195, 196, 197, 198, 199, 200, 78, 201, 202, 203, 204, 34, 205, 206, 36, 37, 207, 208, 209, 210, 31, 132, 133, 134, 135, 136, 211, 214, 215, 216, 217, 218, 219, 220, 221, 222, 223, 224, 225, 226, 227, 228, 229, 230, 231, 232, 233, 234, 235, 236] rfl (by decide +kernel)
set_option maxRecDepth 20000 in
theorem gX3_put_X3_replace_u55X2 : GoodIn wsX3_put (va_wsU RX3 55 RX2 "KeyAtlas$Keyed" ⟨"KeyAtlas$Keyed", "replace", "(II)J"⟩ yX3_replace wsX3_replace) := goodIn_app (goodIn_of _ (by decide +kernel)) ggX3_put_X3_replace
theorem dX3_put_23 : decode cX3_put 23 = .ok (.invokevirtual 55, 3) := by decide +kernel
theorem dX3_put_26 : decode cX3_put 26 = .ok (.lreturn, 1) := by decide +kernel
theorem dX3_put_10 : decode cX3_put 10 = .ok (.aload_n 0, 1) := by decide +kernel
theorem dX3_put_11 : decode cX3_put 11 = .ok (.iload_n 1, 1) := by decide +kernel
theorem dX3_put_12 : decode cX3_put 12 = .ok (.iload_n 2, 1) := by decide +kernel
set_option maxRecDepth 20000 in
theorem ggX3_put_X3_come : GoodIn wsX3_put wsX3_come := goodIn_ca (goodIn_ca (goodIn_r _ [79, 80, 81, 82, 83, 84, 85, 86, 87, 78, 88, 89, 90, 91, 69, 42, 71, 72, 73, 46, 47, 48, 49, 50, 51, 52, 53, 54, 55, 56, 57, 58, 59, 60, 61, 92, 93, 94, 95, 96, 97, 98, 22, 23, 24, 25, 26, 99, 100, 101, 34, 102, 103, 104, 105, 106, 107, 108, 109, 110, 111, 112, 113, 114, 6, 115, 8, 9, 10, 116, 117, 118, 119, 120, 121, 122, 11, 12, 13, 14, 15, 16, 123, 124, 125, 126, 17, 18, 19, 20, 21, 27, 28, 29, 30, 31, 127, 128, 129, 130, 131, 132, 133, 134, 135, 136, 137, 138, 139, 140, 141, 142, 143, 144, 145, 146, 147, 148, 149, 150, 151, 152, 153, 154, 155, 156, 157, 158, 159, 160, 161, 162, 163, 164, 165, 166, 167, 36, 37, 38, 168, 169, 170, 171, 172, 173, 174, 175, 176, 177, 178, 179, 180, 44, 45, 62, 63, 64, 65, 66, 67, 181, 226, 227, 228, 229, 230, 231, 232, 214, 215, 216, 217, 218, 219, 220, 221, 222, 223, 224, 225, 233, 234, 235, 236] rfl (by decide +kernel)) (goodIn_sub (fun _ h => List.mem_cons_of_mem _ (List.mem_append_left _ (List.mem_append_right _ h))) (by decide +kernel))) (goodIn_sub (fun _ h => List.mem_cons_of_mem _ (List.mem_append_right _ h)) (by decide +kernel))
set_option maxRecDepth 20000 in
theorem gX3_put_X3_come_u50X2 : GoodIn wsX3_put (va_wsU RX3 50 RX2 "KeyAtlas$Keyed" ⟨"KeyAtlas$Keyed", "come", "(II)V"⟩ yX3_come wsX3_come) := goodIn_app (goodIn_of _ (by decide +kernel)) ggX3_put_X3_come
theorem dX3_put_13 : decode cX3_put 13 = .ok (.invokevirtual 50, 3) := by decide +kernel
theorem dX3_put_16 : decode cX3_put 16 = .ok (.ldc2_w 53, 3) := by decide +kernel
theorem dX3_put_19 : decode cX3_put 19 = .ok (.lreturn, 1) := by decide +kernel
theorem dX3_putIfAbsent_0 : decode cX3_putIfAbsent 0 = .ok (.aload_n 0, 1) := by decide +kernel
theorem dX3_putIfAbsent_1 : decode cX3_putIfAbsent 1 = .ok (.iload_n 1, 1) := by decide +kernel
set_option maxRecDepth 20000 in
theorem ggX3_putIfAbsent_X2_find : GoodIn wsX3_putIfAbsent wsX2_find := goodIn_r _ [8, 9, 10, 11, 12, 13, 14, 7, 15, 16, 17, 18, 19, 20, 21, 22, 23, 24, 25, 26, 27, 28, 29, 30, 31, 32, 214, 215, 216, 217, 218, 219, 220, 221, 222, 223, 224, 225, 226, 227, 228, 229, 230, 231, 232, 233, 234, 235, 236] rfl (by decide +kernel)
set_option maxRecDepth 20000 in
theorem gX3_putIfAbsent_X2_find_u46X2 : GoodIn wsX3_putIfAbsent (va_wsU RX3 46 RX2 "KeyAtlas$Keyed" ⟨"KeyAtlas$Keyed", "find", "(I)I"⟩ yX2_find wsX2_find) := goodIn_app (goodIn_of _ (by decide +kernel)) ggX3_putIfAbsent_X2_find
theorem dX3_putIfAbsent_2 : decode cX3_putIfAbsent 2 = .ok (.invokevirtual 46, 3) := by decide +kernel
theorem dX3_putIfAbsent_5 : decode cX3_putIfAbsent 5 = .ok (.istore_n 3, 1) := by decide +kernel
theorem dX3_putIfAbsent_6 : decode cX3_putIfAbsent 6 = .ok (.iload_n 3, 1) := by decide +kernel
theorem dX3_putIfAbsent_7 : decode cX3_putIfAbsent 7 = .ok (.ifCond .ge 13, 3) := by decide +kernel
theorem dX3_putIfAbsent_20 : decode cX3_putIfAbsent 20 = .ok (.aload_n 0, 1) := by decide +kernel
theorem dX3_putIfAbsent_21 : decode cX3_putIfAbsent 21 = .ok (.iload_n 3, 1) := by decide +kernel
theorem dX3_putIfAbsent_22 : decode cX3_putIfAbsent 22 = .ok (.aload_n 0, 1) := by decide +kernel
theorem dX3_putIfAbsent_23 : decode cX3_putIfAbsent 23 = .ok (.getfield 9, 3) := by decide +kernel
theorem dX3_putIfAbsent_26 : decode cX3_putIfAbsent 26 = .ok (.iload_n 3, 1) := by decide +kernel
set_option maxRecDepth 20000 in
theorem ggX3_putIfAbsent_X5_value : GoodIn wsX3_putIfAbsent wsX5_value := goodIn_r _ [187, 27, 131, 233, 234, 235, 236] rfl (by decide +kernel)
set_option maxRecDepth 20000 in
theorem gX3_putIfAbsent_X5_value : GoodIn wsX3_putIfAbsent (wsV RX3 59 RX5 yX5_value wsX5_value) := goodIn_app (goodIn_of _ (by decide +kernel)) ggX3_putIfAbsent_X5_value
theorem dX3_putIfAbsent_27 : decode cX3_putIfAbsent 27 = .ok (.invokevirtual 59, 3) := by decide +kernel
set_option maxRecDepth 20000 in
theorem ggX3_putIfAbsent_X3_replace : GoodIn wsX3_putIfAbsent wsX3_replace := goodIn_r _ [192, 2, 184, 185, 186, 25, 187, 27, 131, 193, 194, 195, 196, 197, 198, 199, 200, 79, 201, 202, 203, 204, 35, 205, 206, 37, 38, 207, 208, 209, 210, 32, 132, 133, 134, 135, 136, 211, 214, 215, 216, 217, 218, 219, 220, 221, 222, 223, 224, 225, 226, 227, 228, 229, 230, 231, 232, 233, 234, 235, 236] rfl (by decide +kernel)
set_option maxRecDepth 20000 in
theorem gX3_putIfAbsent_X3_replace_u55X2 : GoodIn wsX3_putIfAbsent (va_wsU RX3 55 RX2 "KeyAtlas$Keyed" ⟨"KeyAtlas$Keyed", "replace", "(II)J"⟩ yX3_replace wsX3_replace) := goodIn_app (goodIn_of _ (by decide +kernel)) ggX3_putIfAbsent_X3_replace
theorem dX3_putIfAbsent_30 : decode cX3_putIfAbsent 30 = .ok (.invokevirtual 55, 3) := by decide +kernel
theorem dX3_putIfAbsent_33 : decode cX3_putIfAbsent 33 = .ok (.lreturn, 1) := by decide +kernel
theorem dX3_putIfAbsent_10 : decode cX3_putIfAbsent 10 = .ok (.aload_n 0, 1) := by decide +kernel
theorem dX3_putIfAbsent_11 : decode cX3_putIfAbsent 11 = .ok (.iload_n 1, 1) := by decide +kernel
theorem dX3_putIfAbsent_12 : decode cX3_putIfAbsent 12 = .ok (.iload_n 2, 1) := by decide +kernel
set_option maxRecDepth 20000 in
theorem ggX3_putIfAbsent_X3_come : GoodIn wsX3_putIfAbsent wsX3_come := goodIn_ca (goodIn_ca (goodIn_r _ [80, 81, 82, 83, 84, 85, 86, 87, 88, 79, 89, 90, 91, 92, 70, 43, 72, 73, 74, 47, 48, 49, 50, 51, 52, 53, 54, 55, 56, 57, 58, 59, 60, 61, 62, 93, 94, 95, 96, 97, 2, 98, 23, 24, 25, 26, 27, 99, 100, 101, 35, 102, 103, 104, 105, 106, 107, 108, 109, 110, 111, 112, 113, 114, 7, 115, 9, 10, 11, 116, 117, 118, 119, 120, 121, 122, 12, 13, 14, 15, 16, 17, 123, 124, 125, 126, 18, 19, 20, 21, 22, 28, 29, 30, 31, 32, 127, 128, 129, 130, 131, 132, 133, 134, 135, 136, 137, 138, 139, 140, 141, 142, 143, 144, 145, 146, 147, 148, 149, 150, 151, 152, 153, 154, 155, 156, 157, 158, 159, 160, 161, 162, 163, 164, 165, 166, 167, 37, 38, 39, 168, 169, 170, 171, 172, 173, 174, 175, 176, 177, 178, 179, 180, 45, 46, 63, 64, 65, 66, 67, 68, 181, 226, 227, 228, 229, 230, 231, 232, 214, 215, 216, 217, 218, 219, 220, 221, 222, 223, 224, 225, 233, 234, 235, 236] rfl (by decide +kernel)) (goodIn_sub (fun _ h => List.mem_cons_of_mem _ (List.mem_append_left _ (List.mem_append_right _ h))) (by decide +kernel))) (goodIn_sub (fun _ h => List.mem_cons_of_mem _ (List.mem_append_right _ h)) (by decide +kernel))
set_option maxRecDepth 20000 in
theorem gX3_putIfAbsent_X3_come_u50X2 : GoodIn wsX3_putIfAbsent (va_wsU RX3 50 RX2 "KeyAtlas$Keyed" ⟨"KeyAtlas$Keyed", "come", "(II)V"⟩ yX3_come wsX3_come) := goodIn_app (goodIn_of _ (by decide +kernel)) ggX3_putIfAbsent_X3_come
theorem dX3_putIfAbsent_13 : decode cX3_putIfAbsent 13 = .ok (.invokevirtual 50, 3) := by decide +kernel
theorem dX3_putIfAbsent_16 : decode cX3_putIfAbsent 16 = .ok (.ldc2_w 53, 3) := by decide +kernel
theorem dX3_putIfAbsent_19 : decode cX3_putIfAbsent 19 = .ok (.lreturn, 1) := by decide +kernel
theorem dX3_putMore_0 : decode cX3_putMore 0 = .ok (.aload_n 0, 1) := by decide +kernel
theorem dX3_putMore_1 : decode cX3_putMore 1 = .ok (.iload_n 1, 1) := by decide +kernel
set_option maxRecDepth 20000 in
theorem ggX3_putMore_X2_find : GoodIn wsX3_putMore wsX2_find := goodIn_r _ [8, 9, 10, 11, 12, 13, 14, 7, 15, 16, 17, 18, 19, 20, 21, 22, 23, 24, 25, 26, 27, 28, 29, 30, 31, 32, 224, 225, 226, 227, 228, 229, 230, 231, 232, 233, 234, 235, 236, 237, 238, 239, 240, 241, 242, 243, 244, 245, 246] rfl (by decide +kernel)
set_option maxRecDepth 20000 in
theorem gX3_putMore_X2_find_u46X2 : GoodIn wsX3_putMore (va_wsU RX3 46 RX2 "KeyAtlas$Keyed" ⟨"KeyAtlas$Keyed", "find", "(I)I"⟩ yX2_find wsX2_find) := goodIn_app (goodIn_of _ (by decide +kernel)) ggX3_putMore_X2_find
theorem dX3_putMore_2 : decode cX3_putMore 2 = .ok (.invokevirtual 46, 3) := by decide +kernel
theorem dX3_putMore_5 : decode cX3_putMore 5 = .ok (.istore_n 3, 1) := by decide +kernel
theorem dX3_putMore_6 : decode cX3_putMore 6 = .ok (.iload_n 3, 1) := by decide +kernel
theorem dX3_putMore_7 : decode cX3_putMore 7 = .ok (.ifCond .ge 12, 3) := by decide +kernel
theorem dX3_putMore_19 : decode cX3_putMore 19 = .ok (.aload_n 0, 1) := by decide +kernel
theorem dX3_putMore_20 : decode cX3_putMore 20 = .ok (.getfield 9, 3) := by decide +kernel
theorem dX3_putMore_23 : decode cX3_putMore 23 = .ok (.iload_n 3, 1) := by decide +kernel
set_option maxRecDepth 20000 in
theorem ggX3_putMore_X5_value : GoodIn wsX3_putMore wsX5_value := goodIn_r _ [187, 27, 131, 243, 244, 245, 246] rfl (by decide +kernel)
set_option maxRecDepth 20000 in
theorem gX3_putMore_X5_value : GoodIn wsX3_putMore (wsV RX3 59 RX5 yX5_value wsX5_value) := goodIn_app (goodIn_of _ (by decide +kernel)) ggX3_putMore_X5_value
theorem dX3_putMore_24 : decode cX3_putMore 24 = .ok (.invokevirtual 59, 3) := by decide +kernel
theorem dX3_putMore_27 : decode cX3_putMore 27 = .ok (.iload_n 2, 1) := by decide +kernel
theorem dX3_putMore_28 : decode cX3_putMore 28 = .ok (.iadd, 1) := by decide +kernel
theorem dX3_putMore_29 : decode cX3_putMore 29 = .ok (.istore 4, 2) := by decide +kernel
theorem dX3_putMore_31 : decode cX3_putMore 31 = .ok (.iload 4, 2) := by decide +kernel
theorem dX3_putMore_33 : decode cX3_putMore 33 = .ok (.ifCond .ne 12, 3) := by decide +kernel
theorem dX3_putMore_45 : decode cX3_putMore 45 = .ok (.aload_n 0, 1) := by decide +kernel
theorem dX3_putMore_46 : decode cX3_putMore 46 = .ok (.iload_n 3, 1) := by decide +kernel
theorem dX3_putMore_47 : decode cX3_putMore 47 = .ok (.iload 4, 2) := by decide +kernel
set_option maxRecDepth 20000 in
theorem ggX3_putMore_X3_replace : GoodIn wsX3_putMore wsX3_replace := goodIn_r _ [202, 1, 184, 185, 186, 25, 187, 27, 131, 203, 204, 205, 206, 207, 208, 209, 210, 79, 211, 212, 213, 214, 35, 215, 216, 37, 38, 217, 218, 219, 220, 32, 132, 133, 134, 135, 136, 221, 224, 225, 226, 227, 228, 229, 230, 231, 232, 233, 234, 235, 236, 237, 238, 239, 240, 241, 242, 243, 244, 245, 246] rfl (by decide +kernel)
set_option maxRecDepth 20000 in
theorem gX3_putMore_X3_replace_u55X2 : GoodIn wsX3_putMore (va_wsU RX3 55 RX2 "KeyAtlas$Keyed" ⟨"KeyAtlas$Keyed", "replace", "(II)J"⟩ yX3_replace wsX3_replace) := goodIn_app (goodIn_of _ (by decide +kernel)) ggX3_putMore_X3_replace
theorem dX3_putMore_49 : decode cX3_putMore 49 = .ok (.invokevirtual 55, 3) := by decide +kernel
theorem dX3_putMore_52 : decode cX3_putMore 52 = .ok (.pop2, 1) := by decide +kernel
theorem dX3_putMore_53 : decode cX3_putMore 53 = .ok (.iload 4, 2) := by decide +kernel
theorem dX3_putMore_55 : decode cX3_putMore 55 = .ok (.i2l, 1) := by decide +kernel
theorem dX3_putMore_56 : decode cX3_putMore 56 = .ok (.lreturn, 1) := by decide +kernel
theorem dX3_putMore_36 : decode cX3_putMore 36 = .ok (.aload_n 0, 1) := by decide +kernel
theorem dX3_putMore_37 : decode cX3_putMore 37 = .ok (.iload_n 3, 1) := by decide +kernel
set_option maxRecDepth 20000 in
theorem ggX3_putMore_X2_leave : GoodIn wsX3_putMore wsX2_leave := goodIn_r _ [193, 10, 11, 28, 29, 30, 25, 31, 27, 32, 12, 13, 14, 7, 15, 16, 17, 9, 194, 189, 195, 171, 79, 172, 1, 173, 174, 175, 176, 132, 133, 134, 135, 131, 136, 123, 124, 125, 126, 18, 19, 20, 21, 22, 23, 24, 26, 161, 162, 163, 164, 122, 224, 225, 226, 227, 228, 229, 230, 231, 232, 233, 234, 235, 236, 237, 238, 239, 240, 241, 242, 243, 244, 245, 246] rfl (by decide +kernel)
set_option maxRecDepth 20000 in
theorem gX3_putMore_X2_leave_u69X2 : GoodIn wsX3_putMore (va_wsO RX3 69 RX2 "KeyAtlas$Keyed" ⟨"KeyAtlas$Keyed", "leave", "(I)V"⟩ yX2_leave wsX2_leave) := goodIn_app (goodIn_of _ (by decide +kernel)) ggX3_putMore_X2_leave
theorem dX3_putMore_38 : decode cX3_putMore 38 = .ok (.invokevirtual 69, 3) := by decide +kernel
theorem dX3_putMore_41 : decode cX3_putMore 41 = .ok (.ldc2_w 53, 3) := by decide +kernel
theorem dX3_putMore_44 : decode cX3_putMore 44 = .ok (.lreturn, 1) := by decide +kernel
theorem dX3_putMore_10 : decode cX3_putMore 10 = .ok (.aload_n 0, 1) := by decide +kernel
theorem dX3_putMore_11 : decode cX3_putMore 11 = .ok (.iload_n 1, 1) := by decide +kernel
theorem dX3_putMore_12 : decode cX3_putMore 12 = .ok (.iload_n 2, 1) := by decide +kernel
set_option maxRecDepth 20000 in
theorem ggX3_putMore_X3_come : GoodIn wsX3_putMore wsX3_come := goodIn_ca (goodIn_ca (goodIn_r _ [80, 81, 82, 83, 84, 85, 86, 87, 88, 79, 89, 90, 91, 92, 70, 43, 72, 73, 74, 47, 48, 49, 50, 51, 52, 53, 54, 55, 56, 57, 58, 59, 60, 61, 62, 93, 94, 95, 96, 97, 1, 98, 23, 24, 25, 26, 27, 99, 100, 101, 35, 102, 103, 104, 105, 106, 107, 108, 109, 110, 111, 112, 113, 114, 7, 115, 9, 10, 11, 116, 117, 118, 119, 120, 121, 122, 12, 13, 14, 15, 16, 17, 123, 124, 125, 126, 18, 19, 20, 21, 22, 28, 29, 30, 31, 32, 127, 128, 129, 130, 131, 132, 133, 134, 135, 136, 137, 138, 139, 140, 141, 142, 143, 144, 145, 146, 147, 148, 149, 150, 151, 152, 153, 154, 155, 156, 157, 158, 159, 160, 161, 162, 163, 164, 165, 166, 167, 37, 38, 39, 168, 169, 170, 171, 172, 173, 174, 175, 176, 177, 178, 179, 180, 45, 46, 63, 64, 65, 66, 67, 68, 181, 236, 237, 238, 239, 240, 241, 242, 224, 225, 226, 227, 228, 229, 230, 231, 232, 233, 234, 235, 243, 244, 245, 246] rfl (by decide +kernel)) (goodIn_sub (fun _ h => List.mem_cons_of_mem _ (List.mem_append_left _ (List.mem_append_right _ h))) (by decide +kernel))) (goodIn_sub (fun _ h => List.mem_cons_of_mem _ (List.mem_append_right _ h)) (by decide +kernel))
set_option maxRecDepth 20000 in
theorem gX3_putMore_X3_come_u50X2 : GoodIn wsX3_putMore (va_wsU RX3 50 RX2 "KeyAtlas$Keyed" ⟨"KeyAtlas$Keyed", "come", "(II)V"⟩ yX3_come wsX3_come) := goodIn_app (goodIn_of _ (by decide +kernel)) ggX3_putMore_X3_come
theorem dX3_putMore_13 : decode cX3_putMore 13 = .ok (.invokevirtual 50, 3) := by decide +kernel
theorem dX3_putMore_16 : decode cX3_putMore 16 = .ok (.iload_n 2, 1) := by decide +kernel
theorem dX3_putMore_17 : decode cX3_putMore 17 = .ok (.i2l, 1) := by decide +kernel
theorem dX3_putMore_18 : decode cX3_putMore 18 = .ok (.lreturn, 1) := by decide +kernel
set_option maxHeartbeats 4000000 in
set_option maxRecDepth 100000 in
/-- Keyed.put of H -/
theorem c_X3_put_H (l : Launch) (hlt : l.stackTraces = false) (dC : Nat → ClassId) (dI : Nat → Nat → Nat) (sz : Nat) (T0 : Nat) (y0 : Nat) (kd : Int32) (wh : Int32) (cap : Nat) (ru : Int32) (tb : Nat) (b0 : Nat) (cb : ClassId) (bf : Nat → Int32) (x0 : Nat) (k0 : Nat) (w0 : Nat) (ck : ClassId) (cw : ClassId) (L : Nat) (f : Nat → Int32) (g : Nat → Int32) (nz : Nat) (ch : Int32) (p0 : Int32) (p1 : Int32) (gs : Nat) (ds : Nat) (hH9 : hOK tb L nz cap) (hG9 : nz < L ∨ 4 * L ≤ gs) (hD9 : tb = 0 → 1029 + 2 * L ≤ ds) (hD8 : ¬ tb = 0 → (tb < 64 ∧ 8 ≤ nz) ∨ tb * 3 < (nz + 1) * 4 → nz < L → 4 * tb + (nz + 1) + 2 * L ≤ ds) (hD7 : ¬ tb = 0 → (tb < 64 ∧ 8 ≤ nz) ∨ tb * 3 < (nz + 1) * 4 → ¬ nz < L → 4 * tb + (nz + 1) + 4 * L ≤ ds) : vx_Met l yX3_put wsX3_put ({ frames := 7, cells := 9, slots := gs + ds + 6, locals := 290 }) (va_Pc [.ref y0, .int p0, .int p1] (pk_PreXT (dC, dI) [(y0, .inr (3, [.ref x0, .int kd, .int wh, .int (nI cap), .int ru, .int (nI tb), .ref b0])), (x0, .inr (5, [.ref k0, .ref w0, .int (nI nz), .int ch])), (k0, .inl (ck, L, .inl f)), (w0, .inl (cw, L, .inl g)), (b0, .inl (cb, tb, .inl bf))] [(ck, .int), (cw, .int), (cb, .boolean)] sz T0)) (va_Ql (fun (x : Int64) (u : Nat × Nat × ClassId × (Nat → Int32) × Nat × Nat × ClassId × ClassId × Nat × (Nat → Int32) × (Nat → Int32) × Nat × Int32) => kpH tb L nz cap (u.1) (u.2.2.2.2.2.2.2.2.1) (u.2.2.2.2.2.2.2.2.2.2.2.1)) (fun (u : Nat × Nat × ClassId × (Nat → Int32) × Nat × Nat × ClassId × ClassId × Nat × (Nat → Int32) × (Nat → Int32) × Nat × Int32) (t : State) => va_P (dC, dI) vwCl [(y0, .inr (3, [.ref x0, .int kd, .int wh, .int (nI cap), .int ru, .int (nI (u.1)), .ref u.2.1])), (x0, .inr (5, [.ref u.2.2.2.2.1, .ref u.2.2.2.2.2.1, .int (nI (u.2.2.2.2.2.2.2.2.2.2.2.1)), .int u.2.2.2.2.2.2.2.2.2.2.2.2])), (u.2.2.2.2.1, .inl (u.2.2.2.2.2.2.1, u.2.2.2.2.2.2.2.2.1, .inl u.2.2.2.2.2.2.2.2.2.1)), (u.2.2.2.2.2.1, .inl (u.2.2.2.2.2.2.2.1, u.2.2.2.2.2.2.2.2.1, .inl u.2.2.2.2.2.2.2.2.2.2.1)), (u.2.1, .inl (u.2.2.1, u.1, .inl u.2.2.2.1))] t.heap ∧ va_K (dC, dI) vwCl [(u.2.2.2.2.2.2.1, .int), (u.2.2.2.2.2.2.2.1, .int), (u.2.2.1, .boolean)] t ∧ va_D (va_A [(y0, .inr (3, [.ref x0, .int kd, .int wh, .int (nI cap), .int ru, .int (nI tb), .ref b0])), (x0, .inr (5, [.ref k0, .ref w0, .int (nI nz), .int ch])), (k0, .inl (ck, L, .inl f)), (w0, .inl (cw, L, .inl g)), (b0, .inl (cb, tb, .inl bf))] sz) [(y0, .inr (3, [.ref x0, .int kd, .int wh, .int (nI cap), .int ru, .int (nI (u.1)), .ref u.2.1])), (x0, .inr (5, [.ref u.2.2.2.2.1, .ref u.2.2.2.2.2.1, .int (nI (u.2.2.2.2.2.2.2.2.2.2.2.1)), .int u.2.2.2.2.2.2.2.2.2.2.2.2])), (u.2.2.2.2.1, .inl (u.2.2.2.2.2.2.1, u.2.2.2.2.2.2.2.2.1, .inl u.2.2.2.2.2.2.2.2.2.1)), (u.2.2.2.2.2.1, .inl (u.2.2.2.2.2.2.2.1, u.2.2.2.2.2.2.2.2.1, .inl u.2.2.2.2.2.2.2.2.2.2.1)), (u.2.1, .inl (u.2.2.1, u.1, .inl u.2.2.2.1))] ∧ hT t.heap + hPS tb L ≤ T0 + hPS (u.1) (u.2.2.2.2.2.2.2.2.1) ∧ t.heap.size + hPC tb L ≤ sz + hPC (u.1) (u.2.2.2.2.2.2.2.2.1)) (va_A [(y0, .inr (3, [.ref x0, .int kd, .int wh, .int (nI cap), .int ru, .int (nI tb), .ref b0])), (x0, .inr (5, [.ref k0, .ref w0, .int (nI nz), .int ch])), (k0, .inl (ck, L, .inl f)), (w0, .inl (cw, L, .inl g)), (b0, .inl (cb, tb, .inl bf))] sz)) (vx_X (fun _ : Unit => True) (fun (E : String) (_ : Unit) (t : State) => ((E = "java/lang/IllegalArgumentException" ∨ E = "java/lang/IllegalStateException") ∧ va_P (dC, dI) vwCl [(y0, .inr (3, [.ref x0, .int kd, .int wh, .int (nI cap), .int ru, .int (nI tb), .ref b0])), (x0, .inr (5, [.ref k0, .ref w0, .int (nI nz), .int ch])), (k0, .inl (ck, L, .inl f)), (w0, .inl (cw, L, .inl g)), (b0, .inl (cb, tb, .inl bf))] t.heap ∧ va_K (dC, dI) vwCl [(ck, .int), (cw, .int), (cb, .boolean)] t ∧ va_D (va_A [(y0, .inr (3, [.ref x0, .int kd, .int wh, .int (nI cap), .int ru, .int (nI tb), .ref b0])), (x0, .inr (5, [.ref k0, .ref w0, .int (nI nz), .int ch])), (k0, .inl (ck, L, .inl f)), (w0, .inl (cw, L, .inl g)), (b0, .inl (cb, tb, .inl bf))] sz) [(y0, .inr (3, [.ref x0, .int kd, .int wh, .int (nI cap), .int ru, .int (nI tb), .ref b0])), (x0, .inr (5, [.ref k0, .ref w0, .int (nI nz), .int ch])), (k0, .inl (ck, L, .inl f)), (w0, .inl (cw, L, .inl g)), (b0, .inl (cb, tb, .inl bf))]) ∧ t.heap.size ≤ sz + 1 ∧ hT t.heap ≤ T0 + 6) (va_A [(y0, .inr (3, [.ref x0, .int kd, .int wh, .int (nI cap), .int ru, .int (nI tb), .ref b0])), (x0, .inr (5, [.ref k0, .ref w0, .int (nI nz), .int ch])), (k0, .inl (ck, L, .inl f)), (w0, .inl (cw, L, .inl g)), (b0, .inl (cb, tb, .inl bf))] sz)) 9 (gs + ds + 6) (va_A [(y0, .inr (3, [.ref x0, .int kd, .int wh, .int (nI cap), .int ru, .int (nI tb), .ref b0])), (x0, .inr (5, [.ref k0, .ref w0, .int (nI nz), .int ch])), (k0, .inl (ck, L, .inl f)), (w0, .inl (cw, L, .inl g)), (b0, .inl (cb, tb, .inl bf))] sz) := by
  refine vx_ofW (cc := cX3_put) (maxL := 4) (ret := (some .long)) (by decide) rfl ?_
  intro p e s m args below meth c s₁ B hml htab hv
  obtain ⟨rfl, ⟨hsz, hP, hK, hD0, hN, hZ⟩, hT0⟩ := hv
  have hx := B.exec
  have hb := B.bytes
  have hr := B.returns
  have hts := atoms_spec (ws := wsX3_put) B.pre
  have hown : s.vm.findClass RX3 = some m.cls := findClass_of_methodNamed B.named
  have hlocks := B.notSynchronized
  subst hsz
  subst hT0
  have hD := hD0.self (sz := s.heap.size)
  generalize hAe : va_A [(y0, .inr (3, [.ref x0, .int kd, .int wh, .int (nI cap), .int ru, .int (nI tb), .ref b0])), (x0, .inr (5, [.ref k0, .ref w0, .int (nI nz), .int ch])), (k0, .inl (ck, L, .inl f)), (w0, .inl (cw, L, .inl g)), (b0, .inl (cb, tb, .inl bf))] s.heap.size = A at hZ hD ⊢
  have hA : ∀ q : Nat, s.heap.size ≤ q → A q := fun q h => by rw [← hAe]; exact Or.inr h
  have hS : va_S A s.heap s.heap [] := va_S.rf
  have hP : va_P (dC, dI) vwCl [(y0, .inr (3, [.ref x0, .int kd, .int wh, .int (nI cap), .int ru, .int (nI tb), .ref b0])), (x0, .inr (5, [.ref k0, .ref w0, .int (nI nz), .int ch])), (k0, .inl (ck, L, .inl f)), (w0, .inl (cw, L, .inl g)), (b0, .inl (cb, tb, .inl bf))] s.heap := hP
  have hl := lv_entry ([.ref y0, .int p0, .int p1]) (n := 4) (Nat.le_of_ble_eq_true rfl)
  rw [lg_entry_eq]
  generalize (lg_sl ([.ref y0, .int p0, .int p1]) ++ List.replicate (4 - (lg_sl ([.ref y0, .int p0, .int p1])).length) Slot.unset).toArray = ls at hl ⊢
  have hl : lv_has ls 4 [(0, .ref y0), (1, .int p0), (2, .int p1)] := hl
  have hw0_ := hts (.constantLong RX3 53 (1099511627776)) (List.mem_of_getElem? (l := wsX3_put) (i := 1) rfl)
  have hR9 : rOK L nz := hH9.1
  have htb := hOK_tb hH9
  obtain ⟨hL1, hL2, hz1, hz2⟩ := id hR9
  refine lv_aload_n hx hb dX3_put_0 rfl (lv_at hl 0 rfl) ?_
  refine lv_iload_n hx hb dX3_put_1 rfl (lv_at hl 1 rfl) ?_
  have hPc := hP.sub (ws' := [(y0, .inr (3, [.ref x0, .int kd, .int wh, .int (nI cap), .int ru, .int (nI tb), .ref b0])), (x0, .inr (5, [.ref k0, .ref w0, .int (nI nz), .int ch])), (k0, .inl (ck, L, .inl f)), (w0, .inl (cw, L, .inl g)), (b0, .inl (cb, tb, .inl bf))]) [0, 1, 2, 3, 4] rfl
  have hKc := hK.sub (tys' := [(ck, .int), (cw, .int), (cb, .boolean)]) [0, 1, 2] rfl
  refine ro_calli (va_runU (As := [.int p0]) (rest := []) ⟨hx, hb, hml, hown, hts⟩ (c_X2_find l  dC dI s.heap.size y0 kd wh cap ru tb b0 cb bf x0 k0 w0 ck cw L f g nz ch p0 hR9 htb) (va_cwA 1 hts gX3_put_X2_find_u46X2 rfl rfl rfl (hN.xw _ (List.mem_of_getElem? (l := p_xw) (i := 0) rfl)) (by decide +kernel) ⟨(Nat.le_of_ble_eq_true rfl), (Nat.le_of_ble_eq_true rfl)⟩) ⟨pk_blindR, va_recv hKc hPc (ci := 3) (q0 := 0) rfl rfl, pk_callR hPc hKc⟩ rfl rfl hl.1 rfl (lv_room (Nat.le_of_ble_eq_true rfl)) dX3_put_2 ⟨(Nat.le_of_ble_eq_true rfl), (show 0 + 0 ≤ gs + ds + 6 by omega)⟩) (fun r_1 ur_1 hw => ?_)
  clear hPc hKc
  try dsimp only at hw
  have jr_1 := hw
  refine W.eq (g2 := F0 m 5 ls [.int r_1]) rfl ?_
  refine lv_istore_n (lv' := [(3, .int r_1), (0, .ref y0), (1, .int p0), (2, .int p1)]) hx hb dX3_put_5 rfl hl (by decide) rfl (fun ls hl => ?_)
  refine lv_iload_n hx hb dX3_put_6 rfl (lv_at hl 0 rfl) ?_
  refine lv_if_ge (tgt := 20) hx hb dX3_put_7 (by decide) (fun c_2 => ?_) (fun c_2 => ?_)
  ·
    have ic_2 : 0 ≤ r_1.toInt := tx_le (by decide) rfl c_2
    refine lv_aload_n hx hb dX3_put_20 rfl (lv_at hl 1 rfl) ?_
    refine lv_iload_n hx hb dX3_put_21 rfl (lv_at hl 0 rfl) ?_
    refine lv_iload_n hx hb dX3_put_22 rfl (lv_at hl 3 rfl) ?_
    have hPc := hP.sub (ws' := [(y0, .inr (3, [.ref x0, .int kd, .int wh, .int (nI cap), .int ru, .int (nI tb), .ref b0])), (x0, .inr (5, [.ref k0, .ref w0, .int (nI nz), .int ch])), (k0, .inl (ck, L, .inl f)), (w0, .inl (cw, L, .inl g)), (b0, .inl (cb, tb, .inl bf))]) [0, 1, 2, 3, 4] rfl
    have hDc := hD.sub (ws' := [(y0, .inr (3, [.ref x0, .int kd, .int wh, .int (nI cap), .int ru, .int (nI tb), .ref b0])), (x0, .inr (5, [.ref k0, .ref w0, .int (nI nz), .int ch])), (k0, .inl (ck, L, .inl f)), (w0, .inl (cw, L, .inl g)), (b0, .inl (cb, tb, .inl bf))]) [0, 1, 2, 3, 4] (by decide) rfl
    have hKc := hK.sub (tys' := [(ck, .int), (cw, .int), (cb, .boolean)]) [0, 1, 2] rfl
    have hFc := va_free (wc := [(y0, .inr (3, [.ref x0, .int kd, .int wh, .int (nI cap), .int ru, .int (nI tb), .ref b0])), (x0, .inr (5, [.ref k0, .ref w0, .int (nI nz), .int ch])), (k0, .inl (ck, L, .inl f)), (w0, .inl (cw, L, .inl g)), (b0, .inl (cb, tb, .inl bf))]) hD hS hA [0, 1, 2, 3, 4] rfl
    have hZc := (hZ.kept hS.2.1).narrow hFc
    refine va_calll (va_runU (As := [.int r_1, .int p1]) (rest := []) ⟨hx, hb, hml, hown, hts⟩ (c_X3_replace_H l hlt dC dI s.heap.size y0 kd wh cap ru tb b0 cb bf x0 k0 w0 ck cw L f g nz ch r_1 p1 hH9) (va_cwU 2 hts gX3_put_X3_replace_u55X2 rfl rfl rfl rfl (by decide +kernel) ⟨(Nat.le_of_ble_eq_true rfl), (Nat.le_of_ble_eq_true rfl)⟩) ⟨pk_blindX, va_recv hKc hPc (ci := 3) (q0 := 0) rfl rfl, pk_callX hPc hKc hDc hN hZc⟩ rfl rfl hl.1 rfl (lv_room (Nat.le_of_ble_eq_true rfl)) dX3_put_23 ⟨(Nat.le_of_ble_eq_true rfl), (show 0 + 0 ≤ gs + ds + 6 by omega)⟩) hS (fun q _ h => hFc q h) hFc (fun r_3 ur_3 t H1 locs ht hvm hw hB hz1 hk1 hS => ?_)
    try dsimp only at hw
    have jr_3 := hw
    obtain ⟨hP1, hK1, hD1⟩ := hB
    rw [ht] at hP1
    have hK1 := va_K.moved hvm.symm hK1
    obtain ⟨hP, hD⟩ := va_join (wr := []) (w1 := [(y0, .inr (3, [.ref x0, .int kd, .int wh, .int (nI cap), .int ru, .int (nI tb), .ref b0])), (x0, .inr (5, [.ref k0, .ref w0, .int (nI nz), .int ur_3.2.2])), (k0, .inl (ck, L, .inl ur_3.1)), (w0, .inl (cw, L, .inl ur_3.2.1)), (b0, .inl (cb, tb, .inl bf))]) hP hD [0, 1, 2, 3, 4] [] rfl rfl (by decide) (by decide) hk1 hFc hP1 hD1
    clear hk1 hz1 ht hPc hDc hKc hFc
    generalize H1 = H at hP hS ⊢
    replace hP : va_P (dC, dI) vwCl [(y0, .inr (3, [.ref x0, .int kd, .int wh, .int (nI cap), .int ru, .int (nI tb), .ref b0])), (x0, .inr (5, [.ref k0, .ref w0, .int (nI nz), .int ur_3.2.2])), (k0, .inl (ck, L, .inl ur_3.1)), (w0, .inl (cw, L, .inl ur_3.2.1)), (b0, .inl (cb, tb, .inl bf))] H := hP
    replace hD : va_D A [(y0, .inr (3, [.ref x0, .int kd, .int wh, .int (nI cap), .int ru, .int (nI tb), .ref b0])), (x0, .inr (5, [.ref k0, .ref w0, .int (nI nz), .int ur_3.2.2])), (k0, .inl (ck, L, .inl ur_3.1)), (w0, .inl (cw, L, .inl ur_3.2.1)), (b0, .inl (cb, tb, .inl bf))] := hD
    refine W.widen (k := 0) (n := 0) (Nat.le_of_ble_eq_true rfl) (Nat.le_of_ble_eq_true rfl) ?_
    refine W.eq (g2 := F0 m 26 ls [.long r_3]) rfl ?_
    refine W.book (fun hz9_ hn9_ => ?_)
    have hpost : kpH tb L nz cap (tb) (L) (nz) := Or.inl ⟨rfl, rfl, by omega⟩
    have hcost : hT H + hPS tb L ≤ hT s.heap + hPS (tb) (L) ∧ H.size + hPC tb L ≤ s.heap.size + hPC (tb) (L) := by constructor <;> omega
    have hP9 := hP.sub (ws' := [(y0, .inr (3, [.ref x0, .int kd, .int wh, .int (nI cap), .int ru, .int (nI tb), .ref b0])), (x0, .inr (5, [.ref k0, .ref w0, .int (nI nz), .int ur_3.2.2])), (k0, .inl (ck, L, .inl ur_3.1)), (w0, .inl (cw, L, .inl ur_3.2.1)), (b0, .inl (cb, tb, .inl bf))]) [0, 1, 2, 3, 4] rfl
    have hD9 := hD.sub (ws' := [(y0, .inr (3, [.ref x0, .int kd, .int wh, .int (nI cap), .int ru, .int (nI tb), .ref b0])), (x0, .inr (5, [.ref k0, .ref w0, .int (nI nz), .int ur_3.2.2])), (k0, .inl (ck, L, .inl ur_3.1)), (w0, .inl (cw, L, .inl ur_3.2.1)), (b0, .inl (cb, tb, .inl bf))]) [0, 1, 2, 3, 4] (by decide) rfl
    have hK9 := hK.sub (tys' := [(ck, .int), (cw, .int), (cb, .boolean)]) [0, 1, 2] rfl
    refine W.widen (k := 9) (n := gs + ds + 6) (by omega) (by omega) ?_
    refine vx_ret ?_
    exact W.lret (v := r_3) hx hb hr (fun t ht hW => ⟨⟨r_3, (tb, b0, cb, bf, k0, w0, ck, cw, L, ur_3.1, ur_3.2.1, nz, ur_3.2.2), rfl, hpost, by rw [ht]; exact hP9, va_K.moved hW.alike hK9, hD9, by rw [ht]; exact hcost⟩, hS.F ht⟩) hS.2.2 dX3_put_26
  ·
    have ic_2 : r_1.toInt < 0 := tx_nle (by decide) rfl c_2
    refine lv_aload_n hx hb dX3_put_10 rfl (lv_at hl 1 rfl) ?_
    refine lv_iload_n hx hb dX3_put_11 rfl (lv_at hl 2 rfl) ?_
    refine lv_iload_n hx hb dX3_put_12 rfl (lv_at hl 3 rfl) ?_
    have hPc := hP.sub (ws' := [(y0, .inr (3, [.ref x0, .int kd, .int wh, .int (nI cap), .int ru, .int (nI tb), .ref b0])), (x0, .inr (5, [.ref k0, .ref w0, .int (nI nz), .int ch])), (k0, .inl (ck, L, .inl f)), (w0, .inl (cw, L, .inl g)), (b0, .inl (cb, tb, .inl bf))]) [0, 1, 2, 3, 4] rfl
    have hDc := hD.sub (ws' := [(y0, .inr (3, [.ref x0, .int kd, .int wh, .int (nI cap), .int ru, .int (nI tb), .ref b0])), (x0, .inr (5, [.ref k0, .ref w0, .int (nI nz), .int ch])), (k0, .inl (ck, L, .inl f)), (w0, .inl (cw, L, .inl g)), (b0, .inl (cb, tb, .inl bf))]) [0, 1, 2, 3, 4] (by decide) rfl
    have hKc := hK.sub (tys' := [(ck, .int), (cw, .int), (cb, .boolean)]) [0, 1, 2] rfl
    have hFc := va_free (wc := [(y0, .inr (3, [.ref x0, .int kd, .int wh, .int (nI cap), .int ru, .int (nI tb), .ref b0])), (x0, .inr (5, [.ref k0, .ref w0, .int (nI nz), .int ch])), (k0, .inl (ck, L, .inl f)), (w0, .inl (cw, L, .inl g)), (b0, .inl (cb, tb, .inl bf))]) hD hS hA [0, 1, 2, 3, 4] rfl
    have hZc := (hZ.kept hS.2.1).narrow hFc
    refine vx_callv (vx_runU (As := [.int p0, .int p1]) (rest := []) ⟨hx, hb, hml, hown, hts⟩ (c_X3_come_H l hlt dC dI s.heap.size (hT s.heap) y0 kd wh cap ru tb b0 cb bf x0 k0 w0 ck cw L f g nz ch p0 p1 gs ds hH9 hG9 hD9 hD8 hD7) (va_cwU 2 hts gX3_put_X3_come_u50X2 rfl rfl rfl rfl (by decide +kernel) ⟨(Nat.le_of_ble_eq_true rfl), (Nat.le_of_ble_eq_true rfl)⟩) ⟨pk_blindXT, va_recv hKc hPc (ci := 3) (q0 := 0) rfl rfl, pk_callXT hPc hKc hDc hN hZc⟩ rfl rfl hl.1 rfl (lv_room (Nat.le_of_ble_eq_true rfl)) dX3_put_13 ⟨(Nat.le_of_ble_eq_true rfl), (show 0 + (gs + ds + 6) ≤ gs + ds + 6 by omega)⟩) hS (fun q _ h => hFc q h) hFc (fun q _ h => hFc q h) (fun E ce q9 u9 t H1 locs ht hvm hw hB hz1 hk1 hS hce hcv hcl => ?_) (fun ur_4 t H1 locs ht hvm hw hB hz1 hk1 hS => ?_)
    ·
      try dsimp only at hB
      obtain ⟨⟨hE8, hP8, hK8, -⟩, hz8, hn8⟩ := hB
      have hD9 := hD.sub (ws' := [(y0, .inr (3, [.ref x0, .int kd, .int wh, .int (nI cap), .int ru, .int (nI tb), .ref b0])), (x0, .inr (5, [.ref k0, .ref w0, .int (nI nz), .int ch])), (k0, .inl (ck, L, .inl f)), (w0, .inl (cw, L, .inl g)), (b0, .inl (cb, tb, .inl bf))]) [0, 1, 2, 3, 4] (by decide) rfl
      exact vx_out (fun x hx9 => (htab x hx9).elim) hlocks hce hcv hcl (fun t9 ht9 hal9 => ⟨(), trivial, ⟨⟨hE8, by rw [ht9, ← ht]; exact hP8, va_K.moved (hvm.symm.trans hal9) hK8, hD9⟩, by rw [ht9, ← ht]; exact hz8, by rw [ht9, ← ht]; exact hn8⟩, hS.F ht9⟩) hS.2.2 (by omega) (by omega)
    ·
      try dsimp only at hw
      have jr_4 := hw
      obtain ⟨hP1, hK1, hD1, hC1_⟩ := hB
      rw [ht] at hP1 hC1_
      have hK1 := va_K.moved hvm.symm hK1
      obtain ⟨hP, hD⟩ := va_join (wr := []) (w1 := [(y0, .inr (3, [.ref x0, .int kd, .int wh, .int (nI cap), .int ru, .int (nI (ur_4.1)), .ref ur_4.2.1])), (x0, .inr (5, [.ref ur_4.2.2.2.2.1, .ref ur_4.2.2.2.2.2.1, .int (nI (ur_4.2.2.2.2.2.2.2.2.2.2.2.1)), .int ur_4.2.2.2.2.2.2.2.2.2.2.2.2])), (ur_4.2.2.2.2.1, .inl (ur_4.2.2.2.2.2.2.1, ur_4.2.2.2.2.2.2.2.2.1, .inl ur_4.2.2.2.2.2.2.2.2.2.1)), (ur_4.2.2.2.2.2.1, .inl (ur_4.2.2.2.2.2.2.2.1, ur_4.2.2.2.2.2.2.2.2.1, .inl ur_4.2.2.2.2.2.2.2.2.2.2.1)), (ur_4.2.1, .inl (ur_4.2.2.1, ur_4.1, .inl ur_4.2.2.2.1))]) hP hD [0, 1, 2, 3, 4] [] rfl rfl (by decide) (by decide) hk1 hFc hP1 hD1
      have hK := hK.app hK1
      have hK : va_K (dC, dI) vwCl [(ck, .int), (cw, .int), (cb, .boolean), (ur_4.2.2.2.2.2.2.1, .int), (ur_4.2.2.2.2.2.2.2.1, .int), (ur_4.2.2.1, .boolean)] s := hK
      have hcs1_ : hT H1 + hPS tb L ≤ hT s.heap + hPS (ur_4.1) (ur_4.2.2.2.2.2.2.2.2.1) := hC1_.1
      have hcs2_ : H1.size + hPC tb L ≤ s.heap.size + hPC (ur_4.1) (ur_4.2.2.2.2.2.2.2.2.1) := hC1_.2
      clear hC1_
      clear hk1 hz1 ht hPc hDc hKc hFc
      generalize H1 = H at hP hS hcs1_ hcs2_ ⊢
      replace hP : va_P (dC, dI) vwCl [(y0, .inr (3, [.ref x0, .int kd, .int wh, .int (nI cap), .int ru, .int (nI (ur_4.1)), .ref ur_4.2.1])), (x0, .inr (5, [.ref ur_4.2.2.2.2.1, .ref ur_4.2.2.2.2.2.1, .int (nI (ur_4.2.2.2.2.2.2.2.2.2.2.2.1)), .int ur_4.2.2.2.2.2.2.2.2.2.2.2.2])), (ur_4.2.2.2.2.1, .inl (ur_4.2.2.2.2.2.2.1, ur_4.2.2.2.2.2.2.2.2.1, .inl ur_4.2.2.2.2.2.2.2.2.2.1)), (ur_4.2.2.2.2.2.1, .inl (ur_4.2.2.2.2.2.2.2.1, ur_4.2.2.2.2.2.2.2.2.1, .inl ur_4.2.2.2.2.2.2.2.2.2.2.1)), (ur_4.2.1, .inl (ur_4.2.2.1, ur_4.1, .inl ur_4.2.2.2.1))] H := hP
      replace hD : va_D A [(y0, .inr (3, [.ref x0, .int kd, .int wh, .int (nI cap), .int ru, .int (nI (ur_4.1)), .ref ur_4.2.1])), (x0, .inr (5, [.ref ur_4.2.2.2.2.1, .ref ur_4.2.2.2.2.2.1, .int (nI (ur_4.2.2.2.2.2.2.2.2.2.2.2.1)), .int ur_4.2.2.2.2.2.2.2.2.2.2.2.2])), (ur_4.2.2.2.2.1, .inl (ur_4.2.2.2.2.2.2.1, ur_4.2.2.2.2.2.2.2.2.1, .inl ur_4.2.2.2.2.2.2.2.2.2.1)), (ur_4.2.2.2.2.2.1, .inl (ur_4.2.2.2.2.2.2.2.1, ur_4.2.2.2.2.2.2.2.2.1, .inl ur_4.2.2.2.2.2.2.2.2.2.2.1)), (ur_4.2.1, .inl (ur_4.2.2.1, ur_4.1, .inl ur_4.2.2.2.1))] := hD
      refine W.widen (k := 9) (n := gs + ds + 6) (by omega) (by omega) ?_
      refine W.eq (g2 := F0 m 16 ls []) rfl ?_
      refine lv_ldc2 (v := 1099511627776) hx hb hown hw0_ dX3_put_16 ?_
      refine W.book (fun hz9_ hn9_ => ?_)
      have hpost : kpH tb L nz cap (ur_4.1) (ur_4.2.2.2.2.2.2.2.2.1) (ur_4.2.2.2.2.2.2.2.2.2.2.2.1) := Or.inr jr_4
      have hcost : hT H + hPS tb L ≤ hT s.heap + hPS (ur_4.1) (ur_4.2.2.2.2.2.2.2.2.1) ∧ H.size + hPC tb L ≤ s.heap.size + hPC (ur_4.1) (ur_4.2.2.2.2.2.2.2.2.1) := ⟨hcs1_, hcs2_⟩
      have hP9 := hP.sub (ws' := [(y0, .inr (3, [.ref x0, .int kd, .int wh, .int (nI cap), .int ru, .int (nI (ur_4.1)), .ref ur_4.2.1])), (x0, .inr (5, [.ref ur_4.2.2.2.2.1, .ref ur_4.2.2.2.2.2.1, .int (nI (ur_4.2.2.2.2.2.2.2.2.2.2.2.1)), .int ur_4.2.2.2.2.2.2.2.2.2.2.2.2])), (ur_4.2.2.2.2.1, .inl (ur_4.2.2.2.2.2.2.1, ur_4.2.2.2.2.2.2.2.2.1, .inl ur_4.2.2.2.2.2.2.2.2.2.1)), (ur_4.2.2.2.2.2.1, .inl (ur_4.2.2.2.2.2.2.2.1, ur_4.2.2.2.2.2.2.2.2.1, .inl ur_4.2.2.2.2.2.2.2.2.2.2.1)), (ur_4.2.1, .inl (ur_4.2.2.1, ur_4.1, .inl ur_4.2.2.2.1))]) [0, 1, 2, 3, 4] rfl
      have hD9 := hD.sub (ws' := [(y0, .inr (3, [.ref x0, .int kd, .int wh, .int (nI cap), .int ru, .int (nI (ur_4.1)), .ref ur_4.2.1])), (x0, .inr (5, [.ref ur_4.2.2.2.2.1, .ref ur_4.2.2.2.2.2.1, .int (nI (ur_4.2.2.2.2.2.2.2.2.2.2.2.1)), .int ur_4.2.2.2.2.2.2.2.2.2.2.2.2])), (ur_4.2.2.2.2.1, .inl (ur_4.2.2.2.2.2.2.1, ur_4.2.2.2.2.2.2.2.2.1, .inl ur_4.2.2.2.2.2.2.2.2.2.1)), (ur_4.2.2.2.2.2.1, .inl (ur_4.2.2.2.2.2.2.2.1, ur_4.2.2.2.2.2.2.2.2.1, .inl ur_4.2.2.2.2.2.2.2.2.2.2.1)), (ur_4.2.1, .inl (ur_4.2.2.1, ur_4.1, .inl ur_4.2.2.2.1))]) [0, 1, 2, 3, 4] (by decide) rfl
      have hK9 := hK.sub (tys' := [(ur_4.2.2.2.2.2.2.1, .int), (ur_4.2.2.2.2.2.2.2.1, .int), (ur_4.2.2.1, .boolean)]) [3, 4, 5] rfl
      refine W.widen (k := 9) (n := gs + ds + 6) (by omega) (by omega) ?_
      refine vx_ret ?_
      exact W.lret (v := 1099511627776) hx hb hr (fun t ht hW => ⟨⟨1099511627776, (ur_4.1, ur_4.2.1, ur_4.2.2.1, ur_4.2.2.2.1, ur_4.2.2.2.2.1, ur_4.2.2.2.2.2.1, ur_4.2.2.2.2.2.2.1, ur_4.2.2.2.2.2.2.2.1, ur_4.2.2.2.2.2.2.2.2.1, ur_4.2.2.2.2.2.2.2.2.2.1, ur_4.2.2.2.2.2.2.2.2.2.2.1, ur_4.2.2.2.2.2.2.2.2.2.2.2.1, ur_4.2.2.2.2.2.2.2.2.2.2.2.2), rfl, hpost, by rw [ht]; exact hP9, va_K.moved hW.alike hK9, hD9, by rw [ht]; exact hcost⟩, hS.F ht⟩) hS.2.2 dX3_put_19
set_option maxHeartbeats 4000000 in
set_option maxRecDepth 100000 in
/-- Keyed.putIfAbsent of H -/
theorem c_X3_putIfAbsent_H (l : Launch) (hlt : l.stackTraces = false) (dC : Nat → ClassId) (dI : Nat → Nat → Nat) (sz : Nat) (T0 : Nat) (y0 : Nat) (kd : Int32) (wh : Int32) (cap : Nat) (ru : Int32) (tb : Nat) (b0 : Nat) (cb : ClassId) (bf : Nat → Int32) (x0 : Nat) (k0 : Nat) (w0 : Nat) (ck : ClassId) (cw : ClassId) (L : Nat) (f : Nat → Int32) (g : Nat → Int32) (nz : Nat) (ch : Int32) (p0 : Int32) (p1 : Int32) (gs : Nat) (ds : Nat) (hH9 : hOK tb L nz cap) (hG9 : nz < L ∨ 4 * L ≤ gs) (hD9 : tb = 0 → 1029 + 2 * L ≤ ds) (hD8 : ¬ tb = 0 → (tb < 64 ∧ 8 ≤ nz) ∨ tb * 3 < (nz + 1) * 4 → nz < L → 4 * tb + (nz + 1) + 2 * L ≤ ds) (hD7 : ¬ tb = 0 → (tb < 64 ∧ 8 ≤ nz) ∨ tb * 3 < (nz + 1) * 4 → ¬ nz < L → 4 * tb + (nz + 1) + 4 * L ≤ ds) : vx_Met l yX3_putIfAbsent wsX3_putIfAbsent ({ frames := 7, cells := 9, slots := gs + ds + 6, locals := 290 }) (va_Pc [.ref y0, .int p0, .int p1] (pk_PreXT (dC, dI) [(y0, .inr (3, [.ref x0, .int kd, .int wh, .int (nI cap), .int ru, .int (nI tb), .ref b0])), (x0, .inr (5, [.ref k0, .ref w0, .int (nI nz), .int ch])), (k0, .inl (ck, L, .inl f)), (w0, .inl (cw, L, .inl g)), (b0, .inl (cb, tb, .inl bf))] [(ck, .int), (cw, .int), (cb, .boolean)] sz T0)) (va_Ql (fun (x : Int64) (u : Nat × Nat × ClassId × (Nat → Int32) × Nat × Nat × ClassId × ClassId × Nat × (Nat → Int32) × (Nat → Int32) × Nat × Int32) => kpH tb L nz cap (u.1) (u.2.2.2.2.2.2.2.2.1) (u.2.2.2.2.2.2.2.2.2.2.2.1)) (fun (u : Nat × Nat × ClassId × (Nat → Int32) × Nat × Nat × ClassId × ClassId × Nat × (Nat → Int32) × (Nat → Int32) × Nat × Int32) (t : State) => va_P (dC, dI) vwCl [(y0, .inr (3, [.ref x0, .int kd, .int wh, .int (nI cap), .int ru, .int (nI (u.1)), .ref u.2.1])), (x0, .inr (5, [.ref u.2.2.2.2.1, .ref u.2.2.2.2.2.1, .int (nI (u.2.2.2.2.2.2.2.2.2.2.2.1)), .int u.2.2.2.2.2.2.2.2.2.2.2.2])), (u.2.2.2.2.1, .inl (u.2.2.2.2.2.2.1, u.2.2.2.2.2.2.2.2.1, .inl u.2.2.2.2.2.2.2.2.2.1)), (u.2.2.2.2.2.1, .inl (u.2.2.2.2.2.2.2.1, u.2.2.2.2.2.2.2.2.1, .inl u.2.2.2.2.2.2.2.2.2.2.1)), (u.2.1, .inl (u.2.2.1, u.1, .inl u.2.2.2.1))] t.heap ∧ va_K (dC, dI) vwCl [(u.2.2.2.2.2.2.1, .int), (u.2.2.2.2.2.2.2.1, .int), (u.2.2.1, .boolean)] t ∧ va_D (va_A [(y0, .inr (3, [.ref x0, .int kd, .int wh, .int (nI cap), .int ru, .int (nI tb), .ref b0])), (x0, .inr (5, [.ref k0, .ref w0, .int (nI nz), .int ch])), (k0, .inl (ck, L, .inl f)), (w0, .inl (cw, L, .inl g)), (b0, .inl (cb, tb, .inl bf))] sz) [(y0, .inr (3, [.ref x0, .int kd, .int wh, .int (nI cap), .int ru, .int (nI (u.1)), .ref u.2.1])), (x0, .inr (5, [.ref u.2.2.2.2.1, .ref u.2.2.2.2.2.1, .int (nI (u.2.2.2.2.2.2.2.2.2.2.2.1)), .int u.2.2.2.2.2.2.2.2.2.2.2.2])), (u.2.2.2.2.1, .inl (u.2.2.2.2.2.2.1, u.2.2.2.2.2.2.2.2.1, .inl u.2.2.2.2.2.2.2.2.2.1)), (u.2.2.2.2.2.1, .inl (u.2.2.2.2.2.2.2.1, u.2.2.2.2.2.2.2.2.1, .inl u.2.2.2.2.2.2.2.2.2.2.1)), (u.2.1, .inl (u.2.2.1, u.1, .inl u.2.2.2.1))] ∧ hT t.heap + hPS tb L ≤ T0 + hPS (u.1) (u.2.2.2.2.2.2.2.2.1) ∧ t.heap.size + hPC tb L ≤ sz + hPC (u.1) (u.2.2.2.2.2.2.2.2.1)) (va_A [(y0, .inr (3, [.ref x0, .int kd, .int wh, .int (nI cap), .int ru, .int (nI tb), .ref b0])), (x0, .inr (5, [.ref k0, .ref w0, .int (nI nz), .int ch])), (k0, .inl (ck, L, .inl f)), (w0, .inl (cw, L, .inl g)), (b0, .inl (cb, tb, .inl bf))] sz)) (vx_X (fun _ : Unit => True) (fun (E : String) (_ : Unit) (t : State) => ((E = "java/lang/IllegalArgumentException" ∨ E = "java/lang/IllegalStateException") ∧ va_P (dC, dI) vwCl [(y0, .inr (3, [.ref x0, .int kd, .int wh, .int (nI cap), .int ru, .int (nI tb), .ref b0])), (x0, .inr (5, [.ref k0, .ref w0, .int (nI nz), .int ch])), (k0, .inl (ck, L, .inl f)), (w0, .inl (cw, L, .inl g)), (b0, .inl (cb, tb, .inl bf))] t.heap ∧ va_K (dC, dI) vwCl [(ck, .int), (cw, .int), (cb, .boolean)] t ∧ va_D (va_A [(y0, .inr (3, [.ref x0, .int kd, .int wh, .int (nI cap), .int ru, .int (nI tb), .ref b0])), (x0, .inr (5, [.ref k0, .ref w0, .int (nI nz), .int ch])), (k0, .inl (ck, L, .inl f)), (w0, .inl (cw, L, .inl g)), (b0, .inl (cb, tb, .inl bf))] sz) [(y0, .inr (3, [.ref x0, .int kd, .int wh, .int (nI cap), .int ru, .int (nI tb), .ref b0])), (x0, .inr (5, [.ref k0, .ref w0, .int (nI nz), .int ch])), (k0, .inl (ck, L, .inl f)), (w0, .inl (cw, L, .inl g)), (b0, .inl (cb, tb, .inl bf))]) ∧ t.heap.size ≤ sz + 1 ∧ hT t.heap ≤ T0 + 6) (va_A [(y0, .inr (3, [.ref x0, .int kd, .int wh, .int (nI cap), .int ru, .int (nI tb), .ref b0])), (x0, .inr (5, [.ref k0, .ref w0, .int (nI nz), .int ch])), (k0, .inl (ck, L, .inl f)), (w0, .inl (cw, L, .inl g)), (b0, .inl (cb, tb, .inl bf))] sz)) 9 (gs + ds + 6) (va_A [(y0, .inr (3, [.ref x0, .int kd, .int wh, .int (nI cap), .int ru, .int (nI tb), .ref b0])), (x0, .inr (5, [.ref k0, .ref w0, .int (nI nz), .int ch])), (k0, .inl (ck, L, .inl f)), (w0, .inl (cw, L, .inl g)), (b0, .inl (cb, tb, .inl bf))] sz) := by
  refine vx_ofW (cc := cX3_putIfAbsent) (maxL := 4) (ret := (some .long)) (by decide) rfl ?_
  intro p e s m args below meth c s₁ B hml htab hv
  obtain ⟨rfl, ⟨hsz, hP, hK, hD0, hN, hZ⟩, hT0⟩ := hv
  have hx := B.exec
  have hb := B.bytes
  have hr := B.returns
  have hts := atoms_spec (ws := wsX3_putIfAbsent) B.pre
  have hown : s.vm.findClass RX3 = some m.cls := findClass_of_methodNamed B.named
  have hlocks := B.notSynchronized
  subst hsz
  subst hT0
  have hD := hD0.self (sz := s.heap.size)
  generalize hAe : va_A [(y0, .inr (3, [.ref x0, .int kd, .int wh, .int (nI cap), .int ru, .int (nI tb), .ref b0])), (x0, .inr (5, [.ref k0, .ref w0, .int (nI nz), .int ch])), (k0, .inl (ck, L, .inl f)), (w0, .inl (cw, L, .inl g)), (b0, .inl (cb, tb, .inl bf))] s.heap.size = A at hZ hD ⊢
  have hA : ∀ q : Nat, s.heap.size ≤ q → A q := fun q h => by rw [← hAe]; exact Or.inr h
  have hS : va_S A s.heap s.heap [] := va_S.rf
  have hP : va_P (dC, dI) vwCl [(y0, .inr (3, [.ref x0, .int kd, .int wh, .int (nI cap), .int ru, .int (nI tb), .ref b0])), (x0, .inr (5, [.ref k0, .ref w0, .int (nI nz), .int ch])), (k0, .inl (ck, L, .inl f)), (w0, .inl (cw, L, .inl g)), (b0, .inl (cb, tb, .inl bf))] s.heap := hP
  have hl := lv_entry ([.ref y0, .int p0, .int p1]) (n := 4) (Nat.le_of_ble_eq_true rfl)
  rw [lg_entry_eq]
  generalize (lg_sl ([.ref y0, .int p0, .int p1]) ++ List.replicate (4 - (lg_sl ([.ref y0, .int p0, .int p1])).length) Slot.unset).toArray = ls at hl ⊢
  have hl : lv_has ls 4 [(0, .ref y0), (1, .int p0), (2, .int p1)] := hl
  have hw0_ := hts (.fieldLink RX3 9 "KeyAtlas$Keyed" "rows" "LKeyAtlas$Rows;") (List.mem_of_getElem? (l := wsX3_putIfAbsent) (i := 2) rfl)
  have hw1_ := hts (.constantLong RX3 53 (1099511627776)) (List.mem_of_getElem? (l := wsX3_putIfAbsent) (i := 1) rfl)
  have hi0_ : ∀ w ∈ u_ws RX2 TX2 7, w ∈ wsX3_putIfAbsent := fun w h => List.mem_cons_of_mem _ (List.mem_append_left _ (List.mem_append_left _ (List.mem_append_left _ (List.mem_append_left _ (List.mem_append_left _ (List.mem_append_right _ h))))))
  have hR9 : rOK L nz := hH9.1
  have htb := hOK_tb hH9
  obtain ⟨hL1, hL2, hz1, hz2⟩ := id hR9
  refine lv_aload_n hx hb dX3_putIfAbsent_0 rfl (lv_at hl 0 rfl) ?_
  refine lv_iload_n hx hb dX3_putIfAbsent_1 rfl (lv_at hl 1 rfl) ?_
  have hPc := hP.sub (ws' := [(y0, .inr (3, [.ref x0, .int kd, .int wh, .int (nI cap), .int ru, .int (nI tb), .ref b0])), (x0, .inr (5, [.ref k0, .ref w0, .int (nI nz), .int ch])), (k0, .inl (ck, L, .inl f)), (w0, .inl (cw, L, .inl g)), (b0, .inl (cb, tb, .inl bf))]) [0, 1, 2, 3, 4] rfl
  have hKc := hK.sub (tys' := [(ck, .int), (cw, .int), (cb, .boolean)]) [0, 1, 2] rfl
  refine ro_calli (va_runU (As := [.int p0]) (rest := []) ⟨hx, hb, hml, hown, hts⟩ (c_X2_find l  dC dI s.heap.size y0 kd wh cap ru tb b0 cb bf x0 k0 w0 ck cw L f g nz ch p0 hR9 htb) (va_cwA 1 hts gX3_putIfAbsent_X2_find_u46X2 rfl rfl rfl (hN.xw _ (List.mem_of_getElem? (l := p_xw) (i := 0) rfl)) (by decide +kernel) ⟨(Nat.le_of_ble_eq_true rfl), (Nat.le_of_ble_eq_true rfl)⟩) ⟨pk_blindR, va_recv hKc hPc (ci := 3) (q0 := 0) rfl rfl, pk_callR hPc hKc⟩ rfl rfl hl.1 rfl (lv_room (Nat.le_of_ble_eq_true rfl)) dX3_putIfAbsent_2 ⟨(Nat.le_of_ble_eq_true rfl), (show 0 + 0 ≤ gs + ds + 6 by omega)⟩) (fun r_1 ur_1 hw => ?_)
  clear hPc hKc
  try dsimp only at hw
  have jr_1 := hw
  refine W.eq (g2 := F0 m 5 ls [.int r_1]) rfl ?_
  refine lv_istore_n (lv' := [(3, .int r_1), (0, .ref y0), (1, .int p0), (2, .int p1)]) hx hb dX3_putIfAbsent_5 rfl hl (by decide) rfl (fun ls hl => ?_)
  refine lv_iload_n hx hb dX3_putIfAbsent_6 rfl (lv_at hl 0 rfl) ?_
  refine lv_if_ge (tgt := 20) hx hb dX3_putIfAbsent_7 (by decide) (fun c_2 => ?_) (fun c_2 => ?_)
  ·
    have ic_2 : 0 ≤ r_1.toInt := tx_le (by decide) rfl c_2
    refine lv_aload_n hx hb dX3_putIfAbsent_20 rfl (lv_at hl 1 rfl) ?_
    refine lv_iload_n hx hb dX3_putIfAbsent_21 rfl (lv_at hl 0 rfl) ?_
    refine lv_aload_n hx hb dX3_putIfAbsent_22 rfl (lv_at hl 1 rfl) ?_
    refine va_get (D := (dC, dI)) (ci := 3) (v := .ref x0) (C := RX2) (T := TX2) (N := 7) hx hb hts hi0_ hown hK hP 0 rfl rfl 0 (by decide) hw0_ (fun _ h9 => h9) rfl dX3_putIfAbsent_23 ?_
    refine lv_iload_n hx hb dX3_putIfAbsent_26 rfl (lv_at hl 0 rfl) ?_
    have hPc := hP.sub (ws' := [(x0, .inr (5, [.ref k0, .ref w0, .int (nI nz), .int ch])), (k0, .inl (ck, L, .inl f)), (w0, .inl (cw, L, .inl g))]) [1, 2, 3] rfl
    have hKc := hK.sub (tys' := [(ck, .int), (cw, .int)]) [0, 1] rfl
    refine ro_calli (va_runV (As := [.int r_1]) (rest := [.int r_1, .ref y0]) ⟨hx, hb, hml, hown, hts⟩ (c_X5_value l  dC dI s.heap.size x0 k0 w0 ck cw L f g nz ch r_1 hR9) (cwV 1 hts gX3_putIfAbsent_X5_value rfl rfl rfl (by decide +kernel) ⟨(Nat.le_of_ble_eq_true rfl), (Nat.le_of_ble_eq_true rfl)⟩) ⟨pk_blindR, va_recv hKc hPc (ci := 5) (q0 := 0) rfl rfl, pk_callR hPc hKc⟩ rfl rfl hl.1 rfl (lv_room (Nat.le_of_ble_eq_true rfl)) dX3_putIfAbsent_27 ⟨(Nat.le_of_ble_eq_true rfl), (show 0 + 0 ≤ gs + ds + 6 by omega)⟩) (fun r_3 ur_3 hw => ?_)
    clear hPc hKc
    try dsimp only at hw
    have jr_3 := hw
    refine W.eq (g2 := F0 m 30 ls [.int r_3, .int r_1, .ref y0]) rfl ?_
    have hPc := hP.sub (ws' := [(y0, .inr (3, [.ref x0, .int kd, .int wh, .int (nI cap), .int ru, .int (nI tb), .ref b0])), (x0, .inr (5, [.ref k0, .ref w0, .int (nI nz), .int ch])), (k0, .inl (ck, L, .inl f)), (w0, .inl (cw, L, .inl g)), (b0, .inl (cb, tb, .inl bf))]) [0, 1, 2, 3, 4] rfl
    have hDc := hD.sub (ws' := [(y0, .inr (3, [.ref x0, .int kd, .int wh, .int (nI cap), .int ru, .int (nI tb), .ref b0])), (x0, .inr (5, [.ref k0, .ref w0, .int (nI nz), .int ch])), (k0, .inl (ck, L, .inl f)), (w0, .inl (cw, L, .inl g)), (b0, .inl (cb, tb, .inl bf))]) [0, 1, 2, 3, 4] (by decide) rfl
    have hKc := hK.sub (tys' := [(ck, .int), (cw, .int), (cb, .boolean)]) [0, 1, 2] rfl
    have hFc := va_free (wc := [(y0, .inr (3, [.ref x0, .int kd, .int wh, .int (nI cap), .int ru, .int (nI tb), .ref b0])), (x0, .inr (5, [.ref k0, .ref w0, .int (nI nz), .int ch])), (k0, .inl (ck, L, .inl f)), (w0, .inl (cw, L, .inl g)), (b0, .inl (cb, tb, .inl bf))]) hD hS hA [0, 1, 2, 3, 4] rfl
    have hZc := (hZ.kept hS.2.1).narrow hFc
    refine va_calll (va_runU (As := [.int r_1, .int r_3]) (rest := []) ⟨hx, hb, hml, hown, hts⟩ (c_X3_replace_H l hlt dC dI s.heap.size y0 kd wh cap ru tb b0 cb bf x0 k0 w0 ck cw L f g nz ch r_1 r_3 hH9) (va_cwU 2 hts gX3_putIfAbsent_X3_replace_u55X2 rfl rfl rfl rfl (by decide +kernel) ⟨(Nat.le_of_ble_eq_true rfl), (Nat.le_of_ble_eq_true rfl)⟩) ⟨pk_blindX, va_recv hKc hPc (ci := 3) (q0 := 0) rfl rfl, pk_callX hPc hKc hDc hN hZc⟩ rfl rfl hl.1 rfl (lv_room (Nat.le_of_ble_eq_true rfl)) dX3_putIfAbsent_30 ⟨(Nat.le_of_ble_eq_true rfl), (show 0 + 0 ≤ gs + ds + 6 by omega)⟩) hS (fun q _ h => hFc q h) hFc (fun r_4 ur_4 t H1 locs ht hvm hw hB hz1 hk1 hS => ?_)
    try dsimp only at hw
    have jr_4 := hw
    obtain ⟨hP1, hK1, hD1⟩ := hB
    rw [ht] at hP1
    have hK1 := va_K.moved hvm.symm hK1
    obtain ⟨hP, hD⟩ := va_join (wr := []) (w1 := [(y0, .inr (3, [.ref x0, .int kd, .int wh, .int (nI cap), .int ru, .int (nI tb), .ref b0])), (x0, .inr (5, [.ref k0, .ref w0, .int (nI nz), .int ur_4.2.2])), (k0, .inl (ck, L, .inl ur_4.1)), (w0, .inl (cw, L, .inl ur_4.2.1)), (b0, .inl (cb, tb, .inl bf))]) hP hD [0, 1, 2, 3, 4] [] rfl rfl (by decide) (by decide) hk1 hFc hP1 hD1
    clear hk1 hz1 ht hPc hDc hKc hFc
    generalize H1 = H at hP hS ⊢
    replace hP : va_P (dC, dI) vwCl [(y0, .inr (3, [.ref x0, .int kd, .int wh, .int (nI cap), .int ru, .int (nI tb), .ref b0])), (x0, .inr (5, [.ref k0, .ref w0, .int (nI nz), .int ur_4.2.2])), (k0, .inl (ck, L, .inl ur_4.1)), (w0, .inl (cw, L, .inl ur_4.2.1)), (b0, .inl (cb, tb, .inl bf))] H := hP
    replace hD : va_D A [(y0, .inr (3, [.ref x0, .int kd, .int wh, .int (nI cap), .int ru, .int (nI tb), .ref b0])), (x0, .inr (5, [.ref k0, .ref w0, .int (nI nz), .int ur_4.2.2])), (k0, .inl (ck, L, .inl ur_4.1)), (w0, .inl (cw, L, .inl ur_4.2.1)), (b0, .inl (cb, tb, .inl bf))] := hD
    refine W.widen (k := 0) (n := 0) (Nat.le_of_ble_eq_true rfl) (Nat.le_of_ble_eq_true rfl) ?_
    refine W.eq (g2 := F0 m 33 ls [.long r_4]) rfl ?_
    refine W.book (fun hz9_ hn9_ => ?_)
    have hpost : kpH tb L nz cap (tb) (L) (nz) := Or.inl ⟨rfl, rfl, by omega⟩
    have hcost : hT H + hPS tb L ≤ hT s.heap + hPS (tb) (L) ∧ H.size + hPC tb L ≤ s.heap.size + hPC (tb) (L) := by constructor <;> omega
    have hP9 := hP.sub (ws' := [(y0, .inr (3, [.ref x0, .int kd, .int wh, .int (nI cap), .int ru, .int (nI tb), .ref b0])), (x0, .inr (5, [.ref k0, .ref w0, .int (nI nz), .int ur_4.2.2])), (k0, .inl (ck, L, .inl ur_4.1)), (w0, .inl (cw, L, .inl ur_4.2.1)), (b0, .inl (cb, tb, .inl bf))]) [0, 1, 2, 3, 4] rfl
    have hD9 := hD.sub (ws' := [(y0, .inr (3, [.ref x0, .int kd, .int wh, .int (nI cap), .int ru, .int (nI tb), .ref b0])), (x0, .inr (5, [.ref k0, .ref w0, .int (nI nz), .int ur_4.2.2])), (k0, .inl (ck, L, .inl ur_4.1)), (w0, .inl (cw, L, .inl ur_4.2.1)), (b0, .inl (cb, tb, .inl bf))]) [0, 1, 2, 3, 4] (by decide) rfl
    have hK9 := hK.sub (tys' := [(ck, .int), (cw, .int), (cb, .boolean)]) [0, 1, 2] rfl
    refine W.widen (k := 9) (n := gs + ds + 6) (by omega) (by omega) ?_
    refine vx_ret ?_
    exact W.lret (v := r_4) hx hb hr (fun t ht hW => ⟨⟨r_4, (tb, b0, cb, bf, k0, w0, ck, cw, L, ur_4.1, ur_4.2.1, nz, ur_4.2.2), rfl, hpost, by rw [ht]; exact hP9, va_K.moved hW.alike hK9, hD9, by rw [ht]; exact hcost⟩, hS.F ht⟩) hS.2.2 dX3_putIfAbsent_33
  ·
    have ic_2 : r_1.toInt < 0 := tx_nle (by decide) rfl c_2
    refine lv_aload_n hx hb dX3_putIfAbsent_10 rfl (lv_at hl 1 rfl) ?_
    refine lv_iload_n hx hb dX3_putIfAbsent_11 rfl (lv_at hl 2 rfl) ?_
    refine lv_iload_n hx hb dX3_putIfAbsent_12 rfl (lv_at hl 3 rfl) ?_
    have hPc := hP.sub (ws' := [(y0, .inr (3, [.ref x0, .int kd, .int wh, .int (nI cap), .int ru, .int (nI tb), .ref b0])), (x0, .inr (5, [.ref k0, .ref w0, .int (nI nz), .int ch])), (k0, .inl (ck, L, .inl f)), (w0, .inl (cw, L, .inl g)), (b0, .inl (cb, tb, .inl bf))]) [0, 1, 2, 3, 4] rfl
    have hDc := hD.sub (ws' := [(y0, .inr (3, [.ref x0, .int kd, .int wh, .int (nI cap), .int ru, .int (nI tb), .ref b0])), (x0, .inr (5, [.ref k0, .ref w0, .int (nI nz), .int ch])), (k0, .inl (ck, L, .inl f)), (w0, .inl (cw, L, .inl g)), (b0, .inl (cb, tb, .inl bf))]) [0, 1, 2, 3, 4] (by decide) rfl
    have hKc := hK.sub (tys' := [(ck, .int), (cw, .int), (cb, .boolean)]) [0, 1, 2] rfl
    have hFc := va_free (wc := [(y0, .inr (3, [.ref x0, .int kd, .int wh, .int (nI cap), .int ru, .int (nI tb), .ref b0])), (x0, .inr (5, [.ref k0, .ref w0, .int (nI nz), .int ch])), (k0, .inl (ck, L, .inl f)), (w0, .inl (cw, L, .inl g)), (b0, .inl (cb, tb, .inl bf))]) hD hS hA [0, 1, 2, 3, 4] rfl
    have hZc := (hZ.kept hS.2.1).narrow hFc
    refine vx_callv (vx_runU (As := [.int p0, .int p1]) (rest := []) ⟨hx, hb, hml, hown, hts⟩ (c_X3_come_H l hlt dC dI s.heap.size (hT s.heap) y0 kd wh cap ru tb b0 cb bf x0 k0 w0 ck cw L f g nz ch p0 p1 gs ds hH9 hG9 hD9 hD8 hD7) (va_cwU 2 hts gX3_putIfAbsent_X3_come_u50X2 rfl rfl rfl rfl (by decide +kernel) ⟨(Nat.le_of_ble_eq_true rfl), (Nat.le_of_ble_eq_true rfl)⟩) ⟨pk_blindXT, va_recv hKc hPc (ci := 3) (q0 := 0) rfl rfl, pk_callXT hPc hKc hDc hN hZc⟩ rfl rfl hl.1 rfl (lv_room (Nat.le_of_ble_eq_true rfl)) dX3_putIfAbsent_13 ⟨(Nat.le_of_ble_eq_true rfl), (show 0 + (gs + ds + 6) ≤ gs + ds + 6 by omega)⟩) hS (fun q _ h => hFc q h) hFc (fun q _ h => hFc q h) (fun E ce q9 u9 t H1 locs ht hvm hw hB hz1 hk1 hS hce hcv hcl => ?_) (fun ur_5 t H1 locs ht hvm hw hB hz1 hk1 hS => ?_)
    ·
      try dsimp only at hB
      obtain ⟨⟨hE8, hP8, hK8, -⟩, hz8, hn8⟩ := hB
      have hD9 := hD.sub (ws' := [(y0, .inr (3, [.ref x0, .int kd, .int wh, .int (nI cap), .int ru, .int (nI tb), .ref b0])), (x0, .inr (5, [.ref k0, .ref w0, .int (nI nz), .int ch])), (k0, .inl (ck, L, .inl f)), (w0, .inl (cw, L, .inl g)), (b0, .inl (cb, tb, .inl bf))]) [0, 1, 2, 3, 4] (by decide) rfl
      exact vx_out (fun x hx9 => (htab x hx9).elim) hlocks hce hcv hcl (fun t9 ht9 hal9 => ⟨(), trivial, ⟨⟨hE8, by rw [ht9, ← ht]; exact hP8, va_K.moved (hvm.symm.trans hal9) hK8, hD9⟩, by rw [ht9, ← ht]; exact hz8, by rw [ht9, ← ht]; exact hn8⟩, hS.F ht9⟩) hS.2.2 (by omega) (by omega)
    ·
      try dsimp only at hw
      have jr_5 := hw
      obtain ⟨hP1, hK1, hD1, hC1_⟩ := hB
      rw [ht] at hP1 hC1_
      have hK1 := va_K.moved hvm.symm hK1
      obtain ⟨hP, hD⟩ := va_join (wr := []) (w1 := [(y0, .inr (3, [.ref x0, .int kd, .int wh, .int (nI cap), .int ru, .int (nI (ur_5.1)), .ref ur_5.2.1])), (x0, .inr (5, [.ref ur_5.2.2.2.2.1, .ref ur_5.2.2.2.2.2.1, .int (nI (ur_5.2.2.2.2.2.2.2.2.2.2.2.1)), .int ur_5.2.2.2.2.2.2.2.2.2.2.2.2])), (ur_5.2.2.2.2.1, .inl (ur_5.2.2.2.2.2.2.1, ur_5.2.2.2.2.2.2.2.2.1, .inl ur_5.2.2.2.2.2.2.2.2.2.1)), (ur_5.2.2.2.2.2.1, .inl (ur_5.2.2.2.2.2.2.2.1, ur_5.2.2.2.2.2.2.2.2.1, .inl ur_5.2.2.2.2.2.2.2.2.2.2.1)), (ur_5.2.1, .inl (ur_5.2.2.1, ur_5.1, .inl ur_5.2.2.2.1))]) hP hD [0, 1, 2, 3, 4] [] rfl rfl (by decide) (by decide) hk1 hFc hP1 hD1
      have hK := hK.app hK1
      have hK : va_K (dC, dI) vwCl [(ck, .int), (cw, .int), (cb, .boolean), (ur_5.2.2.2.2.2.2.1, .int), (ur_5.2.2.2.2.2.2.2.1, .int), (ur_5.2.2.1, .boolean)] s := hK
      have hcs1_ : hT H1 + hPS tb L ≤ hT s.heap + hPS (ur_5.1) (ur_5.2.2.2.2.2.2.2.2.1) := hC1_.1
      have hcs2_ : H1.size + hPC tb L ≤ s.heap.size + hPC (ur_5.1) (ur_5.2.2.2.2.2.2.2.2.1) := hC1_.2
      clear hC1_
      clear hk1 hz1 ht hPc hDc hKc hFc
      generalize H1 = H at hP hS hcs1_ hcs2_ ⊢
      replace hP : va_P (dC, dI) vwCl [(y0, .inr (3, [.ref x0, .int kd, .int wh, .int (nI cap), .int ru, .int (nI (ur_5.1)), .ref ur_5.2.1])), (x0, .inr (5, [.ref ur_5.2.2.2.2.1, .ref ur_5.2.2.2.2.2.1, .int (nI (ur_5.2.2.2.2.2.2.2.2.2.2.2.1)), .int ur_5.2.2.2.2.2.2.2.2.2.2.2.2])), (ur_5.2.2.2.2.1, .inl (ur_5.2.2.2.2.2.2.1, ur_5.2.2.2.2.2.2.2.2.1, .inl ur_5.2.2.2.2.2.2.2.2.2.1)), (ur_5.2.2.2.2.2.1, .inl (ur_5.2.2.2.2.2.2.2.1, ur_5.2.2.2.2.2.2.2.2.1, .inl ur_5.2.2.2.2.2.2.2.2.2.2.1)), (ur_5.2.1, .inl (ur_5.2.2.1, ur_5.1, .inl ur_5.2.2.2.1))] H := hP
      replace hD : va_D A [(y0, .inr (3, [.ref x0, .int kd, .int wh, .int (nI cap), .int ru, .int (nI (ur_5.1)), .ref ur_5.2.1])), (x0, .inr (5, [.ref ur_5.2.2.2.2.1, .ref ur_5.2.2.2.2.2.1, .int (nI (ur_5.2.2.2.2.2.2.2.2.2.2.2.1)), .int ur_5.2.2.2.2.2.2.2.2.2.2.2.2])), (ur_5.2.2.2.2.1, .inl (ur_5.2.2.2.2.2.2.1, ur_5.2.2.2.2.2.2.2.2.1, .inl ur_5.2.2.2.2.2.2.2.2.2.1)), (ur_5.2.2.2.2.2.1, .inl (ur_5.2.2.2.2.2.2.2.1, ur_5.2.2.2.2.2.2.2.2.1, .inl ur_5.2.2.2.2.2.2.2.2.2.2.1)), (ur_5.2.1, .inl (ur_5.2.2.1, ur_5.1, .inl ur_5.2.2.2.1))] := hD
      refine W.widen (k := 9) (n := gs + ds + 6) (by omega) (by omega) ?_
      refine W.eq (g2 := F0 m 16 ls []) rfl ?_
      refine lv_ldc2 (v := 1099511627776) hx hb hown hw1_ dX3_putIfAbsent_16 ?_
      refine W.book (fun hz9_ hn9_ => ?_)
      have hpost : kpH tb L nz cap (ur_5.1) (ur_5.2.2.2.2.2.2.2.2.1) (ur_5.2.2.2.2.2.2.2.2.2.2.2.1) := Or.inr jr_5
      have hcost : hT H + hPS tb L ≤ hT s.heap + hPS (ur_5.1) (ur_5.2.2.2.2.2.2.2.2.1) ∧ H.size + hPC tb L ≤ s.heap.size + hPC (ur_5.1) (ur_5.2.2.2.2.2.2.2.2.1) := ⟨hcs1_, hcs2_⟩
      have hP9 := hP.sub (ws' := [(y0, .inr (3, [.ref x0, .int kd, .int wh, .int (nI cap), .int ru, .int (nI (ur_5.1)), .ref ur_5.2.1])), (x0, .inr (5, [.ref ur_5.2.2.2.2.1, .ref ur_5.2.2.2.2.2.1, .int (nI (ur_5.2.2.2.2.2.2.2.2.2.2.2.1)), .int ur_5.2.2.2.2.2.2.2.2.2.2.2.2])), (ur_5.2.2.2.2.1, .inl (ur_5.2.2.2.2.2.2.1, ur_5.2.2.2.2.2.2.2.2.1, .inl ur_5.2.2.2.2.2.2.2.2.2.1)), (ur_5.2.2.2.2.2.1, .inl (ur_5.2.2.2.2.2.2.2.1, ur_5.2.2.2.2.2.2.2.2.1, .inl ur_5.2.2.2.2.2.2.2.2.2.2.1)), (ur_5.2.1, .inl (ur_5.2.2.1, ur_5.1, .inl ur_5.2.2.2.1))]) [0, 1, 2, 3, 4] rfl
      have hD9 := hD.sub (ws' := [(y0, .inr (3, [.ref x0, .int kd, .int wh, .int (nI cap), .int ru, .int (nI (ur_5.1)), .ref ur_5.2.1])), (x0, .inr (5, [.ref ur_5.2.2.2.2.1, .ref ur_5.2.2.2.2.2.1, .int (nI (ur_5.2.2.2.2.2.2.2.2.2.2.2.1)), .int ur_5.2.2.2.2.2.2.2.2.2.2.2.2])), (ur_5.2.2.2.2.1, .inl (ur_5.2.2.2.2.2.2.1, ur_5.2.2.2.2.2.2.2.2.1, .inl ur_5.2.2.2.2.2.2.2.2.2.1)), (ur_5.2.2.2.2.2.1, .inl (ur_5.2.2.2.2.2.2.2.1, ur_5.2.2.2.2.2.2.2.2.1, .inl ur_5.2.2.2.2.2.2.2.2.2.2.1)), (ur_5.2.1, .inl (ur_5.2.2.1, ur_5.1, .inl ur_5.2.2.2.1))]) [0, 1, 2, 3, 4] (by decide) rfl
      have hK9 := hK.sub (tys' := [(ur_5.2.2.2.2.2.2.1, .int), (ur_5.2.2.2.2.2.2.2.1, .int), (ur_5.2.2.1, .boolean)]) [3, 4, 5] rfl
      refine W.widen (k := 9) (n := gs + ds + 6) (by omega) (by omega) ?_
      refine vx_ret ?_
      exact W.lret (v := 1099511627776) hx hb hr (fun t ht hW => ⟨⟨1099511627776, (ur_5.1, ur_5.2.1, ur_5.2.2.1, ur_5.2.2.2.1, ur_5.2.2.2.2.1, ur_5.2.2.2.2.2.1, ur_5.2.2.2.2.2.2.1, ur_5.2.2.2.2.2.2.2.1, ur_5.2.2.2.2.2.2.2.2.1, ur_5.2.2.2.2.2.2.2.2.2.1, ur_5.2.2.2.2.2.2.2.2.2.2.1, ur_5.2.2.2.2.2.2.2.2.2.2.2.1, ur_5.2.2.2.2.2.2.2.2.2.2.2.2), rfl, hpost, by rw [ht]; exact hP9, va_K.moved hW.alike hK9, hD9, by rw [ht]; exact hcost⟩, hS.F ht⟩) hS.2.2 dX3_putIfAbsent_19
set_option maxHeartbeats 4000000 in
set_option maxRecDepth 100000 in
/-- Keyed.putMore of H -/
theorem c_X3_putMore_H (l : Launch) (hlt : l.stackTraces = false) (dC : Nat → ClassId) (dI : Nat → Nat → Nat) (sz : Nat) (T0 : Nat) (y0 : Nat) (kd : Int32) (wh : Int32) (cap : Nat) (ru : Int32) (tb : Nat) (b0 : Nat) (cb : ClassId) (bf : Nat → Int32) (x0 : Nat) (k0 : Nat) (w0 : Nat) (ck : ClassId) (cw : ClassId) (L : Nat) (f : Nat → Int32) (g : Nat → Int32) (nz : Nat) (ch : Int32) (p0 : Int32) (p1 : Int32) (gs : Nat) (ds : Nat) (hH9 : hOK tb L nz cap) (hG9 : nz < L ∨ 4 * L ≤ gs) (hD9 : tb = 0 → 1029 + 2 * L ≤ ds) (hD8 : ¬ tb = 0 → (tb < 64 ∧ 8 ≤ nz) ∨ tb * 3 < (nz + 1) * 4 → nz < L → 4 * tb + (nz + 1) + 2 * L ≤ ds) (hD7 : ¬ tb = 0 → (tb < 64 ∧ 8 ≤ nz) ∨ tb * 3 < (nz + 1) * 4 → ¬ nz < L → 4 * tb + (nz + 1) + 4 * L ≤ ds) : vx_Met l yX3_putMore wsX3_putMore ({ frames := 7, cells := 9, slots := gs + ds + 6, locals := 290 }) (va_Pc [.ref y0, .int p0, .int p1] (pk_PreXT (dC, dI) [(y0, .inr (3, [.ref x0, .int kd, .int wh, .int (nI cap), .int ru, .int (nI tb), .ref b0])), (x0, .inr (5, [.ref k0, .ref w0, .int (nI nz), .int ch])), (k0, .inl (ck, L, .inl f)), (w0, .inl (cw, L, .inl g)), (b0, .inl (cb, tb, .inl bf))] [(ck, .int), (cw, .int), (cb, .boolean)] sz T0)) (va_Ql (fun (x : Int64) (u : Nat × Nat × ClassId × (Nat → Int32) × Nat × Nat × ClassId × ClassId × Nat × (Nat → Int32) × (Nat → Int32) × Nat × Int32) => kpH tb L nz cap (u.1) (u.2.2.2.2.2.2.2.2.1) (u.2.2.2.2.2.2.2.2.2.2.2.1)) (fun (u : Nat × Nat × ClassId × (Nat → Int32) × Nat × Nat × ClassId × ClassId × Nat × (Nat → Int32) × (Nat → Int32) × Nat × Int32) (t : State) => va_P (dC, dI) vwCl [(y0, .inr (3, [.ref x0, .int kd, .int wh, .int (nI cap), .int ru, .int (nI (u.1)), .ref u.2.1])), (x0, .inr (5, [.ref u.2.2.2.2.1, .ref u.2.2.2.2.2.1, .int (nI (u.2.2.2.2.2.2.2.2.2.2.2.1)), .int u.2.2.2.2.2.2.2.2.2.2.2.2])), (u.2.2.2.2.1, .inl (u.2.2.2.2.2.2.1, u.2.2.2.2.2.2.2.2.1, .inl u.2.2.2.2.2.2.2.2.2.1)), (u.2.2.2.2.2.1, .inl (u.2.2.2.2.2.2.2.1, u.2.2.2.2.2.2.2.2.1, .inl u.2.2.2.2.2.2.2.2.2.2.1)), (u.2.1, .inl (u.2.2.1, u.1, .inl u.2.2.2.1))] t.heap ∧ va_K (dC, dI) vwCl [(u.2.2.2.2.2.2.1, .int), (u.2.2.2.2.2.2.2.1, .int), (u.2.2.1, .boolean)] t ∧ va_D (va_A [(y0, .inr (3, [.ref x0, .int kd, .int wh, .int (nI cap), .int ru, .int (nI tb), .ref b0])), (x0, .inr (5, [.ref k0, .ref w0, .int (nI nz), .int ch])), (k0, .inl (ck, L, .inl f)), (w0, .inl (cw, L, .inl g)), (b0, .inl (cb, tb, .inl bf))] sz) [(y0, .inr (3, [.ref x0, .int kd, .int wh, .int (nI cap), .int ru, .int (nI (u.1)), .ref u.2.1])), (x0, .inr (5, [.ref u.2.2.2.2.1, .ref u.2.2.2.2.2.1, .int (nI (u.2.2.2.2.2.2.2.2.2.2.2.1)), .int u.2.2.2.2.2.2.2.2.2.2.2.2])), (u.2.2.2.2.1, .inl (u.2.2.2.2.2.2.1, u.2.2.2.2.2.2.2.2.1, .inl u.2.2.2.2.2.2.2.2.2.1)), (u.2.2.2.2.2.1, .inl (u.2.2.2.2.2.2.2.1, u.2.2.2.2.2.2.2.2.1, .inl u.2.2.2.2.2.2.2.2.2.2.1)), (u.2.1, .inl (u.2.2.1, u.1, .inl u.2.2.2.1))] ∧ hT t.heap + hPS tb L ≤ T0 + hPS (u.1) (u.2.2.2.2.2.2.2.2.1) ∧ t.heap.size + hPC tb L ≤ sz + hPC (u.1) (u.2.2.2.2.2.2.2.2.1)) (va_A [(y0, .inr (3, [.ref x0, .int kd, .int wh, .int (nI cap), .int ru, .int (nI tb), .ref b0])), (x0, .inr (5, [.ref k0, .ref w0, .int (nI nz), .int ch])), (k0, .inl (ck, L, .inl f)), (w0, .inl (cw, L, .inl g)), (b0, .inl (cb, tb, .inl bf))] sz)) (vx_X (fun _ : Unit => True) (fun (E : String) (_ : Unit) (t : State) => ((E = "java/lang/IllegalArgumentException" ∨ E = "java/lang/IllegalStateException") ∧ va_P (dC, dI) vwCl [(y0, .inr (3, [.ref x0, .int kd, .int wh, .int (nI cap), .int ru, .int (nI tb), .ref b0])), (x0, .inr (5, [.ref k0, .ref w0, .int (nI nz), .int ch])), (k0, .inl (ck, L, .inl f)), (w0, .inl (cw, L, .inl g)), (b0, .inl (cb, tb, .inl bf))] t.heap ∧ va_K (dC, dI) vwCl [(ck, .int), (cw, .int), (cb, .boolean)] t ∧ va_D (va_A [(y0, .inr (3, [.ref x0, .int kd, .int wh, .int (nI cap), .int ru, .int (nI tb), .ref b0])), (x0, .inr (5, [.ref k0, .ref w0, .int (nI nz), .int ch])), (k0, .inl (ck, L, .inl f)), (w0, .inl (cw, L, .inl g)), (b0, .inl (cb, tb, .inl bf))] sz) [(y0, .inr (3, [.ref x0, .int kd, .int wh, .int (nI cap), .int ru, .int (nI tb), .ref b0])), (x0, .inr (5, [.ref k0, .ref w0, .int (nI nz), .int ch])), (k0, .inl (ck, L, .inl f)), (w0, .inl (cw, L, .inl g)), (b0, .inl (cb, tb, .inl bf))]) ∧ t.heap.size ≤ sz + 1 ∧ hT t.heap ≤ T0 + 6) (va_A [(y0, .inr (3, [.ref x0, .int kd, .int wh, .int (nI cap), .int ru, .int (nI tb), .ref b0])), (x0, .inr (5, [.ref k0, .ref w0, .int (nI nz), .int ch])), (k0, .inl (ck, L, .inl f)), (w0, .inl (cw, L, .inl g)), (b0, .inl (cb, tb, .inl bf))] sz)) 9 (gs + ds + 6) (va_A [(y0, .inr (3, [.ref x0, .int kd, .int wh, .int (nI cap), .int ru, .int (nI tb), .ref b0])), (x0, .inr (5, [.ref k0, .ref w0, .int (nI nz), .int ch])), (k0, .inl (ck, L, .inl f)), (w0, .inl (cw, L, .inl g)), (b0, .inl (cb, tb, .inl bf))] sz) := by
  refine vx_ofW (cc := cX3_putMore) (maxL := 5) (ret := (some .long)) (by decide) rfl ?_
  intro p e s m args below meth c s₁ B hml htab hv
  obtain ⟨rfl, ⟨hsz, hP, hK, hD0, hN, hZ⟩, hT0⟩ := hv
  have hx := B.exec
  have hb := B.bytes
  have hr := B.returns
  have hts := atoms_spec (ws := wsX3_putMore) B.pre
  have hown : s.vm.findClass RX3 = some m.cls := findClass_of_methodNamed B.named
  have hlocks := B.notSynchronized
  subst hsz
  subst hT0
  have hD := hD0.self (sz := s.heap.size)
  generalize hAe : va_A [(y0, .inr (3, [.ref x0, .int kd, .int wh, .int (nI cap), .int ru, .int (nI tb), .ref b0])), (x0, .inr (5, [.ref k0, .ref w0, .int (nI nz), .int ch])), (k0, .inl (ck, L, .inl f)), (w0, .inl (cw, L, .inl g)), (b0, .inl (cb, tb, .inl bf))] s.heap.size = A at hZ hD ⊢
  have hA : ∀ q : Nat, s.heap.size ≤ q → A q := fun q h => by rw [← hAe]; exact Or.inr h
  have hS : va_S A s.heap s.heap [] := va_S.rf
  have hP : va_P (dC, dI) vwCl [(y0, .inr (3, [.ref x0, .int kd, .int wh, .int (nI cap), .int ru, .int (nI tb), .ref b0])), (x0, .inr (5, [.ref k0, .ref w0, .int (nI nz), .int ch])), (k0, .inl (ck, L, .inl f)), (w0, .inl (cw, L, .inl g)), (b0, .inl (cb, tb, .inl bf))] s.heap := hP
  have hl := lv_entry ([.ref y0, .int p0, .int p1]) (n := 5) (Nat.le_of_ble_eq_true rfl)
  rw [lg_entry_eq]
  generalize (lg_sl ([.ref y0, .int p0, .int p1]) ++ List.replicate (5 - (lg_sl ([.ref y0, .int p0, .int p1])).length) Slot.unset).toArray = ls at hl ⊢
  have hl : lv_has ls 5 [(0, .ref y0), (1, .int p0), (2, .int p1)] := hl
  have hw0_ := hts (.fieldLink RX3 9 "KeyAtlas$Keyed" "rows" "LKeyAtlas$Rows;") (List.mem_of_getElem? (l := wsX3_putMore) (i := 1) rfl)
  have hw1_ := hts (.constantLong RX3 53 (1099511627776)) (List.mem_of_getElem? (l := wsX3_putMore) (i := 2) rfl)
  have hi0_ : ∀ w ∈ u_ws RX2 TX2 7, w ∈ wsX3_putMore := fun w h => List.mem_cons_of_mem _ (List.mem_append_left _ (List.mem_append_left _ (List.mem_append_left _ (List.mem_append_left _ (List.mem_append_left _ (List.mem_append_right _ h))))))
  have hR9 : rOK L nz := hH9.1
  have htb := hOK_tb hH9
  obtain ⟨hL1, hL2, hz1, hz2⟩ := id hR9
  refine lv_aload_n hx hb dX3_putMore_0 rfl (lv_at hl 0 rfl) ?_
  refine lv_iload_n hx hb dX3_putMore_1 rfl (lv_at hl 1 rfl) ?_
  have hPc := hP.sub (ws' := [(y0, .inr (3, [.ref x0, .int kd, .int wh, .int (nI cap), .int ru, .int (nI tb), .ref b0])), (x0, .inr (5, [.ref k0, .ref w0, .int (nI nz), .int ch])), (k0, .inl (ck, L, .inl f)), (w0, .inl (cw, L, .inl g)), (b0, .inl (cb, tb, .inl bf))]) [0, 1, 2, 3, 4] rfl
  have hKc := hK.sub (tys' := [(ck, .int), (cw, .int), (cb, .boolean)]) [0, 1, 2] rfl
  refine ro_calli (va_runU (As := [.int p0]) (rest := []) ⟨hx, hb, hml, hown, hts⟩ (c_X2_find l  dC dI s.heap.size y0 kd wh cap ru tb b0 cb bf x0 k0 w0 ck cw L f g nz ch p0 hR9 htb) (va_cwA 1 hts gX3_putMore_X2_find_u46X2 rfl rfl rfl (hN.xw _ (List.mem_of_getElem? (l := p_xw) (i := 0) rfl)) (by decide +kernel) ⟨(Nat.le_of_ble_eq_true rfl), (Nat.le_of_ble_eq_true rfl)⟩) ⟨pk_blindR, va_recv hKc hPc (ci := 3) (q0 := 0) rfl rfl, pk_callR hPc hKc⟩ rfl rfl hl.1 rfl (lv_room (Nat.le_of_ble_eq_true rfl)) dX3_putMore_2 ⟨(Nat.le_of_ble_eq_true rfl), (show 0 + 0 ≤ gs + ds + 6 by omega)⟩) (fun r_1 ur_1 hw => ?_)
  clear hPc hKc
  try dsimp only at hw
  have jr_1 := hw
  refine W.eq (g2 := F0 m 5 ls [.int r_1]) rfl ?_
  refine lv_istore_n (lv' := [(3, .int r_1), (0, .ref y0), (1, .int p0), (2, .int p1)]) hx hb dX3_putMore_5 rfl hl (by decide) rfl (fun ls hl => ?_)
  refine lv_iload_n hx hb dX3_putMore_6 rfl (lv_at hl 0 rfl) ?_
  refine lv_if_ge (tgt := 19) hx hb dX3_putMore_7 (by decide) (fun c_2 => ?_) (fun c_2 => ?_)
  ·
    have ic_2 : 0 ≤ r_1.toInt := tx_le (by decide) rfl c_2
    refine lv_aload_n hx hb dX3_putMore_19 rfl (lv_at hl 1 rfl) ?_
    refine va_get (D := (dC, dI)) (ci := 3) (v := .ref x0) (C := RX2) (T := TX2) (N := 7) hx hb hts hi0_ hown hK hP 0 rfl rfl 0 (by decide) hw0_ (fun _ h9 => h9) rfl dX3_putMore_20 ?_
    refine lv_iload_n hx hb dX3_putMore_23 rfl (lv_at hl 0 rfl) ?_
    have hPc := hP.sub (ws' := [(x0, .inr (5, [.ref k0, .ref w0, .int (nI nz), .int ch])), (k0, .inl (ck, L, .inl f)), (w0, .inl (cw, L, .inl g))]) [1, 2, 3] rfl
    have hKc := hK.sub (tys' := [(ck, .int), (cw, .int)]) [0, 1] rfl
    refine ro_calli (va_runV (As := [.int r_1]) (rest := []) ⟨hx, hb, hml, hown, hts⟩ (c_X5_value l  dC dI s.heap.size x0 k0 w0 ck cw L f g nz ch r_1 hR9) (cwV 1 hts gX3_putMore_X5_value rfl rfl rfl (by decide +kernel) ⟨(Nat.le_of_ble_eq_true rfl), (Nat.le_of_ble_eq_true rfl)⟩) ⟨pk_blindR, va_recv hKc hPc (ci := 5) (q0 := 0) rfl rfl, pk_callR hPc hKc⟩ rfl rfl hl.1 rfl (lv_room (Nat.le_of_ble_eq_true rfl)) dX3_putMore_24 ⟨(Nat.le_of_ble_eq_true rfl), (show 0 + 0 ≤ gs + ds + 6 by omega)⟩) (fun r_3 ur_3 hw => ?_)
    clear hPc hKc
    try dsimp only at hw
    have jr_3 := hw
    refine W.eq (g2 := F0 m 27 ls [.int r_3]) rfl ?_
    refine lv_iload_n hx hb dX3_putMore_27 rfl (lv_at hl 3 rfl) ?_
    refine lv_iadd hx hb dX3_putMore_28 ?_
    refine lv_istore (lv' := [(4, .int (r_3 + p1)), (3, .int r_1), (0, .ref y0), (1, .int p0), (2, .int p1)]) hx hb dX3_putMore_29 hl (by decide) rfl (fun ls hl => ?_)
    refine lv_iload hx hb dX3_putMore_31 (lv_at hl 0 rfl) ?_
    refine lv_if_ne (tgt := 45) hx hb dX3_putMore_33 (by decide) (fun c_4 => ?_) (fun c_4 => ?_)
    ·
      have ic_4 : ¬ (r_3 + p1).toInt = 0 := tx_ne rfl (by decide) c_4
      refine lv_aload_n hx hb dX3_putMore_45 rfl (lv_at hl 2 rfl) ?_
      refine lv_iload_n hx hb dX3_putMore_46 rfl (lv_at hl 1 rfl) ?_
      refine lv_iload hx hb dX3_putMore_47 (lv_at hl 0 rfl) ?_
      have hPc := hP.sub (ws' := [(y0, .inr (3, [.ref x0, .int kd, .int wh, .int (nI cap), .int ru, .int (nI tb), .ref b0])), (x0, .inr (5, [.ref k0, .ref w0, .int (nI nz), .int ch])), (k0, .inl (ck, L, .inl f)), (w0, .inl (cw, L, .inl g)), (b0, .inl (cb, tb, .inl bf))]) [0, 1, 2, 3, 4] rfl
      have hDc := hD.sub (ws' := [(y0, .inr (3, [.ref x0, .int kd, .int wh, .int (nI cap), .int ru, .int (nI tb), .ref b0])), (x0, .inr (5, [.ref k0, .ref w0, .int (nI nz), .int ch])), (k0, .inl (ck, L, .inl f)), (w0, .inl (cw, L, .inl g)), (b0, .inl (cb, tb, .inl bf))]) [0, 1, 2, 3, 4] (by decide) rfl
      have hKc := hK.sub (tys' := [(ck, .int), (cw, .int), (cb, .boolean)]) [0, 1, 2] rfl
      have hFc := va_free (wc := [(y0, .inr (3, [.ref x0, .int kd, .int wh, .int (nI cap), .int ru, .int (nI tb), .ref b0])), (x0, .inr (5, [.ref k0, .ref w0, .int (nI nz), .int ch])), (k0, .inl (ck, L, .inl f)), (w0, .inl (cw, L, .inl g)), (b0, .inl (cb, tb, .inl bf))]) hD hS hA [0, 1, 2, 3, 4] rfl
      have hZc := (hZ.kept hS.2.1).narrow hFc
      refine va_calll (va_runU (As := [.int r_1, .int (r_3 + p1)]) (rest := []) ⟨hx, hb, hml, hown, hts⟩ (c_X3_replace_H l hlt dC dI s.heap.size y0 kd wh cap ru tb b0 cb bf x0 k0 w0 ck cw L f g nz ch r_1 (r_3 + p1) hH9) (va_cwU 2 hts gX3_putMore_X3_replace_u55X2 rfl rfl rfl rfl (by decide +kernel) ⟨(Nat.le_of_ble_eq_true rfl), (Nat.le_of_ble_eq_true rfl)⟩) ⟨pk_blindX, va_recv hKc hPc (ci := 3) (q0 := 0) rfl rfl, pk_callX hPc hKc hDc hN hZc⟩ rfl rfl hl.1 rfl (lv_room (Nat.le_of_ble_eq_true rfl)) dX3_putMore_49 ⟨(Nat.le_of_ble_eq_true rfl), (show 0 + 0 ≤ gs + ds + 6 by omega)⟩) hS (fun q _ h => hFc q h) hFc (fun r_5 ur_5 t H1 locs ht hvm hw hB hz1 hk1 hS => ?_)
      try dsimp only at hw
      have jr_5 := hw
      obtain ⟨hP1, hK1, hD1⟩ := hB
      rw [ht] at hP1
      have hK1 := va_K.moved hvm.symm hK1
      obtain ⟨hP, hD⟩ := va_join (wr := []) (w1 := [(y0, .inr (3, [.ref x0, .int kd, .int wh, .int (nI cap), .int ru, .int (nI tb), .ref b0])), (x0, .inr (5, [.ref k0, .ref w0, .int (nI nz), .int ur_5.2.2])), (k0, .inl (ck, L, .inl ur_5.1)), (w0, .inl (cw, L, .inl ur_5.2.1)), (b0, .inl (cb, tb, .inl bf))]) hP hD [0, 1, 2, 3, 4] [] rfl rfl (by decide) (by decide) hk1 hFc hP1 hD1
      clear hk1 hz1 ht hPc hDc hKc hFc
      generalize H1 = H at hP hS ⊢
      replace hP : va_P (dC, dI) vwCl [(y0, .inr (3, [.ref x0, .int kd, .int wh, .int (nI cap), .int ru, .int (nI tb), .ref b0])), (x0, .inr (5, [.ref k0, .ref w0, .int (nI nz), .int ur_5.2.2])), (k0, .inl (ck, L, .inl ur_5.1)), (w0, .inl (cw, L, .inl ur_5.2.1)), (b0, .inl (cb, tb, .inl bf))] H := hP
      replace hD : va_D A [(y0, .inr (3, [.ref x0, .int kd, .int wh, .int (nI cap), .int ru, .int (nI tb), .ref b0])), (x0, .inr (5, [.ref k0, .ref w0, .int (nI nz), .int ur_5.2.2])), (k0, .inl (ck, L, .inl ur_5.1)), (w0, .inl (cw, L, .inl ur_5.2.1)), (b0, .inl (cb, tb, .inl bf))] := hD
      refine W.widen (k := 0) (n := 0) (Nat.le_of_ble_eq_true rfl) (Nat.le_of_ble_eq_true rfl) ?_
      refine W.eq (g2 := F0 m 52 ls [.long r_5]) rfl ?_
      refine lv_pop2_2 hx hb dX3_putMore_52 rfl ?_
      refine lv_iload hx hb dX3_putMore_53 (lv_at hl 0 rfl) ?_
      refine lv_i2l (v := (r_3 + p1).toInt64) hx hb dX3_putMore_55 rfl ?_
      refine W.book (fun hz9_ hn9_ => ?_)
      have hpost : kpH tb L nz cap (tb) (L) (nz) := Or.inl ⟨rfl, rfl, by omega⟩
      have hcost : hT H + hPS tb L ≤ hT s.heap + hPS (tb) (L) ∧ H.size + hPC tb L ≤ s.heap.size + hPC (tb) (L) := by constructor <;> omega
      have hP9 := hP.sub (ws' := [(y0, .inr (3, [.ref x0, .int kd, .int wh, .int (nI cap), .int ru, .int (nI tb), .ref b0])), (x0, .inr (5, [.ref k0, .ref w0, .int (nI nz), .int ur_5.2.2])), (k0, .inl (ck, L, .inl ur_5.1)), (w0, .inl (cw, L, .inl ur_5.2.1)), (b0, .inl (cb, tb, .inl bf))]) [0, 1, 2, 3, 4] rfl
      have hD9 := hD.sub (ws' := [(y0, .inr (3, [.ref x0, .int kd, .int wh, .int (nI cap), .int ru, .int (nI tb), .ref b0])), (x0, .inr (5, [.ref k0, .ref w0, .int (nI nz), .int ur_5.2.2])), (k0, .inl (ck, L, .inl ur_5.1)), (w0, .inl (cw, L, .inl ur_5.2.1)), (b0, .inl (cb, tb, .inl bf))]) [0, 1, 2, 3, 4] (by decide) rfl
      have hK9 := hK.sub (tys' := [(ck, .int), (cw, .int), (cb, .boolean)]) [0, 1, 2] rfl
      refine W.widen (k := 9) (n := gs + ds + 6) (by omega) (by omega) ?_
      refine vx_ret ?_
      exact W.lret (v := (r_3 + p1).toInt64) hx hb hr (fun t ht hW => ⟨⟨(r_3 + p1).toInt64, (tb, b0, cb, bf, k0, w0, ck, cw, L, ur_5.1, ur_5.2.1, nz, ur_5.2.2), rfl, hpost, by rw [ht]; exact hP9, va_K.moved hW.alike hK9, hD9, by rw [ht]; exact hcost⟩, hS.F ht⟩) hS.2.2 dX3_putMore_56
    ·
      have ic_4 : (r_3 + p1).toInt = 0 := tx_eq rfl (by decide) c_4
      refine lv_aload_n hx hb dX3_putMore_36 rfl (lv_at hl 2 rfl) ?_
      refine lv_iload_n hx hb dX3_putMore_37 rfl (lv_at hl 1 rfl) ?_
      have hPc := hP.sub (ws' := [(y0, .inr (3, [.ref x0, .int kd, .int wh, .int (nI cap), .int ru, .int (nI tb), .ref b0])), (x0, .inr (5, [.ref k0, .ref w0, .int (nI nz), .int ch])), (k0, .inl (ck, L, .inl f)), (w0, .inl (cw, L, .inl g)), (b0, .inl (cb, tb, .inl bf))]) [0, 1, 2, 3, 4] rfl
      have hDc := hD.sub (ws' := [(y0, .inr (3, [.ref x0, .int kd, .int wh, .int (nI cap), .int ru, .int (nI tb), .ref b0])), (x0, .inr (5, [.ref k0, .ref w0, .int (nI nz), .int ch])), (k0, .inl (ck, L, .inl f)), (w0, .inl (cw, L, .inl g)), (b0, .inl (cb, tb, .inl bf))]) [0, 1, 2, 3, 4] (by decide) rfl
      have hKc := hK.sub (tys' := [(ck, .int), (cw, .int), (cb, .boolean)]) [0, 1, 2] rfl
      have hFc := va_free (wc := [(y0, .inr (3, [.ref x0, .int kd, .int wh, .int (nI cap), .int ru, .int (nI tb), .ref b0])), (x0, .inr (5, [.ref k0, .ref w0, .int (nI nz), .int ch])), (k0, .inl (ck, L, .inl f)), (w0, .inl (cw, L, .inl g)), (b0, .inl (cb, tb, .inl bf))]) hD hS hA [0, 1, 2, 3, 4] rfl
      refine va_callv (va_runU (As := [.int r_1]) (rest := []) ⟨hx, hb, hml, hown, hts⟩ (c_X2_leave l  dC dI s.heap.size y0 kd wh cap ru tb b0 cb bf x0 k0 w0 ck cw L f g nz ch r_1 hH9) (va_cwO 1 hts gX3_putMore_X2_leave_u69X2 rfl rfl rfl (List.mem_of_getElem? (l := wsX3_putMore) (i := 172) rfl) (by decide +kernel) ⟨(Nat.le_of_ble_eq_true rfl), (Nat.le_of_ble_eq_true rfl)⟩) ⟨pk_blind, va_recv hKc hPc (ci := 3) (q0 := 0) rfl rfl, pk_call hPc hKc hDc⟩ rfl rfl hl.1 rfl (lv_room (Nat.le_of_ble_eq_true rfl)) dX3_putMore_38 ⟨(Nat.le_of_ble_eq_true rfl), (show 0 + 0 ≤ gs + ds + 6 by omega)⟩) hS (fun q _ h => hFc q h) hFc (fun ur_6 t H1 locs ht hvm hw hB hz1 hk1 hS => ?_)
      try dsimp only at hw
      have jr_6 := hw
      obtain ⟨hP1, hK1, hD1⟩ := hB
      rw [ht] at hP1
      have hK1 := va_K.moved hvm.symm hK1
      obtain ⟨hP, hD⟩ := va_join (wr := []) (w1 := [(y0, .inr (3, [.ref x0, .int kd, .int wh, .int (nI cap), .int ru, .int (nI tb), .ref b0])), (x0, .inr (5, [.ref k0, .ref w0, .int (nI (ur_6.2.2.1)), .int ur_6.2.2.2.1])), (k0, .inl (ck, L, .inl ur_6.1)), (w0, .inl (cw, L, .inl ur_6.2.1)), (b0, .inl (cb, tb, .inl ur_6.2.2.2.2))]) hP hD [0, 1, 2, 3, 4] [] rfl rfl (by decide) (by decide) hk1 hFc hP1 hD1
      clear hk1 hz1 ht hPc hDc hKc hFc
      generalize H1 = H at hP hS ⊢
      replace hP : va_P (dC, dI) vwCl [(y0, .inr (3, [.ref x0, .int kd, .int wh, .int (nI cap), .int ru, .int (nI tb), .ref b0])), (x0, .inr (5, [.ref k0, .ref w0, .int (nI (ur_6.2.2.1)), .int ur_6.2.2.2.1])), (k0, .inl (ck, L, .inl ur_6.1)), (w0, .inl (cw, L, .inl ur_6.2.1)), (b0, .inl (cb, tb, .inl ur_6.2.2.2.2))] H := hP
      replace hD : va_D A [(y0, .inr (3, [.ref x0, .int kd, .int wh, .int (nI cap), .int ru, .int (nI tb), .ref b0])), (x0, .inr (5, [.ref k0, .ref w0, .int (nI (ur_6.2.2.1)), .int ur_6.2.2.2.1])), (k0, .inl (ck, L, .inl ur_6.1)), (w0, .inl (cw, L, .inl ur_6.2.1)), (b0, .inl (cb, tb, .inl ur_6.2.2.2.2))] := hD
      refine W.widen (k := 0) (n := 0) (Nat.le_of_ble_eq_true rfl) (Nat.le_of_ble_eq_true rfl) ?_
      refine W.eq (g2 := F0 m 41 ls []) rfl ?_
      have hH9 : hOK tb L (ur_6.2.2.1) cap := hOK_le hH9 jr_6
      have hR9 : rOK L (ur_6.2.2.1) := hH9.1
      refine lv_ldc2 (v := 1099511627776) hx hb hown hw1_ dX3_putMore_41 ?_
      refine W.book (fun hz9_ hn9_ => ?_)
      have hpost : kpH tb L nz cap (tb) (L) (ur_6.2.2.1) := Or.inl ⟨rfl, rfl, by omega⟩
      have hcost : hT H + hPS tb L ≤ hT s.heap + hPS (tb) (L) ∧ H.size + hPC tb L ≤ s.heap.size + hPC (tb) (L) := by constructor <;> omega
      have hP9 := hP.sub (ws' := [(y0, .inr (3, [.ref x0, .int kd, .int wh, .int (nI cap), .int ru, .int (nI tb), .ref b0])), (x0, .inr (5, [.ref k0, .ref w0, .int (nI (ur_6.2.2.1)), .int ur_6.2.2.2.1])), (k0, .inl (ck, L, .inl ur_6.1)), (w0, .inl (cw, L, .inl ur_6.2.1)), (b0, .inl (cb, tb, .inl ur_6.2.2.2.2))]) [0, 1, 2, 3, 4] rfl
      have hD9 := hD.sub (ws' := [(y0, .inr (3, [.ref x0, .int kd, .int wh, .int (nI cap), .int ru, .int (nI tb), .ref b0])), (x0, .inr (5, [.ref k0, .ref w0, .int (nI (ur_6.2.2.1)), .int ur_6.2.2.2.1])), (k0, .inl (ck, L, .inl ur_6.1)), (w0, .inl (cw, L, .inl ur_6.2.1)), (b0, .inl (cb, tb, .inl ur_6.2.2.2.2))]) [0, 1, 2, 3, 4] (by decide) rfl
      have hK9 := hK.sub (tys' := [(ck, .int), (cw, .int), (cb, .boolean)]) [0, 1, 2] rfl
      refine W.widen (k := 9) (n := gs + ds + 6) (by omega) (by omega) ?_
      refine vx_ret ?_
      exact W.lret (v := 1099511627776) hx hb hr (fun t ht hW => ⟨⟨1099511627776, (tb, b0, cb, ur_6.2.2.2.2, k0, w0, ck, cw, L, ur_6.1, ur_6.2.1, ur_6.2.2.1, ur_6.2.2.2.1), rfl, hpost, by rw [ht]; exact hP9, va_K.moved hW.alike hK9, hD9, by rw [ht]; exact hcost⟩, hS.F ht⟩) hS.2.2 dX3_putMore_44
  ·
    have ic_2 : r_1.toInt < 0 := tx_nle (by decide) rfl c_2
    refine lv_aload_n hx hb dX3_putMore_10 rfl (lv_at hl 1 rfl) ?_
    refine lv_iload_n hx hb dX3_putMore_11 rfl (lv_at hl 2 rfl) ?_
    refine lv_iload_n hx hb dX3_putMore_12 rfl (lv_at hl 3 rfl) ?_
    have hPc := hP.sub (ws' := [(y0, .inr (3, [.ref x0, .int kd, .int wh, .int (nI cap), .int ru, .int (nI tb), .ref b0])), (x0, .inr (5, [.ref k0, .ref w0, .int (nI nz), .int ch])), (k0, .inl (ck, L, .inl f)), (w0, .inl (cw, L, .inl g)), (b0, .inl (cb, tb, .inl bf))]) [0, 1, 2, 3, 4] rfl
    have hDc := hD.sub (ws' := [(y0, .inr (3, [.ref x0, .int kd, .int wh, .int (nI cap), .int ru, .int (nI tb), .ref b0])), (x0, .inr (5, [.ref k0, .ref w0, .int (nI nz), .int ch])), (k0, .inl (ck, L, .inl f)), (w0, .inl (cw, L, .inl g)), (b0, .inl (cb, tb, .inl bf))]) [0, 1, 2, 3, 4] (by decide) rfl
    have hKc := hK.sub (tys' := [(ck, .int), (cw, .int), (cb, .boolean)]) [0, 1, 2] rfl
    have hFc := va_free (wc := [(y0, .inr (3, [.ref x0, .int kd, .int wh, .int (nI cap), .int ru, .int (nI tb), .ref b0])), (x0, .inr (5, [.ref k0, .ref w0, .int (nI nz), .int ch])), (k0, .inl (ck, L, .inl f)), (w0, .inl (cw, L, .inl g)), (b0, .inl (cb, tb, .inl bf))]) hD hS hA [0, 1, 2, 3, 4] rfl
    have hZc := (hZ.kept hS.2.1).narrow hFc
    refine vx_callv (vx_runU (As := [.int p0, .int p1]) (rest := []) ⟨hx, hb, hml, hown, hts⟩ (c_X3_come_H l hlt dC dI s.heap.size (hT s.heap) y0 kd wh cap ru tb b0 cb bf x0 k0 w0 ck cw L f g nz ch p0 p1 gs ds hH9 hG9 hD9 hD8 hD7) (va_cwU 2 hts gX3_putMore_X3_come_u50X2 rfl rfl rfl rfl (by decide +kernel) ⟨(Nat.le_of_ble_eq_true rfl), (Nat.le_of_ble_eq_true rfl)⟩) ⟨pk_blindXT, va_recv hKc hPc (ci := 3) (q0 := 0) rfl rfl, pk_callXT hPc hKc hDc hN hZc⟩ rfl rfl hl.1 rfl (lv_room (Nat.le_of_ble_eq_true rfl)) dX3_putMore_13 ⟨(Nat.le_of_ble_eq_true rfl), (show 0 + (gs + ds + 6) ≤ gs + ds + 6 by omega)⟩) hS (fun q _ h => hFc q h) hFc (fun q _ h => hFc q h) (fun E ce q9 u9 t H1 locs ht hvm hw hB hz1 hk1 hS hce hcv hcl => ?_) (fun ur_7 t H1 locs ht hvm hw hB hz1 hk1 hS => ?_)
    ·
      try dsimp only at hB
      obtain ⟨⟨hE8, hP8, hK8, -⟩, hz8, hn8⟩ := hB
      have hD9 := hD.sub (ws' := [(y0, .inr (3, [.ref x0, .int kd, .int wh, .int (nI cap), .int ru, .int (nI tb), .ref b0])), (x0, .inr (5, [.ref k0, .ref w0, .int (nI nz), .int ch])), (k0, .inl (ck, L, .inl f)), (w0, .inl (cw, L, .inl g)), (b0, .inl (cb, tb, .inl bf))]) [0, 1, 2, 3, 4] (by decide) rfl
      exact vx_out (fun x hx9 => (htab x hx9).elim) hlocks hce hcv hcl (fun t9 ht9 hal9 => ⟨(), trivial, ⟨⟨hE8, by rw [ht9, ← ht]; exact hP8, va_K.moved (hvm.symm.trans hal9) hK8, hD9⟩, by rw [ht9, ← ht]; exact hz8, by rw [ht9, ← ht]; exact hn8⟩, hS.F ht9⟩) hS.2.2 (by omega) (by omega)
    ·
      try dsimp only at hw
      have jr_7 := hw
      obtain ⟨hP1, hK1, hD1, hC1_⟩ := hB
      rw [ht] at hP1 hC1_
      have hK1 := va_K.moved hvm.symm hK1
      obtain ⟨hP, hD⟩ := va_join (wr := []) (w1 := [(y0, .inr (3, [.ref x0, .int kd, .int wh, .int (nI cap), .int ru, .int (nI (ur_7.1)), .ref ur_7.2.1])), (x0, .inr (5, [.ref ur_7.2.2.2.2.1, .ref ur_7.2.2.2.2.2.1, .int (nI (ur_7.2.2.2.2.2.2.2.2.2.2.2.1)), .int ur_7.2.2.2.2.2.2.2.2.2.2.2.2])), (ur_7.2.2.2.2.1, .inl (ur_7.2.2.2.2.2.2.1, ur_7.2.2.2.2.2.2.2.2.1, .inl ur_7.2.2.2.2.2.2.2.2.2.1)), (ur_7.2.2.2.2.2.1, .inl (ur_7.2.2.2.2.2.2.2.1, ur_7.2.2.2.2.2.2.2.2.1, .inl ur_7.2.2.2.2.2.2.2.2.2.2.1)), (ur_7.2.1, .inl (ur_7.2.2.1, ur_7.1, .inl ur_7.2.2.2.1))]) hP hD [0, 1, 2, 3, 4] [] rfl rfl (by decide) (by decide) hk1 hFc hP1 hD1
      have hK := hK.app hK1
      have hK : va_K (dC, dI) vwCl [(ck, .int), (cw, .int), (cb, .boolean), (ur_7.2.2.2.2.2.2.1, .int), (ur_7.2.2.2.2.2.2.2.1, .int), (ur_7.2.2.1, .boolean)] s := hK
      have hcs1_ : hT H1 + hPS tb L ≤ hT s.heap + hPS (ur_7.1) (ur_7.2.2.2.2.2.2.2.2.1) := hC1_.1
      have hcs2_ : H1.size + hPC tb L ≤ s.heap.size + hPC (ur_7.1) (ur_7.2.2.2.2.2.2.2.2.1) := hC1_.2
      clear hC1_
      clear hk1 hz1 ht hPc hDc hKc hFc
      generalize H1 = H at hP hS hcs1_ hcs2_ ⊢
      replace hP : va_P (dC, dI) vwCl [(y0, .inr (3, [.ref x0, .int kd, .int wh, .int (nI cap), .int ru, .int (nI (ur_7.1)), .ref ur_7.2.1])), (x0, .inr (5, [.ref ur_7.2.2.2.2.1, .ref ur_7.2.2.2.2.2.1, .int (nI (ur_7.2.2.2.2.2.2.2.2.2.2.2.1)), .int ur_7.2.2.2.2.2.2.2.2.2.2.2.2])), (ur_7.2.2.2.2.1, .inl (ur_7.2.2.2.2.2.2.1, ur_7.2.2.2.2.2.2.2.2.1, .inl ur_7.2.2.2.2.2.2.2.2.2.1)), (ur_7.2.2.2.2.2.1, .inl (ur_7.2.2.2.2.2.2.2.1, ur_7.2.2.2.2.2.2.2.2.1, .inl ur_7.2.2.2.2.2.2.2.2.2.2.1)), (ur_7.2.1, .inl (ur_7.2.2.1, ur_7.1, .inl ur_7.2.2.2.1))] H := hP
      replace hD : va_D A [(y0, .inr (3, [.ref x0, .int kd, .int wh, .int (nI cap), .int ru, .int (nI (ur_7.1)), .ref ur_7.2.1])), (x0, .inr (5, [.ref ur_7.2.2.2.2.1, .ref ur_7.2.2.2.2.2.1, .int (nI (ur_7.2.2.2.2.2.2.2.2.2.2.2.1)), .int ur_7.2.2.2.2.2.2.2.2.2.2.2.2])), (ur_7.2.2.2.2.1, .inl (ur_7.2.2.2.2.2.2.1, ur_7.2.2.2.2.2.2.2.2.1, .inl ur_7.2.2.2.2.2.2.2.2.2.1)), (ur_7.2.2.2.2.2.1, .inl (ur_7.2.2.2.2.2.2.2.1, ur_7.2.2.2.2.2.2.2.2.1, .inl ur_7.2.2.2.2.2.2.2.2.2.2.1)), (ur_7.2.1, .inl (ur_7.2.2.1, ur_7.1, .inl ur_7.2.2.2.1))] := hD
      refine W.widen (k := 9) (n := gs + ds + 6) (by omega) (by omega) ?_
      refine W.eq (g2 := F0 m 16 ls []) rfl ?_
      refine lv_iload_n hx hb dX3_putMore_16 rfl (lv_at hl 3 rfl) ?_
      refine lv_i2l (v := p1.toInt64) hx hb dX3_putMore_17 rfl ?_
      refine W.book (fun hz9_ hn9_ => ?_)
      have hpost : kpH tb L nz cap (ur_7.1) (ur_7.2.2.2.2.2.2.2.2.1) (ur_7.2.2.2.2.2.2.2.2.2.2.2.1) := Or.inr jr_7
      have hcost : hT H + hPS tb L ≤ hT s.heap + hPS (ur_7.1) (ur_7.2.2.2.2.2.2.2.2.1) ∧ H.size + hPC tb L ≤ s.heap.size + hPC (ur_7.1) (ur_7.2.2.2.2.2.2.2.2.1) := ⟨hcs1_, hcs2_⟩
      have hP9 := hP.sub (ws' := [(y0, .inr (3, [.ref x0, .int kd, .int wh, .int (nI cap), .int ru, .int (nI (ur_7.1)), .ref ur_7.2.1])), (x0, .inr (5, [.ref ur_7.2.2.2.2.1, .ref ur_7.2.2.2.2.2.1, .int (nI (ur_7.2.2.2.2.2.2.2.2.2.2.2.1)), .int ur_7.2.2.2.2.2.2.2.2.2.2.2.2])), (ur_7.2.2.2.2.1, .inl (ur_7.2.2.2.2.2.2.1, ur_7.2.2.2.2.2.2.2.2.1, .inl ur_7.2.2.2.2.2.2.2.2.2.1)), (ur_7.2.2.2.2.2.1, .inl (ur_7.2.2.2.2.2.2.2.1, ur_7.2.2.2.2.2.2.2.2.1, .inl ur_7.2.2.2.2.2.2.2.2.2.2.1)), (ur_7.2.1, .inl (ur_7.2.2.1, ur_7.1, .inl ur_7.2.2.2.1))]) [0, 1, 2, 3, 4] rfl
      have hD9 := hD.sub (ws' := [(y0, .inr (3, [.ref x0, .int kd, .int wh, .int (nI cap), .int ru, .int (nI (ur_7.1)), .ref ur_7.2.1])), (x0, .inr (5, [.ref ur_7.2.2.2.2.1, .ref ur_7.2.2.2.2.2.1, .int (nI (ur_7.2.2.2.2.2.2.2.2.2.2.2.1)), .int ur_7.2.2.2.2.2.2.2.2.2.2.2.2])), (ur_7.2.2.2.2.1, .inl (ur_7.2.2.2.2.2.2.1, ur_7.2.2.2.2.2.2.2.2.1, .inl ur_7.2.2.2.2.2.2.2.2.2.1)), (ur_7.2.2.2.2.2.1, .inl (ur_7.2.2.2.2.2.2.2.1, ur_7.2.2.2.2.2.2.2.2.1, .inl ur_7.2.2.2.2.2.2.2.2.2.2.1)), (ur_7.2.1, .inl (ur_7.2.2.1, ur_7.1, .inl ur_7.2.2.2.1))]) [0, 1, 2, 3, 4] (by decide) rfl
      have hK9 := hK.sub (tys' := [(ur_7.2.2.2.2.2.2.1, .int), (ur_7.2.2.2.2.2.2.2.1, .int), (ur_7.2.2.1, .boolean)]) [3, 4, 5] rfl
      refine W.widen (k := 9) (n := gs + ds + 6) (by omega) (by omega) ?_
      refine vx_ret ?_
      exact W.lret (v := p1.toInt64) hx hb hr (fun t ht hW => ⟨⟨p1.toInt64, (ur_7.1, ur_7.2.1, ur_7.2.2.1, ur_7.2.2.2.1, ur_7.2.2.2.2.1, ur_7.2.2.2.2.2.1, ur_7.2.2.2.2.2.2.1, ur_7.2.2.2.2.2.2.2.1, ur_7.2.2.2.2.2.2.2.2.1, ur_7.2.2.2.2.2.2.2.2.2.1, ur_7.2.2.2.2.2.2.2.2.2.2.1, ur_7.2.2.2.2.2.2.2.2.2.2.2.1, ur_7.2.2.2.2.2.2.2.2.2.2.2.2), rfl, hpost, by rw [ht]; exact hP9, va_K.moved hW.alike hK9, hD9, by rw [ht]; exact hcost⟩, hS.F ht⟩) hS.2.2 dX3_putMore_18
