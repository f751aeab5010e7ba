theorem dX3_replace_0 : decode cX3_replace 0 = .ok (.aload_n 0, 1) := by decide +kernel
theorem dX3_replace_1 : decode cX3_replace 1 = .ok (.getfield 9, 3) := by decide +kernel
theorem dX3_replace_4 : decode cX3_replace 4 = .ok (.iload_n 1, 1) := by decide +kernel
set_option maxRecDepth 20000 in
theorem ggX3_replace_X5_value : GoodIn wsX3_replace wsX5_value := goodIn_r _ [6, 7, 8, 57, 58, 59, 60] rfl (by decide +kernel)
set_option maxRecDepth 20000 in
theorem gX3_replace_X5_value : GoodIn wsX3_replace (wsV RX3 59 RX5 yX5_value wsX5_value) := goodIn_app (goodIn_of _ (by decide +kernel)) ggX3_replace_X5_value
theorem dX3_replace_5 : decode cX3_replace 5 = .ok (.invokevirtual 59, 3) := by decide +kernel
theorem dX3_replace_8 : decode cX3_replace 8 = .ok (.istore_n 3, 1) := by decide +kernel
theorem dX3_replace_9 : decode cX3_replace 9 = .ok (.aload_n 0, 1) := by decide +kernel
theorem dX3_replace_10 : decode cX3_replace 10 = .ok (.getfield 9, 3) := by decide +kernel
theorem dX3_replace_13 : decode cX3_replace 13 = .ok (.iload_n 1, 1) := by decide +kernel
theorem dX3_replace_14 : decode cX3_replace 14 = .ok (.iload_n 2, 1) := by decide +kernel
set_option maxRecDepth 20000 in
theorem ggX3_replace_X5_setValue : GoodIn wsX3_replace wsX5_setValue := goodIn_r _ [12, 7, 8, 57, 58, 59, 60] rfl (by decide +kernel)
set_option maxRecDepth 20000 in
theorem gX3_replace_X5_setValue : GoodIn wsX3_replace (wsV RX3 62 RX5 yX5_setValue wsX5_setValue) := goodIn_app (goodIn_of _ (by decide +kernel)) ggX3_replace_X5_setValue
theorem dX3_replace_15 : decode cX3_replace 15 = .ok (.invokevirtual 62, 3) := by decide +kernel
theorem dX3_replace_18 : decode cX3_replace 18 = .ok (.aload_n 0, 1) := by decide +kernel
theorem dX3_replace_19 : decode cX3_replace 19 = .ok (.iload_n 1, 1) := by decide +kernel
set_option maxRecDepth 20000 in
theorem ggX3_replace_X3_noteUse : GoodIn wsX3_replace wsX3_noteUse := goodIn_r _ [18] rfl (by decide +kernel)
set_option maxRecDepth 20000 in
theorem gX3_replace_X3_noteUse_u65X2 : GoodIn wsX3_replace (va_wsU RX3 65 RX2 "KeyAtlas$Keyed" ⟨"KeyAtlas$Keyed", "noteUse", "(I)V"⟩ yX3_noteUse wsX3_noteUse) := goodIn_app (goodIn_of _ (by decide +kernel)) ggX3_replace_X3_noteUse
theorem dX3_replace_20 : decode cX3_replace 20 = .ok (.invokevirtual 65, 3) := by decide +kernel
theorem dX3_replace_23 : decode cX3_replace 23 = .ok (.iload_n 3, 1) := by decide +kernel
theorem dX3_replace_24 : decode cX3_replace 24 = .ok (.i2l, 1) := by decide +kernel
theorem dX3_replace_25 : decode cX3_replace 25 = .ok (.lreturn, 1) := by decide +kernel
theorem dX3_get_0 : decode cX3_get 0 = .ok (.aload_n 0, 1) := by decide +kernel
theorem dX3_get_1 : decode cX3_get 1 = .ok (.iload_n 1, 1) := by decide +kernel
set_option maxRecDepth 20000 in
theorem ggX3_get_X2_find : GoodIn wsX3_get wsX2_find := goodIn_r _ [8, 9, 10, 11, 12, 13, 14, 7, 15, 16, 17, 18, 19, 20, 21, 22, 23, 24, 25, 26, 27, 28, 29, 30, 31, 32, 101, 102, 103, 104, 105, 106, 107, 108, 109, 110, 111, 112, 113, 114, 115, 116, 117, 118, 119, 120, 121, 122, 123] rfl (by decide +kernel)
set_option maxRecDepth 20000 in
theorem gX3_get_X2_find_u46X2 : GoodIn wsX3_get (va_wsU RX3 46 RX2 "KeyAtlas$Keyed" ⟨"KeyAtlas$Keyed", "find", "(I)I"⟩ yX2_find wsX2_find) := goodIn_app (goodIn_of _ (by decide +kernel)) ggX3_get_X2_find
theorem dX3_get_2 : decode cX3_get 2 = .ok (.invokevirtual 46, 3) := by decide +kernel
theorem dX3_get_5 : decode cX3_get 5 = .ok (.istore_n 2, 1) := by decide +kernel
theorem dX3_get_6 : decode cX3_get 6 = .ok (.iload_n 2, 1) := by decide +kernel
theorem dX3_get_7 : decode cX3_get 7 = .ok (.ifCond .ge 7, 3) := by decide +kernel
theorem dX3_get_14 : decode cX3_get 14 = .ok (.aload_n 0, 1) := by decide +kernel
theorem dX3_get_15 : decode cX3_get 15 = .ok (.getfield 9, 3) := by decide +kernel
theorem dX3_get_18 : decode cX3_get 18 = .ok (.iload_n 2, 1) := by decide +kernel
set_option maxRecDepth 20000 in
theorem ggX3_get_X5_value : GoodIn wsX3_get wsX5_value := goodIn_r _ [78, 27, 79, 120, 121, 122, 123] rfl (by decide +kernel)
set_option maxRecDepth 20000 in
theorem gX3_get_X5_value : GoodIn wsX3_get (wsV RX3 59 RX5 yX5_value wsX5_value) := goodIn_app (goodIn_of _ (by decide +kernel)) ggX3_get_X5_value
theorem dX3_get_19 : decode cX3_get 19 = .ok (.invokevirtual 59, 3) := by decide +kernel
theorem dX3_get_22 : decode cX3_get 22 = .ok (.istore_n 3, 1) := by decide +kernel
theorem dX3_get_23 : decode cX3_get 23 = .ok (.aload_n 0, 1) := by decide +kernel
theorem dX3_get_24 : decode cX3_get 24 = .ok (.iload_n 2, 1) := by decide +kernel
set_option maxRecDepth 20000 in
theorem ggX3_get_X3_noteUse : GoodIn wsX3_get wsX3_noteUse := goodIn_r _ [85] rfl (by decide +kernel)
set_option maxRecDepth 20000 in
theorem gX3_get_X3_noteUse_u65X2 : GoodIn wsX3_get (va_wsU RX3 65 RX2 "KeyAtlas$Keyed" ⟨"KeyAtlas$Keyed", "noteUse", "(I)V"⟩ yX3_noteUse wsX3_noteUse) := goodIn_app (goodIn_of _ (by decide +kernel)) ggX3_get_X3_noteUse
theorem dX3_get_25 : decode cX3_get 25 = .ok (.invokevirtual 65, 3) := by decide +kernel
theorem dX3_get_28 : decode cX3_get 28 = .ok (.iload_n 3, 1) := by decide +kernel
theorem dX3_get_29 : decode cX3_get 29 = .ok (.i2l, 1) := by decide +kernel
theorem dX3_get_30 : decode cX3_get 30 = .ok (.lreturn, 1) := by decide +kernel
theorem dX3_get_10 : decode cX3_get 10 = .ok (.ldc2_w 53, 3) := by decide +kernel
theorem dX3_get_13 : decode cX3_get 13 = .ok (.lreturn, 1) := by decide +kernel
theorem dX3_takeOut_0 : decode cX3_takeOut 0 = .ok (.aload_n 0, 1) := by decide +kernel
theorem dX3_takeOut_1 : decode cX3_takeOut 1 = .ok (.iload_n 1, 1) := by decide +kernel
set_option maxRecDepth 20000 in
theorem ggX3_takeOut_X2_find : GoodIn wsX3_takeOut wsX2_find := goodIn_r _ [8, 9, 10, 11, 12, 13, 14, 7, 15, 16, 17, 18, 19, 20, 21, 22, 23, 24, 25, 26, 27, 28, 29, 30, 31, 32, 111, 112, 113, 114, 115, 116, 117, 118, 119, 120, 121, 122, 123, 124, 125, 126, 127, 128, 129, 130, 131, 132, 133] rfl (by decide +kernel)
set_option maxRecDepth 20000 in
theorem gX3_takeOut_X2_find_u46X2 : GoodIn wsX3_takeOut (va_wsU RX3 46 RX2 "KeyAtlas$Keyed" ⟨"KeyAtlas$Keyed", "find", "(I)I"⟩ yX2_find wsX2_find) := goodIn_app (goodIn_of _ (by decide +kernel)) ggX3_takeOut_X2_find
theorem dX3_takeOut_2 : decode cX3_takeOut 2 = .ok (.invokevirtual 46, 3) := by decide +kernel
theorem dX3_takeOut_5 : decode cX3_takeOut 5 = .ok (.istore_n 2, 1) := by decide +kernel
theorem dX3_takeOut_6 : decode cX3_takeOut 6 = .ok (.iload_n 2, 1) := by decide +kernel
theorem dX3_takeOut_7 : decode cX3_takeOut 7 = .ok (.ifCond .ge 7, 3) := by decide +kernel
theorem dX3_takeOut_14 : decode cX3_takeOut 14 = .ok (.aload_n 0, 1) := by decide +kernel
theorem dX3_takeOut_15 : decode cX3_takeOut 15 = .ok (.getfield 9, 3) := by decide +kernel
theorem dX3_takeOut_18 : decode cX3_takeOut 18 = .ok (.iload_n 2, 1) := by decide +kernel
set_option maxRecDepth 20000 in
theorem ggX3_takeOut_X5_value : GoodIn wsX3_takeOut wsX5_value := goodIn_r _ [78, 27, 79, 130, 131, 132, 133] rfl (by decide +kernel)
set_option maxRecDepth 20000 in
theorem gX3_takeOut_X5_value : GoodIn wsX3_takeOut (wsV RX3 59 RX5 yX5_value wsX5_value) := goodIn_app (goodIn_of _ (by decide +kernel)) ggX3_takeOut_X5_value
theorem dX3_takeOut_19 : decode cX3_takeOut 19 = .ok (.invokevirtual 59, 3) := by decide +kernel
theorem dX3_takeOut_22 : decode cX3_takeOut 22 = .ok (.istore_n 3, 1) := by decide +kernel
theorem dX3_takeOut_23 : decode cX3_takeOut 23 = .ok (.aload_n 0, 1) := by decide +kernel
theorem dX3_takeOut_24 : decode cX3_takeOut 24 = .ok (.iload_n 2, 1) := by decide +kernel
set_option maxRecDepth 20000 in
theorem ggX3_takeOut_X2_leave : GoodIn wsX3_takeOut wsX2_leave := goodIn_r _ [85, 10, 11, 28, 29, 30, 25, 31, 27, 32, 12, 13, 14, 7, 15, 16, 17, 9, 86, 81, 87, 88, 89, 90, 2, 91, 92, 93, 94, 95, 96, 97, 98, 79, 99, 100, 101, 102, 103, 18, 19, 20, 21, 22, 23, 24, 26, 104, 105, 106, 107, 108, 111, 112, 113, 114, 115, 116, 117, 118, 119, 120, 121, 122, 123, 124, 125, 126, 127, 128, 129, 130, 131, 132, 133] rfl (by decide +kernel)
set_option maxRecDepth 20000 in
theorem gX3_takeOut_X2_leave_u69X2 : GoodIn wsX3_takeOut (va_wsO RX3 69 RX2 "KeyAtlas$Keyed" ⟨"KeyAtlas$Keyed", "leave", "(I)V"⟩ yX2_leave wsX2_leave) := goodIn_app (goodIn_of _ (by decide +kernel)) ggX3_takeOut_X2_leave
theorem dX3_takeOut_25 : decode cX3_takeOut 25 = .ok (.invokevirtual 69, 3) := by decide +kernel
theorem dX3_takeOut_28 : decode cX3_takeOut 28 = .ok (.iload_n 3, 1) := by decide +kernel
theorem dX3_takeOut_29 : decode cX3_takeOut 29 = .ok (.i2l, 1) := by decide +kernel
theorem dX3_takeOut_30 : decode cX3_takeOut 30 = .ok (.lreturn, 1) := by decide +kernel
theorem dX3_takeOut_10 : decode cX3_takeOut 10 = .ok (.ldc2_w 53, 3) := by decide +kernel
theorem dX3_takeOut_13 : decode cX3_takeOut 13 = .ok (.lreturn, 1) := by decide +kernel
theorem dX3_takeAllOut_0 : decode cX3_takeAllOut 0 = .ok (.aload_n 0, 1) := by decide +kernel
set_option maxRecDepth 20000 in
theorem ggX3_takeAllOut_X3_size : GoodIn wsX3_takeAllOut wsX3_size := goodIn_r _ [6, 7, 8, 9, 10, 11, 12, 13, 87, 88, 89, 90, 91, 92, 93, 94, 95, 96, 97, 98, 99, 100, 101, 102, 103, 104, 105, 106, 107, 108, 109] rfl (by decide +kernel)
set_option maxRecDepth 20000 in
theorem gX3_takeAllOut_X3_size_u72X2 : GoodIn wsX3_takeAllOut (va_wsU RX3 72 RX2 "KeyAtlas$Keyed" ⟨"KeyAtlas$Keyed", "size", "()I"⟩ yX3_size wsX3_size) := goodIn_app (goodIn_of _ (by decide +kernel)) ggX3_takeAllOut_X3_size
theorem dX3_takeAllOut_1 : decode cX3_takeAllOut 1 = .ok (.invokevirtual 72, 3) := by decide +kernel
theorem dX3_takeAllOut_4 : decode cX3_takeAllOut 4 = .ok (.istore_n 1, 1) := by decide +kernel
theorem dX3_takeAllOut_5 : decode cX3_takeAllOut 5 = .ok (.aload_n 0, 1) := by decide +kernel
set_option maxRecDepth 20000 in
theorem ggX3_takeAllOut_X2_leaveAll : GoodIn wsX3_takeAllOut wsX2_leaveAll := goodIn_r _ [66, 67, 68, 61, 69, 70, 5, 71, 7, 8, 9, 10, 11, 12, 13, 72, 73, 74, 75, 37, 76, 77, 78, 79, 80, 81, 87, 88, 89, 90, 91, 92, 93, 94, 95, 96, 97, 98, 99, 100, 101, 102, 103, 104, 105, 106, 107, 108, 109] rfl (by decide +kernel)
set_option maxRecDepth 20000 in
theorem gX3_takeAllOut_X2_leaveAll_u73X2 : GoodIn wsX3_takeAllOut (va_wsO RX3 73 RX2 "KeyAtlas$Keyed" ⟨"KeyAtlas$Keyed", "leaveAll", "()V"⟩ yX2_leaveAll wsX2_leaveAll) := goodIn_app (goodIn_of _ (by decide +kernel)) ggX3_takeAllOut_X2_leaveAll
theorem dX3_takeAllOut_6 : decode cX3_takeAllOut 6 = .ok (.invokevirtual 73, 3) := by decide +kernel
theorem dX3_takeAllOut_9 : decode cX3_takeAllOut 9 = .ok (.iload_n 1, 1) := by decide +kernel
theorem dX3_takeAllOut_10 : decode cX3_takeAllOut 10 = .ok (.i2l, 1) := by decide +kernel
theorem dX3_takeAllOut_11 : decode cX3_takeAllOut 11 = .ok (.lreturn, 1) := by decide +kernel
theorem dX3_putIfThere_0 : decode cX3_putIfThere 0 = .ok (.aload_n 0, 1) := by decide +kernel
theorem dX3_putIfThere_1 : decode cX3_putIfThere 1 = .ok (.iload_n 1, 1) := by decide +kernel
set_option maxRecDepth 20000 in
theorem ggX3_putIfThere_X2_find : GoodIn wsX3_putIfThere wsX2_find := goodIn_r _ [7, 8, 9, 10, 11, 12, 13, 6, 14, 15, 16, 17, 18, 19, 20, 21, 22, 23, 24, 25, 26, 27, 28, 29, 30, 31, 112, 113, 114, 115, 116, 117, 118, 119, 120, 121, 122, 123, 124, 125, 126, 127, 128, 129, 130, 131, 132, 133, 134] rfl (by decide +kernel)
set_option maxRecDepth 20000 in
theorem gX3_putIfThere_X2_find_u46X2 : GoodIn wsX3_putIfThere (va_wsU RX3 46 RX2 "KeyAtlas$Keyed" ⟨"KeyAtlas$Keyed", "find", "(I)I"⟩ yX2_find wsX2_find) := goodIn_app (goodIn_of _ (by decide +kernel)) ggX3_putIfThere_X2_find
theorem dX3_putIfThere_2 : decode cX3_putIfThere 2 = .ok (.invokevirtual 46, 3) := by decide +kernel
theorem dX3_putIfThere_5 : decode cX3_putIfThere 5 = .ok (.istore_n 3, 1) := by decide +kernel
theorem dX3_putIfThere_6 : decode cX3_putIfThere 6 = .ok (.iload_n 3, 1) := by decide +kernel
theorem dX3_putIfThere_7 : decode cX3_putIfThere 7 = .ok (.ifCond .ge 9, 3) := by decide +kernel
theorem dX3_putIfThere_16 : decode cX3_putIfThere 16 = .ok (.aload_n 0, 1) := by decide +kernel
theorem dX3_putIfThere_17 : decode cX3_putIfThere 17 = .ok (.iload_n 3, 1) := by decide +kernel
theorem dX3_putIfThere_18 : decode cX3_putIfThere 18 = .ok (.iload_n 2, 1) := by decide +kernel
set_option maxRecDepth 20000 in
theorem ggX3_putIfThere_X3_replace : GoodIn wsX3_putIfThere wsX3_replace := goodIn_r _ [79, 80, 81, 82, 83, 24, 84, 26, 85, 86, 87, 88, 89, 90, 91, 92, 93, 78, 94, 95, 96, 97, 34, 98, 99, 36, 37, 100, 101, 102, 103, 31, 104, 105, 106, 107, 108, 109, 112, 113, 114, 115, 116, 117, 118, 119, 120, 121, 122, 123, 124, 125, 126, 127, 128, 129, 130, 131, 132, 133, 134] rfl (by decide +kernel)
set_option maxRecDepth 20000 in
theorem gX3_putIfThere_X3_replace_u55X2 : GoodIn wsX3_putIfThere (va_wsU RX3 55 RX2 "KeyAtlas$Keyed" ⟨"KeyAtlas$Keyed", "replace", "(II)J"⟩ yX3_replace wsX3_replace) := goodIn_app (goodIn_of _ (by decide +kernel)) ggX3_putIfThere_X3_replace
theorem dX3_putIfThere_19 : decode cX3_putIfThere 19 = .ok (.invokevirtual 55, 3) := by decide +kernel
theorem dX3_putIfThere_22 : decode cX3_putIfThere 22 = .ok (.lreturn, 1) := by decide +kernel
theorem dX3_putIfThere_10 : decode cX3_putIfThere 10 = .ok (.ldc2_w 53, 3) := by decide +kernel
theorem dX3_putIfThere_13 : decode cX3_putIfThere 13 = .ok (.goto 9, 3) := by decide +kernel
theorem dX3_keyOrNone_0 : decode cX3_keyOrNone 0 = .ok (.iload_n 1, 1) := by decide +kernel
theorem dX3_keyOrNone_1 : decode cX3_keyOrNone 1 = .ok (.ifCond .lt 27, 3) := by decide +kernel
theorem dX3_keyOrNone_28 : decode cX3_keyOrNone 28 = .ok (.ldc2_w 53, 3) := by decide +kernel
theorem dX3_keyOrNone_31 : decode cX3_keyOrNone 31 = .ok (.lreturn, 1) := by decide +kernel
theorem dX3_keyOrNone_4 : decode cX3_keyOrNone 4 = .ok (.iload_n 1, 1) := by decide +kernel
theorem dX3_keyOrNone_5 : decode cX3_keyOrNone 5 = .ok (.aload_n 0, 1) := by decide +kernel
set_option maxRecDepth 20000 in
theorem ggX3_keyOrNone_X3_size : GoodIn wsX3_keyOrNone wsX3_size := goodIn_r _ [8, 1, 9, 10, 11, 12, 13, 14, 73, 74, 75, 76, 77, 78, 79, 80, 81, 82, 83, 84, 85, 86, 87, 88, 89, 90, 91, 92, 93, 94, 95] rfl (by decide +kernel)
set_option maxRecDepth 20000 in
theorem gX3_keyOrNone_X3_size_u72X2 : GoodIn wsX3_keyOrNone (va_wsU RX3 72 RX2 "KeyAtlas$Keyed" ⟨"KeyAtlas$Keyed", "size", "()I"⟩ yX3_size wsX3_size) := goodIn_app (goodIn_of _ (by decide +kernel)) ggX3_keyOrNone_X3_size
theorem dX3_keyOrNone_6 : decode cX3_keyOrNone 6 = .ok (.invokevirtual 72, 3) := by decide +kernel
theorem dX3_keyOrNone_9 : decode cX3_keyOrNone 9 = .ok (.if_icmp .ge 19, 3) := by decide +kernel
theorem dX3_keyOrNone_12 : decode cX3_keyOrNone 12 = .ok (.aload_n 0, 1) := by decide +kernel
theorem dX3_keyOrNone_13 : decode cX3_keyOrNone 13 = .ok (.getfield 9, 3) := by decide +kernel
theorem dX3_keyOrNone_16 : decode cX3_keyOrNone 16 = .ok (.aload_n 0, 1) := by decide +kernel
theorem dX3_keyOrNone_17 : decode cX3_keyOrNone 17 = .ok (.iload_n 1, 1) := by decide +kernel
set_option maxRecDepth 20000 in
theorem ggX3_keyOrNone_X3_placeOf : GoodIn wsX3_keyOrNone wsX3_placeOf := goodIn_r _ [65] rfl (by decide +kernel)
set_option maxRecDepth 20000 in
theorem gX3_keyOrNone_X3_placeOf_u77X2 : GoodIn wsX3_keyOrNone (va_wsU RX3 77 RX2 "KeyAtlas$Keyed" ⟨"KeyAtlas$Keyed", "placeOf", "(I)I"⟩ yX3_placeOf wsX3_placeOf) := goodIn_app (goodIn_of _ (by decide +kernel)) ggX3_keyOrNone_X3_placeOf
theorem dX3_keyOrNone_18 : decode cX3_keyOrNone 18 = .ok (.invokevirtual 77, 3) := by decide +kernel
set_option maxRecDepth 20000 in
theorem ggX3_keyOrNone_X5_key : GoodIn wsX3_keyOrNone wsX5_key := goodIn_r _ [37, 14, 38, 92, 93, 94, 95] rfl (by decide +kernel)
set_option maxRecDepth 20000 in
theorem gX3_keyOrNone_X5_key : GoodIn wsX3_keyOrNone (wsV RX3 85 RX5 yX5_key wsX5_key) := goodIn_app (goodIn_of _ (by decide +kernel)) ggX3_keyOrNone_X5_key
theorem dX3_keyOrNone_21 : decode cX3_keyOrNone 21 = .ok (.invokevirtual 85, 3) := by decide +kernel
theorem dX3_keyOrNone_24 : decode cX3_keyOrNone 24 = .ok (.i2l, 1) := by decide +kernel
theorem dX3_keyOrNone_25 : decode cX3_keyOrNone 25 = .ok (.goto 6, 3) := by decide +kernel
set_option maxHeartbeats 4000000 in
set_option maxRecDepth 100000 in
/-- Keyed.replace of H -/
theorem c_X3_replace_H (l : Launch) (hlt : l.stackTraces = false) (dC : Nat → ClassId) (dI : Nat → Nat → Nat) (sz : Nat) (y0 : Nat) (kd : Int32) (wh : Int32) (cap : Nat) (ru : Int32) (tb : Nat) (b0 : Nat) (cb : ClassId) (bf : Nat → Int32) (x0 : Nat) (k0 : Nat) (w0 : Nat) (ck : ClassId) (cw : ClassId) (L : Nat) (f : Nat → Int32) (g : Nat → Int32) (nz : Nat) (ch : Int32) (p0 : Int32) (p1 : Int32) (hH9 : hOK tb L nz cap) : Met l yX3_replace wsX3_replace ({ frames := 3, cells := 0, slots := 0, locals := 130 }) (va_Pc [.ref y0, .int p0, .int p1] (pk_PreX (dC, dI) [(y0, .inr (3, [.ref x0, .int kd, .int wh, .int (nI cap), .int ru, .int (nI tb), .ref b0])), (x0, .inr (5, [.ref k0, .ref w0, .int (nI nz), .int ch])), (k0, .inl (ck, L, .inl f)), (w0, .inl (cw, L, .inl g)), (b0, .inl (cb, tb, .inl bf))] [(ck, .int), (cw, .int), (cb, .boolean)] sz)) (va_Ql (fun (x : Int64) (u : (Nat → Int32) × (Nat → Int32) × Int32) => True) (fun (u : (Nat → Int32) × (Nat → Int32) × Int32) (t : State) => va_P (dC, dI) vwCl [(y0, .inr (3, [.ref x0, .int kd, .int wh, .int (nI cap), .int ru, .int (nI tb), .ref b0])), (x0, .inr (5, [.ref k0, .ref w0, .int (nI nz), .int u.2.2])), (k0, .inl (ck, L, .inl u.1)), (w0, .inl (cw, L, .inl u.2.1)), (b0, .inl (cb, tb, .inl bf))] t.heap ∧ va_K (dC, dI) vwCl [(ck, .int), (cw, .int), (cb, .boolean)] t ∧ va_D (va_A [(y0, .inr (3, [.ref x0, .int kd, .int wh, .int (nI cap), .int ru, .int (nI tb), .ref b0])), (x0, .inr (5, [.ref k0, .ref w0, .int (nI nz), .int ch])), (k0, .inl (ck, L, .inl f)), (w0, .inl (cw, L, .inl g)), (b0, .inl (cb, tb, .inl bf))] sz) [(y0, .inr (3, [.ref x0, .int kd, .int wh, .int (nI cap), .int ru, .int (nI tb), .ref b0])), (x0, .inr (5, [.ref k0, .ref w0, .int (nI nz), .int u.2.2])), (k0, .inl (ck, L, .inl u.1)), (w0, .inl (cw, L, .inl u.2.1)), (b0, .inl (cb, tb, .inl bf))]) (va_A [(y0, .inr (3, [.ref x0, .int kd, .int wh, .int (nI cap), .int ru, .int (nI tb), .ref b0])), (x0, .inr (5, [.ref k0, .ref w0, .int (nI nz), .int ch])), (k0, .inl (ck, L, .inl f)), (w0, .inl (cw, L, .inl g)), (b0, .inl (cb, tb, .inl bf))] sz)) 0 0 (va_A [(y0, .inr (3, [.ref x0, .int kd, .int wh, .int (nI cap), .int ru, .int (nI tb), .ref b0])), (x0, .inr (5, [.ref k0, .ref w0, .int (nI nz), .int ch])), (k0, .inl (ck, L, .inl f)), (w0, .inl (cw, L, .inl g)), (b0, .inl (cb, tb, .inl bf))] sz) := by
  refine Met.ofW (cc := cX3_replace) (maxL := 4) (ret := (some .long)) (by decide) rfl ?_
  intro p e s m args below meth c s₁ B hml hv
  obtain ⟨rfl, hsz, hP, hK, hD0, hN, hZ⟩ := hv
  have hx := B.exec
  have hb := B.bytes
  have hr := B.returns
  have hts := atoms_spec (ws := wsX3_replace) B.pre
  have hown : s.vm.findClass RX3 = some m.cls := findClass_of_methodNamed B.named
  have hlocks := B.notSynchronized
  subst hsz
  have hD := hD0.self (sz := s.heap.size)
  generalize hAe : va_A [(y0, .inr (3, [.ref x0, .int kd, .int wh, .int (nI cap), .int ru, .int (nI tb), .ref b0])), (x0, .inr (5, [.ref k0, .ref w0, .int (nI nz), .int ch])), (k0, .inl (ck, L, .inl f)), (w0, .inl (cw, L, .inl g)), (b0, .inl (cb, tb, .inl bf))] s.heap.size = A at hZ hD ⊢
  have hA : ∀ q : Nat, s.heap.size ≤ q → A q := fun q h => by rw [← hAe]; exact Or.inr h
  have hS : va_S A s.heap s.heap [] := va_S.rf
  have hP : va_P (dC, dI) vwCl [(y0, .inr (3, [.ref x0, .int kd, .int wh, .int (nI cap), .int ru, .int (nI tb), .ref b0])), (x0, .inr (5, [.ref k0, .ref w0, .int (nI nz), .int ch])), (k0, .inl (ck, L, .inl f)), (w0, .inl (cw, L, .inl g)), (b0, .inl (cb, tb, .inl bf))] s.heap := hP
  have hl := lv_entry ([.ref y0, .int p0, .int p1]) (n := 4) (Nat.le_of_ble_eq_true rfl)
  rw [lg_entry_eq]
  generalize (lg_sl ([.ref y0, .int p0, .int p1]) ++ List.replicate (4 - (lg_sl ([.ref y0, .int p0, .int p1])).length) Slot.unset).toArray = ls at hl ⊢
  have hl : lv_has ls 4 [(0, .ref y0), (1, .int p0), (2, .int p1)] := hl
  have hw0_ := hts (.fieldLink RX3 9 "KeyAtlas$Keyed" "rows" "LKeyAtlas$Rows;") (List.mem_of_getElem? (l := wsX3_replace) (i := 1) rfl)
  have hi0_ : ∀ w ∈ u_ws RX2 TX2 7, w ∈ wsX3_replace := fun w h => List.mem_cons_of_mem _ (List.mem_append_left _ (List.mem_append_left _ (List.mem_append_left _ (List.mem_append_right _ h))))
  have hR9 : rOK L nz := hH9.1
  have htb := hOK_tb hH9
  obtain ⟨hL1, hL2, hz1, hz2⟩ := id hR9
  refine lv_aload_n hx hb dX3_replace_0 rfl (lv_at hl 0 rfl) ?_
  refine va_get (D := (dC, dI)) (ci := 3) (v := .ref x0) (C := RX2) (T := TX2) (N := 7) hx hb hts hi0_ hown hK hP 0 rfl rfl 0 (by decide) hw0_ (fun _ h9 => h9) rfl dX3_replace_1 ?_
  refine lv_iload_n hx hb dX3_replace_4 rfl (lv_at hl 1 rfl) ?_
  have hPc := hP.sub (ws' := [(x0, .inr (5, [.ref k0, .ref w0, .int (nI nz), .int ch])), (k0, .inl (ck, L, .inl f)), (w0, .inl (cw, L, .inl g))]) [1, 2, 3] rfl
  have hKc := hK.sub (tys' := [(ck, .int), (cw, .int)]) [0, 1] rfl
  refine ro_calli (va_runV (As := [.int p0]) (rest := []) ⟨hx, hb, hml, hown, hts⟩ (c_X5_value l  dC dI s.heap.size x0 k0 w0 ck cw L f g nz ch p0 hR9) (cwV 1 hts gX3_replace_X5_value rfl rfl rfl (by decide +kernel) ⟨(Nat.le_of_ble_eq_true rfl), (Nat.le_of_ble_eq_true rfl)⟩) ⟨pk_blindR, va_recv hKc hPc (ci := 5) (q0 := 0) rfl rfl, pk_callR hPc hKc⟩ rfl rfl hl.1 rfl (lv_room (Nat.le_of_ble_eq_true rfl)) dX3_replace_5 ⟨(Nat.le_of_ble_eq_true rfl), (Nat.le_of_ble_eq_true rfl)⟩) (fun r_1 ur_1 hw => ?_)
  clear hPc hKc
  try dsimp only at hw
  have jr_1 := hw
  refine W.eq (g2 := F0 m 8 ls [.int r_1]) rfl ?_
  refine lv_istore_n (lv' := [(3, .int r_1), (0, .ref y0), (1, .int p0), (2, .int p1)]) hx hb dX3_replace_8 rfl hl (by decide) rfl (fun ls hl => ?_)
  refine lv_aload_n hx hb dX3_replace_9 rfl (lv_at hl 1 rfl) ?_
  refine va_get (D := (dC, dI)) (ci := 3) (v := .ref x0) (C := RX2) (T := TX2) (N := 7) hx hb hts hi0_ hown hK hP 0 rfl rfl 0 (by decide) hw0_ (fun _ h9 => h9) rfl dX3_replace_10 ?_
  refine lv_iload_n hx hb dX3_replace_13 rfl (lv_at hl 2 rfl) ?_
  refine lv_iload_n hx hb dX3_replace_14 rfl (lv_at hl 3 rfl) ?_
  have hPc := hP.sub (ws' := [(x0, .inr (5, [.ref k0, .ref w0, .int (nI nz), .int ch])), (k0, .inl (ck, L, .inl f)), (w0, .inl (cw, L, .inl g))]) [1, 2, 3] rfl
  have hDc := hD.sub (ws' := [(x0, .inr (5, [.ref k0, .ref w0, .int (nI nz), .int ch])), (k0, .inl (ck, L, .inl f)), (w0, .inl (cw, L, .inl g))]) [1, 2, 3] (by decide) rfl
  have hKc := hK.sub (tys' := [(ck, .int), (cw, .int)]) [0, 1] rfl
  have hFc := va_free (wc := [(x0, .inr (5, [.ref k0, .ref w0, .int (nI nz), .int ch])), (k0, .inl (ck, L, .inl f)), (w0, .inl (cw, L, .inl g))]) hD hS hA [1, 2, 3] rfl
  refine va_callv (va_runV (As := [.int p0, .int p1]) (rest := []) ⟨hx, hb, hml, hown, hts⟩ (c_X5_setValue l  dC dI s.heap.size x0 k0 w0 ck cw L f g nz ch p0 p1 hR9) (cwV 2 hts gX3_replace_X5_setValue rfl rfl rfl (by decide +kernel) ⟨(Nat.le_of_ble_eq_true rfl), (Nat.le_of_ble_eq_true rfl)⟩) ⟨pk_blind, va_recv hKc hPc (ci := 5) (q0 := 0) rfl rfl, pk_call hPc hKc hDc⟩ rfl rfl hl.1 rfl (lv_room (Nat.le_of_ble_eq_true rfl)) dX3_replace_15 ⟨(Nat.le_of_ble_eq_true rfl), (Nat.le_of_ble_eq_true rfl)⟩) hS (fun q _ h => hFc q h) hFc (fun ur_2 t H1 locs ht hvm hw hB hz1 hk1 hS => ?_)
  try dsimp only at hw
  have jr_2 := hw
  obtain ⟨hP1, hK1, hD1⟩ := hB
  rw [ht] at hP1
  have hK1 := va_K.moved hvm.symm hK1
  obtain ⟨hP, hD⟩ := va_join (wr := [(y0, .inr (3, [.ref x0, .int kd, .int wh, .int (nI cap), .int ru, .int (nI tb), .ref b0])), (b0, .inl (cb, tb, .inl bf))]) (w1 := [(x0, .inr (5, [.ref k0, .ref w0, .int (nI nz), .int ch])), (k0, .inl (ck, L, .inl f)), (w0, .inl (cw, L, .inl ur_2))]) hP hD [1, 2, 3] [0, 4] rfl rfl (by decide) (by decide) hk1 hFc hP1 hD1
  clear hk1 hz1 ht hPc hDc hKc hFc
  generalize H1 = H at hP hS ⊢
  replace hP : va_P (dC, dI) vwCl [(y0, .inr (3, [.ref x0, .int kd, .int wh, .int (nI cap), .int ru, .int (nI tb), .ref b0])), (b0, .inl (cb, tb, .inl bf)), (x0, .inr (5, [.ref k0, .ref w0, .int (nI nz), .int ch])), (k0, .inl (ck, L, .inl f)), (w0, .inl (cw, L, .inl ur_2))] H := hP
  replace hD : va_D A [(y0, .inr (3, [.ref x0, .int kd, .int wh, .int (nI cap), .int ru, .int (nI tb), .ref b0])), (b0, .inl (cb, tb, .inl bf)), (x0, .inr (5, [.ref k0, .ref w0, .int (nI nz), .int ch])), (k0, .inl (ck, L, .inl f)), (w0, .inl (cw, L, .inl ur_2))] := hD
  refine W.widen (k := 0) (n := 0) (Nat.le_of_ble_eq_true rfl) (Nat.le_of_ble_eq_true rfl) ?_
  refine W.eq (g2 := F0 m 18 ls []) rfl ?_
  refine lv_aload_n hx hb dX3_replace_18 rfl (lv_at hl 1 rfl) ?_
  refine lv_iload_n hx hb dX3_replace_19 rfl (lv_at hl 2 rfl) ?_
  have hPc := hP.sub (ws' := [(y0, .inr (3, [.ref x0, .int kd, .int wh, .int (nI cap), .int ru, .int (nI tb), .ref b0]))]) [0] rfl
  have hKc := hK.sub (tys' := []) [] rfl
  refine ro_callv (va_runU (As := [.int p0]) (rest := []) ⟨hx, hb, hml, hown, hts⟩ (c_X3_noteUse_H l  dC dI H.size y0 (.ref x0) (.int kd) (.int wh) (.int (nI cap)) (.int ru) (.int (nI tb)) (.ref b0) p0) (va_cwU 1 hts gX3_replace_X3_noteUse_u65X2 rfl rfl rfl rfl (by decide +kernel) ⟨(Nat.le_of_ble_eq_true rfl), (Nat.le_of_ble_eq_true rfl)⟩) ⟨pk_blindR, va_recv hKc hPc (ci := 3) (q0 := 0) rfl rfl, pk_callR hPc hKc⟩ rfl rfl hl.1 rfl (lv_room (Nat.le_of_ble_eq_true rfl)) dX3_replace_20 ⟨(Nat.le_of_ble_eq_true rfl), (Nat.le_of_ble_eq_true rfl)⟩) (fun ur_3 hw => ?_)
  clear hPc hKc
  try dsimp only at hw
  have jr_3 := hw
  refine W.eq (g2 := F0 m 23 ls []) rfl ?_
  refine lv_iload_n hx hb dX3_replace_23 rfl (lv_at hl 0 rfl) ?_
  refine lv_i2l (v := r_1.toInt64) hx hb dX3_replace_24 rfl ?_
  have hP9 := hP.sub (ws' := [(y0, .inr (3, [.ref x0, .int kd, .int wh, .int (nI cap), .int ru, .int (nI tb), .ref b0])), (x0, .inr (5, [.ref k0, .ref w0, .int (nI nz), .int ch])), (k0, .inl (ck, L, .inl f)), (w0, .inl (cw, L, .inl ur_2)), (b0, .inl (cb, tb, .inl bf))]) [0, 2, 3, 4, 1] rfl
  have hD9 := hD.sub (ws' := [(y0, .inr (3, [.ref x0, .int kd, .int wh, .int (nI cap), .int ru, .int (nI tb), .ref b0])), (x0, .inr (5, [.ref k0, .ref w0, .int (nI nz), .int ch])), (k0, .inl (ck, L, .inl f)), (w0, .inl (cw, L, .inl ur_2)), (b0, .inl (cb, tb, .inl bf))]) [0, 2, 3, 4, 1] (by decide) rfl
  have hK9 := hK.sub (tys' := [(ck, .int), (cw, .int), (cb, .boolean)]) [0, 1, 2] rfl
  refine W.widen (k := 0) (n := 0) (Nat.le_of_ble_eq_true rfl) (Nat.le_of_ble_eq_true rfl) ?_
  exact W.lret (v := r_1.toInt64) hx hb hr (fun t ht hW => ⟨⟨r_1.toInt64, (f, ur_2, ch), rfl, trivial, by rw [ht]; exact hP9, va_K.moved hW.alike hK9, hD9⟩, hS.F ht⟩) hS.2.2 dX3_replace_25
set_option maxHeartbeats 4000000 in
set_option maxRecDepth 100000 in
/-- Keyed.get of H -/
theorem c_X3_get_H (l : Launch) (hlt : l.stackTraces = false) (dC : Nat → ClassId) (dI : Nat → Nat → Nat) (sz : Nat) (y0 : Nat) (kd : Int32) (wh : Int32) (cap : Nat) (ru : Int32) (tb : Nat) (b0 : Nat) (cb : ClassId) (bf : Nat → Int32) (x0 : Nat) (k0 : Nat) (w0 : Nat) (ck : ClassId) (cw : ClassId) (L : Nat) (f : Nat → Int32) (g : Nat → Int32) (nz : Nat) (ch : Int32) (p0 : Int32) (hH9 : hOK tb L nz cap) : Met l yX3_get wsX3_get ({ frames := 4, cells := 0, slots := 0, locals := 160 }) (va_Pc [.ref y0, .int p0] (pk_PreX (dC, dI) [(y0, .inr (3, [.ref x0, .int kd, .int wh, .int (nI cap), .int ru, .int (nI tb), .ref b0])), (x0, .inr (5, [.ref k0, .ref w0, .int (nI nz), .int ch])), (k0, .inl (ck, L, .inl f)), (w0, .inl (cw, L, .inl g)), (b0, .inl (cb, tb, .inl bf))] [(ck, .int), (cw, .int), (cb, .boolean)] sz)) (va_Ql (fun (x : Int64) (u : (Nat → Int32) × (Nat → Int32) × Int32) => True) (fun (u : (Nat → Int32) × (Nat → Int32) × Int32) (t : State) => va_P (dC, dI) vwCl [(y0, .inr (3, [.ref x0, .int kd, .int wh, .int (nI cap), .int ru, .int (nI tb), .ref b0])), (x0, .inr (5, [.ref k0, .ref w0, .int (nI nz), .int u.2.2])), (k0, .inl (ck, L, .inl u.1)), (w0, .inl (cw, L, .inl u.2.1)), (b0, .inl (cb, tb, .inl bf))] t.heap ∧ va_K (dC, dI) vwCl [(ck, .int), (cw, .int), (cb, .boolean)] t ∧ va_D (va_A [(y0, .inr (3, [.ref x0, .int kd, .int wh, .int (nI cap), .int ru, .int (nI tb), .ref b0])), (x0, .inr (5, [.ref k0, .ref w0, .int (nI nz), .int ch])), (k0, .inl (ck, L, .inl f)), (w0, .inl (cw, L, .inl g)), (b0, .inl (cb, tb, .inl bf))] sz) [(y0, .inr (3, [.ref x0, .int kd, .int wh, .int (nI cap), .int ru, .int (nI tb), .ref b0])), (x0, .inr (5, [.ref k0, .ref w0, .int (nI nz), .int u.2.2])), (k0, .inl (ck, L, .inl u.1)), (w0, .inl (cw, L, .inl u.2.1)), (b0, .inl (cb, tb, .inl bf))]) (va_A [(y0, .inr (3, [.ref x0, .int kd, .int wh, .int (nI cap), .int ru, .int (nI tb), .ref b0])), (x0, .inr (5, [.ref k0, .ref w0, .int (nI nz), .int ch])), (k0, .inl (ck, L, .inl f)), (w0, .inl (cw, L, .inl g)), (b0, .inl (cb, tb, .inl bf))] sz)) 0 0 (va_A [(y0, .inr (3, [.ref x0, .int kd, .int wh, .int (nI cap), .int ru, .int (nI tb), .ref b0])), (x0, .inr (5, [.ref k0, .ref w0, .int (nI nz), .int ch])), (k0, .inl (ck, L, .inl f)), (w0, .inl (cw, L, .inl g)), (b0, .inl (cb, tb, .inl bf))] sz) := by
  refine Met.ofW (cc := cX3_get) (maxL := 4) (ret := (some .long)) (by decide) rfl ?_
  intro p e s m args below meth c s₁ B hml hv
  obtain ⟨rfl, hsz, hP, hK, hD0, hN, hZ⟩ := hv
  have hx := B.exec
  have hb := B.bytes
  have hr := B.returns
  have hts := atoms_spec (ws := wsX3_get) B.pre
  have hown : s.vm.findClass RX3 = some m.cls := findClass_of_methodNamed B.named
  have hlocks := B.notSynchronized
  subst hsz
  have hD := hD0.self (sz := s.heap.size)
  generalize hAe : va_A [(y0, .inr (3, [.ref x0, .int kd, .int wh, .int (nI cap), .int ru, .int (nI tb), .ref b0])), (x0, .inr (5, [.ref k0, .ref w0, .int (nI nz), .int ch])), (k0, .inl (ck, L, .inl f)), (w0, .inl (cw, L, .inl g)), (b0, .inl (cb, tb, .inl bf))] s.heap.size = A at hZ hD ⊢
  have hA : ∀ q : Nat, s.heap.size ≤ q → A q := fun q h => by rw [← hAe]; exact Or.inr h
  have hS : va_S A s.heap s.heap [] := va_S.rf
  have hP : va_P (dC, dI) vwCl [(y0, .inr (3, [.ref x0, .int kd, .int wh, .int (nI cap), .int ru, .int (nI tb), .ref b0])), (x0, .inr (5, [.ref k0, .ref w0, .int (nI nz), .int ch])), (k0, .inl (ck, L, .inl f)), (w0, .inl (cw, L, .inl g)), (b0, .inl (cb, tb, .inl bf))] s.heap := hP
  have hl := lv_entry ([.ref y0, .int p0]) (n := 4) (Nat.le_of_ble_eq_true rfl)
  rw [lg_entry_eq]
  generalize (lg_sl ([.ref y0, .int p0]) ++ List.replicate (4 - (lg_sl ([.ref y0, .int p0])).length) Slot.unset).toArray = ls at hl ⊢
  have hl : lv_has ls 4 [(0, .ref y0), (1, .int p0)] := hl
  have hw0_ := hts (.fieldLink RX3 9 "KeyAtlas$Keyed" "rows" "LKeyAtlas$Rows;") (List.mem_of_getElem? (l := wsX3_get) (i := 2) rfl)
  have hw1_ := hts (.constantLong RX3 53 (1099511627776)) (List.mem_of_getElem? (l := wsX3_get) (i := 1) rfl)
  have hi0_ : ∀ w ∈ u_ws RX2 TX2 7, w ∈ wsX3_get := fun w h => List.mem_cons_of_mem _ (List.mem_append_left _ (List.mem_append_left _ (List.mem_append_left _ (List.mem_append_right _ h))))
  have hR9 : rOK L nz := hH9.1
  have htb := hOK_tb hH9
  obtain ⟨hL1, hL2, hz1, hz2⟩ := id hR9
  refine lv_aload_n hx hb dX3_get_0 rfl (lv_at hl 0 rfl) ?_
  refine lv_iload_n hx hb dX3_get_1 rfl (lv_at hl 1 rfl) ?_
  have hPc := hP.sub (ws' := [(y0, .inr (3, [.ref x0, .int kd, .int wh, .int (nI cap), .int ru, .int (nI tb), .ref b0])), (x0, .inr (5, [.ref k0, .ref w0, .int (nI nz), .int ch])), (k0, .inl (ck, L, .inl f)), (w0, .inl (cw, L, .inl g)), (b0, .inl (cb, tb, .inl bf))]) [0, 1, 2, 3, 4] rfl
  have hKc := hK.sub (tys' := [(ck, .int), (cw, .int), (cb, .boolean)]) [0, 1, 2] rfl
  refine ro_calli (va_runU (As := [.int p0]) (rest := []) ⟨hx, hb, hml, hown, hts⟩ (c_X2_find l  dC dI s.heap.size y0 kd wh cap ru tb b0 cb bf x0 k0 w0 ck cw L f g nz ch p0 hR9 htb) (va_cwA 1 hts gX3_get_X2_find_u46X2 rfl rfl rfl (hN.xw _ (List.mem_of_getElem? (l := p_xw) (i := 0) rfl)) (by decide +kernel) ⟨(Nat.le_of_ble_eq_true rfl), (Nat.le_of_ble_eq_true rfl)⟩) ⟨pk_blindR, va_recv hKc hPc (ci := 3) (q0 := 0) rfl rfl, pk_callR hPc hKc⟩ rfl rfl hl.1 rfl (lv_room (Nat.le_of_ble_eq_true rfl)) dX3_get_2 ⟨(Nat.le_of_ble_eq_true rfl), (Nat.le_of_ble_eq_true rfl)⟩) (fun r_1 ur_1 hw => ?_)
  clear hPc hKc
  try dsimp only at hw
  have jr_1 := hw
  refine W.eq (g2 := F0 m 5 ls [.int r_1]) rfl ?_
  refine lv_istore_n (lv' := [(2, .int r_1), (0, .ref y0), (1, .int p0)]) hx hb dX3_get_5 rfl hl (by decide) rfl (fun ls hl => ?_)
  refine lv_iload_n hx hb dX3_get_6 rfl (lv_at hl 0 rfl) ?_
  refine lv_if_ge (tgt := 14) hx hb dX3_get_7 (by decide) (fun c_2 => ?_) (fun c_2 => ?_)
  ·
    have ic_2 : 0 ≤ r_1.toInt := tx_le (by decide) rfl c_2
    refine lv_aload_n hx hb dX3_get_14 rfl (lv_at hl 1 rfl) ?_
    refine va_get (D := (dC, dI)) (ci := 3) (v := .ref x0) (C := RX2) (T := TX2) (N := 7) hx hb hts hi0_ hown hK hP 0 rfl rfl 0 (by decide) hw0_ (fun _ h9 => h9) rfl dX3_get_15 ?_
    refine lv_iload_n hx hb dX3_get_18 rfl (lv_at hl 0 rfl) ?_
    have hPc := hP.sub (ws' := [(x0, .inr (5, [.ref k0, .ref w0, .int (nI nz), .int ch])), (k0, .inl (ck, L, .inl f)), (w0, .inl (cw, L, .inl g))]) [1, 2, 3] rfl
    have hKc := hK.sub (tys' := [(ck, .int), (cw, .int)]) [0, 1] rfl
    refine ro_calli (va_runV (As := [.int r_1]) (rest := []) ⟨hx, hb, hml, hown, hts⟩ (c_X5_value l  dC dI s.heap.size x0 k0 w0 ck cw L f g nz ch r_1 hR9) (cwV 1 hts gX3_get_X5_value rfl rfl rfl (by decide +kernel) ⟨(Nat.le_of_ble_eq_true rfl), (Nat.le_of_ble_eq_true rfl)⟩) ⟨pk_blindR, va_recv hKc hPc (ci := 5) (q0 := 0) rfl rfl, pk_callR hPc hKc⟩ rfl rfl hl.1 rfl (lv_room (Nat.le_of_ble_eq_true rfl)) dX3_get_19 ⟨(Nat.le_of_ble_eq_true rfl), (Nat.le_of_ble_eq_true rfl)⟩) (fun r_3 ur_3 hw => ?_)
    clear hPc hKc
    try dsimp only at hw
    have jr_3 := hw
    refine W.eq (g2 := F0 m 22 ls [.int r_3]) rfl ?_
    refine lv_istore_n (lv' := [(3, .int r_3), (2, .int r_1), (0, .ref y0), (1, .int p0)]) hx hb dX3_get_22 rfl hl (by decide) rfl (fun ls hl => ?_)
    refine lv_aload_n hx hb dX3_get_23 rfl (lv_at hl 2 rfl) ?_
    refine lv_iload_n hx hb dX3_get_24 rfl (lv_at hl 1 rfl) ?_
    have hPc := hP.sub (ws' := [(y0, .inr (3, [.ref x0, .int kd, .int wh, .int (nI cap), .int ru, .int (nI tb), .ref b0]))]) [0] rfl
    have hKc := hK.sub (tys' := []) [] rfl
    refine ro_callv (va_runU (As := [.int r_1]) (rest := []) ⟨hx, hb, hml, hown, hts⟩ (c_X3_noteUse_H l  dC dI s.heap.size y0 (.ref x0) (.int kd) (.int wh) (.int (nI cap)) (.int ru) (.int (nI tb)) (.ref b0) r_1) (va_cwU 1 hts gX3_get_X3_noteUse_u65X2 rfl rfl rfl rfl (by decide +kernel) ⟨(Nat.le_of_ble_eq_true rfl), (Nat.le_of_ble_eq_true rfl)⟩) ⟨pk_blindR, va_recv hKc hPc (ci := 3) (q0 := 0) rfl rfl, pk_callR hPc hKc⟩ rfl rfl hl.1 rfl (lv_room (Nat.le_of_ble_eq_true rfl)) dX3_get_25 ⟨(Nat.le_of_ble_eq_true rfl), (Nat.le_of_ble_eq_true rfl)⟩) (fun ur_4 hw => ?_)
    clear hPc hKc
    try dsimp only at hw
    have jr_4 := hw
    refine W.eq (g2 := F0 m 28 ls []) rfl ?_
    refine lv_iload_n hx hb dX3_get_28 rfl (lv_at hl 0 rfl) ?_
    refine lv_i2l (v := r_3.toInt64) hx hb dX3_get_29 rfl ?_
    have hP9 := hP.sub (ws' := [(y0, .inr (3, [.ref x0, .int kd, .int wh, .int (nI cap), .int ru, .int (nI tb), .ref b0])), (x0, .inr (5, [.ref k0, .ref w0, .int (nI nz), .int ch])), (k0, .inl (ck, L, .inl f)), (w0, .inl (cw, L, .inl g)), (b0, .inl (cb, tb, .inl bf))]) [0, 1, 2, 3, 4] rfl
    have hD9 := hD.sub (ws' := [(y0, .inr (3, [.ref x0, .int kd, .int wh, .int (nI cap), .int ru, .int (nI tb), .ref b0])), (x0, .inr (5, [.ref k0, .ref w0, .int (nI nz), .int ch])), (k0, .inl (ck, L, .inl f)), (w0, .inl (cw, L, .inl g)), (b0, .inl (cb, tb, .inl bf))]) [0, 1, 2, 3, 4] (by decide) rfl
    have hK9 := hK.sub (tys' := [(ck, .int), (cw, .int), (cb, .boolean)]) [0, 1, 2] rfl
    refine W.widen (k := 0) (n := 0) (Nat.le_of_ble_eq_true rfl) (Nat.le_of_ble_eq_true rfl) ?_
    exact W.lret (v := r_3.toInt64) hx hb hr (fun t ht hW => ⟨⟨r_3.toInt64, (f, g, ch), rfl, trivial, by rw [ht]; exact hP9, va_K.moved hW.alike hK9, hD9⟩, hS.F ht⟩) hS.2.2 dX3_get_30
  ·
    have ic_2 : r_1.toInt < 0 := tx_nle (by decide) rfl c_2
    refine lv_ldc2 (v := 1099511627776) hx hb hown hw1_ dX3_get_10 ?_
    have hP9 := hP.sub (ws' := [(y0, .inr (3, [.ref x0, .int kd, .int wh, .int (nI cap), .int ru, .int (nI tb), .ref b0])), (x0, .inr (5, [.ref k0, .ref w0, .int (nI nz), .int ch])), (k0, .inl (ck, L, .inl f)), (w0, .inl (cw, L, .inl g)), (b0, .inl (cb, tb, .inl bf))]) [0, 1, 2, 3, 4] rfl
    have hD9 := hD.sub (ws' := [(y0, .inr (3, [.ref x0, .int kd, .int wh, .int (nI cap), .int ru, .int (nI tb), .ref b0])), (x0, .inr (5, [.ref k0, .ref w0, .int (nI nz), .int ch])), (k0, .inl (ck, L, .inl f)), (w0, .inl (cw, L, .inl g)), (b0, .inl (cb, tb, .inl bf))]) [0, 1, 2, 3, 4] (by decide) rfl
    have hK9 := hK.sub (tys' := [(ck, .int), (cw, .int), (cb, .boolean)]) [0, 1, 2] rfl
    refine W.widen (k := 0) (n := 0) (Nat.le_of_ble_eq_true rfl) (Nat.le_of_ble_eq_true rfl) ?_
    exact W.lret (v := 1099511627776) hx hb hr (fun t ht hW => ⟨⟨1099511627776, (f, g, ch), rfl, trivial, by rw [ht]; exact hP9, va_K.moved hW.alike hK9, hD9⟩, hS.F ht⟩) hS.2.2 dX3_get_13
set_option maxHeartbeats 4000000 in
set_option maxRecDepth 100000 in
/-- Keyed.takeOut of H -/
theorem c_X3_takeOut_H (l : Launch) (hlt : l.stackTraces = false) (dC : Nat → ClassId) (dI : Nat → Nat → Nat) (sz : Nat) (y0 : Nat) (kd : Int32) (wh : Int32) (cap : Nat) (ru : Int32) (tb : Nat) (b0 : Nat) (cb : ClassId) (bf : Nat → Int32) (x0 : Nat) (k0 : Nat) (w0 : Nat) (ck : ClassId) (cw : ClassId) (L : Nat) (f : Nat → Int32) (g : Nat → Int32) (nz : Nat) (ch : Int32) (p0 : Int32) (hH9 : hOK tb L nz cap) : Met l yX3_takeOut wsX3_takeOut ({ frames := 5, cells := 0, slots := 0, locals := 230 }) (va_Pc [.ref y0, .int p0] (pk_PreX (dC, dI) [(y0, .inr (3, [.ref x0, .int kd, .int wh, .int (nI cap), .int ru, .int (nI tb), .ref b0])), (x0, .inr (5, [.ref k0, .ref w0, .int (nI nz), .int ch])), (k0, .inl (ck, L, .inl f)), (w0, .inl (cw, L, .inl g)), (b0, .inl (cb, tb, .inl bf))] [(ck, .int), (cw, .int), (cb, .boolean)] sz)) (va_Ql (fun (x : Int64) (u : (Nat → Int32) × (Nat → Int32) × Nat × Int32 × (Nat → Int32)) => u.2.2.1 ≤ nz) (fun (u : (Nat → Int32) × (Nat → Int32) × Nat × Int32 × (Nat → Int32)) (t : State) => va_P (dC, dI) vwCl [(y0, .inr (3, [.ref x0, .int kd, .int wh, .int (nI cap), .int ru, .int (nI tb), .ref b0])), (x0, .inr (5, [.ref k0, .ref w0, .int (nI (u.2.2.1)), .int u.2.2.2.1])), (k0, .inl (ck, L, .inl u.1)), (w0, .inl (cw, L, .inl u.2.1)), (b0, .inl (cb, tb, .inl u.2.2.2.2))] t.heap ∧ va_K (dC, dI) vwCl [(ck, .int), (cw, .int), (cb, .boolean)] t ∧ va_D (va_A [(y0, .inr (3, [.ref x0, .int kd, .int wh, .int (nI cap), .int ru, .int (nI tb), .ref b0])), (x0, .inr (5, [.ref k0, .ref w0, .int (nI nz), .int ch])), (k0, .inl (ck, L, .inl f)), (w0, .inl (cw, L, .inl g)), (b0, .inl (cb, tb, .inl bf))] sz) [(y0, .inr (3, [.ref x0, .int kd, .int wh, .int (nI cap), .int ru, .int (nI tb), .ref b0])), (x0, .inr (5, [.ref k0, .ref w0, .int (nI (u.2.2.1)), .int u.2.2.2.1])), (k0, .inl (ck, L, .inl u.1)), (w0, .inl (cw, L, .inl u.2.1)), (b0, .inl (cb, tb, .inl u.2.2.2.2))]) (va_A [(y0, .inr (3, [.ref x0, .int kd, .int wh, .int (nI cap), .int ru, .int (nI tb), .ref b0])), (x0, .inr (5, [.ref k0, .ref w0, .int (nI nz), .int ch])), (k0, .inl (ck, L, .inl f)), (w0, .inl (cw, L, .inl g)), (b0, .inl (cb, tb, .inl bf))] sz)) 0 0 (va_A [(y0, .inr (3, [.ref x0, .int kd, .int wh, .int (nI cap), .int ru, .int (nI tb), .ref b0])), (x0, .inr (5, [.ref k0, .ref w0, .int (nI nz), .int ch])), (k0, .inl (ck, L, .inl f)), (w0, .inl (cw, L, .inl g)), (b0, .inl (cb, tb, .inl bf))] sz) := by
  refine Met.ofW (cc := cX3_takeOut) (maxL := 4) (ret := (some .long)) (by decide) rfl ?_
  intro p e s m args below meth c s₁ B hml hv
  obtain ⟨rfl, hsz, hP, hK, hD0, hN, hZ⟩ := hv
  have hx := B.exec
  have hb := B.bytes
  have hr := B.returns
  have hts := atoms_spec (ws := wsX3_takeOut) B.pre
  have hown : s.vm.findClass RX3 = some m.cls := findClass_of_methodNamed B.named
  have hlocks := B.notSynchronized
  subst hsz
  have hD := hD0.self (sz := s.heap.size)
  generalize hAe : va_A [(y0, .inr (3, [.ref x0, .int kd, .int wh, .int (nI cap), .int ru, .int (nI tb), .ref b0])), (x0, .inr (5, [.ref k0, .ref w0, .int (nI nz), .int ch])), (k0, .inl (ck, L, .inl f)), (w0, .inl (cw, L, .inl g)), (b0, .inl (cb, tb, .inl bf))] s.heap.size = A at hZ hD ⊢
  have hA : ∀ q : Nat, s.heap.size ≤ q → A q := fun q h => by rw [← hAe]; exact Or.inr h
  have hS : va_S A s.heap s.heap [] := va_S.rf
  have hP : va_P (dC, dI) vwCl [(y0, .inr (3, [.ref x0, .int kd, .int wh, .int (nI cap), .int ru, .int (nI tb), .ref b0])), (x0, .inr (5, [.ref k0, .ref w0, .int (nI nz), .int ch])), (k0, .inl (ck, L, .inl f)), (w0, .inl (cw, L, .inl g)), (b0, .inl (cb, tb, .inl bf))] s.heap := hP
  have hl := lv_entry ([.ref y0, .int p0]) (n := 4) (Nat.le_of_ble_eq_true rfl)
  rw [lg_entry_eq]
  generalize (lg_sl ([.ref y0, .int p0]) ++ List.replicate (4 - (lg_sl ([.ref y0, .int p0])).length) Slot.unset).toArray = ls at hl ⊢
  have hl : lv_has ls 4 [(0, .ref y0), (1, .int p0)] := hl
  have hw0_ := hts (.fieldLink RX3 9 "KeyAtlas$Keyed" "rows" "LKeyAtlas$Rows;") (List.mem_of_getElem? (l := wsX3_takeOut) (i := 2) rfl)
  have hw1_ := hts (.constantLong RX3 53 (1099511627776)) (List.mem_of_getElem? (l := wsX3_takeOut) (i := 1) rfl)
  have hi0_ : ∀ w ∈ u_ws RX2 TX2 7, w ∈ wsX3_takeOut := fun w h => List.mem_cons_of_mem _ (List.mem_append_left _ (List.mem_append_left _ (List.mem_append_left _ (List.mem_append_right _ h))))
  have hR9 : rOK L nz := hH9.1
  have htb := hOK_tb hH9
  obtain ⟨hL1, hL2, hz1, hz2⟩ := id hR9
  refine lv_aload_n hx hb dX3_takeOut_0 rfl (lv_at hl 0 rfl) ?_
  refine lv_iload_n hx hb dX3_takeOut_1 rfl (lv_at hl 1 rfl) ?_
  have hPc := hP.sub (ws' := [(y0, .inr (3, [.ref x0, .int kd, .int wh, .int (nI cap), .int ru, .int (nI tb), .ref b0])), (x0, .inr (5, [.ref k0, .ref w0, .int (nI nz), .int ch])), (k0, .inl (ck, L, .inl f)), (w0, .inl (cw, L, .inl g)), (b0, .inl (cb, tb, .inl bf))]) [0, 1, 2, 3, 4] rfl
  have hKc := hK.sub (tys' := [(ck, .int), (cw, .int), (cb, .boolean)]) [0, 1, 2] rfl
  refine ro_calli (va_runU (As := [.int p0]) (rest := []) ⟨hx, hb, hml, hown, hts⟩ (c_X2_find l  dC dI s.heap.size y0 kd wh cap ru tb b0 cb bf x0 k0 w0 ck cw L f g nz ch p0 hR9 htb) (va_cwA 1 hts gX3_takeOut_X2_find_u46X2 rfl rfl rfl (hN.xw _ (List.mem_of_getElem? (l := p_xw) (i := 0) rfl)) (by decide +kernel) ⟨(Nat.le_of_ble_eq_true rfl), (Nat.le_of_ble_eq_true rfl)⟩) ⟨pk_blindR, va_recv hKc hPc (ci := 3) (q0 := 0) rfl rfl, pk_callR hPc hKc⟩ rfl rfl hl.1 rfl (lv_room (Nat.le_of_ble_eq_true rfl)) dX3_takeOut_2 ⟨(Nat.le_of_ble_eq_true rfl), (Nat.le_of_ble_eq_true rfl)⟩) (fun r_1 ur_1 hw => ?_)
  clear hPc hKc
  try dsimp only at hw
  have jr_1 := hw
  refine W.eq (g2 := F0 m 5 ls [.int r_1]) rfl ?_
  refine lv_istore_n (lv' := [(2, .int r_1), (0, .ref y0), (1, .int p0)]) hx hb dX3_takeOut_5 rfl hl (by decide) rfl (fun ls hl => ?_)
  refine lv_iload_n hx hb dX3_takeOut_6 rfl (lv_at hl 0 rfl) ?_
  refine lv_if_ge (tgt := 14) hx hb dX3_takeOut_7 (by decide) (fun c_2 => ?_) (fun c_2 => ?_)
  ·
    have ic_2 : 0 ≤ r_1.toInt := tx_le (by decide) rfl c_2
    refine lv_aload_n hx hb dX3_takeOut_14 rfl (lv_at hl 1 rfl) ?_
    refine va_get (D := (dC, dI)) (ci := 3) (v := .ref x0) (C := RX2) (T := TX2) (N := 7) hx hb hts hi0_ hown hK hP 0 rfl rfl 0 (by decide) hw0_ (fun _ h9 => h9) rfl dX3_takeOut_15 ?_
    refine lv_iload_n hx hb dX3_takeOut_18 rfl (lv_at hl 0 rfl) ?_
    have hPc := hP.sub (ws' := [(x0, .inr (5, [.ref k0, .ref w0, .int (nI nz), .int ch])), (k0, .inl (ck, L, .inl f)), (w0, .inl (cw, L, .inl g))]) [1, 2, 3] rfl
    have hKc := hK.sub (tys' := [(ck, .int), (cw, .int)]) [0, 1] rfl
    refine ro_calli (va_runV (As := [.int r_1]) (rest := []) ⟨hx, hb, hml, hown, hts⟩ (c_X5_value l  dC dI s.heap.size x0 k0 w0 ck cw L f g nz ch r_1 hR9) (cwV 1 hts gX3_takeOut_X5_value rfl rfl rfl (by decide +kernel) ⟨(Nat.le_of_ble_eq_true rfl), (Nat.le_of_ble_eq_true rfl)⟩) ⟨pk_blindR, va_recv hKc hPc (ci := 5) (q0 := 0) rfl rfl, pk_callR hPc hKc⟩ rfl rfl hl.1 rfl (lv_room (Nat.le_of_ble_eq_true rfl)) dX3_takeOut_19 ⟨(Nat.le_of_ble_eq_true rfl), (Nat.le_of_ble_eq_true rfl)⟩) (fun r_3 ur_3 hw => ?_)
    clear hPc hKc
    try dsimp only at hw
    have jr_3 := hw
    refine W.eq (g2 := F0 m 22 ls [.int r_3]) rfl ?_
    refine lv_istore_n (lv' := [(3, .int r_3), (2, .int r_1), (0, .ref y0), (1, .int p0)]) hx hb dX3_takeOut_22 rfl hl (by decide) rfl (fun ls hl => ?_)
    refine lv_aload_n hx hb dX3_takeOut_23 rfl (lv_at hl 2 rfl) ?_
    refine lv_iload_n hx hb dX3_takeOut_24 rfl (lv_at hl 1 rfl) ?_
    have hPc := hP.sub (ws' := [(y0, .inr (3, [.ref x0, .int kd, .int wh, .int (nI cap), .int ru, .int (nI tb), .ref b0])), (x0, .inr (5, [.ref k0, .ref w0, .int (nI nz), .int ch])), (k0, .inl (ck, L, .inl f)), (w0, .inl (cw, L, .inl g)), (b0, .inl (cb, tb, .inl bf))]) [0, 1, 2, 3, 4] rfl
    have hDc := hD.sub (ws' := [(y0, .inr (3, [.ref x0, .int kd, .int wh, .int (nI cap), .int ru, .int (nI tb), .ref b0])), (x0, .inr (5, [.ref k0, .ref w0, .int (nI nz), .int ch])), (k0, .inl (ck, L, .inl f)), (w0, .inl (cw, L, .inl g)), (b0, .inl (cb, tb, .inl bf))]) [0, 1, 2, 3, 4] (by decide) rfl
    have hKc := hK.sub (tys' := [(ck, .int), (cw, .int), (cb, .boolean)]) [0, 1, 2] rfl
    have hFc := va_free (wc := [(y0, .inr (3, [.ref x0, .int kd, .int wh, .int (nI cap), .int ru, .int (nI tb), .ref b0])), (x0, .inr (5, [.ref k0, .ref w0, .int (nI nz), .int ch])), (k0, .inl (ck, L, .inl f)), (w0, .inl (cw, L, .inl g)), (b0, .inl (cb, tb, .inl bf))]) hD hS hA [0, 1, 2, 3, 4] rfl
    refine va_callv (va_runU (As := [.int r_1]) (rest := []) ⟨hx, hb, hml, hown, hts⟩ (c_X2_leave l  dC dI s.heap.size y0 kd wh cap ru tb b0 cb bf x0 k0 w0 ck cw L f g nz ch r_1 hH9) (va_cwO 1 hts gX3_takeOut_X2_leave_u69X2 rfl rfl rfl (List.mem_of_getElem? (l := wsX3_takeOut) (i := 90) rfl) (by decide +kernel) ⟨(Nat.le_of_ble_eq_true rfl), (Nat.le_of_ble_eq_true rfl)⟩) ⟨pk_blind, va_recv hKc hPc (ci := 3) (q0 := 0) rfl rfl, pk_call hPc hKc hDc⟩ rfl rfl hl.1 rfl (lv_room (Nat.le_of_ble_eq_true rfl)) dX3_takeOut_25 ⟨(Nat.le_of_ble_eq_true rfl), (Nat.le_of_ble_eq_true rfl)⟩) hS (fun q _ h => hFc q h) hFc (fun ur_4 t H1 locs ht hvm hw hB hz1 hk1 hS => ?_)
    try dsimp only at hw
    have jr_4 := hw
    obtain ⟨hP1, hK1, hD1⟩ := hB
    rw [ht] at hP1
    have hK1 := va_K.moved hvm.symm hK1
    obtain ⟨hP, hD⟩ := va_join (wr := []) (w1 := [(y0, .inr (3, [.ref x0, .int kd, .int wh, .int (nI cap), .int ru, .int (nI tb), .ref b0])), (x0, .inr (5, [.ref k0, .ref w0, .int (nI (ur_4.2.2.1)), .int ur_4.2.2.2.1])), (k0, .inl (ck, L, .inl ur_4.1)), (w0, .inl (cw, L, .inl ur_4.2.1)), (b0, .inl (cb, tb, .inl ur_4.2.2.2.2))]) hP hD [0, 1, 2, 3, 4] [] rfl rfl (by decide) (by decide) hk1 hFc hP1 hD1
    clear hk1 hz1 ht hPc hDc hKc hFc
    generalize H1 = H at hP hS ⊢
    replace hP : va_P (dC, dI) vwCl [(y0, .inr (3, [.ref x0, .int kd, .int wh, .int (nI cap), .int ru, .int (nI tb), .ref b0])), (x0, .inr (5, [.ref k0, .ref w0, .int (nI (ur_4.2.2.1)), .int ur_4.2.2.2.1])), (k0, .inl (ck, L, .inl ur_4.1)), (w0, .inl (cw, L, .inl ur_4.2.1)), (b0, .inl (cb, tb, .inl ur_4.2.2.2.2))] H := hP
    replace hD : va_D A [(y0, .inr (3, [.ref x0, .int kd, .int wh, .int (nI cap), .int ru, .int (nI tb), .ref b0])), (x0, .inr (5, [.ref k0, .ref w0, .int (nI (ur_4.2.2.1)), .int ur_4.2.2.2.1])), (k0, .inl (ck, L, .inl ur_4.1)), (w0, .inl (cw, L, .inl ur_4.2.1)), (b0, .inl (cb, tb, .inl ur_4.2.2.2.2))] := hD
    refine W.widen (k := 0) (n := 0) (Nat.le_of_ble_eq_true rfl) (Nat.le_of_ble_eq_true rfl) ?_
    refine W.eq (g2 := F0 m 28 ls []) rfl ?_
    have hH9 : hOK tb L (ur_4.2.2.1) cap := hOK_le hH9 jr_4
    have hR9 : rOK L (ur_4.2.2.1) := hH9.1
    refine lv_iload_n hx hb dX3_takeOut_28 rfl (lv_at hl 0 rfl) ?_
    refine lv_i2l (v := r_3.toInt64) hx hb dX3_takeOut_29 rfl ?_
    have hpost : ur_4.2.2.1 ≤ nz := by omega
    have hP9 := hP.sub (ws' := [(y0, .inr (3, [.ref x0, .int kd, .int wh, .int (nI cap), .int ru, .int (nI tb), .ref b0])), (x0, .inr (5, [.ref k0, .ref w0, .int (nI (ur_4.2.2.1)), .int ur_4.2.2.2.1])), (k0, .inl (ck, L, .inl ur_4.1)), (w0, .inl (cw, L, .inl ur_4.2.1)), (b0, .inl (cb, tb, .inl ur_4.2.2.2.2))]) [0, 1, 2, 3, 4] rfl
    have hD9 := hD.sub (ws' := [(y0, .inr (3, [.ref x0, .int kd, .int wh, .int (nI cap), .int ru, .int (nI tb), .ref b0])), (x0, .inr (5, [.ref k0, .ref w0, .int (nI (ur_4.2.2.1)), .int ur_4.2.2.2.1])), (k0, .inl (ck, L, .inl ur_4.1)), (w0, .inl (cw, L, .inl ur_4.2.1)), (b0, .inl (cb, tb, .inl ur_4.2.2.2.2))]) [0, 1, 2, 3, 4] (by decide) rfl
    have hK9 := hK.sub (tys' := [(ck, .int), (cw, .int), (cb, .boolean)]) [0, 1, 2] rfl
    refine W.widen (k := 0) (n := 0) (Nat.le_of_ble_eq_true rfl) (Nat.le_of_ble_eq_true rfl) ?_
    exact W.lret (v := r_3.toInt64) hx hb hr (fun t ht hW => ⟨⟨r_3.toInt64, (ur_4.1, ur_4.2.1, ur_4.2.2.1, ur_4.2.2.2.1, ur_4.2.2.2.2), rfl, hpost, by rw [ht]; exact hP9, va_K.moved hW.alike hK9, hD9⟩, hS.F ht⟩) hS.2.2 dX3_takeOut_30
  ·
    have ic_2 : r_1.toInt < 0 := tx_nle (by decide) rfl c_2
    refine lv_ldc2 (v := 1099511627776) hx hb hown hw1_ dX3_takeOut_10 ?_
    have hpost : nz ≤ nz := by omega
    have hP9 := hP.sub (ws' := [(y0, .inr (3, [.ref x0, .int kd, .int wh, .int (nI cap), .int ru, .int (nI tb), .ref b0])), (x0, .inr (5, [.ref k0, .ref w0, .int (nI nz), .int ch])), (k0, .inl (ck, L, .inl f)), (w0, .inl (cw, L, .inl g)), (b0, .inl (cb, tb, .inl bf))]) [0, 1, 2, 3, 4] rfl
    have hD9 := hD.sub (ws' := [(y0, .inr (3, [.ref x0, .int kd, .int wh, .int (nI cap), .int ru, .int (nI tb), .ref b0])), (x0, .inr (5, [.ref k0, .ref w0, .int (nI nz), .int ch])), (k0, .inl (ck, L, .inl f)), (w0, .inl (cw, L, .inl g)), (b0, .inl (cb, tb, .inl bf))]) [0, 1, 2, 3, 4] (by decide) rfl
    have hK9 := hK.sub (tys' := [(ck, .int), (cw, .int), (cb, .boolean)]) [0, 1, 2] rfl
    refine W.widen (k := 0) (n := 0) (Nat.le_of_ble_eq_true rfl) (Nat.le_of_ble_eq_true rfl) ?_
    exact W.lret (v := 1099511627776) hx hb hr (fun t ht hW => ⟨⟨1099511627776, (f, g, nz, ch, bf), rfl, hpost, by rw [ht]; exact hP9, va_K.moved hW.alike hK9, hD9⟩, hS.F ht⟩) hS.2.2 dX3_takeOut_13
set_option maxHeartbeats 4000000 in
set_option maxRecDepth 100000 in
/-- Keyed.takeAllOut of H -/
theorem c_X3_takeAllOut_H (l : Launch) (hlt : l.stackTraces = false) (dC : Nat → ClassId) (dI : Nat → Nat → Nat) (sz : Nat) (y0 : Nat) (kd : Int32) (wh : Int32) (cap : Nat) (ru : Int32) (tb : Nat) (b0 : Nat) (cb : ClassId) (bf : Nat → Int32) (x0 : Nat) (k0 : Nat) (w0 : Nat) (ck : ClassId) (cw : ClassId) (L : Nat) (f : Nat → Int32) (g : Nat → Int32) (nz : Nat) (ch : Int32) (hH9 : hOK tb L nz cap) : Met l yX3_takeAllOut wsX3_takeAllOut ({ frames := 5, cells := 0, slots := 0, locals := 230 }) (va_Pc [.ref y0] (pk_PreX (dC, dI) [(y0, .inr (3, [.ref x0, .int kd, .int wh, .int (nI cap), .int ru, .int (nI tb), .ref b0])), (x0, .inr (5, [.ref k0, .ref w0, .int (nI nz), .int ch])), (k0, .inl (ck, L, .inl f)), (w0, .inl (cw, L, .inl g)), (b0, .inl (cb, tb, .inl bf))] [(ck, .int), (cw, .int), (cb, .boolean)] sz)) (va_Ql (fun (x : Int64) (u : (Nat → Int32) × (Nat → Int32) × Nat × Int32 × (Nat → Int32)) => u.2.2.1 ≤ nz) (fun (u : (Nat → Int32) × (Nat → Int32) × Nat × Int32 × (Nat → Int32)) (t : State) => va_P (dC, dI) vwCl [(y0, .inr (3, [.ref x0, .int kd, .int wh, .int (nI cap), .int ru, .int (nI tb), .ref b0])), (x0, .inr (5, [.ref k0, .ref w0, .int (nI (u.2.2.1)), .int u.2.2.2.1])), (k0, .inl (ck, L, .inl u.1)), (w0, .inl (cw, L, .inl u.2.1)), (b0, .inl (cb, tb, .inl u.2.2.2.2))] t.heap ∧ va_K (dC, dI) vwCl [(ck, .int), (cw, .int), (cb, .boolean)] t ∧ va_D (va_A [(y0, .inr (3, [.ref x0, .int kd, .int wh, .int (nI cap), .int ru, .int (nI tb), .ref b0])), (x0, .inr (5, [.ref k0, .ref w0, .int (nI nz), .int ch])), (k0, .inl (ck, L, .inl f)), (w0, .inl (cw, L, .inl g)), (b0, .inl (cb, tb, .inl bf))] sz) [(y0, .inr (3, [.ref x0, .int kd, .int wh, .int (nI cap), .int ru, .int (nI tb), .ref b0])), (x0, .inr (5, [.ref k0, .ref w0, .int (nI (u.2.2.1)), .int u.2.2.2.1])), (k0, .inl (ck, L, .inl u.1)), (w0, .inl (cw, L, .inl u.2.1)), (b0, .inl (cb, tb, .inl u.2.2.2.2))]) (va_A [(y0, .inr (3, [.ref x0, .int kd, .int wh, .int (nI cap), .int ru, .int (nI tb), .ref b0])), (x0, .inr (5, [.ref k0, .ref w0, .int (nI nz), .int ch])), (k0, .inl (ck, L, .inl f)), (w0, .inl (cw, L, .inl g)), (b0, .inl (cb, tb, .inl bf))] sz)) 0 0 (va_A [(y0, .inr (3, [.ref x0, .int kd, .int wh, .int (nI cap), .int ru, .int (nI tb), .ref b0])), (x0, .inr (5, [.ref k0, .ref w0, .int (nI nz), .int ch])), (k0, .inl (ck, L, .inl f)), (w0, .inl (cw, L, .inl g)), (b0, .inl (cb, tb, .inl bf))] sz) := by
  refine Met.ofW (cc := cX3_takeAllOut) (maxL := 2) (ret := (some .long)) (by decide) rfl ?_
  intro p e s m args below meth c s₁ B hml hv
  obtain ⟨rfl, hsz, hP, hK, hD0, hN, hZ⟩ := hv
  have hx := B.exec
  have hb := B.bytes
  have hr := B.returns
  have hts := atoms_spec (ws := wsX3_takeAllOut) B.pre
  have hown : s.vm.findClass RX3 = some m.cls := findClass_of_methodNamed B.named
  have hlocks := B.notSynchronized
  subst hsz
  have hD := hD0.self (sz := s.heap.size)
  generalize hAe : va_A [(y0, .inr (3, [.ref x0, .int kd, .int wh, .int (nI cap), .int ru, .int (nI tb), .ref b0])), (x0, .inr (5, [.ref k0, .ref w0, .int (nI nz), .int ch])), (k0, .inl (ck, L, .inl f)), (w0, .inl (cw, L, .inl g)), (b0, .inl (cb, tb, .inl bf))] s.heap.size = A at hZ hD ⊢
  have hA : ∀ q : Nat, s.heap.size ≤ q → A q := fun q h => by rw [← hAe]; exact Or.inr h
  have hS : va_S A s.heap s.heap [] := va_S.rf
  have hP : va_P (dC, dI) vwCl [(y0, .inr (3, [.ref x0, .int kd, .int wh, .int (nI cap), .int ru, .int (nI tb), .ref b0])), (x0, .inr (5, [.ref k0, .ref w0, .int (nI nz), .int ch])), (k0, .inl (ck, L, .inl f)), (w0, .inl (cw, L, .inl g)), (b0, .inl (cb, tb, .inl bf))] s.heap := hP
  have hl := lv_entry ([.ref y0]) (n := 2) (Nat.le_of_ble_eq_true rfl)
  rw [lg_entry_eq]
  generalize (lg_sl ([.ref y0]) ++ List.replicate (2 - (lg_sl ([.ref y0])).length) Slot.unset).toArray = ls at hl ⊢
  have hl : lv_has ls 2 [(0, .ref y0)] := hl

  have hR9 : rOK L nz := hH9.1
  have htb := hOK_tb hH9
  obtain ⟨hL1, hL2, hz1, hz2⟩ := id hR9
  refine lv_aload_n hx hb dX3_takeAllOut_0 rfl (lv_at hl 0 rfl) ?_
  have hPc := hP.sub (ws' := [(y0, .inr (3, [.ref x0, .int kd, .int wh, .int (nI cap), .int ru, .int (nI tb), .ref b0])), (x0, .inr (5, [.ref k0, .ref w0, .int (nI nz), .int ch])), (k0, .inl (ck, L, .inl f)), (w0, .inl (cw, L, .inl g))]) [0, 1, 2, 3] rfl
  have hKc := hK.sub (tys' := [(ck, .int), (cw, .int)]) [0, 1] rfl
  refine ro_calli (va_runU (As := []) (rest := []) ⟨hx, hb, hml, hown, hts⟩ (c_X3_size_H l  dC dI s.heap.size y0 (.int kd) (.int wh) (.int (nI cap)) (.int ru) (.int (nI tb)) (.ref b0) x0 k0 w0 ck cw L f g nz ch hR9) (va_cwU 0 hts gX3_takeAllOut_X3_size_u72X2 rfl rfl rfl rfl (by decide +kernel) ⟨(Nat.le_of_ble_eq_true rfl), (Nat.le_of_ble_eq_true rfl)⟩) ⟨pk_blindR, va_recv hKc hPc (ci := 3) (q0 := 0) rfl rfl, pk_callR hPc hKc⟩ rfl rfl hl.1 rfl (lv_room (Nat.le_of_ble_eq_true rfl)) dX3_takeAllOut_1 ⟨(Nat.le_of_ble_eq_true rfl), (Nat.le_of_ble_eq_true rfl)⟩) (fun r_1 ur_1 hw => ?_)
  clear hPc hKc
  try dsimp only at hw
  have jr_1 := hw
  refine W.eq (g2 := F0 m 4 ls [.int r_1]) rfl ?_
  have hr_1 : -1000 ≤ r_1.toInt ∧ r_1.toInt ≤ nz := by rw [jr_1, nI_toInt (by omega)]; omega
  refine lv_istore_n (lv' := [(1, .int r_1), (0, .ref y0)]) hx hb dX3_takeAllOut_4 rfl hl (by decide) rfl (fun ls hl => ?_)
  refine lv_aload_n hx hb dX3_takeAllOut_5 rfl (lv_at hl 1 rfl) ?_
  have hPc := hP.sub (ws' := [(y0, .inr (3, [.ref x0, .int kd, .int wh, .int (nI cap), .int ru, .int (nI tb), .ref b0])), (x0, .inr (5, [.ref k0, .ref w0, .int (nI nz), .int ch])), (k0, .inl (ck, L, .inl f)), (w0, .inl (cw, L, .inl g)), (b0, .inl (cb, tb, .inl bf))]) [0, 1, 2, 3, 4] rfl
  have hDc := hD.sub (ws' := [(y0, .inr (3, [.ref x0, .int kd, .int wh, .int (nI cap), .int ru, .int (nI tb), .ref b0])), (x0, .inr (5, [.ref k0, .ref w0, .int (nI nz), .int ch])), (k0, .inl (ck, L, .inl f)), (w0, .inl (cw, L, .inl g)), (b0, .inl (cb, tb, .inl bf))]) [0, 1, 2, 3, 4] (by decide) rfl
  have hKc := hK.sub (tys' := [(ck, .int), (cw, .int), (cb, .boolean)]) [0, 1, 2] rfl
  have hFc := va_free (wc := [(y0, .inr (3, [.ref x0, .int kd, .int wh, .int (nI cap), .int ru, .int (nI tb), .ref b0])), (x0, .inr (5, [.ref k0, .ref w0, .int (nI nz), .int ch])), (k0, .inl (ck, L, .inl f)), (w0, .inl (cw, L, .inl g)), (b0, .inl (cb, tb, .inl bf))]) hD hS hA [0, 1, 2, 3, 4] rfl
  refine va_callv (va_runU (As := []) (rest := []) ⟨hx, hb, hml, hown, hts⟩ (c_X2_leaveAll l  dC dI s.heap.size y0 kd wh cap ru tb b0 cb bf x0 k0 w0 ck cw L f g nz ch hH9) (va_cwO 0 hts gX3_takeAllOut_X2_leaveAll_u73X2 rfl rfl rfl (List.mem_of_getElem? (l := wsX3_takeAllOut) (i := 71) rfl) (by decide +kernel) ⟨(Nat.le_of_ble_eq_true rfl), (Nat.le_of_ble_eq_true rfl)⟩) ⟨pk_blind, va_recv hKc hPc (ci := 3) (q0 := 0) rfl rfl, pk_call hPc hKc hDc⟩ rfl rfl hl.1 rfl (lv_room (Nat.le_of_ble_eq_true rfl)) dX3_takeAllOut_6 ⟨(Nat.le_of_ble_eq_true rfl), (Nat.le_of_ble_eq_true rfl)⟩) hS (fun q _ h => hFc q h) hFc (fun ur_2 t H1 locs ht hvm hw hB hz1 hk1 hS => ?_)
  try dsimp only at hw
  have jr_2 := hw
  obtain ⟨hP1, hK1, hD1⟩ := hB
  rw [ht] at hP1
  have hK1 := va_K.moved hvm.symm hK1
  obtain ⟨hP, hD⟩ := va_join (wr := []) (w1 := [(y0, .inr (3, [.ref x0, .int kd, .int wh, .int (nI cap), .int ru, .int (nI tb), .ref b0])), (x0, .inr (5, [.ref k0, .ref w0, .int (nI (ur_2.2.2.1)), .int ur_2.2.2.2.1])), (k0, .inl (ck, L, .inl ur_2.1)), (w0, .inl (cw, L, .inl ur_2.2.1)), (b0, .inl (cb, tb, .inl ur_2.2.2.2.2))]) hP hD [0, 1, 2, 3, 4] [] rfl rfl (by decide) (by decide) hk1 hFc hP1 hD1
  clear hk1 hz1 ht hPc hDc hKc hFc
  generalize H1 = H at hP hS ⊢
  replace hP : va_P (dC, dI) vwCl [(y0, .inr (3, [.ref x0, .int kd, .int wh, .int (nI cap), .int ru, .int (nI tb), .ref b0])), (x0, .inr (5, [.ref k0, .ref w0, .int (nI (ur_2.2.2.1)), .int ur_2.2.2.2.1])), (k0, .inl (ck, L, .inl ur_2.1)), (w0, .inl (cw, L, .inl ur_2.2.1)), (b0, .inl (cb, tb, .inl ur_2.2.2.2.2))] H := hP
  replace hD : va_D A [(y0, .inr (3, [.ref x0, .int kd, .int wh, .int (nI cap), .int ru, .int (nI tb), .ref b0])), (x0, .inr (5, [.ref k0, .ref w0, .int (nI (ur_2.2.2.1)), .int ur_2.2.2.2.1])), (k0, .inl (ck, L, .inl ur_2.1)), (w0, .inl (cw, L, .inl ur_2.2.1)), (b0, .inl (cb, tb, .inl ur_2.2.2.2.2))] := hD
  refine W.widen (k := 0) (n := 0) (Nat.le_of_ble_eq_true rfl) (Nat.le_of_ble_eq_true rfl) ?_
  refine W.eq (g2 := F0 m 9 ls []) rfl ?_
  refine lv_iload_n hx hb dX3_takeAllOut_9 rfl (lv_at hl 0 rfl) ?_
  refine lv_i2l (v := r_1.toInt64) hx hb dX3_takeAllOut_10 rfl ?_
  have hP9 := hP.sub (ws' := [(y0, .inr (3, [.ref x0, .int kd, .int wh, .int (nI cap), .int ru, .int (nI tb), .ref b0])), (x0, .inr (5, [.ref k0, .ref w0, .int (nI (ur_2.2.2.1)), .int ur_2.2.2.2.1])), (k0, .inl (ck, L, .inl ur_2.1)), (w0, .inl (cw, L, .inl ur_2.2.1)), (b0, .inl (cb, tb, .inl ur_2.2.2.2.2))]) [0, 1, 2, 3, 4] rfl
  have hD9 := hD.sub (ws' := [(y0, .inr (3, [.ref x0, .int kd, .int wh, .int (nI cap), .int ru, .int (nI tb), .ref b0])), (x0, .inr (5, [.ref k0, .ref w0, .int (nI (ur_2.2.2.1)), .int ur_2.2.2.2.1])), (k0, .inl (ck, L, .inl ur_2.1)), (w0, .inl (cw, L, .inl ur_2.2.1)), (b0, .inl (cb, tb, .inl ur_2.2.2.2.2))]) [0, 1, 2, 3, 4] (by decide) rfl
  have hK9 := hK.sub (tys' := [(ck, .int), (cw, .int), (cb, .boolean)]) [0, 1, 2] rfl
  refine W.widen (k := 0) (n := 0) (Nat.le_of_ble_eq_true rfl) (Nat.le_of_ble_eq_true rfl) ?_
  exact W.lret (v := r_1.toInt64) hx hb hr (fun t ht hW => ⟨⟨r_1.toInt64, (ur_2.1, ur_2.2.1, ur_2.2.2.1, ur_2.2.2.2.1, ur_2.2.2.2.2), rfl, jr_2, by rw [ht]; exact hP9, va_K.moved hW.alike hK9, hD9⟩, hS.F ht⟩) hS.2.2 dX3_takeAllOut_11
set_option maxHeartbeats 4000000 in
set_option maxRecDepth 100000 in
/-- Keyed.putIfThere of H -/
theorem c_X3_putIfThere_H (l : Launch) (hlt : l.stackTraces = false) (dC : Nat → ClassId) (dI : Nat → Nat → Nat) (sz : Nat) (y0 : Nat) (kd : Int32) (wh : Int32) (cap : Nat) (ru : Int32) (tb : Nat) (b0 : Nat) (cb : ClassId) (bf : Nat → Int32) (x0 : Nat) (k0 : Nat) (w0 : Nat) (ck : ClassId) (cw : ClassId) (L : Nat) (f : Nat → Int32) (g : Nat → Int32) (nz : Nat) (ch : Int32) (p0 : Int32) (p1 : Int32) (hH9 : hOK tb L nz cap) : Met l yX3_putIfThere wsX3_putIfThere ({ frames := 4, cells := 0, slots := 0, locals := 180 }) (va_Pc [.ref y0, .int p0, .int p1] (pk_PreX (dC, dI) [(y0, .inr (3, [.ref x0, .int kd, .int wh, .int (nI cap), .int ru, .int (nI tb), .ref b0])), (x0, .inr (5, [.ref k0, .ref w0, .int (nI nz), .int ch])), (k0, .inl (ck, L, .inl f)), (w0, .inl (cw, L, .inl g)), (b0, .inl (cb, tb, .inl bf))] [(ck, .int), (cw, .int), (cb, .boolean)] sz)) (va_Ql (fun (x : Int64) (u : (Nat → Int32) × (Nat → Int32) × Int32) => True) (fun (u : (Nat → Int32) × (Nat → Int32) × Int32) (t : State) => va_P (dC, dI) vwCl [(y0, .inr (3, [.ref x0, .int kd, .int wh, .int (nI cap), .int ru, .int (nI tb), .ref b0])), (x0, .inr (5, [.ref k0, .ref w0, .int (nI nz), .int u.2.2])), (k0, .inl (ck, L, .inl u.1)), (w0, .inl (cw, L, .inl u.2.1)), (b0, .inl (cb, tb, .inl bf))] t.heap ∧ va_K (dC, dI) vwCl [(ck, .int), (cw, .int), (cb, .boolean)] t ∧ va_D (va_A [(y0, .inr (3, [.ref x0, .int kd, .int wh, .int (nI cap), .int ru, .int (nI tb), .ref b0])), (x0, .inr (5, [.ref k0, .ref w0, .int (nI nz), .int ch])), (k0, .inl (ck, L, .inl f)), (w0, .inl (cw, L, .inl g)), (b0, .inl (cb, tb, .inl bf))] sz) [(y0, .inr (3, [.ref x0, .int kd, .int wh, .int (nI cap), .int ru, .int (nI tb), .ref b0])), (x0, .inr (5, [.ref k0, .ref w0, .int (nI nz), .int u.2.2])), (k0, .inl (ck, L, .inl u.1)), (w0, .inl (cw, L, .inl u.2.1)), (b0, .inl (cb, tb, .inl bf))]) (va_A [(y0, .inr (3, [.ref x0, .int kd, .int wh, .int (nI cap), .int ru, .int (nI tb), .ref b0])), (x0, .inr (5, [.ref k0, .ref w0, .int (nI nz), .int ch])), (k0, .inl (ck, L, .inl f)), (w0, .inl (cw, L, .inl g)), (b0, .inl (cb, tb, .inl bf))] sz)) 0 0 (va_A [(y0, .inr (3, [.ref x0, .int kd, .int wh, .int (nI cap), .int ru, .int (nI tb), .ref b0])), (x0, .inr (5, [.ref k0, .ref w0, .int (nI nz), .int ch])), (k0, .inl (ck, L, .inl f)), (w0, .inl (cw, L, .inl g)), (b0, .inl (cb, tb, .inl bf))] sz) := by
  refine Met.ofW (cc := cX3_putIfThere) (maxL := 4) (ret := (some .long)) (by decide) rfl ?_
  intro p e s m args below meth c s₁ B hml hv
  obtain ⟨rfl, hsz, hP, hK, hD0, hN, hZ⟩ := hv
  have hx := B.exec
  have hb := B.bytes
  have hr := B.returns
  have hts := atoms_spec (ws := wsX3_putIfThere) B.pre
  have hown : s.vm.findClass RX3 = some m.cls := findClass_of_methodNamed B.named
  have hlocks := B.notSynchronized
  subst hsz
  have hD := hD0.self (sz := s.heap.size)
  generalize hAe : va_A [(y0, .inr (3, [.ref x0, .int kd, .int wh, .int (nI cap), .int ru, .int (nI tb), .ref b0])), (x0, .inr (5, [.ref k0, .ref w0, .int (nI nz), .int ch])), (k0, .inl (ck, L, .inl f)), (w0, .inl (cw, L, .inl g)), (b0, .inl (cb, tb, .inl bf))] s.heap.size = A at hZ hD ⊢
  have hA : ∀ q : Nat, s.heap.size ≤ q → A q := fun q h => by rw [← hAe]; exact Or.inr h
  have hS : va_S A s.heap s.heap [] := va_S.rf
  have hP : va_P (dC, dI) vwCl [(y0, .inr (3, [.ref x0, .int kd, .int wh, .int (nI cap), .int ru, .int (nI tb), .ref b0])), (x0, .inr (5, [.ref k0, .ref w0, .int (nI nz), .int ch])), (k0, .inl (ck, L, .inl f)), (w0, .inl (cw, L, .inl g)), (b0, .inl (cb, tb, .inl bf))] s.heap := hP
  have hl := lv_entry ([.ref y0, .int p0, .int p1]) (n := 4) (Nat.le_of_ble_eq_true rfl)
  rw [lg_entry_eq]
  generalize (lg_sl ([.ref y0, .int p0, .int p1]) ++ List.replicate (4 - (lg_sl ([.ref y0, .int p0, .int p1])).length) Slot.unset).toArray = ls at hl ⊢
  have hl : lv_has ls 4 [(0, .ref y0), (1, .int p0), (2, .int p1)] := hl
  have hw0_ := hts (.constantLong RX3 53 (1099511627776)) (List.mem_of_getElem? (l := wsX3_putIfThere) (i := 1) rfl)
  have hR9 : rOK L nz := hH9.1
  have htb := hOK_tb hH9
  obtain ⟨hL1, hL2, hz1, hz2⟩ := id hR9
  refine lv_aload_n hx hb dX3_putIfThere_0 rfl (lv_at hl 0 rfl) ?_
  refine lv_iload_n hx hb dX3_putIfThere_1 rfl (lv_at hl 1 rfl) ?_
  have hPc := hP.sub (ws' := [(y0, .inr (3, [.ref x0, .int kd, .int wh, .int (nI cap), .int ru, .int (nI tb), .ref b0])), (x0, .inr (5, [.ref k0, .ref w0, .int (nI nz), .int ch])), (k0, .inl (ck, L, .inl f)), (w0, .inl (cw, L, .inl g)), (b0, .inl (cb, tb, .inl bf))]) [0, 1, 2, 3, 4] rfl
  have hKc := hK.sub (tys' := [(ck, .int), (cw, .int), (cb, .boolean)]) [0, 1, 2] rfl
  refine ro_calli (va_runU (As := [.int p0]) (rest := []) ⟨hx, hb, hml, hown, hts⟩ (c_X2_find l  dC dI s.heap.size y0 kd wh cap ru tb b0 cb bf x0 k0 w0 ck cw L f g nz ch p0 hR9 htb) (va_cwA 1 hts gX3_putIfThere_X2_find_u46X2 rfl rfl rfl (hN.xw _ (List.mem_of_getElem? (l := p_xw) (i := 0) rfl)) (by decide +kernel) ⟨(Nat.le_of_ble_eq_true rfl), (Nat.le_of_ble_eq_true rfl)⟩) ⟨pk_blindR, va_recv hKc hPc (ci := 3) (q0 := 0) rfl rfl, pk_callR hPc hKc⟩ rfl rfl hl.1 rfl (lv_room (Nat.le_of_ble_eq_true rfl)) dX3_putIfThere_2 ⟨(Nat.le_of_ble_eq_true rfl), (Nat.le_of_ble_eq_true rfl)⟩) (fun r_1 ur_1 hw => ?_)
  clear hPc hKc
  try dsimp only at hw
  have jr_1 := hw
  refine W.eq (g2 := F0 m 5 ls [.int r_1]) rfl ?_
  refine lv_istore_n (lv' := [(3, .int r_1), (0, .ref y0), (1, .int p0), (2, .int p1)]) hx hb dX3_putIfThere_5 rfl hl (by decide) rfl (fun ls hl => ?_)
  refine lv_iload_n hx hb dX3_putIfThere_6 rfl (lv_at hl 0 rfl) ?_
  refine lv_if_ge (tgt := 16) hx hb dX3_putIfThere_7 (by decide) (fun c_2 => ?_) (fun c_2 => ?_)
  ·
    have ic_2 : 0 ≤ r_1.toInt := tx_le (by decide) rfl c_2
    refine lv_aload_n hx hb dX3_putIfThere_16 rfl (lv_at hl 1 rfl) ?_
    refine lv_iload_n hx hb dX3_putIfThere_17 rfl (lv_at hl 0 rfl) ?_
    refine lv_iload_n hx hb dX3_putIfThere_18 rfl (lv_at hl 3 rfl) ?_
    have hPc := hP.sub (ws' := [(y0, .inr (3, [.ref x0, .int kd, .int wh, .int (nI cap), .int ru, .int (nI tb), .ref b0])), (x0, .inr (5, [.ref k0, .ref w0, .int (nI nz), .int ch])), (k0, .inl (ck, L, .inl f)), (w0, .inl (cw, L, .inl g)), (b0, .inl (cb, tb, .inl bf))]) [0, 1, 2, 3, 4] rfl
    have hDc := hD.sub (ws' := [(y0, .inr (3, [.ref x0, .int kd, .int wh, .int (nI cap), .int ru, .int (nI tb), .ref b0])), (x0, .inr (5, [.ref k0, .ref w0, .int (nI nz), .int ch])), (k0, .inl (ck, L, .inl f)), (w0, .inl (cw, L, .inl g)), (b0, .inl (cb, tb, .inl bf))]) [0, 1, 2, 3, 4] (by decide) rfl
    have hKc := hK.sub (tys' := [(ck, .int), (cw, .int), (cb, .boolean)]) [0, 1, 2] rfl
    have hFc := va_free (wc := [(y0, .inr (3, [.ref x0, .int kd, .int wh, .int (nI cap), .int ru, .int (nI tb), .ref b0])), (x0, .inr (5, [.ref k0, .ref w0, .int (nI nz), .int ch])), (k0, .inl (ck, L, .inl f)), (w0, .inl (cw, L, .inl g)), (b0, .inl (cb, tb, .inl bf))]) hD hS hA [0, 1, 2, 3, 4] rfl
    have hZc := (hZ.kept hS.2.1).narrow hFc
    refine va_calll (va_runU (As := [.int r_1, .int p1]) (rest := []) ⟨hx, hb, hml, hown, hts⟩ (c_X3_replace_H l hlt dC dI s.heap.size y0 kd wh cap ru tb b0 cb bf x0 k0 w0 ck cw L f g nz ch r_1 p1 hH9) (va_cwU 2 hts gX3_putIfThere_X3_replace_u55X2 rfl rfl rfl rfl (by decide +kernel) ⟨(Nat.le_of_ble_eq_true rfl), (Nat.le_of_ble_eq_true rfl)⟩) ⟨pk_blindX, va_recv hKc hPc (ci := 3) (q0 := 0) rfl rfl, pk_callX hPc hKc hDc hN hZc⟩ rfl rfl hl.1 rfl (lv_room (Nat.le_of_ble_eq_true rfl)) dX3_putIfThere_19 ⟨(Nat.le_of_ble_eq_true rfl), (Nat.le_of_ble_eq_true rfl)⟩) hS (fun q _ h => hFc q h) hFc (fun r_3 ur_3 t H1 locs ht hvm hw hB hz1 hk1 hS => ?_)
    try dsimp only at hw
    have jr_3 := hw
    obtain ⟨hP1, hK1, hD1⟩ := hB
    rw [ht] at hP1
    have hK1 := va_K.moved hvm.symm hK1
    obtain ⟨hP, hD⟩ := va_join (wr := []) (w1 := [(y0, .inr (3, [.ref x0, .int kd, .int wh, .int (nI cap), .int ru, .int (nI tb), .ref b0])), (x0, .inr (5, [.ref k0, .ref w0, .int (nI nz), .int ur_3.2.2])), (k0, .inl (ck, L, .inl ur_3.1)), (w0, .inl (cw, L, .inl ur_3.2.1)), (b0, .inl (cb, tb, .inl bf))]) hP hD [0, 1, 2, 3, 4] [] rfl rfl (by decide) (by decide) hk1 hFc hP1 hD1
    clear hk1 hz1 ht hPc hDc hKc hFc
    generalize H1 = H at hP hS ⊢
    replace hP : va_P (dC, dI) vwCl [(y0, .inr (3, [.ref x0, .int kd, .int wh, .int (nI cap), .int ru, .int (nI tb), .ref b0])), (x0, .inr (5, [.ref k0, .ref w0, .int (nI nz), .int ur_3.2.2])), (k0, .inl (ck, L, .inl ur_3.1)), (w0, .inl (cw, L, .inl ur_3.2.1)), (b0, .inl (cb, tb, .inl bf))] H := hP
    replace hD : va_D A [(y0, .inr (3, [.ref x0, .int kd, .int wh, .int (nI cap), .int ru, .int (nI tb), .ref b0])), (x0, .inr (5, [.ref k0, .ref w0, .int (nI nz), .int ur_3.2.2])), (k0, .inl (ck, L, .inl ur_3.1)), (w0, .inl (cw, L, .inl ur_3.2.1)), (b0, .inl (cb, tb, .inl bf))] := hD
    refine W.widen (k := 0) (n := 0) (Nat.le_of_ble_eq_true rfl) (Nat.le_of_ble_eq_true rfl) ?_
    refine W.eq (g2 := F0 m 22 ls [.long r_3]) rfl ?_
    have hP9 := hP.sub (ws' := [(y0, .inr (3, [.ref x0, .int kd, .int wh, .int (nI cap), .int ru, .int (nI tb), .ref b0])), (x0, .inr (5, [.ref k0, .ref w0, .int (nI nz), .int ur_3.2.2])), (k0, .inl (ck, L, .inl ur_3.1)), (w0, .inl (cw, L, .inl ur_3.2.1)), (b0, .inl (cb, tb, .inl bf))]) [0, 1, 2, 3, 4] rfl
    have hD9 := hD.sub (ws' := [(y0, .inr (3, [.ref x0, .int kd, .int wh, .int (nI cap), .int ru, .int (nI tb), .ref b0])), (x0, .inr (5, [.ref k0, .ref w0, .int (nI nz), .int ur_3.2.2])), (k0, .inl (ck, L, .inl ur_3.1)), (w0, .inl (cw, L, .inl ur_3.2.1)), (b0, .inl (cb, tb, .inl bf))]) [0, 1, 2, 3, 4] (by decide) rfl
    have hK9 := hK.sub (tys' := [(ck, .int), (cw, .int), (cb, .boolean)]) [0, 1, 2] rfl
    refine W.widen (k := 0) (n := 0) (Nat.le_of_ble_eq_true rfl) (Nat.le_of_ble_eq_true rfl) ?_
    exact W.lret (v := r_3) hx hb hr (fun t ht hW => ⟨⟨r_3, (ur_3.1, ur_3.2.1, ur_3.2.2), rfl, trivial, by rw [ht]; exact hP9, va_K.moved hW.alike hK9, hD9⟩, hS.F ht⟩) hS.2.2 dX3_putIfThere_22
  ·
    have ic_2 : r_1.toInt < 0 := tx_nle (by decide) rfl c_2
    refine lv_ldc2 (v := 1099511627776) hx hb hown hw0_ dX3_putIfThere_10 ?_
    refine lv_goto (tgt := 22) hx hb dX3_putIfThere_13 (by decide) ?_
    have hP9 := hP.sub (ws' := [(y0, .inr (3, [.ref x0, .int kd, .int wh, .int (nI cap), .int ru, .int (nI tb), .ref b0])), (x0, .inr (5, [.ref k0, .ref w0, .int (nI nz), .int ch])), (k0, .inl (ck, L, .inl f)), (w0, .inl (cw, L, .inl g)), (b0, .inl (cb, tb, .inl bf))]) [0, 1, 2, 3, 4] rfl
    have hD9 := hD.sub (ws' := [(y0, .inr (3, [.ref x0, .int kd, .int wh, .int (nI cap), .int ru, .int (nI tb), .ref b0])), (x0, .inr (5, [.ref k0, .ref w0, .int (nI nz), .int ch])), (k0, .inl (ck, L, .inl f)), (w0, .inl (cw, L, .inl g)), (b0, .inl (cb, tb, .inl bf))]) [0, 1, 2, 3, 4] (by decide) rfl
    have hK9 := hK.sub (tys' := [(ck, .int), (cw, .int), (cb, .boolean)]) [0, 1, 2] rfl
    refine W.widen (k := 0) (n := 0) (Nat.le_of_ble_eq_true rfl) (Nat.le_of_ble_eq_true rfl) ?_
    exact W.lret (v := 1099511627776) hx hb hr (fun t ht hW => ⟨⟨1099511627776, (f, g, ch), rfl, trivial, by rw [ht]; exact hP9, va_K.moved hW.alike hK9, hD9⟩, hS.F ht⟩) hS.2.2 dX3_putIfThere_22
set_option maxHeartbeats 4000000 in
set_option maxRecDepth 100000 in
/-- Keyed.keyOrNone of H -/
theorem c_X3_keyOrNone_H (l : Launch) (hlt : l.stackTraces = false) (dC : Nat → ClassId) (dI : Nat → Nat → Nat) (sz : Nat) (y0 : Nat) (kd : Int32) (wh : Int32) (cap : Nat) (ru : Int32) (tb : Nat) (b0 : Nat) (cb : ClassId) (bf : Nat → Int32) (x0 : Nat) (k0 : Nat) (w0 : Nat) (ck : ClassId) (cw : ClassId) (L : Nat) (f : Nat → Int32) (g : Nat → Int32) (nz : Nat) (ch : Int32) (p0 : Int32) (hH9 : hOK tb L nz cap) : Met l yX3_keyOrNone wsX3_keyOrNone ({ frames := 5, cells := 0, slots := 0, locals := 210 }) (va_Pc [.ref y0, .int p0] (pk_PreRX (dC, dI) [(y0, .inr (3, [.ref x0, .int kd, .int wh, .int (nI cap), .int ru, .int (nI tb), .ref b0])), (x0, .inr (5, [.ref k0, .ref w0, .int (nI nz), .int ch])), (k0, .inl (ck, L, .inl f)), (w0, .inl (cw, L, .inl g)), (b0, .inl (cb, tb, .inl bf))] [(ck, .int), (cw, .int), (cb, .boolean)] sz)) (va_Ql (fun (x : Int64) (u : Unit) => True) (fun _ (t : State) => t.heap.size = sz) ro_A) 0 0 ro_A := by
  refine Met.ofW (cc := cX3_keyOrNone) (maxL := 2) (ret := (some .long)) (by decide) rfl ?_
  intro p e s m args below meth c s₁ B hml hv
  obtain ⟨rfl, ⟨hsz, hP, hK⟩, hN⟩ := hv
  have hx := B.exec
  have hb := B.bytes
  have hr := B.returns
  have hts := atoms_spec (ws := wsX3_keyOrNone) B.pre
  have hown : s.vm.findClass RX3 = some m.cls := findClass_of_methodNamed B.named
  have hlocks := B.notSynchronized
  subst hsz
  have hS : va_S ro_A s.heap s.heap [] := va_S.rf
  have hP : va_P (dC, dI) vwCl [(y0, .inr (3, [.ref x0, .int kd, .int wh, .int (nI cap), .int ru, .int (nI tb), .ref b0])), (x0, .inr (5, [.ref k0, .ref w0, .int (nI nz), .int ch])), (k0, .inl (ck, L, .inl f)), (w0, .inl (cw, L, .inl g)), (b0, .inl (cb, tb, .inl bf))] s.heap := hP
  have hl := lv_entry ([.ref y0, .int p0]) (n := 2) (Nat.le_of_ble_eq_true rfl)
  rw [lg_entry_eq]
  generalize (lg_sl ([.ref y0, .int p0]) ++ List.replicate (2 - (lg_sl ([.ref y0, .int p0])).length) Slot.unset).toArray = ls at hl ⊢
  have hl : lv_has ls 2 [(0, .ref y0), (1, .int p0)] := hl
  have hw0_ := hts (.constantLong RX3 53 (1099511627776)) (List.mem_of_getElem? (l := wsX3_keyOrNone) (i := 2) rfl)
  have hw1_ := hts (.fieldLink RX3 9 "KeyAtlas$Keyed" "rows" "LKeyAtlas$Rows;") (List.mem_of_getElem? (l := wsX3_keyOrNone) (i := 1) rfl)
  have hi0_ : ∀ w ∈ u_ws RX2 TX2 7, w ∈ wsX3_keyOrNone := fun w h => List.mem_cons_of_mem _ (List.mem_append_left _ (List.mem_append_left _ (List.mem_append_left _ (List.mem_append_right _ h))))
  have hR9 : rOK L nz := hH9.1
  have htb := hOK_tb hH9
  obtain ⟨hL1, hL2, hz1, hz2⟩ := id hR9
  refine lv_iload_n hx hb dX3_keyOrNone_0 rfl (lv_at hl 1 rfl) ?_
  refine lv_if_lt (tgt := 28) hx hb dX3_keyOrNone_1 (by decide) (fun c_1 => ?_) (fun c_1 => ?_)
  ·
    have ic_1 : p0.toInt < 0 := tx_lt rfl (by decide) c_1
    refine lv_ldc2 (v := 1099511627776) hx hb hown hw0_ dX3_keyOrNone_28 ?_
    refine W.widen (k := 0) (n := 0) (Nat.le_of_ble_eq_true rfl) (Nat.le_of_ble_eq_true rfl) ?_
    exact W.lret (v := 1099511627776) hx hb hr (fun t ht hW => ⟨⟨1099511627776, (), rfl, trivial, congrArg Array.size ht⟩, hS.F ht⟩) hS.2.2 dX3_keyOrNone_31
  ·
    have ic_1 : 0 ≤ p0.toInt := tx_nlt rfl (by decide) c_1
    refine lv_iload_n hx hb dX3_keyOrNone_4 rfl (lv_at hl 1 rfl) ?_
    refine lv_aload_n hx hb dX3_keyOrNone_5 rfl (lv_at hl 0 rfl) ?_
    have hPc := hP.sub (ws' := [(y0, .inr (3, [.ref x0, .int kd, .int wh, .int (nI cap), .int ru, .int (nI tb), .ref b0])), (x0, .inr (5, [.ref k0, .ref w0, .int (nI nz), .int ch])), (k0, .inl (ck, L, .inl f)), (w0, .inl (cw, L, .inl g))]) [0, 1, 2, 3] rfl
    have hKc := hK.sub (tys' := [(ck, .int), (cw, .int)]) [0, 1] rfl
    refine ro_calli (va_runU (As := []) (rest := [.int p0]) ⟨hx, hb, hml, hown, hts⟩ (c_X3_size_H l  dC dI s.heap.size y0 (.int kd) (.int wh) (.int (nI cap)) (.int ru) (.int (nI tb)) (.ref b0) x0 k0 w0 ck cw L f g nz ch hR9) (va_cwU 0 hts gX3_keyOrNone_X3_size_u72X2 rfl rfl rfl rfl (by decide +kernel) ⟨(Nat.le_of_ble_eq_true rfl), (Nat.le_of_ble_eq_true rfl)⟩) ⟨pk_blindR, va_recv hKc hPc (ci := 3) (q0 := 0) rfl rfl, pk_callR hPc hKc⟩ rfl rfl hl.1 rfl (lv_room (Nat.le_of_ble_eq_true rfl)) dX3_keyOrNone_6 ⟨(Nat.le_of_ble_eq_true rfl), (Nat.le_of_ble_eq_true rfl)⟩) (fun r_2 ur_2 hw => ?_)
    clear hPc hKc
    try dsimp only at hw
    have jr_2 := hw
    refine W.eq (g2 := F0 m 9 ls [.int r_2, .int p0]) rfl ?_
    have hr_2 : -1000 ≤ r_2.toInt ∧ r_2.toInt ≤ nz := by rw [jr_2, nI_toInt (by omega)]; omega
    refine lv_icmp_ge (tgt := 28) hx hb dX3_keyOrNone_9 (by decide) (fun c_3 => ?_) (fun c_3 => ?_)
    ·
      have ic_3 : r_2.toInt ≤ p0.toInt := tx_le rfl rfl c_3
      refine lv_ldc2 (v := 1099511627776) hx hb hown hw0_ dX3_keyOrNone_28 ?_
      refine W.widen (k := 0) (n := 0) (Nat.le_of_ble_eq_true rfl) (Nat.le_of_ble_eq_true rfl) ?_
      exact W.lret (v := 1099511627776) hx hb hr (fun t ht hW => ⟨⟨1099511627776, (), rfl, trivial, congrArg Array.size ht⟩, hS.F ht⟩) hS.2.2 dX3_keyOrNone_31
    ·
      have ic_3 : p0.toInt < r_2.toInt := tx_nle rfl rfl c_3
      refine lv_aload_n hx hb dX3_keyOrNone_12 rfl (lv_at hl 0 rfl) ?_
      refine va_get (D := (dC, dI)) (ci := 3) (v := .ref x0) (C := RX2) (T := TX2) (N := 7) hx hb hts hi0_ hown hK hP 0 rfl rfl 0 (by decide) hw1_ (fun _ h9 => h9) rfl dX3_keyOrNone_13 ?_
      refine lv_aload_n hx hb dX3_keyOrNone_16 rfl (lv_at hl 0 rfl) ?_
      refine lv_iload_n hx hb dX3_keyOrNone_17 rfl (lv_at hl 1 rfl) ?_
      have hPc := hP.sub (ws' := [(y0, .inr (3, [.ref x0, .int kd, .int wh, .int (nI cap), .int ru, .int (nI tb), .ref b0]))]) [0] rfl
      have hKc := hK.sub (tys' := []) [] rfl
      refine ro_calli (va_runU (As := [.int p0]) (rest := [.ref x0]) ⟨hx, hb, hml, hown, hts⟩ (c_X3_placeOf_H l  dC dI s.heap.size y0 (.ref x0) (.int kd) (.int wh) (.int (nI cap)) (.int ru) (.int (nI tb)) (.ref b0) p0) (va_cwU 1 hts gX3_keyOrNone_X3_placeOf_u77X2 rfl rfl rfl rfl (by decide +kernel) ⟨(Nat.le_of_ble_eq_true rfl), (Nat.le_of_ble_eq_true rfl)⟩) ⟨pk_blindR, va_recv hKc hPc (ci := 3) (q0 := 0) rfl rfl, pk_callR hPc hKc⟩ rfl rfl hl.1 rfl (lv_room (Nat.le_of_ble_eq_true rfl)) dX3_keyOrNone_18 ⟨(Nat.le_of_ble_eq_true rfl), (Nat.le_of_ble_eq_true rfl)⟩) (fun r_4 ur_4 hw => ?_)
      clear hPc hKc
      try dsimp only at hw
      have jr_4 := hw
      refine W.eq (g2 := F0 m 21 ls [.int r_4, .ref x0]) rfl ?_
      have hPc := hP.sub (ws' := [(x0, .inr (5, [.ref k0, .ref w0, .int (nI nz), .int ch])), (k0, .inl (ck, L, .inl f)), (w0, .inl (cw, L, .inl g))]) [1, 2, 3] rfl
      have hKc := hK.sub (tys' := [(ck, .int), (cw, .int)]) [0, 1] rfl
      refine ro_calli (va_runV (As := [.int r_4]) (rest := []) ⟨hx, hb, hml, hown, hts⟩ (c_X5_key l  dC dI s.heap.size x0 k0 w0 ck cw L f g nz ch r_4 hR9) (cwV 1 hts gX3_keyOrNone_X5_key rfl rfl rfl (by decide +kernel) ⟨(Nat.le_of_ble_eq_true rfl), (Nat.le_of_ble_eq_true rfl)⟩) ⟨pk_blindR, va_recv hKc hPc (ci := 5) (q0 := 0) rfl rfl, pk_callR hPc hKc⟩ rfl rfl hl.1 rfl (lv_room (Nat.le_of_ble_eq_true rfl)) dX3_keyOrNone_21 ⟨(Nat.le_of_ble_eq_true rfl), (Nat.le_of_ble_eq_true rfl)⟩) (fun r_5 ur_5 hw => ?_)
      clear hPc hKc
      try dsimp only at hw
      have jr_5 := hw
      refine W.eq (g2 := F0 m 24 ls [.int r_5]) rfl ?_
      refine lv_i2l (v := r_5.toInt64) hx hb dX3_keyOrNone_24 rfl ?_
      refine lv_goto (tgt := 31) hx hb dX3_keyOrNone_25 (by decide) ?_
      refine W.widen (k := 0) (n := 0) (Nat.le_of_ble_eq_true rfl) (Nat.le_of_ble_eq_true rfl) ?_
      exact W.lret (v := r_5.toInt64) hx hb hr (fun t ht hW => ⟨⟨r_5.toInt64, (), rfl, trivial, congrArg Array.size ht⟩, hS.F ht⟩) hS.2.2 dX3_keyOrNone_31
