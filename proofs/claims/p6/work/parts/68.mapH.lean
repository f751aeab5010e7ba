theorem dX7_map_56 : decode cX7_map 56 = .ok (.astore 9, 2) := by decide +kernel
theorem dX7_map_58 : decode cX7_map 58 = .ok (.iload_n 2, 1) := by decide +kernel
theorem dX7_map_59 : decode cX7_map 59 = .ok (.ifCond .lt 9, 3) := by decide +kernel
theorem dX7_map_68 : decode cX7_map 68 = .ok (.new 15, 3) := by decide +kernel
theorem dX7_map_71 : decode cX7_map 71 = .ok (.dup, 1) := by decide +kernel
theorem dX7_map_72 : decode cX7_map 72 = .ok (.ldc 53, 2) := by decide +kernel
theorem dX7_map_74 : decode cX7_map 74 = .ok (.invokespecial 19, 3) := by decide +kernel
theorem dX7_map_77 : decode cX7_map 77 = .ok (.athrow, 1) := by decide +kernel
theorem dX7_map_62 : decode cX7_map 62 = .ok (.iload_n 2, 1) := by decide +kernel
theorem dX7_map_63 : decode cX7_map 63 = .ok (.bipush 25, 2) := by decide +kernel
theorem dX7_map_65 : decode cX7_map 65 = .ok (.if_icmp .le 13, 3) := by decide +kernel
theorem dX7_map_78 : decode cX7_map 78 = .ok (.aload 8, 2) := by decide +kernel
theorem dX7_map_80 : decode cX7_map 80 = .ok (.getfield 55, 3) := by decide +kernel
theorem dX7_map_83 : decode cX7_map 83 = .ok (.iload_n 2, 1) := by decide +kernel
set_option maxRecDepth 20000 in
theorem ggX7_map_X7_hasOp : GoodIn wqX7_map wsX7_hasOp := goodIn_r _ [28] rfl (by decide +kernel)
set_option maxRecDepth 20000 in
theorem gX7_map_X7_hasOp : GoodIn wqX7_map (va_wsS RX7 61 yX7_hasOp wsX7_hasOp) := goodIn_app (goodIn_of _ (by decide +kernel)) ggX7_map_X7_hasOp
theorem dX7_map_84 : decode cX7_map 84 = .ok (.invokestatic 61, 3) := by decide +kernel
theorem dX7_map_87 : decode cX7_map 87 = .ok (.ifCond .ne 13, 3) := by decide +kernel
theorem dX7_map_100 : decode cX7_map 100 = .ok (.iload_n 2, 1) := by decide +kernel
theorem dX7_map_101 : decode cX7_map 101 = .ok (.tableswitch 343 0 24 #[115, 124, 131, 138, 153, 160, 166, 175, 184, 193, 200, 208, 216, 224, 232, 246, 260, 272, 284, 290, 306, 314, 321, 328, 336], 115) := by decide +kernel
theorem dX7_map_216 : decode cX7_map 216 = .ok (.aload 8, 2) := by decide +kernel
theorem dX7_map_218 : decode cX7_map 218 = .ok (.iload_n 3, 1) := by decide +kernel
theorem dX7_map_219 : decode cX7_map 219 = .ok (.iload 4, 2) := by decide +kernel
set_option maxRecDepth 20000 in
theorem ggX7_map_X3_put : GoodIn wqX7_map wsX3_put := goodIn_ca (goodIn_ca (goodIn_r _ [34, 35, 36, 37, 38, 39, 40, 41, 42, 43, 44, 45, 46, 47, 48, 49, 50, 51, 52, 53, 54, 55, 56, 57, 58, 59, 60, 61, 62, 63, 64, 65, 66, 67, 68, 69, 70, 71, 72, 73, 74, 75, 76, 77, 78, 79, 80, 81, 82, 83, 84, 85, 86, 87, 88, 89, 90, 91, 92, 93, 94, 95, 96, 97, 98, 99, 100, 101, 102, 103, 104, 105, 106, 107, 108, 109, 110, 111, 33, 112, 113, 2, 114, 115, 116, 117, 118, 119, 120, 121, 122, 123, 124, 125, 126, 127, 128, 129, 130, 131, 132, 133, 134, 135, 136, 137, 138, 139, 140, 141, 142, 143, 144, 145, 146, 147, 148, 149, 150, 151, 152, 153, 154, 155, 156, 157, 158, 159, 160, 161, 162, 163, 164, 165, 166, 167, 168, 169, 170, 171, 172, 173, 174, 175, 176, 177, 178, 179, 180, 181, 182, 183, 184, 185, 186, 187, 188, 189, 190, 191, 192, 193, 194, 195, 196, 197, 198, 199, 200, 201, 202, 203, 204, 205, 206, 207, 208, 209, 210, 211, 212, 213, 214, 215, 216, 217, 218, 219, 220, 221, 222, 223, 224, 225, 226, 227, 228, 229, 230, 231, 232, 233, 234, 235, 236, 237, 238, 239, 240, 241, 242, 243, 244, 245, 468, 469, 470, 471, 472, 473, 474, 475, 476, 477, 478, 479, 480, 481, 482, 483, 484, 485, 486, 494, 495, 496, 497] rfl (by decide +kernel)) (goodIn_sub (fun _ h => List.mem_cons_of_mem _ (List.mem_append_left _ (List.mem_append_left _ (List.mem_append_left _ (List.mem_append_right _ h))))) (by decide +kernel))) (goodIn_sub (fun _ h => List.mem_cons_of_mem _ (List.mem_append_left _ (List.mem_append_left _ (List.mem_append_right _ h)))) (by decide +kernel))
set_option maxRecDepth 20000 in
theorem gX7_map_X3_put_u69X2 : GoodIn wqX7_map (va_wsU RX7 69 RX2 "KeyAtlas$Keyed" ⟨"KeyAtlas$Keyed", "put", "(II)J"⟩ yX3_put wsX3_put) := goodIn_app (goodIn_of _ (by decide +kernel)) ggX7_map_X3_put
theorem dX7_map_221 : decode cX7_map 221 = .ok (.invokevirtual 69, 3) := by decide +kernel
theorem dX7_map_224 : decode cX7_map 224 = .ok (.lreturn, 1) := by decide +kernel
theorem dX7_map_225 : decode cX7_map 225 = .ok (.aload 8, 2) := by decide +kernel
theorem dX7_map_227 : decode cX7_map 227 = .ok (.iload_n 3, 1) := by decide +kernel
set_option maxRecDepth 20000 in
theorem ggX7_map_X3_get : GoodIn wqX7_map wsX3_get := goodIn_r _ [252, 35, 129, 36, 37, 38, 39, 40, 41, 42, 43, 44, 45, 46, 47, 48, 49, 50, 51, 52, 53, 54, 55, 56, 57, 58, 59, 60, 61, 62, 63, 64, 65, 66, 67, 68, 69, 70, 71, 72, 73, 74, 75, 76, 77, 78, 79, 80, 81, 82, 83, 84, 85, 86, 87, 88, 89, 90, 91, 92, 93, 94, 95, 96, 97, 98, 99, 100, 101, 102, 103, 104, 105, 106, 107, 221, 222, 223, 224, 163, 229, 230, 231, 232, 33, 233, 234, 235, 236, 237, 238, 239, 240, 241, 242, 164, 165, 166, 167, 168, 243, 468, 469, 470, 471, 472, 473, 474, 475, 476, 477, 478, 479, 480, 481, 482, 483, 484, 485, 486, 494, 495, 496, 497] rfl (by decide +kernel)
set_option maxRecDepth 20000 in
theorem gX7_map_X3_get_u73X2 : GoodIn wqX7_map (va_wsU RX7 73 RX2 "KeyAtlas$Keyed" ⟨"KeyAtlas$Keyed", "get", "(I)J"⟩ yX3_get wsX3_get) := goodIn_app (goodIn_of _ (by decide +kernel)) ggX7_map_X3_get
theorem dX7_map_228 : decode cX7_map 228 = .ok (.invokevirtual 73, 3) := by decide +kernel
theorem dX7_map_231 : decode cX7_map 231 = .ok (.lreturn, 1) := by decide +kernel
theorem dX7_map_232 : decode cX7_map 232 = .ok (.aload 8, 2) := by decide +kernel
theorem dX7_map_234 : decode cX7_map 234 = .ok (.iload_n 3, 1) := by decide +kernel
set_option maxRecDepth 20000 in
theorem ggX7_map_X3_takeOut : GoodIn wqX7_map wsX3_takeOut := goodIn_r _ [259, 35, 129, 36, 37, 38, 39, 40, 41, 42, 43, 44, 45, 46, 47, 48, 49, 50, 51, 52, 53, 54, 55, 56, 57, 58, 59, 60, 61, 62, 63, 64, 65, 66, 67, 68, 69, 70, 71, 72, 73, 74, 75, 76, 77, 78, 79, 80, 81, 82, 83, 84, 85, 86, 87, 88, 89, 90, 91, 92, 93, 94, 95, 96, 97, 98, 99, 100, 101, 102, 103, 104, 105, 106, 107, 221, 222, 223, 224, 163, 260, 261, 262, 263, 264, 265, 266, 267, 203, 33, 204, 205, 206, 207, 208, 164, 165, 166, 167, 168, 155, 156, 157, 158, 193, 194, 195, 196, 154, 268, 269, 468, 469, 470, 471, 472, 473, 474, 475, 476, 477, 478, 479, 480, 481, 482, 483, 484, 485, 486, 494, 495, 496, 497] rfl (by decide +kernel)
set_option maxRecDepth 20000 in
theorem gX7_map_X3_takeOut_u77X2 : GoodIn wqX7_map (va_wsU RX7 77 RX2 "KeyAtlas$Keyed" ⟨"KeyAtlas$Keyed", "takeOut", "(I)J"⟩ yX3_takeOut wsX3_takeOut) := goodIn_app (goodIn_of _ (by decide +kernel)) ggX7_map_X3_takeOut
theorem dX7_map_235 : decode cX7_map 235 = .ok (.invokevirtual 77, 3) := by decide +kernel
theorem dX7_map_238 : decode cX7_map 238 = .ok (.lreturn, 1) := by decide +kernel
theorem dX7_map_239 : decode cX7_map 239 = .ok (.aload 8, 2) := by decide +kernel
theorem dX7_map_241 : decode cX7_map 241 = .ok (.iload_n 3, 1) := by decide +kernel
set_option maxRecDepth 20000 in
theorem ggX7_map_X2_find : GoodIn wqX7_map wsX2_find := goodIn_r _ [41, 42, 43, 44, 45, 46, 47, 40, 48, 49, 50, 51, 52, 53, 54, 55, 56, 57, 58, 59, 60, 61, 62, 63, 64, 65, 468, 469, 470, 471, 472, 473, 474, 475, 476, 477, 478, 479, 480, 481, 482, 483, 484, 485, 486, 494, 495, 496, 497] rfl (by decide +kernel)
set_option maxRecDepth 20000 in
theorem gX7_map_X2_find_u80X2 : GoodIn wqX7_map (va_wsU RX7 80 RX2 "KeyAtlas$Keyed" ⟨"KeyAtlas$Keyed", "find", "(I)I"⟩ yX2_find wsX2_find) := goodIn_app (goodIn_of _ (by decide +kernel)) ggX7_map_X2_find
theorem dX7_map_242 : decode cX7_map 242 = .ok (.invokevirtual 80, 3) := by decide +kernel
theorem dX7_map_245 : decode cX7_map 245 = .ok (.ifCond .lt 7, 3) := by decide +kernel
theorem dX7_map_252 : decode cX7_map 252 = .ok (.lconst 0, 1) := by decide +kernel
theorem dX7_map_253 : decode cX7_map 253 = .ok (.lreturn, 1) := by decide +kernel
theorem dX7_map_248 : decode cX7_map 248 = .ok (.lconst 1, 1) := by decide +kernel
theorem dX7_map_249 : decode cX7_map 249 = .ok (.goto 4, 3) := by decide +kernel
theorem dX7_map_254 : decode cX7_map 254 = .ok (.aload 8, 2) := by decide +kernel
set_option maxRecDepth 20000 in
theorem ggX7_map_X3_size : GoodIn wqX7_map wsX3_size := goodIn_r _ [277, 129, 130, 56, 57, 58, 59, 60, 468, 469, 470, 471, 472, 473, 474, 475, 476, 477, 478, 479, 480, 481, 482, 483, 484, 485, 486, 494, 495, 496, 497] rfl (by decide +kernel)
set_option maxRecDepth 20000 in
theorem gX7_map_X3_size_u84X2 : GoodIn wqX7_map (va_wsU RX7 84 RX2 "KeyAtlas$Keyed" ⟨"KeyAtlas$Keyed", "size", "()I"⟩ yX3_size wsX3_size) := goodIn_app (goodIn_of _ (by decide +kernel)) ggX7_map_X3_size
theorem dX7_map_256 : decode cX7_map 256 = .ok (.invokevirtual 84, 3) := by decide +kernel
theorem dX7_map_259 : decode cX7_map 259 = .ok (.i2l, 1) := by decide +kernel
theorem dX7_map_260 : decode cX7_map 260 = .ok (.lreturn, 1) := by decide +kernel
theorem dX7_map_261 : decode cX7_map 261 = .ok (.aload 8, 2) := by decide +kernel
set_option maxRecDepth 20000 in
theorem ggX7_map_X3_takeAllOut : GoodIn wqX7_map wsX3_takeAllOut := goodIn_r _ [297, 298, 274, 275, 276, 33, 277, 129, 130, 56, 57, 58, 59, 60, 278, 279, 280, 281, 76, 282, 283, 284, 285, 286, 107, 287, 78, 79, 100, 96, 97, 98, 99, 101, 62, 63, 64, 65, 80, 81, 82, 83, 84, 85, 86, 87, 88, 89, 90, 91, 92, 93, 94, 95, 288, 289, 290, 291, 106, 292, 299, 300, 301, 302, 303, 40, 304, 154, 305, 267, 306, 307, 205, 206, 207, 208, 164, 165, 166, 167, 163, 168, 308, 309, 310, 311, 312, 468, 469, 470, 471, 472, 473, 474, 475, 476, 477, 478, 479, 480, 481, 482, 483, 484, 485, 486, 494, 495, 496, 497] rfl (by decide +kernel)
set_option maxRecDepth 20000 in
theorem gX7_map_X3_takeAllOut_u88X2 : GoodIn wqX7_map (va_wsU RX7 88 RX2 "KeyAtlas$Keyed" ⟨"KeyAtlas$Keyed", "takeAllOut", "()J"⟩ yX3_takeAllOut wsX3_takeAllOut) := goodIn_app (goodIn_of _ (by decide +kernel)) ggX7_map_X3_takeAllOut
theorem dX7_map_263 : decode cX7_map 263 = .ok (.invokevirtual 88, 3) := by decide +kernel
theorem dX7_map_266 : decode cX7_map 266 = .ok (.lreturn, 1) := by decide +kernel
theorem dX7_map_267 : decode cX7_map 267 = .ok (.aload 8, 2) := by decide +kernel
theorem dX7_map_269 : decode cX7_map 269 = .ok (.iload_n 3, 1) := by decide +kernel
theorem dX7_map_270 : decode cX7_map 270 = .ok (.iload 4, 2) := by decide +kernel
set_option maxRecDepth 20000 in
theorem ggX7_map_X3_putIfAbsent : GoodIn wqX7_map wsX3_putIfAbsent := goodIn_ca (goodIn_ca (goodIn_r _ [319, 35, 129, 36, 37, 38, 39, 40, 41, 42, 43, 44, 45, 46, 47, 48, 49, 50, 51, 52, 53, 54, 55, 56, 57, 58, 59, 60, 61, 62, 63, 64, 65, 66, 67, 68, 69, 70, 71, 72, 73, 74, 75, 76, 77, 78, 79, 80, 81, 82, 83, 84, 85, 86, 87, 88, 89, 90, 91, 92, 93, 94, 95, 96, 97, 98, 99, 100, 101, 102, 103, 104, 105, 106, 107, 108, 109, 110, 111, 33, 112, 113, 2, 114, 115, 116, 117, 118, 119, 120, 121, 122, 123, 124, 125, 126, 127, 128, 130, 131, 132, 133, 134, 135, 136, 137, 138, 139, 140, 141, 142, 143, 144, 145, 146, 147, 148, 149, 150, 151, 152, 153, 154, 155, 156, 157, 158, 159, 160, 161, 162, 163, 164, 165, 166, 167, 168, 169, 170, 171, 172, 173, 174, 175, 176, 177, 178, 179, 180, 181, 182, 183, 184, 185, 186, 187, 188, 189, 190, 191, 192, 193, 194, 195, 196, 197, 198, 199, 200, 201, 202, 203, 204, 205, 206, 207, 208, 209, 210, 211, 212, 213, 214, 215, 221, 222, 223, 224, 216, 217, 218, 219, 220, 225, 226, 227, 228, 229, 230, 231, 232, 233, 234, 235, 236, 237, 238, 239, 240, 241, 242, 243, 244, 245, 468, 469, 470, 471, 472, 473, 474, 475, 476, 477, 478, 479, 480, 481, 482, 483, 484, 485, 486, 494, 495, 496, 497] rfl (by decide +kernel)) (goodIn_sub (fun _ h => List.mem_cons_of_mem _ (List.mem_append_left _ (List.mem_append_left _ (List.mem_append_left _ (List.mem_append_right _ h))))) (by decide +kernel))) (goodIn_sub (fun _ h => List.mem_cons_of_mem _ (List.mem_append_left _ (List.mem_append_left _ (List.mem_append_right _ h)))) (by decide +kernel))
set_option maxRecDepth 20000 in
theorem gX7_map_X3_putIfAbsent_u92X2 : GoodIn wqX7_map (va_wsU RX7 92 RX2 "KeyAtlas$Keyed" ⟨"KeyAtlas$Keyed", "putIfAbsent", "(II)J"⟩ yX3_putIfAbsent wsX3_putIfAbsent) := goodIn_app (goodIn_of _ (by decide +kernel)) ggX7_map_X3_putIfAbsent
theorem dX7_map_272 : decode cX7_map 272 = .ok (.invokevirtual 92, 3) := by decide +kernel
theorem dX7_map_275 : decode cX7_map 275 = .ok (.lreturn, 1) := by decide +kernel
theorem dX7_map_276 : decode cX7_map 276 = .ok (.aload 8, 2) := by decide +kernel
theorem dX7_map_278 : decode cX7_map 278 = .ok (.iload_n 3, 1) := by decide +kernel
theorem dX7_map_279 : decode cX7_map 279 = .ok (.iload 4, 2) := by decide +kernel
set_option maxRecDepth 20000 in
theorem ggX7_map_X3_putIfThere : GoodIn wqX7_map wsX3_putIfThere := goodIn_r _ [326, 35, 36, 37, 38, 39, 40, 41, 42, 43, 44, 45, 46, 47, 48, 49, 50, 51, 52, 53, 54, 55, 56, 57, 58, 59, 60, 61, 62, 63, 64, 65, 66, 67, 68, 69, 70, 71, 72, 73, 74, 75, 76, 77, 78, 79, 80, 81, 82, 83, 84, 85, 86, 87, 88, 89, 90, 91, 92, 93, 94, 95, 96, 97, 98, 99, 100, 101, 102, 103, 104, 105, 106, 107, 216, 217, 218, 219, 33, 220, 129, 221, 222, 223, 224, 163, 225, 226, 227, 228, 229, 230, 231, 232, 233, 234, 235, 236, 237, 238, 239, 240, 241, 242, 164, 165, 166, 167, 168, 243, 244, 245, 468, 469, 470, 471, 472, 473, 474, 475, 476, 477, 478, 479, 480, 481, 482, 483, 484, 485, 486, 494, 495, 496, 497] rfl (by decide +kernel)
set_option maxRecDepth 20000 in
theorem gX7_map_X3_putIfThere_u95X2 : GoodIn wqX7_map (va_wsU RX7 95 RX2 "KeyAtlas$Keyed" ⟨"KeyAtlas$Keyed", "putIfThere", "(II)J"⟩ yX3_putIfThere wsX3_putIfThere) := goodIn_app (goodIn_of _ (by decide +kernel)) ggX7_map_X3_putIfThere
theorem dX7_map_281 : decode cX7_map 281 = .ok (.invokevirtual 95, 3) := by decide +kernel
theorem dX7_map_284 : decode cX7_map 284 = .ok (.lreturn, 1) := by decide +kernel
theorem dX7_map_285 : decode cX7_map 285 = .ok (.aload 8, 2) := by decide +kernel
theorem dX7_map_287 : decode cX7_map 287 = .ok (.iload_n 3, 1) := by decide +kernel
theorem dX7_map_288 : decode cX7_map 288 = .ok (.iload 4, 2) := by decide +kernel
set_option maxRecDepth 20000 in
theorem ggX7_map_X3_putMore : GoodIn wqX7_map wsX3_putMore := goodIn_ca (goodIn_ca (goodIn_r _ [333, 129, 35, 36, 37, 38, 39, 40, 41, 42, 43, 44, 45, 46, 47, 48, 49, 50, 51, 52, 53, 54, 55, 56, 57, 58, 59, 60, 61, 62, 63, 64, 65, 66, 67, 68, 69, 70, 71, 72, 73, 74, 75, 76, 77, 78, 79, 80, 81, 82, 83, 84, 85, 86, 87, 88, 89, 90, 91, 92, 93, 94, 95, 96, 97, 98, 99, 100, 101, 102, 103, 104, 105, 106, 107, 108, 109, 110, 111, 33, 112, 113, 2, 114, 115, 116, 117, 118, 119, 120, 121, 122, 123, 124, 125, 126, 127, 128, 130, 131, 132, 133, 134, 135, 136, 137, 138, 139, 140, 141, 142, 143, 144, 145, 146, 147, 148, 149, 150, 151, 152, 153, 154, 155, 156, 157, 158, 159, 160, 161, 162, 163, 164, 165, 166, 167, 168, 169, 170, 171, 172, 173, 174, 175, 176, 177, 178, 179, 180, 181, 182, 183, 184, 185, 186, 187, 188, 189, 190, 191, 192, 193, 194, 195, 196, 197, 198, 199, 200, 201, 202, 203, 204, 205, 206, 207, 208, 209, 210, 211, 212, 213, 214, 215, 221, 222, 223, 224, 260, 261, 262, 263, 264, 265, 266, 267, 268, 269, 216, 217, 218, 219, 220, 225, 226, 227, 228, 229, 230, 231, 232, 233, 234, 235, 236, 237, 238, 239, 240, 241, 242, 243, 244, 245, 468, 469, 470, 471, 472, 473, 474, 475, 476, 477, 478, 479, 480, 481, 482, 483, 484, 485, 486, 494, 495, 496, 497] rfl (by decide +kernel)) (goodIn_sub (fun _ h => List.mem_cons_of_mem _ (List.mem_append_left _ (List.mem_append_left _ (List.mem_append_left _ (List.mem_append_right _ h))))) (by decide +kernel))) (goodIn_sub (fun _ h => List.mem_cons_of_mem _ (List.mem_append_left _ (List.mem_append_left _ (List.mem_append_right _ h)))) (by decide +kernel))
set_option maxRecDepth 20000 in
theorem gX7_map_X3_putMore_u98X2 : GoodIn wqX7_map (va_wsU RX7 98 RX2 "KeyAtlas$Keyed" ⟨"KeyAtlas$Keyed", "putMore", "(II)J"⟩ yX3_putMore wsX3_putMore) := goodIn_app (goodIn_of _ (by decide +kernel)) ggX7_map_X3_putMore
theorem dX7_map_290 : decode cX7_map 290 = .ok (.invokevirtual 98, 3) := by decide +kernel
theorem dX7_map_293 : decode cX7_map 293 = .ok (.lreturn, 1) := by decide +kernel
theorem dX7_map_294 : decode cX7_map 294 = .ok (.aload 8, 2) := by decide +kernel
theorem dX7_map_296 : decode cX7_map 296 = .ok (.iload_n 3, 1) := by decide +kernel
set_option maxRecDepth 20000 in
theorem ggX7_map_X3_howManyWith : GoodIn wqX7_map wsX3_howManyWith := goodIn_r _ [340, 129, 298, 274, 275, 276, 33, 277, 130, 56, 57, 58, 59, 60, 278, 279, 280, 281, 76, 282, 283, 284, 285, 286, 107, 287, 78, 79, 100, 96, 97, 98, 99, 101, 62, 63, 64, 65, 80, 81, 82, 83, 84, 85, 86, 87, 88, 89, 90, 91, 92, 93, 94, 95, 288, 289, 290, 291, 106, 292, 341, 342, 343, 344, 345, 346, 347, 348, 349, 350, 351, 221, 222, 223, 224, 163, 468, 469, 470, 471, 472, 473, 474, 475, 476, 477, 478, 479, 480, 481, 482, 483, 484, 485, 486, 494, 495, 496, 497] rfl (by decide +kernel)
set_option maxRecDepth 20000 in
theorem gX7_map_X3_howManyWith_u101X2 : GoodIn wqX7_map (va_wsU RX7 101 RX2 "KeyAtlas$Keyed" ⟨"KeyAtlas$Keyed", "howManyWith", "(I)J"⟩ yX3_howManyWith wsX3_howManyWith) := goodIn_app (goodIn_of _ (by decide +kernel)) ggX7_map_X3_howManyWith
theorem dX7_map_297 : decode cX7_map 297 = .ok (.invokevirtual 101, 3) := by decide +kernel
theorem dX7_map_300 : decode cX7_map 300 = .ok (.lreturn, 1) := by decide +kernel
theorem dX7_map_301 : decode cX7_map 301 = .ok (.aload 8, 2) := by decide +kernel
theorem dX7_map_303 : decode cX7_map 303 = .ok (.iconst 0, 1) := by decide +kernel
theorem dX7_map_304 : decode cX7_map 304 = .ok (.iconst 0, 1) := by decide +kernel
set_option maxRecDepth 20000 in
theorem ggX7_map_X3_endKey : GoodIn wqX7_map wqX3_endKey := goodIn_ca (goodIn_r _ [358, 359, 13, 129, 298, 274, 275, 276, 33, 277, 130, 56, 57, 58, 59, 60, 278, 279, 280, 281, 76, 282, 283, 284, 285, 286, 107, 287, 78, 79, 100, 96, 97, 98, 99, 101, 62, 63, 64, 65, 80, 81, 82, 83, 84, 85, 86, 87, 88, 89, 90, 91, 92, 93, 94, 95, 288, 289, 290, 291, 106, 292, 341, 342, 343, 344, 345, 346, 347, 348, 349, 350, 351, 360, 260, 261, 262, 263, 264, 40, 265, 43, 44, 61, 45, 46, 47, 48, 49, 50, 42, 266, 267, 203, 204, 205, 206, 207, 208, 164, 165, 166, 167, 163, 168, 155, 156, 157, 158, 51, 52, 53, 54, 55, 193, 194, 195, 196, 154, 268, 269, 468, 469, 470, 471, 472, 473, 474, 475, 476, 477, 478, 479, 480, 481, 482, 483, 484, 485, 486, 494, 495, 496, 497] rfl (by decide +kernel)) (goodIn_sub (fun _ h => List.mem_cons_of_mem _ (List.mem_append_left _ (List.mem_append_right _ h))) (by decide +kernel))
set_option maxRecDepth 20000 in
theorem gX7_map_X3_endKey_u104X2 : GoodIn wqX7_map (va_wsU RX7 104 RX2 "KeyAtlas$Keyed" ⟨"KeyAtlas$Keyed", "endKey", "(ZZ)J"⟩ yX3_endKey wqX3_endKey) := goodIn_app (goodIn_of _ (by decide +kernel)) ggX7_map_X3_endKey
theorem dX7_map_305 : decode cX7_map 305 = .ok (.invokevirtual 104, 3) := by decide +kernel
theorem dX7_map_308 : decode cX7_map 308 = .ok (.lreturn, 1) := by decide +kernel
theorem dX7_map_309 : decode cX7_map 309 = .ok (.aload 8, 2) := by decide +kernel
theorem dX7_map_311 : decode cX7_map 311 = .ok (.iconst 1, 1) := by decide +kernel
theorem dX7_map_312 : decode cX7_map 312 = .ok (.iconst 0, 1) := by decide +kernel
theorem dX7_map_313 : decode cX7_map 313 = .ok (.invokevirtual 104, 3) := by decide +kernel
theorem dX7_map_316 : decode cX7_map 316 = .ok (.lreturn, 1) := by decide +kernel
theorem dX7_map_317 : decode cX7_map 317 = .ok (.aload 8, 2) := by decide +kernel
theorem dX7_map_319 : decode cX7_map 319 = .ok (.iconst 0, 1) := by decide +kernel
theorem dX7_map_320 : decode cX7_map 320 = .ok (.iconst 1, 1) := by decide +kernel
theorem dX7_map_321 : decode cX7_map 321 = .ok (.invokevirtual 104, 3) := by decide +kernel
theorem dX7_map_324 : decode cX7_map 324 = .ok (.lreturn, 1) := by decide +kernel
theorem dX7_map_325 : decode cX7_map 325 = .ok (.aload 8, 2) := by decide +kernel
theorem dX7_map_327 : decode cX7_map 327 = .ok (.iconst 1, 1) := by decide +kernel
theorem dX7_map_328 : decode cX7_map 328 = .ok (.iconst 1, 1) := by decide +kernel
theorem dX7_map_329 : decode cX7_map 329 = .ok (.invokevirtual 104, 3) := by decide +kernel
theorem dX7_map_332 : decode cX7_map 332 = .ok (.lreturn, 1) := by decide +kernel
theorem dX7_map_333 : decode cX7_map 333 = .ok (.aload 8, 2) := by decide +kernel
theorem dX7_map_335 : decode cX7_map 335 = .ok (.aload 8, 2) := by decide +kernel
theorem dX7_map_337 : decode cX7_map 337 = .ok (.iload_n 3, 1) := by decide +kernel
set_option maxRecDepth 20000 in
theorem ggX7_map_X3_howManyBefore : GoodIn wqX7_map wsX3_howManyBefore := goodIn_r _ [367] rfl (by decide +kernel)
set_option maxRecDepth 20000 in
theorem gX7_map_X3_howManyBefore_u108X2 : GoodIn wqX7_map (va_wsU RX7 108 RX2 "KeyAtlas$Keyed" ⟨"KeyAtlas$Keyed", "howManyBefore", "(I)I"⟩ yX3_howManyBefore wsX3_howManyBefore) := goodIn_app (goodIn_of _ (by decide +kernel)) ggX7_map_X3_howManyBefore
theorem dX7_map_338 : decode cX7_map 338 = .ok (.invokevirtual 108, 3) := by decide +kernel
theorem dX7_map_341 : decode cX7_map 341 = .ok (.iconst 1, 1) := by decide +kernel
theorem dX7_map_342 : decode cX7_map 342 = .ok (.isub, 1) := by decide +kernel
set_option maxRecDepth 20000 in
theorem ggX7_map_X3_keyOrNone : GoodIn wqX7_map wsX3_keyOrNone := goodIn_r _ [387, 129, 35, 298, 274, 275, 276, 33, 277, 130, 56, 57, 58, 59, 60, 278, 279, 280, 281, 76, 282, 283, 284, 285, 286, 107, 287, 78, 79, 100, 96, 97, 98, 99, 101, 62, 63, 64, 65, 80, 81, 82, 83, 84, 85, 86, 87, 88, 89, 90, 91, 92, 93, 94, 95, 288, 289, 290, 291, 106, 292, 341, 342, 343, 344, 345, 346, 347, 348, 349, 350, 351, 360, 468, 469, 470, 471, 472, 473, 474, 475, 476, 477, 478, 479, 480, 481, 482, 483, 484, 485, 486, 494, 495, 496, 497] rfl (by decide +kernel)
set_option maxRecDepth 20000 in
theorem gX7_map_X3_keyOrNone_u111X2 : GoodIn wqX7_map (va_wsU RX7 111 RX2 "KeyAtlas$Keyed" ⟨"KeyAtlas$Keyed", "keyOrNone", "(I)J"⟩ yX3_keyOrNone wsX3_keyOrNone) := goodIn_app (goodIn_of _ (by decide +kernel)) ggX7_map_X3_keyOrNone
theorem dX7_map_343 : decode cX7_map 343 = .ok (.invokevirtual 111, 3) := by decide +kernel
theorem dX7_map_346 : decode cX7_map 346 = .ok (.lreturn, 1) := by decide +kernel
theorem dX7_map_347 : decode cX7_map 347 = .ok (.aload 8, 2) := by decide +kernel
theorem dX7_map_349 : decode cX7_map 349 = .ok (.aload 8, 2) := by decide +kernel
theorem dX7_map_351 : decode cX7_map 351 = .ok (.iload_n 3, 1) := by decide +kernel
set_option maxRecDepth 20000 in
theorem ggX7_map_X3_howManyUpTo : GoodIn wqX7_map wsX3_howManyUpTo := goodIn_r _ [394] rfl (by decide +kernel)
set_option maxRecDepth 20000 in
theorem gX7_map_X3_howManyUpTo_u114X2 : GoodIn wqX7_map (va_wsU RX7 114 RX2 "KeyAtlas$Keyed" ⟨"KeyAtlas$Keyed", "howManyUpTo", "(I)I"⟩ yX3_howManyUpTo wsX3_howManyUpTo) := goodIn_app (goodIn_of _ (by decide +kernel)) ggX7_map_X3_howManyUpTo
theorem dX7_map_352 : decode cX7_map 352 = .ok (.invokevirtual 114, 3) := by decide +kernel
theorem dX7_map_355 : decode cX7_map 355 = .ok (.iconst 1, 1) := by decide +kernel
theorem dX7_map_356 : decode cX7_map 356 = .ok (.isub, 1) := by decide +kernel
theorem dX7_map_357 : decode cX7_map 357 = .ok (.invokevirtual 111, 3) := by decide +kernel
theorem dX7_map_360 : decode cX7_map 360 = .ok (.lreturn, 1) := by decide +kernel
theorem dX7_map_361 : decode cX7_map 361 = .ok (.aload 8, 2) := by decide +kernel
theorem dX7_map_363 : decode cX7_map 363 = .ok (.aload 8, 2) := by decide +kernel
theorem dX7_map_365 : decode cX7_map 365 = .ok (.iload_n 3, 1) := by decide +kernel
theorem dX7_map_366 : decode cX7_map 366 = .ok (.invokevirtual 108, 3) := by decide +kernel
theorem dX7_map_369 : decode cX7_map 369 = .ok (.invokevirtual 111, 3) := by decide +kernel
theorem dX7_map_372 : decode cX7_map 372 = .ok (.lreturn, 1) := by decide +kernel
theorem dX7_map_373 : decode cX7_map 373 = .ok (.aload 8, 2) := by decide +kernel
theorem dX7_map_375 : decode cX7_map 375 = .ok (.aload 8, 2) := by decide +kernel
theorem dX7_map_377 : decode cX7_map 377 = .ok (.iload_n 3, 1) := by decide +kernel
theorem dX7_map_378 : decode cX7_map 378 = .ok (.invokevirtual 114, 3) := by decide +kernel
theorem dX7_map_381 : decode cX7_map 381 = .ok (.invokevirtual 111, 3) := by decide +kernel
theorem dX7_map_384 : decode cX7_map 384 = .ok (.lreturn, 1) := by decide +kernel
theorem dX7_map_385 : decode cX7_map 385 = .ok (.aload 8, 2) := by decide +kernel
set_option maxRecDepth 20000 in
theorem ggX7_map_X3_sum : GoodIn wqX7_map wsX3_sum := goodIn_r _ [404, 129, 298, 274, 275, 276, 33, 277, 130, 56, 57, 58, 59, 60, 278, 279, 280, 281, 76, 282, 283, 284, 285, 286, 107, 287, 78, 79, 100, 96, 97, 98, 99, 101, 62, 63, 64, 65, 80, 81, 82, 83, 84, 85, 86, 87, 88, 89, 90, 91, 92, 93, 94, 95, 288, 289, 290, 291, 106, 292, 341, 342, 343, 344, 345, 346, 347, 348, 349, 350, 351, 360, 221, 222, 223, 224, 163, 468, 469, 470, 471, 472, 473, 474, 475, 476, 477, 478, 479, 480, 481, 482, 483, 484, 485, 486, 494, 495, 496, 497] rfl (by decide +kernel)
set_option maxRecDepth 20000 in
theorem gX7_map_X3_sum_u117X2 : GoodIn wqX7_map (va_wsU RX7 117 RX2 "KeyAtlas$Keyed" ⟨"KeyAtlas$Keyed", "sum", "()J"⟩ yX3_sum wsX3_sum) := goodIn_app (goodIn_of _ (by decide +kernel)) ggX7_map_X3_sum
theorem dX7_map_387 : decode cX7_map 387 = .ok (.invokevirtual 117, 3) := by decide +kernel
theorem dX7_map_390 : decode cX7_map 390 = .ok (.lreturn, 1) := by decide +kernel
theorem dX7_map_415 : decode cX7_map 415 = .ok (.aload 8, 2) := by decide +kernel
set_option maxRecDepth 20000 in
theorem ggX7_map_X2_tableLength : GoodIn wqX7_map wsX2_tableLength := goodIn_r _ [433, 42, 468, 469, 470, 471, 472, 473, 474] rfl (by decide +kernel)
set_option maxRecDepth 20000 in
theorem gX7_map_X2_tableLength_u128X2 : GoodIn wqX7_map (va_wsO RX7 128 RX2 "KeyAtlas$Keyed" ⟨"KeyAtlas$Keyed", "tableLength", "()I"⟩ yX2_tableLength wsX2_tableLength) := goodIn_app (goodIn_of _ (by decide +kernel)) ggX7_map_X2_tableLength
theorem dX7_map_417 : decode cX7_map 417 = .ok (.invokevirtual 128, 3) := by decide +kernel
theorem dX7_map_420 : decode cX7_map 420 = .ok (.i2l, 1) := by decide +kernel
theorem dX7_map_421 : decode cX7_map 421 = .ok (.lreturn, 1) := by decide +kernel
theorem dX7_map_422 : decode cX7_map 422 = .ok (.aload 8, 2) := by decide +kernel
set_option maxRecDepth 20000 in
theorem ggX7_map_X2_howManyBushy : GoodIn wqX7_map wsX2_howManyBushy := goodIn_r _ [443, 154, 468, 469, 470, 471, 472, 473, 474] rfl (by decide +kernel)
set_option maxRecDepth 20000 in
theorem gX7_map_X2_howManyBushy_u131X2 : GoodIn wqX7_map (va_wsO RX7 131 RX2 "KeyAtlas$Keyed" ⟨"KeyAtlas$Keyed", "howManyBushy", "()I"⟩ yX2_howManyBushy wsX2_howManyBushy) := goodIn_app (goodIn_of _ (by decide +kernel)) ggX7_map_X2_howManyBushy
theorem dX7_map_424 : decode cX7_map 424 = .ok (.invokevirtual 131, 3) := by decide +kernel
theorem dX7_map_427 : decode cX7_map 427 = .ok (.i2l, 1) := by decide +kernel
theorem dX7_map_428 : decode cX7_map 428 = .ok (.lreturn, 1) := by decide +kernel
theorem dX7_map_429 : decode cX7_map 429 = .ok (.aload 8, 2) := by decide +kernel
theorem dX7_map_431 : decode cX7_map 431 = .ok (.iload_n 3, 1) := by decide +kernel
theorem dX7_map_432 : decode cX7_map 432 = .ok (.invokevirtual 108, 3) := by decide +kernel
theorem dX7_map_435 : decode cX7_map 435 = .ok (.i2l, 1) := by decide +kernel
theorem dX7_map_436 : decode cX7_map 436 = .ok (.lreturn, 1) := by decide +kernel
theorem dX7_map_437 : decode cX7_map 437 = .ok (.aload 8, 2) := by decide +kernel
theorem dX7_map_439 : decode cX7_map 439 = .ok (.iload_n 3, 1) := by decide +kernel
set_option maxRecDepth 20000 in
theorem ggX7_map_X3_raiseValues : GoodIn wqX7_map wsX3_raiseValues := goodIn_r _ [452, 129, 298, 274, 275, 276, 33, 277, 130, 56, 57, 58, 59, 60, 278, 279, 280, 281, 76, 282, 283, 284, 285, 286, 107, 287, 78, 79, 100, 96, 97, 98, 99, 101, 62, 63, 64, 65, 80, 81, 82, 83, 84, 85, 86, 87, 88, 89, 90, 91, 92, 93, 94, 95, 288, 289, 290, 291, 106, 292, 341, 342, 343, 344, 345, 346, 347, 348, 349, 350, 351, 221, 222, 223, 224, 163, 225, 226, 227, 228, 468, 469, 470, 471, 472, 473, 474, 475, 476, 477, 478, 479, 480, 481, 482, 483, 484, 485, 486, 494, 495, 496, 497] rfl (by decide +kernel)
set_option maxRecDepth 20000 in
theorem gX7_map_X3_raiseValues_u134X2 : GoodIn wqX7_map (va_wsU RX7 134 RX2 "KeyAtlas$Keyed" ⟨"KeyAtlas$Keyed", "raiseValues", "(I)J"⟩ yX3_raiseValues wsX3_raiseValues) := goodIn_app (goodIn_of _ (by decide +kernel)) ggX7_map_X3_raiseValues
theorem dX7_map_440 : decode cX7_map 440 = .ok (.invokevirtual 134, 3) := by decide +kernel
theorem dX7_map_443 : decode cX7_map 443 = .ok (.lreturn, 1) := by decide +kernel
theorem dX7_map_444 : decode cX7_map 444 = .ok (.aload 8, 2) := by decide +kernel
theorem dX7_map_446 : decode cX7_map 446 = .ok (.iload_n 3, 1) := by decide +kernel
set_option maxRecDepth 20000 in
theorem ggX7_map_X3_takeOutWith : GoodIn wqX7_map wsX3_takeOutWith := goodIn_r _ [459, 129, 298, 274, 275, 276, 33, 277, 130, 56, 57, 58, 59, 60, 278, 279, 280, 281, 76, 282, 283, 284, 285, 286, 107, 287, 78, 79, 100, 96, 97, 98, 99, 101, 62, 63, 64, 65, 80, 81, 82, 83, 84, 85, 86, 87, 88, 89, 90, 91, 92, 93, 94, 95, 288, 289, 290, 291, 106, 292, 341, 342, 343, 344, 345, 346, 347, 348, 349, 350, 351, 221, 222, 223, 224, 163, 260, 261, 262, 263, 264, 40, 265, 43, 44, 61, 45, 46, 47, 48, 49, 50, 42, 266, 267, 203, 204, 205, 206, 207, 208, 164, 165, 166, 167, 168, 155, 156, 157, 158, 51, 52, 53, 54, 55, 193, 194, 195, 196, 154, 268, 269, 468, 469, 470, 471, 472, 473, 474, 475, 476, 477, 478, 479, 480, 481, 482, 483, 484, 485, 486, 494, 495, 496, 497] rfl (by decide +kernel)
set_option maxRecDepth 20000 in
theorem gX7_map_X3_takeOutWith_u137X2 : GoodIn wqX7_map (va_wsU RX7 137 RX2 "KeyAtlas$Keyed" ⟨"KeyAtlas$Keyed", "takeOutWith", "(I)J"⟩ yX3_takeOutWith wsX3_takeOutWith) := goodIn_app (goodIn_of _ (by decide +kernel)) ggX7_map_X3_takeOutWith
theorem dX7_map_447 : decode cX7_map 447 = .ok (.invokevirtual 137, 3) := by decide +kernel
theorem dX7_map_450 : decode cX7_map 450 = .ok (.lreturn, 1) := by decide +kernel
theorem dX7_map_90 : decode cX7_map 90 = .ok (.new 64, 3) := by decide +kernel
theorem dX7_map_93 : decode cX7_map 93 = .ok (.dup, 1) := by decide +kernel
theorem dX7_map_94 : decode cX7_map 94 = .ok (.ldc 66, 2) := by decide +kernel
theorem dX7_map_96 : decode cX7_map 96 = .ok (.invokespecial 68, 3) := by decide +kernel
theorem dX7_map_99 : decode cX7_map 99 = .ok (.athrow, 1) := by decide +kernel
theorem at_X7_map_68 : ∀ w ∈ (vx_atS RX7 19 "java/lang/IllegalArgumentException" ["java/lang/RuntimeException", "java/lang/Exception"]).filter goodWord, w ∈ wqX7_map := fun w h => by
  unfold wqX7_map
  exact List.mem_cons_of_mem _ (List.mem_append_left _ (List.mem_append_left _ (List.mem_append_left _ (List.mem_append_left _ (List.mem_append_left _ (List.mem_append_left _ (List.mem_append_right _ h)))))))
theorem ng_RX7_68 : ∀ w ∈ (vx_atS RX7 68 "java/lang/UnsupportedOperationException" ["java/lang/RuntimeException", "java/lang/Exception"]).filter (fun w => !goodWord w), w ∈ p_xw := by decide +kernel
theorem og_RX7_68 : ∀ w ∈ Cond.classLink RX7 64 "java/lang/UnsupportedOperationException" :: Cond.initialized "java/lang/UnsupportedOperationException" :: vx_atS RX7 68 "java/lang/UnsupportedOperationException" ["java/lang/RuntimeException", "java/lang/Exception"], vx_ot w = true := by decide +kernel
theorem at_X7_map_90 : ∀ w ∈ (vx_atS RX7 68 "java/lang/UnsupportedOperationException" ["java/lang/RuntimeException", "java/lang/Exception"]).filter goodWord, w ∈ wqX7_map := fun w h => by
  unfold wqX7_map
  exact List.mem_cons_of_mem _ (List.mem_append_left _ (List.mem_append_left _ (List.mem_append_left _ (List.mem_append_left _ (List.mem_append_left _ (List.mem_append_right _ h))))))
set_option maxHeartbeats 4000000 in
set_option maxRecDepth 100000 in
/-- map, one MAP, H -/
theorem c_X7_map_H (l : Launch) (hlt : l.stackTraces = false) (dC : Nat → ClassId) (dI : Nat → Nat → Nat) (sz : Nat) (T0 : Nat) (a0 : Nat) (qb : Nat) (cq : ClassId) (bq : Nat → Option Nat) (o : Nat) (y0 : Nat) (kd : Int32) (wh : Int32) (cap : Nat) (ru : Int32) (tb : Nat) (b0 : Nat) (cb : ClassId) (bf : Nat → Int32) (x0 : Nat) (k0 : Nat) (w0 : Nat) (ck : ClassId) (cw : ClassId) (L : Nat) (f : Nat → Int32) (g : Nat → Int32) (nz : Nat) (ch : Int32) (p1 : Int32) (p2 : Int32) (p3 : Int32) (ho9 : o < 16) (hbo : bq o = some y0) (hH9 : hOK tb L nz cap) (hop : ¬ p1.toInt = 19 ∧ ¬ p1.toInt = 20) : vx_Met l yX7_map wqX7_map ({ frames := 9, cells := 20, slots := 27000, locals := 360 }) (va_Pc [.ref a0, .int (nI o), .int p1, .int p2, .int p3] (pk_PreXT (dC, dI) [(a0, .inr (7, [.ref qb])), (qb, .inl (cq, 16, .inr (.inr (.inr (.inr bq))))), (y0, .inr (3, [.ref x0, .int kd, .int wh, .int (nI cap), .int ru, .int (nI tb), .ref b0])), (x0, .inr (5, [.ref k0, .ref w0, .int (nI nz), .int ch])), (k0, .inl (ck, L, .inl f)), (w0, .inl (cw, L, .inl g)), (b0, .inl (cb, tb, .inl bf))] [(cq, .object "KeyAtlas$Body"), (ck, .int), (cw, .int), (cb, .boolean)] sz T0)) (va_Ql (fun (x : Int64) (u : Nat × Nat × ClassId × (Nat → Int32) × Nat × Nat × ClassId × ClassId × Nat × (Nat → Int32) × (Nat → Int32) × Nat × Int32) => hOK (u.1) (u.2.2.2.2.2.2.2.2.1) (u.2.2.2.2.2.2.2.2.2.2.2.1) cap) (fun (u : Nat × Nat × ClassId × (Nat → Int32) × Nat × Nat × ClassId × ClassId × Nat × (Nat → Int32) × (Nat → Int32) × Nat × Int32) (t : State) => va_P (dC, dI) vwCl [(a0, .inr (7, [.ref qb])), (qb, .inl (cq, 16, .inr (.inr (.inr (.inr bq))))), (y0, .inr (3, [.ref x0, .int kd, .int wh, .int (nI cap), .int ru, .int (nI (u.1)), .ref u.2.1])), (x0, .inr (5, [.ref u.2.2.2.2.1, .ref u.2.2.2.2.2.1, .int (nI (u.2.2.2.2.2.2.2.2.2.2.2.1)), .int u.2.2.2.2.2.2.2.2.2.2.2.2])), (u.2.2.2.2.1, .inl (u.2.2.2.2.2.2.1, u.2.2.2.2.2.2.2.2.1, .inl u.2.2.2.2.2.2.2.2.2.1)), (u.2.2.2.2.2.1, .inl (u.2.2.2.2.2.2.2.1, u.2.2.2.2.2.2.2.2.1, .inl u.2.2.2.2.2.2.2.2.2.2.1)), (u.2.1, .inl (u.2.2.1, u.1, .inl u.2.2.2.1))] t.heap ∧ va_K (dC, dI) vwCl [(cq, .object "KeyAtlas$Body"), (u.2.2.2.2.2.2.1, .int), (u.2.2.2.2.2.2.2.1, .int), (u.2.2.1, .boolean)] t ∧ va_D (va_A [(a0, .inr (7, [.ref qb])), (qb, .inl (cq, 16, .inr (.inr (.inr (.inr bq))))), (y0, .inr (3, [.ref x0, .int kd, .int wh, .int (nI cap), .int ru, .int (nI tb), .ref b0])), (x0, .inr (5, [.ref k0, .ref w0, .int (nI nz), .int ch])), (k0, .inl (ck, L, .inl f)), (w0, .inl (cw, L, .inl g)), (b0, .inl (cb, tb, .inl bf))] sz) [(a0, .inr (7, [.ref qb])), (qb, .inl (cq, 16, .inr (.inr (.inr (.inr bq))))), (y0, .inr (3, [.ref x0, .int kd, .int wh, .int (nI cap), .int ru, .int (nI (u.1)), .ref u.2.1])), (x0, .inr (5, [.ref u.2.2.2.2.1, .ref u.2.2.2.2.2.1, .int (nI (u.2.2.2.2.2.2.2.2.2.2.2.1)), .int u.2.2.2.2.2.2.2.2.2.2.2.2])), (u.2.2.2.2.1, .inl (u.2.2.2.2.2.2.1, u.2.2.2.2.2.2.2.2.1, .inl u.2.2.2.2.2.2.2.2.2.1)), (u.2.2.2.2.2.1, .inl (u.2.2.2.2.2.2.2.1, u.2.2.2.2.2.2.2.2.1, .inl u.2.2.2.2.2.2.2.2.2.2.1)), (u.2.1, .inl (u.2.2.1, u.1, .inl u.2.2.2.1))] ∧ hT t.heap + hPS tb L ≤ (T0 + 6) + hPS (u.1) (u.2.2.2.2.2.2.2.2.1) ∧ t.heap.size + hPC tb L ≤ (sz + 1) + hPC (u.1) (u.2.2.2.2.2.2.2.2.1)) (va_A [(a0, .inr (7, [.ref qb])), (qb, .inl (cq, 16, .inr (.inr (.inr (.inr bq))))), (y0, .inr (3, [.ref x0, .int kd, .int wh, .int (nI cap), .int ru, .int (nI tb), .ref b0])), (x0, .inr (5, [.ref k0, .ref w0, .int (nI nz), .int ch])), (k0, .inl (ck, L, .inl f)), (w0, .inl (cw, L, .inl g)), (b0, .inl (cb, tb, .inl bf))] sz)) (vx_X (fun _ : Unit => True) (fun (E : String) (_ : Unit) (t : State) => ((E = "java/lang/IllegalArgumentException" ∨ E = "java/lang/IllegalStateException" ∨ E = "java/util/NoSuchElementException" ∨ E = "java/lang/UnsupportedOperationException") ∧ va_P (dC, dI) vwCl [(a0, .inr (7, [.ref qb])), (qb, .inl (cq, 16, .inr (.inr (.inr (.inr bq))))), (y0, .inr (3, [.ref x0, .int kd, .int wh, .int (nI cap), .int ru, .int (nI tb), .ref b0])), (x0, .inr (5, [.ref k0, .ref w0, .int (nI nz), .int ch])), (k0, .inl (ck, L, .inl f)), (w0, .inl (cw, L, .inl g)), (b0, .inl (cb, tb, .inl bf))] t.heap ∧ va_K (dC, dI) vwCl [(cq, .object "KeyAtlas$Body"), (ck, .int), (cw, .int), (cb, .boolean)] t ∧ va_D (va_A [(a0, .inr (7, [.ref qb])), (qb, .inl (cq, 16, .inr (.inr (.inr (.inr bq))))), (y0, .inr (3, [.ref x0, .int kd, .int wh, .int (nI cap), .int ru, .int (nI tb), .ref b0])), (x0, .inr (5, [.ref k0, .ref w0, .int (nI nz), .int ch])), (k0, .inl (ck, L, .inl f)), (w0, .inl (cw, L, .inl g)), (b0, .inl (cb, tb, .inl bf))] sz) [(a0, .inr (7, [.ref qb])), (qb, .inl (cq, 16, .inr (.inr (.inr (.inr bq))))), (y0, .inr (3, [.ref x0, .int kd, .int wh, .int (nI cap), .int ru, .int (nI tb), .ref b0])), (x0, .inr (5, [.ref k0, .ref w0, .int (nI nz), .int ch])), (k0, .inl (ck, L, .inl f)), (w0, .inl (cw, L, .inl g)), (b0, .inl (cb, tb, .inl bf))]) ∧ t.heap.size ≤ sz + 1 ∧ hT t.heap ≤ T0 + 6) (va_A [(a0, .inr (7, [.ref qb])), (qb, .inl (cq, 16, .inr (.inr (.inr (.inr bq))))), (y0, .inr (3, [.ref x0, .int kd, .int wh, .int (nI cap), .int ru, .int (nI tb), .ref b0])), (x0, .inr (5, [.ref k0, .ref w0, .int (nI nz), .int ch])), (k0, .inl (ck, L, .inl f)), (w0, .inl (cw, L, .inl g)), (b0, .inl (cb, tb, .inl bf))] sz)) 20 27000 (va_A [(a0, .inr (7, [.ref qb])), (qb, .inl (cq, 16, .inr (.inr (.inr (.inr bq))))), (y0, .inr (3, [.ref x0, .int kd, .int wh, .int (nI cap), .int ru, .int (nI tb), .ref b0])), (x0, .inr (5, [.ref k0, .ref w0, .int (nI nz), .int ch])), (k0, .inl (ck, L, .inl f)), (w0, .inl (cw, L, .inl g)), (b0, .inl (cb, tb, .inl bf))] sz) := by
  refine vx_ofW (cc := cX7_map) (maxL := 10) (ret := (some .long)) (by decide) rfl ?_
  intro p e s m args below meth c s₁ B hml htab hv
  obtain ⟨rfl, ⟨hsz, hP, hK, hD0, hN, hZ⟩, hT0⟩ := hv
  have hx := B.exec
  have hb := B.bytes
  have hr := B.returns
  have hts := atoms_spec (ws := wqX7_map) B.pre
  have hown : s.vm.findClass RX7 = some m.cls := findClass_of_methodNamed B.named
  have hlocks := B.notSynchronized
  subst hsz
  subst hT0
  have hD := hD0.self (sz := s.heap.size)
  generalize hAe : va_A [(a0, .inr (7, [.ref qb])), (qb, .inl (cq, 16, .inr (.inr (.inr (.inr bq))))), (y0, .inr (3, [.ref x0, .int kd, .int wh, .int (nI cap), .int ru, .int (nI tb), .ref b0])), (x0, .inr (5, [.ref k0, .ref w0, .int (nI nz), .int ch])), (k0, .inl (ck, L, .inl f)), (w0, .inl (cw, L, .inl g)), (b0, .inl (cb, tb, .inl bf))] s.heap.size = A at hZ hD ⊢
  have hA : ∀ q : Nat, s.heap.size ≤ q → A q := fun q h => by rw [← hAe]; exact Or.inr h
  have hS : va_S A s.heap s.heap [] := va_S.rf
  have hP : va_P (dC, dI) vwCl [(a0, .inr (7, [.ref qb])), (qb, .inl (cq, 16, .inr (.inr (.inr (.inr bq))))), (y0, .inr (3, [.ref x0, .int kd, .int wh, .int (nI cap), .int ru, .int (nI tb), .ref b0])), (x0, .inr (5, [.ref k0, .ref w0, .int (nI nz), .int ch])), (k0, .inl (ck, L, .inl f)), (w0, .inl (cw, L, .inl g)), (b0, .inl (cb, tb, .inl bf))] s.heap := hP
  have hl := lv_entry ([.ref a0, .int (nI o), .int p1, .int p2, .int p3]) (n := 10) (Nat.le_of_ble_eq_true rfl)
  rw [lg_entry_eq]
  generalize (lg_sl ([.ref a0, .int (nI o), .int p1, .int p2, .int p3]) ++ List.replicate (10 - (lg_sl ([.ref a0, .int (nI o), .int p1, .int p2, .int p3])).length) Slot.unset).toArray = ls at hl ⊢
  have hl : lv_has ls 10 [(0, .ref a0), (1, .int (nI o)), (2, .int p1), (3, .int p2), (4, .int p3)] := hl
  have hw0_ := hts (.classLink RX7 15 "java/lang/IllegalArgumentException") (List.mem_of_getElem? (l := wqX7_map) (i := 1) rfl)
  have hw1_ := hts (.initialized "java/lang/IllegalArgumentException") (List.mem_of_getElem? (l := wqX7_map) (i := 2) rfl)
  have hw2_ := hts (.fieldLink RX7 55 "KeyAtlas$Keyed" "kind" "I") (List.mem_of_getElem? (l := wqX7_map) (i := 5) rfl)
  have hw3_ := hts (.sameField "KeyAtlas$Keyed" "KeyAtlas$Body" "kind" "I") (List.mem_of_getElem? (l := wqX7_map) (i := 6) rfl)
  have hw4_ := hts (.classLink RX7 64 "java/lang/UnsupportedOperationException") (List.mem_of_getElem? (l := wqX7_map) (i := 3) rfl)
  have hw5_ := hts (.initialized "java/lang/UnsupportedOperationException") (List.mem_of_getElem? (l := wqX7_map) (i := 4) rfl)
  have hi0_ : ∀ w ∈ u_ws RX2 TX2 7, w ∈ wqX7_map := fun w h => List.mem_cons_of_mem _ (List.mem_append_left _ (List.mem_append_left _ (List.mem_append_left _ (List.mem_append_left _ (List.mem_append_left _ (List.mem_append_left _ (List.mem_append_left _ (List.mem_append_left _ (List.mem_append_left _ (List.mem_append_left _ (List.mem_append_left _ (List.mem_append_left _ (List.mem_append_right _ h)))))))))))))
  have hR9 : rOK L nz := hH9.1
  have htb := hOK_tb hH9
  obtain ⟨hL1, hL2, hz1, hz2⟩ := id hR9
  have hH9_ := hH9
  refine lv_aload_n hx hb dX7_map_0 rfl (lv_at hl 0 rfl) ?_
  refine lv_iload_n hx hb dX7_map_1 rfl (lv_at hl 1 rfl) ?_
  have hPc := hP.sub (ws' := [(a0, .inr (7, [.ref qb])), (qb, .inl (cq, 16, .inr (.inr (.inr (.inr bq)))))]) [0, 1] rfl
  have hKc := hK.sub (tys' := [(cq, .object "KeyAtlas$Body")]) [0] rfl
  refine rox_callr (B := (fun (_ : Unit) (a : Nat) (t : State) => t.heap.size = s.heap.size ∧ ∃ j : Nat, j < 16 ∧ nI o = nI j ∧ bq j = some a)) (fun u9 x9 t9 h9 => h9.1) (vx_runV (As := [.int (nI o)]) (rest := []) ⟨hx, hb, hml, hown, hts⟩ (c_X7_bodyAt l hlt dC dI s.heap.size a0 qb cq bq (nI o)) (cwV 1 hts gX7_map_X7_bodyAt rfl rfl rfl (by decide +kernel) ⟨(Nat.le_of_ble_eq_true rfl), (Nat.le_of_ble_eq_true rfl)⟩) ⟨pk_blindXR, va_recv hKc hPc (ci := 7) (q0 := 0) rfl rfl, pk_callXR hPc hKc hN ((hZ.kept hS.2.1).narrow (fun q h9 => hA q (Nat.le_trans hS.1 h9)))⟩ rfl rfl hl.1 rfl (lv_room (Nat.le_of_ble_eq_true rfl)) dX7_map_2 ⟨(Nat.le_of_ble_eq_true rfl), (Nat.le_of_ble_eq_true rfl)⟩) hS (fun q h9 => hA q (Nat.le_trans hS.1 h9)) (fun E ce q9 u9 t H1 locs ht hvm hw hB hz1 hk1 hS hce hcv hcl => ?_) (fun r_1 ur_1 t9 locs hw hB9 hS => ?_)
  ·
    try dsimp only at hB
    exact bq_no ho9 hbo hB.2
  ·
    refine W.tight (k := 0) (n := 0) (Nat.le_refl _) (Nat.le_refl _) ?_
    clear hPc hKc
    try dsimp only at hw
    have jr_1 := hw
    refine W.eq (g2 := F0 m 5 ls [.ref y0]) (by rw [show r_1 = y0 from bq_is ho9 hbo hB9.2]) ?_
    refine lv_astore (lv' := [(5, .ref y0), (0, .ref a0), (1, .int (nI o)), (2, .int p1), (3, .int p2), (4, .int p3)]) hx hb dX7_map_5 hl (by decide) rfl (fun ls hl => ?_)
    refine lv_iload_n hx hb dX7_map_7 rfl (lv_at hl 3 rfl) ?_
    refine lv_bipush (v := 19) hx hb dX7_map_8 (by decide) ?_
    refine lv_icmp_eq (tgt := 19) hx hb dX7_map_10 (by decide) (fun c_2 => ?_) (fun c_2 => ?_)
    ·
      have ic_2 : p1.toInt = 19 := tx_eq rfl (by decide) c_2
      exfalso
      omega
    ·
      have ic_2 : ¬ p1.toInt = 19 := tx_ne rfl (by decide) c_2
      refine lv_iload_n hx hb dX7_map_13 rfl (lv_at hl 3 rfl) ?_
      refine lv_bipush (v := 20) hx hb dX7_map_14 (by decide) ?_
      refine lv_icmp_ne (tgt := 23) hx hb dX7_map_16 (by decide) (fun c_3 => ?_) (fun c_3 => ?_)
      ·
        have ic_3 : ¬ p1.toInt = 20 := tx_ne rfl (by decide) c_3
        refine lv_iconst (v := 0) hx hb dX7_map_23 (by decide) ?_
        refine lv_istore (lv' := [(6, .int 0), (5, .ref y0), (0, .ref a0), (1, .int (nI o)), (2, .int p1), (3, .int p2), (4, .int p3)]) hx hb dX7_map_24 hl (by decide) rfl (fun ls hl => ?_)
        refine lv_iload hx hb dX7_map_26 (lv_at hl 0 rfl) ?_
        refine lv_if_eq (tgt := 40) hx hb dX7_map_28 (by decide) (fun c_4 => ?_) (fun c_4 => absurd c_4 (by decide))
        refine lv_aload hx hb dX7_map_40 (lv_at hl 1 rfl) ?_
        refine lv_astore (lv' := [(7, .ref y0), (6, .int 0), (5, .ref y0), (0, .ref a0), (1, .int (nI o)), (2, .int p1), (3, .int p2), (4, .int p3)]) hx hb dX7_map_42 hl (by decide) rfl (fun ls hl => ?_)
        refine lv_aload hx hb dX7_map_44 (lv_at hl 2 rfl) ?_
        have hPc := hP.sub (ws' := [(y0, .inr (3, [.ref x0, .int kd, .int wh, .int (nI cap), .int ru, .int (nI tb), .ref b0]))]) [2] rfl
        have hKc := hK.sub (tys' := []) [] rfl
        refine ro_callr (B := (fun (_ : Unit) (a : Nat) (t : State) => t.heap.size = s.heap.size ∧ a = y0)) (fun u9 x9 t9 h9 => h9.1) (va_runS (As := [.ref y0]) (rest := []) ⟨hx, hb, hml, hown, hts⟩ (c_X7_asMap_H l hlt dC dI s.heap.size y0 ([.ref x0, .int kd, .int wh, .int (nI cap), .int ru, .int (nI tb), .ref b0])) (va_cwS 1 hts gX7_map_X7_asMap rfl rfl rfl (by decide +kernel) ⟨(Nat.le_of_ble_eq_true rfl), (Nat.le_of_ble_eq_true rfl)⟩) ⟨pk_blindRX, pk_callRX hPc hKc hN⟩ rfl rfl hl.1 rfl (lv_room (Nat.le_of_ble_eq_true rfl)) dX7_map_46 ⟨(Nat.le_of_ble_eq_true rfl), (Nat.le_of_ble_eq_true rfl)⟩) (fun r_5 ur_5 t9 hw hB9 => ?_)
        clear hPc hKc
        try dsimp only at hw
        have jr_5 := hw
        refine W.eq (g2 := F0 m 49 ls [.ref y0]) (by rw [show r_5 = y0 from hB9.2]) ?_
        refine lv_astore (lv' := [(8, .ref y0), (7, .ref y0), (6, .int 0), (5, .ref y0), (0, .ref a0), (1, .int (nI o)), (2, .int p1), (3, .int p2), (4, .int p3)]) hx hb dX7_map_49 hl (by decide) rfl (fun ls hl => ?_)
        refine lv_aload hx hb dX7_map_51 (lv_at hl 1 rfl) ?_
        have hPc := hP.sub (ws' := [(y0, .inr (3, [.ref x0, .int kd, .int wh, .int (nI cap), .int ru, .int (nI tb), .ref b0]))]) [2] rfl
        have hKc := hK.sub (tys' := []) [] rfl
        refine ro_callr (B := (fun (_ : Unit) (a : Nat) (t : State) => t.heap.size = s.heap.size ∧ a = y0)) (fun u9 x9 t9 h9 => h9.1) (va_runS (As := [.ref y0]) (rest := []) ⟨hx, hb, hml, hown, hts⟩ (c_X7_asMap_H l hlt dC dI s.heap.size y0 ([.ref x0, .int kd, .int wh, .int (nI cap), .int ru, .int (nI tb), .ref b0])) (va_cwS 1 hts gX7_map_X7_asMap rfl rfl rfl (by decide +kernel) ⟨(Nat.le_of_ble_eq_true rfl), (Nat.le_of_ble_eq_true rfl)⟩) ⟨pk_blindRX, pk_callRX hPc hKc hN⟩ rfl rfl hl.1 rfl (lv_room (Nat.le_of_ble_eq_true rfl)) dX7_map_53 ⟨(Nat.le_of_ble_eq_true rfl), (Nat.le_of_ble_eq_true rfl)⟩) (fun r_6 ur_6 t9 hw hB9 => ?_)
        clear hPc hKc
        try dsimp only at hw
        have jr_6 := hw
        refine W.eq (g2 := F0 m 56 ls [.ref y0]) (by rw [show r_6 = y0 from hB9.2]) ?_
        refine lv_astore (lv' := [(9, .ref y0), (8, .ref y0), (7, .ref y0), (6, .int 0), (5, .ref y0), (0, .ref a0), (1, .int (nI o)), (2, .int p1), (3, .int p2), (4, .int p3)]) hx hb dX7_map_56 hl (by decide) rfl (fun ls hl => ?_)
        refine lv_iload_n hx hb dX7_map_58 rfl (lv_at hl 7 rfl) ?_
        refine lv_if_lt (tgt := 68) hx hb dX7_map_59 (by decide) (fun c_7 => ?_) (fun c_7 => ?_)
        ·
          have ic_7 : p1.toInt < 0 := tx_lt rfl (by decide) c_7
          have hP9 := hP.sub (ws' := [(a0, .inr (7, [.ref qb])), (qb, .inl (cq, 16, .inr (.inr (.inr (.inr bq))))), (y0, .inr (3, [.ref x0, .int kd, .int wh, .int (nI cap), .int ru, .int (nI tb), .ref b0])), (x0, .inr (5, [.ref k0, .ref w0, .int (nI nz), .int ch])), (k0, .inl (ck, L, .inl f)), (w0, .inl (cw, L, .inl g)), (b0, .inl (cb, tb, .inl bf))]) [0, 1, 2, 3, 4, 5, 6] rfl
          have hD9 := hD.sub (ws' := [(a0, .inr (7, [.ref qb])), (qb, .inl (cq, 16, .inr (.inr (.inr (.inr bq))))), (y0, .inr (3, [.ref x0, .int kd, .int wh, .int (nI cap), .int ru, .int (nI tb), .ref b0])), (x0, .inr (5, [.ref k0, .ref w0, .int (nI nz), .int ch])), (k0, .inl (ck, L, .inl f)), (w0, .inl (cw, L, .inl g)), (b0, .inl (cb, tb, .inl bf))]) [0, 1, 2, 3, 4, 5, 6] (by decide) rfl
          have hK9 := hK.sub (tys' := [(cq, .object "KeyAtlas$Body"), (ck, .int), (cw, .int), (cb, .boolean)]) [0, 1, 2, 3] rfl
          refine vx_tightX (XC0 := vx_X (fun _ : Unit => True) (fun (E : String) (_ : Unit) (t : State) => (E = "java/lang/IllegalArgumentException" ∨ E = "java/lang/IllegalStateException" ∨ E = "java/util/NoSuchElementException" ∨ E = "java/lang/UnsupportedOperationException") ∧ va_P (dC, dI) vwCl [(a0, .inr (7, [.ref qb])), (qb, .inl (cq, 16, .inr (.inr (.inr (.inr bq))))), (y0, .inr (3, [.ref x0, .int kd, .int wh, .int (nI cap), .int ru, .int (nI tb), .ref b0])), (x0, .inr (5, [.ref k0, .ref w0, .int (nI nz), .int ch])), (k0, .inl (ck, L, .inl f)), (w0, .inl (cw, L, .inl g)), (b0, .inl (cb, tb, .inl bf))] t.heap ∧ va_K (dC, dI) vwCl [(cq, .object "KeyAtlas$Body"), (ck, .int), (cw, .int), (cb, .boolean)] t ∧ va_D A [(a0, .inr (7, [.ref qb])), (qb, .inl (cq, 16, .inr (.inr (.inr (.inr bq))))), (y0, .inr (3, [.ref x0, .int kd, .int wh, .int (nI cap), .int ru, .int (nI tb), .ref b0])), (x0, .inr (5, [.ref k0, .ref w0, .int (nI nz), .int ch])), (k0, .inl (ck, L, .inl f)), (w0, .inl (cw, L, .inl g)), (b0, .inl (cb, tb, .inl bf))]) A) 1 6 (by omega) (by omega) (fun E t9 h9 hz9 hn9 => by obtain ⟨u9, g1, g2, g3⟩ := h9; exact ⟨u9, g1, ⟨g2, hz9, hn9⟩, g3⟩) ?_
          obtain ⟨sa, hsa⟩ := hN.stX7_53
          exact vx_throwS hx hb hlt (own := RX7) (cls := "java/lang/IllegalArgumentException") (text := "no such op") (names := ["java/lang/RuntimeException", "java/lang/Exception"]) hown (by decide +kernel) (by decide +kernel) hw0_ hw1_ hsa (tx_hat hN.xw (fun w h => hts w (at_X7_map_68 w h)) ng_RX7_19) og_RX7_19 hZ.1 hZ.2 hS (by rw [hml]; exact hl.1) dX7_map_68 dX7_map_71 dX7_map_72 dX7_map_74 dX7_map_77 (fun x hx9 => (htab x hx9).elim) (Nat.le_of_ble_eq_true rfl) (Nat.le_of_ble_eq_true rfl) (Nat.le_of_ble_eq_true rfl) (Nat.le_of_ble_eq_true rfl) hlocks (fun t hvm hz hq => ⟨(), trivial, ⟨Or.inl rfl, hP9.kept (fun k x hx => hq x.1 (hP9 k x hx).lt), va_K.moved hvm hK9, hD9⟩, ⟨Nat.le_trans hS.1 hz, fun q h1 h2 => (hq q (Nat.lt_of_lt_of_le h1 hS.1)).trans (hS.2.1 q h1 h2)⟩⟩) hS.2.2 (Nat.le_of_ble_eq_true rfl) (Nat.le_of_ble_eq_true rfl)
        ·
          have ic_7 : 0 ≤ p1.toInt := tx_nlt rfl (by decide) c_7
          refine lv_iload_n hx hb dX7_map_62 rfl (lv_at hl 7 rfl) ?_
          refine lv_bipush (v := 25) hx hb dX7_map_63 (by decide) ?_
          refine lv_icmp_le (tgt := 78) hx hb dX7_map_65 (by decide) (fun c_8 => ?_) (fun c_8 => ?_)
          ·
            have ic_8 : p1.toInt ≤ 25 := tx_le rfl (by decide) c_8
            refine lv_aload hx hb dX7_map_78 (lv_at hl 1 rfl) ?_
            refine va_get (D := (dC, dI)) (ci := 3) (v := .int kd) (C := RX2) (T := TX2) (N := 7) hx hb hts hi0_ hown hK hP 2 rfl rfl 1 (by decide) hw2_ (u_same hw3_) rfl dX7_map_80 ?_
            refine lv_iload_n hx hb dX7_map_83 rfl (lv_at hl 7 rfl) ?_
            have hPc := hP.sub (ws' := []) [] rfl
            have hKc := hK.sub (tys' := []) [] rfl
            refine ro_calli (va_runS (As := [.int kd, .int p1]) (rest := []) ⟨hx, hb, hml, hown, hts⟩ (c_X7_hasOp l  dC dI s.heap.size kd p1) (va_cwS 2 hts gX7_map_X7_hasOp rfl rfl rfl (by decide +kernel) ⟨(Nat.le_of_ble_eq_true rfl), (Nat.le_of_ble_eq_true rfl)⟩) ⟨pk_blindR, pk_callR hPc hKc⟩ rfl rfl hl.1 rfl (lv_room (Nat.le_of_ble_eq_true rfl)) dX7_map_84 ⟨(Nat.le_of_ble_eq_true rfl), (Nat.le_of_ble_eq_true rfl)⟩) (fun r_9 ur_9 hw => ?_)
            clear hPc hKc
            try dsimp only at hw
            have jr_9 := hw
            refine W.eq (g2 := F0 m 87 ls [.int r_9]) rfl ?_
            refine lv_if_ne (tgt := 100) hx hb dX7_map_87 (by decide) (fun c_10 => ?_) (fun c_10 => ?_)
            ·
              have ic_10 : ¬ r_9.toInt = 0 := tx_ne rfl (by decide) c_10
              refine lv_iload_n hx hb dX7_map_100 rfl (lv_at hl 7 rfl) ?_
              by_cases c_11 : p1 = 0
              ·
                have ic_11 : p1.toInt = 0 := tx_eq rfl (by decide) c_11
                refine lv_tableIn (off := 115) (tgt := 216) hx hb dX7_map_101 (by rw [c_11]; decide) (by rw [c_11]; decide) (by rw [c_11]; rfl) (by decide) ?_
                refine lv_aload hx hb dX7_map_216 (lv_at hl 1 rfl) ?_
                refine lv_iload_n hx hb dX7_map_218 rfl (lv_at hl 8 rfl) ?_
                refine lv_iload hx hb dX7_map_219 (lv_at hl 9 rfl) ?_
                have hPc := hP.sub (ws' := [(y0, .inr (3, [.ref x0, .int kd, .int wh, .int (nI cap), .int ru, .int (nI tb), .ref b0])), (x0, .inr (5, [.ref k0, .ref w0, .int (nI nz), .int ch])), (k0, .inl (ck, L, .inl f)), (w0, .inl (cw, L, .inl g)), (b0, .inl (cb, tb, .inl bf))]) [2, 3, 4, 5, 6] rfl
                have hDc := hD.sub (ws' := [(y0, .inr (3, [.ref x0, .int kd, .int wh, .int (nI cap), .int ru, .int (nI tb), .ref b0])), (x0, .inr (5, [.ref k0, .ref w0, .int (nI nz), .int ch])), (k0, .inl (ck, L, .inl f)), (w0, .inl (cw, L, .inl g)), (b0, .inl (cb, tb, .inl bf))]) [2, 3, 4, 5, 6] (by decide) rfl
                have hKc := hK.sub (tys' := [(ck, .int), (cw, .int), (cb, .boolean)]) [1, 2, 3] rfl
                have hFc := va_free (wc := [(y0, .inr (3, [.ref x0, .int kd, .int wh, .int (nI cap), .int ru, .int (nI tb), .ref b0])), (x0, .inr (5, [.ref k0, .ref w0, .int (nI nz), .int ch])), (k0, .inl (ck, L, .inl f)), (w0, .inl (cw, L, .inl g)), (b0, .inl (cb, tb, .inl bf))]) hD hS hA [2, 3, 4, 5, 6] rfl
                have hZc := (hZ.kept hS.2.1).narrow hFc
                refine vx_calll (vx_runU (As := [.int p2, .int p3]) (rest := []) ⟨hx, hb, hml, hown, hts⟩ (c_X3_put_H l hlt dC dI s.heap.size (hT s.heap) y0 kd wh cap ru tb b0 cb bf x0 k0 w0 ck cw L f g nz ch p2 p3 8000 18000 hH9 (by unfold rOK at hR9; omega) (by unfold rOK at hR9; omega) (by unfold rOK at hR9; omega) (by unfold rOK at hR9; omega)) (va_cwU 2 hts gX7_map_X3_put_u69X2 rfl rfl rfl rfl (by decide +kernel) ⟨(Nat.le_of_ble_eq_true rfl), (Nat.le_of_ble_eq_true rfl)⟩) ⟨pk_blindXT, va_recv hKc hPc (ci := 3) (q0 := 0) rfl rfl, pk_callXT hPc hKc hDc hN hZc⟩ rfl rfl hl.1 rfl (lv_room (Nat.le_of_ble_eq_true rfl)) dX7_map_221 ⟨(Nat.le_of_ble_eq_true rfl), (show 0 + (8000 + 18000 + 6) ≤ 27000 by omega)⟩) hS (fun q _ h => hFc q h) hFc (fun q _ h => hFc q h) (fun E ce q9 u9 t H1 locs ht hvm hw hB hz1 hk1 hS hce hcv hcl => ?_) (fun r_12 ur_12 t H1 locs ht hvm hw hB hz1 hk1 hS => ?_)
                ·
                  try dsimp only at hB
                  obtain ⟨hB8, hB7⟩ := hB
                  obtain ⟨hE8, hP8, hK8, hD8⟩ := hB8
                  rw [ht] at hP8
                  obtain ⟨hP7, -⟩ := va_join (wr := [(a0, .inr (7, [.ref qb])), (qb, .inl (cq, 16, .inr (.inr (.inr (.inr bq)))))]) (w1 := [(y0, .inr (3, [.ref x0, .int kd, .int wh, .int (nI cap), .int ru, .int (nI tb), .ref b0])), (x0, .inr (5, [.ref k0, .ref w0, .int (nI nz), .int ch])), (k0, .inl (ck, L, .inl f)), (w0, .inl (cw, L, .inl g)), (b0, .inl (cb, tb, .inl bf))]) hP hD [2, 3, 4, 5, 6] [0, 1] rfl rfl (by decide) (by decide) hk1 hFc hP8 hD8
                  have hP6 := hP7.sub (ws' := [(a0, .inr (7, [.ref qb])), (qb, .inl (cq, 16, .inr (.inr (.inr (.inr bq))))), (y0, .inr (3, [.ref x0, .int kd, .int wh, .int (nI cap), .int ru, .int (nI tb), .ref b0])), (x0, .inr (5, [.ref k0, .ref w0, .int (nI nz), .int ch])), (k0, .inl (ck, L, .inl f)), (w0, .inl (cw, L, .inl g)), (b0, .inl (cb, tb, .inl bf))]) [0, 1, 2, 3, 4, 5, 6] rfl
                  exact vx_out (fun x hx9 => (htab x hx9).elim) hlocks hce hcv hcl (fun t9 ht9 hal9 => ⟨(), trivial, ⟨⟨hE8.elim (fun h => Or.inl h) (fun h => Or.inr (Or.inl h)), by rw [ht9]; exact hP6, va_K.moved hal9 hK, hD⟩, by rw [ht9, ← ht]; exact hB7.1, by rw [ht9, ← ht]; exact hB7.2⟩, hS.F ht9⟩) hS.2.2 (by omega) (by omega)
                ·
                  try dsimp only at hw
                  have jr_12 := hw
                  obtain ⟨hP1, hK1, hD1, hC1_⟩ := hB
                  rw [ht] at hP1 hC1_
                  have hK1 := va_K.moved hvm.symm hK1
                  obtain ⟨hP, hD⟩ := va_join (wr := [(a0, .inr (7, [.ref qb])), (qb, .inl (cq, 16, .inr (.inr (.inr (.inr bq)))))]) (w1 := [(y0, .inr (3, [.ref x0, .int kd, .int wh, .int (nI cap), .int ru, .int (nI (ur_12.1)), .ref ur_12.2.1])), (x0, .inr (5, [.ref ur_12.2.2.2.2.1, .ref ur_12.2.2.2.2.2.1, .int (nI (ur_12.2.2.2.2.2.2.2.2.2.2.2.1)), .int ur_12.2.2.2.2.2.2.2.2.2.2.2.2])), (ur_12.2.2.2.2.1, .inl (ur_12.2.2.2.2.2.2.1, ur_12.2.2.2.2.2.2.2.2.1, .inl ur_12.2.2.2.2.2.2.2.2.2.1)), (ur_12.2.2.2.2.2.1, .inl (ur_12.2.2.2.2.2.2.2.1, ur_12.2.2.2.2.2.2.2.2.1, .inl ur_12.2.2.2.2.2.2.2.2.2.2.1)), (ur_12.2.1, .inl (ur_12.2.2.1, ur_12.1, .inl ur_12.2.2.2.1))]) hP hD [2, 3, 4, 5, 6] [0, 1] rfl rfl (by decide) (by decide) hk1 hFc hP1 hD1
                  have hK := hK.app hK1
                  have hK : va_K (dC, dI) vwCl [(cq, .object "KeyAtlas$Body"), (ck, .int), (cw, .int), (cb, .boolean), (ur_12.2.2.2.2.2.2.1, .int), (ur_12.2.2.2.2.2.2.2.1, .int), (ur_12.2.2.1, .boolean)] s := hK
                  have hcs1_ : hT H1 + hPS tb L ≤ hT s.heap + hPS (ur_12.1) (ur_12.2.2.2.2.2.2.2.2.1) := hC1_.1
                  have hcs2_ : H1.size + hPC tb L ≤ s.heap.size + hPC (ur_12.1) (ur_12.2.2.2.2.2.2.2.2.1) := hC1_.2
                  clear hC1_
                  clear hk1 hz1 ht hPc hDc hKc hFc
                  generalize H1 = H at hP hS hcs1_ hcs2_ ⊢
                  replace hP : va_P (dC, dI) vwCl [(a0, .inr (7, [.ref qb])), (qb, .inl (cq, 16, .inr (.inr (.inr (.inr bq))))), (y0, .inr (3, [.ref x0, .int kd, .int wh, .int (nI cap), .int ru, .int (nI (ur_12.1)), .ref ur_12.2.1])), (x0, .inr (5, [.ref ur_12.2.2.2.2.1, .ref ur_12.2.2.2.2.2.1, .int (nI (ur_12.2.2.2.2.2.2.2.2.2.2.2.1)), .int ur_12.2.2.2.2.2.2.2.2.2.2.2.2])), (ur_12.2.2.2.2.1, .inl (ur_12.2.2.2.2.2.2.1, ur_12.2.2.2.2.2.2.2.2.1, .inl ur_12.2.2.2.2.2.2.2.2.2.1)), (ur_12.2.2.2.2.2.1, .inl (ur_12.2.2.2.2.2.2.2.1, ur_12.2.2.2.2.2.2.2.2.1, .inl ur_12.2.2.2.2.2.2.2.2.2.2.1)), (ur_12.2.1, .inl (ur_12.2.2.1, ur_12.1, .inl ur_12.2.2.2.1))] H := hP
                  replace hD : va_D A [(a0, .inr (7, [.ref qb])), (qb, .inl (cq, 16, .inr (.inr (.inr (.inr bq))))), (y0, .inr (3, [.ref x0, .int kd, .int wh, .int (nI cap), .int ru, .int (nI (ur_12.1)), .ref ur_12.2.1])), (x0, .inr (5, [.ref ur_12.2.2.2.2.1, .ref ur_12.2.2.2.2.2.1, .int (nI (ur_12.2.2.2.2.2.2.2.2.2.2.2.1)), .int ur_12.2.2.2.2.2.2.2.2.2.2.2.2])), (ur_12.2.2.2.2.1, .inl (ur_12.2.2.2.2.2.2.1, ur_12.2.2.2.2.2.2.2.2.1, .inl ur_12.2.2.2.2.2.2.2.2.2.1)), (ur_12.2.2.2.2.2.1, .inl (ur_12.2.2.2.2.2.2.2.1, ur_12.2.2.2.2.2.2.2.2.1, .inl ur_12.2.2.2.2.2.2.2.2.2.2.1)), (ur_12.2.1, .inl (ur_12.2.2.1, ur_12.1, .inl ur_12.2.2.2.1))] := hD
                  refine W.widen (k := 9) (n := 8000 + 18000 + 6) (by omega) (by omega) ?_
                  refine W.eq (g2 := F0 m 224 ls [.long r_12]) rfl ?_
                  have hko_ := kpH_ok hH9 jr_12
                  refine W.book (fun hz9_ hn9_ => ?_)
                  have hpost : hOK (ur_12.1) (ur_12.2.2.2.2.2.2.2.2.1) (ur_12.2.2.2.2.2.2.2.2.2.2.2.1) cap := hko_.1
                  have hcost : hT H + hPS tb L ≤ (hT s.heap + 6) + hPS (ur_12.1) (ur_12.2.2.2.2.2.2.2.2.1) ∧ H.size + hPC tb L ≤ (s.heap.size + 1) + hPC (ur_12.1) (ur_12.2.2.2.2.2.2.2.2.1) := by constructor <;> omega
                  have hP9 := hP.sub (ws' := [(a0, .inr (7, [.ref qb])), (qb, .inl (cq, 16, .inr (.inr (.inr (.inr bq))))), (y0, .inr (3, [.ref x0, .int kd, .int wh, .int (nI cap), .int ru, .int (nI (ur_12.1)), .ref ur_12.2.1])), (x0, .inr (5, [.ref ur_12.2.2.2.2.1, .ref ur_12.2.2.2.2.2.1, .int (nI (ur_12.2.2.2.2.2.2.2.2.2.2.2.1)), .int ur_12.2.2.2.2.2.2.2.2.2.2.2.2])), (ur_12.2.2.2.2.1, .inl (ur_12.2.2.2.2.2.2.1, ur_12.2.2.2.2.2.2.2.2.1, .inl ur_12.2.2.2.2.2.2.2.2.2.1)), (ur_12.2.2.2.2.2.1, .inl (ur_12.2.2.2.2.2.2.2.1, ur_12.2.2.2.2.2.2.2.2.1, .inl ur_12.2.2.2.2.2.2.2.2.2.2.1)), (ur_12.2.1, .inl (ur_12.2.2.1, ur_12.1, .inl ur_12.2.2.2.1))]) [0, 1, 2, 3, 4, 5, 6] rfl
                  have hD9 := hD.sub (ws' := [(a0, .inr (7, [.ref qb])), (qb, .inl (cq, 16, .inr (.inr (.inr (.inr bq))))), (y0, .inr (3, [.ref x0, .int kd, .int wh, .int (nI cap), .int ru, .int (nI (ur_12.1)), .ref ur_12.2.1])), (x0, .inr (5, [.ref ur_12.2.2.2.2.1, .ref ur_12.2.2.2.2.2.1, .int (nI (ur_12.2.2.2.2.2.2.2.2.2.2.2.1)), .int ur_12.2.2.2.2.2.2.2.2.2.2.2.2])), (ur_12.2.2.2.2.1, .inl (ur_12.2.2.2.2.2.2.1, ur_12.2.2.2.2.2.2.2.2.1, .inl ur_12.2.2.2.2.2.2.2.2.2.1)), (ur_12.2.2.2.2.2.1, .inl (ur_12.2.2.2.2.2.2.2.1, ur_12.2.2.2.2.2.2.2.2.1, .inl ur_12.2.2.2.2.2.2.2.2.2.2.1)), (ur_12.2.1, .inl (ur_12.2.2.1, ur_12.1, .inl ur_12.2.2.2.1))]) [0, 1, 2, 3, 4, 5, 6] (by decide) rfl
                  have hK9 := hK.sub (tys' := [(cq, .object "KeyAtlas$Body"), (ur_12.2.2.2.2.2.2.1, .int), (ur_12.2.2.2.2.2.2.2.1, .int), (ur_12.2.2.1, .boolean)]) [0, 4, 5, 6] rfl
                  refine W.widen (k := 20) (n := 27000) (by omega) (by omega) ?_
                  refine vx_ret ?_
                  exact W.lret (v := r_12) hx hb hr (fun t ht hW => ⟨⟨r_12, (ur_12.1, ur_12.2.1, ur_12.2.2.1, ur_12.2.2.2.1, ur_12.2.2.2.2.1, ur_12.2.2.2.2.2.1, ur_12.2.2.2.2.2.2.1, ur_12.2.2.2.2.2.2.2.1, ur_12.2.2.2.2.2.2.2.2.1, ur_12.2.2.2.2.2.2.2.2.2.1, ur_12.2.2.2.2.2.2.2.2.2.2.1, ur_12.2.2.2.2.2.2.2.2.2.2.2.1, ur_12.2.2.2.2.2.2.2.2.2.2.2.2), rfl, hpost, by rw [ht]; exact hP9, va_K.moved hW.alike hK9, hD9, by rw [ht]; exact hcost⟩, hS.F ht⟩) hS.2.2 dX7_map_224
              have ic_11 : ¬ p1.toInt = 0 := tx_ne rfl (by decide) c_11
              by_cases c_13 : p1 = 1
              ·
                have ic_13 : p1.toInt = 1 := tx_eq rfl (by decide) c_13
                refine lv_tableIn (off := 124) (tgt := 225) hx hb dX7_map_101 (by rw [c_13]; decide) (by rw [c_13]; decide) (by rw [c_13]; rfl) (by decide) ?_
                refine lv_aload hx hb dX7_map_225 (lv_at hl 1 rfl) ?_
                refine lv_iload_n hx hb dX7_map_227 rfl (lv_at hl 8 rfl) ?_
                have hPc := hP.sub (ws' := [(y0, .inr (3, [.ref x0, .int kd, .int wh, .int (nI cap), .int ru, .int (nI tb), .ref b0])), (x0, .inr (5, [.ref k0, .ref w0, .int (nI nz), .int ch])), (k0, .inl (ck, L, .inl f)), (w0, .inl (cw, L, .inl g)), (b0, .inl (cb, tb, .inl bf))]) [2, 3, 4, 5, 6] rfl
                have hDc := hD.sub (ws' := [(y0, .inr (3, [.ref x0, .int kd, .int wh, .int (nI cap), .int ru, .int (nI tb), .ref b0])), (x0, .inr (5, [.ref k0, .ref w0, .int (nI nz), .int ch])), (k0, .inl (ck, L, .inl f)), (w0, .inl (cw, L, .inl g)), (b0, .inl (cb, tb, .inl bf))]) [2, 3, 4, 5, 6] (by decide) rfl
                have hKc := hK.sub (tys' := [(ck, .int), (cw, .int), (cb, .boolean)]) [1, 2, 3] rfl
                have hFc := va_free (wc := [(y0, .inr (3, [.ref x0, .int kd, .int wh, .int (nI cap), .int ru, .int (nI tb), .ref b0])), (x0, .inr (5, [.ref k0, .ref w0, .int (nI nz), .int ch])), (k0, .inl (ck, L, .inl f)), (w0, .inl (cw, L, .inl g)), (b0, .inl (cb, tb, .inl bf))]) hD hS hA [2, 3, 4, 5, 6] rfl
                have hZc := (hZ.kept hS.2.1).narrow hFc
                refine va_calll (va_runU (As := [.int p2]) (rest := []) ⟨hx, hb, hml, hown, hts⟩ (c_X3_get_H l hlt dC dI s.heap.size y0 kd wh cap ru tb b0 cb bf x0 k0 w0 ck cw L f g nz ch p2 hH9) (va_cwU 1 hts gX7_map_X3_get_u73X2 rfl rfl rfl rfl (by decide +kernel) ⟨(Nat.le_of_ble_eq_true rfl), (Nat.le_of_ble_eq_true rfl)⟩) ⟨pk_blindX, va_recv hKc hPc (ci := 3) (q0 := 0) rfl rfl, pk_callX hPc hKc hDc hN hZc⟩ rfl rfl hl.1 rfl (lv_room (Nat.le_of_ble_eq_true rfl)) dX7_map_228 ⟨(Nat.le_of_ble_eq_true rfl), (Nat.le_of_ble_eq_true rfl)⟩) hS (fun q _ h => hFc q h) hFc (fun r_14 ur_14 t H1 locs ht hvm hw hB hz1 hk1 hS => ?_)
                try dsimp only at hw
                have jr_14 := hw
                obtain ⟨hP1, hK1, hD1⟩ := hB
                rw [ht] at hP1
                have hK1 := va_K.moved hvm.symm hK1
                obtain ⟨hP, hD⟩ := va_join (wr := [(a0, .inr (7, [.ref qb])), (qb, .inl (cq, 16, .inr (.inr (.inr (.inr bq)))))]) (w1 := [(y0, .inr (3, [.ref x0, .int kd, .int wh, .int (nI cap), .int ru, .int (nI tb), .ref b0])), (x0, .inr (5, [.ref k0, .ref w0, .int (nI nz), .int ur_14.2.2])), (k0, .inl (ck, L, .inl ur_14.1)), (w0, .inl (cw, L, .inl ur_14.2.1)), (b0, .inl (cb, tb, .inl bf))]) hP hD [2, 3, 4, 5, 6] [0, 1] rfl rfl (by decide) (by decide) hk1 hFc hP1 hD1
                clear hk1 hz1 ht hPc hDc hKc hFc
                generalize H1 = H at hP hS ⊢
                replace hP : va_P (dC, dI) vwCl [(a0, .inr (7, [.ref qb])), (qb, .inl (cq, 16, .inr (.inr (.inr (.inr bq))))), (y0, .inr (3, [.ref x0, .int kd, .int wh, .int (nI cap), .int ru, .int (nI tb), .ref b0])), (x0, .inr (5, [.ref k0, .ref w0, .int (nI nz), .int ur_14.2.2])), (k0, .inl (ck, L, .inl ur_14.1)), (w0, .inl (cw, L, .inl ur_14.2.1)), (b0, .inl (cb, tb, .inl bf))] H := hP
                replace hD : va_D A [(a0, .inr (7, [.ref qb])), (qb, .inl (cq, 16, .inr (.inr (.inr (.inr bq))))), (y0, .inr (3, [.ref x0, .int kd, .int wh, .int (nI cap), .int ru, .int (nI tb), .ref b0])), (x0, .inr (5, [.ref k0, .ref w0, .int (nI nz), .int ur_14.2.2])), (k0, .inl (ck, L, .inl ur_14.1)), (w0, .inl (cw, L, .inl ur_14.2.1)), (b0, .inl (cb, tb, .inl bf))] := hD
                refine W.widen (k := 0) (n := 0) (Nat.le_of_ble_eq_true rfl) (Nat.le_of_ble_eq_true rfl) ?_
                refine W.eq (g2 := F0 m 231 ls [.long r_14]) rfl ?_
                refine W.book (fun hz9_ hn9_ => ?_)
                have hpost : hOK (tb) (L) (nz) cap := hH9_
                have hcost : hT H + hPS tb L ≤ (hT s.heap + 6) + hPS (tb) (L) ∧ H.size + hPC tb L ≤ (s.heap.size + 1) + hPC (tb) (L) := by constructor <;> omega
                have hP9 := hP.sub (ws' := [(a0, .inr (7, [.ref qb])), (qb, .inl (cq, 16, .inr (.inr (.inr (.inr bq))))), (y0, .inr (3, [.ref x0, .int kd, .int wh, .int (nI cap), .int ru, .int (nI tb), .ref b0])), (x0, .inr (5, [.ref k0, .ref w0, .int (nI nz), .int ur_14.2.2])), (k0, .inl (ck, L, .inl ur_14.1)), (w0, .inl (cw, L, .inl ur_14.2.1)), (b0, .inl (cb, tb, .inl bf))]) [0, 1, 2, 3, 4, 5, 6] rfl
                have hD9 := hD.sub (ws' := [(a0, .inr (7, [.ref qb])), (qb, .inl (cq, 16, .inr (.inr (.inr (.inr bq))))), (y0, .inr (3, [.ref x0, .int kd, .int wh, .int (nI cap), .int ru, .int (nI tb), .ref b0])), (x0, .inr (5, [.ref k0, .ref w0, .int (nI nz), .int ur_14.2.2])), (k0, .inl (ck, L, .inl ur_14.1)), (w0, .inl (cw, L, .inl ur_14.2.1)), (b0, .inl (cb, tb, .inl bf))]) [0, 1, 2, 3, 4, 5, 6] (by decide) rfl
                have hK9 := hK.sub (tys' := [(cq, .object "KeyAtlas$Body"), (ck, .int), (cw, .int), (cb, .boolean)]) [0, 1, 2, 3] rfl
                refine W.widen (k := 20) (n := 27000) (Nat.le_of_ble_eq_true rfl) (Nat.le_of_ble_eq_true rfl) ?_
                refine vx_ret ?_
                exact W.lret (v := r_14) hx hb hr (fun t ht hW => ⟨⟨r_14, (tb, b0, cb, bf, k0, w0, ck, cw, L, ur_14.1, ur_14.2.1, nz, ur_14.2.2), rfl, hpost, by rw [ht]; exact hP9, va_K.moved hW.alike hK9, hD9, by rw [ht]; exact hcost⟩, hS.F ht⟩) hS.2.2 dX7_map_231
              have ic_13 : ¬ p1.toInt = 1 := tx_ne rfl (by decide) c_13
              by_cases c_15 : p1 = 2
              ·
                have ic_15 : p1.toInt = 2 := tx_eq rfl (by decide) c_15
                refine lv_tableIn (off := 131) (tgt := 232) hx hb dX7_map_101 (by rw [c_15]; decide) (by rw [c_15]; decide) (by rw [c_15]; rfl) (by decide) ?_
                refine lv_aload hx hb dX7_map_232 (lv_at hl 1 rfl) ?_
                refine lv_iload_n hx hb dX7_map_234 rfl (lv_at hl 8 rfl) ?_
                have hPc := hP.sub (ws' := [(y0, .inr (3, [.ref x0, .int kd, .int wh, .int (nI cap), .int ru, .int (nI tb), .ref b0])), (x0, .inr (5, [.ref k0, .ref w0, .int (nI nz), .int ch])), (k0, .inl (ck, L, .inl f)), (w0, .inl (cw, L, .inl g)), (b0, .inl (cb, tb, .inl bf))]) [2, 3, 4, 5, 6] rfl
                have hDc := hD.sub (ws' := [(y0, .inr (3, [.ref x0, .int kd, .int wh, .int (nI cap), .int ru, .int (nI tb), .ref b0])), (x0, .inr (5, [.ref k0, .ref w0, .int (nI nz), .int ch])), (k0, .inl (ck, L, .inl f)), (w0, .inl (cw, L, .inl g)), (b0, .inl (cb, tb, .inl bf))]) [2, 3, 4, 5, 6] (by decide) rfl
                have hKc := hK.sub (tys' := [(ck, .int), (cw, .int), (cb, .boolean)]) [1, 2, 3] rfl
                have hFc := va_free (wc := [(y0, .inr (3, [.ref x0, .int kd, .int wh, .int (nI cap), .int ru, .int (nI tb), .ref b0])), (x0, .inr (5, [.ref k0, .ref w0, .int (nI nz), .int ch])), (k0, .inl (ck, L, .inl f)), (w0, .inl (cw, L, .inl g)), (b0, .inl (cb, tb, .inl bf))]) hD hS hA [2, 3, 4, 5, 6] rfl
                have hZc := (hZ.kept hS.2.1).narrow hFc
                refine va_calll (va_runU (As := [.int p2]) (rest := []) ⟨hx, hb, hml, hown, hts⟩ (c_X3_takeOut_H l hlt dC dI s.heap.size y0 kd wh cap ru tb b0 cb bf x0 k0 w0 ck cw L f g nz ch p2 hH9) (va_cwU 1 hts gX7_map_X3_takeOut_u77X2 rfl rfl rfl rfl (by decide +kernel) ⟨(Nat.le_of_ble_eq_true rfl), (Nat.le_of_ble_eq_true rfl)⟩) ⟨pk_blindX, va_recv hKc hPc (ci := 3) (q0 := 0) rfl rfl, pk_callX hPc hKc hDc hN hZc⟩ rfl rfl hl.1 rfl (lv_room (Nat.le_of_ble_eq_true rfl)) dX7_map_235 ⟨(Nat.le_of_ble_eq_true rfl), (Nat.le_of_ble_eq_true rfl)⟩) hS (fun q _ h => hFc q h) hFc (fun r_16 ur_16 t H1 locs ht hvm hw hB hz1 hk1 hS => ?_)
                try dsimp only at hw
                have jr_16 := hw
                obtain ⟨hP1, hK1, hD1⟩ := hB
                rw [ht] at hP1
                have hK1 := va_K.moved hvm.symm hK1
                obtain ⟨hP, hD⟩ := va_join (wr := [(a0, .inr (7, [.ref qb])), (qb, .inl (cq, 16, .inr (.inr (.inr (.inr bq)))))]) (w1 := [(y0, .inr (3, [.ref x0, .int kd, .int wh, .int (nI cap), .int ru, .int (nI tb), .ref b0])), (x0, .inr (5, [.ref k0, .ref w0, .int (nI (ur_16.2.2.1)), .int ur_16.2.2.2.1])), (k0, .inl (ck, L, .inl ur_16.1)), (w0, .inl (cw, L, .inl ur_16.2.1)), (b0, .inl (cb, tb, .inl ur_16.2.2.2.2))]) hP hD [2, 3, 4, 5, 6] [0, 1] rfl rfl (by decide) (by decide) hk1 hFc hP1 hD1
                clear hk1 hz1 ht hPc hDc hKc hFc
                generalize H1 = H at hP hS ⊢
                replace hP : va_P (dC, dI) vwCl [(a0, .inr (7, [.ref qb])), (qb, .inl (cq, 16, .inr (.inr (.inr (.inr bq))))), (y0, .inr (3, [.ref x0, .int kd, .int wh, .int (nI cap), .int ru, .int (nI tb), .ref b0])), (x0, .inr (5, [.ref k0, .ref w0, .int (nI (ur_16.2.2.1)), .int ur_16.2.2.2.1])), (k0, .inl (ck, L, .inl ur_16.1)), (w0, .inl (cw, L, .inl ur_16.2.1)), (b0, .inl (cb, tb, .inl ur_16.2.2.2.2))] H := hP
                replace hD : va_D A [(a0, .inr (7, [.ref qb])), (qb, .inl (cq, 16, .inr (.inr (.inr (.inr bq))))), (y0, .inr (3, [.ref x0, .int kd, .int wh, .int (nI cap), .int ru, .int (nI tb), .ref b0])), (x0, .inr (5, [.ref k0, .ref w0, .int (nI (ur_16.2.2.1)), .int ur_16.2.2.2.1])), (k0, .inl (ck, L, .inl ur_16.1)), (w0, .inl (cw, L, .inl ur_16.2.1)), (b0, .inl (cb, tb, .inl ur_16.2.2.2.2))] := hD
                refine W.widen (k := 0) (n := 0) (Nat.le_of_ble_eq_true rfl) (Nat.le_of_ble_eq_true rfl) ?_
                refine W.eq (g2 := F0 m 238 ls [.long r_16]) rfl ?_
                refine W.book (fun hz9_ hn9_ => ?_)
                have hpost : hOK (tb) (L) (ur_16.2.2.1) cap := hOK_le hH9_ jr_16
                have hcost : hT H + hPS tb L ≤ (hT s.heap + 6) + hPS (tb) (L) ∧ H.size + hPC tb L ≤ (s.heap.size + 1) + hPC (tb) (L) := by constructor <;> omega
                have hP9 := hP.sub (ws' := [(a0, .inr (7, [.ref qb])), (qb, .inl (cq, 16, .inr (.inr (.inr (.inr bq))))), (y0, .inr (3, [.ref x0, .int kd, .int wh, .int (nI cap), .int ru, .int (nI tb), .ref b0])), (x0, .inr (5, [.ref k0, .ref w0, .int (nI (ur_16.2.2.1)), .int ur_16.2.2.2.1])), (k0, .inl (ck, L, .inl ur_16.1)), (w0, .inl (cw, L, .inl ur_16.2.1)), (b0, .inl (cb, tb, .inl ur_16.2.2.2.2))]) [0, 1, 2, 3, 4, 5, 6] rfl
                have hD9 := hD.sub (ws' := [(a0, .inr (7, [.ref qb])), (qb, .inl (cq, 16, .inr (.inr (.inr (.inr bq))))), (y0, .inr (3, [.ref x0, .int kd, .int wh, .int (nI cap), .int ru, .int (nI tb), .ref b0])), (x0, .inr (5, [.ref k0, .ref w0, .int (nI (ur_16.2.2.1)), .int ur_16.2.2.2.1])), (k0, .inl (ck, L, .inl ur_16.1)), (w0, .inl (cw, L, .inl ur_16.2.1)), (b0, .inl (cb, tb, .inl ur_16.2.2.2.2))]) [0, 1, 2, 3, 4, 5, 6] (by decide) rfl
                have hK9 := hK.sub (tys' := [(cq, .object "KeyAtlas$Body"), (ck, .int), (cw, .int), (cb, .boolean)]) [0, 1, 2, 3] rfl
                refine W.widen (k := 20) (n := 27000) (Nat.le_of_ble_eq_true rfl) (Nat.le_of_ble_eq_true rfl) ?_
                refine vx_ret ?_
                exact W.lret (v := r_16) hx hb hr (fun t ht hW => ⟨⟨r_16, (tb, b0, cb, ur_16.2.2.2.2, k0, w0, ck, cw, L, ur_16.1, ur_16.2.1, ur_16.2.2.1, ur_16.2.2.2.1), rfl, hpost, by rw [ht]; exact hP9, va_K.moved hW.alike hK9, hD9, by rw [ht]; exact hcost⟩, hS.F ht⟩) hS.2.2 dX7_map_238
              have ic_15 : ¬ p1.toInt = 2 := tx_ne rfl (by decide) c_15
              by_cases c_17 : p1 = 3
              ·
                have ic_17 : p1.toInt = 3 := tx_eq rfl (by decide) c_17
                refine lv_tableIn (off := 138) (tgt := 239) hx hb dX7_map_101 (by rw [c_17]; decide) (by rw [c_17]; decide) (by rw [c_17]; rfl) (by decide) ?_
                refine lv_aload hx hb dX7_map_239 (lv_at hl 1 rfl) ?_
                refine lv_iload_n hx hb dX7_map_241 rfl (lv_at hl 8 rfl) ?_
                have hPc := hP.sub (ws' := [(y0, .inr (3, [.ref x0, .int kd, .int wh, .int (nI cap), .int ru, .int (nI tb), .ref b0])), (x0, .inr (5, [.ref k0, .ref w0, .int (nI nz), .int ch])), (k0, .inl (ck, L, .inl f)), (w0, .inl (cw, L, .inl g)), (b0, .inl (cb, tb, .inl bf))]) [2, 3, 4, 5, 6] rfl
                have hKc := hK.sub (tys' := [(ck, .int), (cw, .int), (cb, .boolean)]) [1, 2, 3] rfl
                refine ro_calli (va_runU (As := [.int p2]) (rest := []) ⟨hx, hb, hml, hown, hts⟩ (c_X2_find l  dC dI s.heap.size y0 kd wh cap ru tb b0 cb bf x0 k0 w0 ck cw L f g nz ch p2 hR9 htb) (va_cwA 1 hts gX7_map_X2_find_u80X2 rfl rfl rfl (hN.xw _ (List.mem_of_getElem? (l := p_xw) (i := 0) rfl)) (by decide +kernel) ⟨(Nat.le_of_ble_eq_true rfl), (Nat.le_of_ble_eq_true rfl)⟩) ⟨pk_blindR, va_recv hKc hPc (ci := 3) (q0 := 0) rfl rfl, pk_callR hPc hKc⟩ rfl rfl hl.1 rfl (lv_room (Nat.le_of_ble_eq_true rfl)) dX7_map_242 ⟨(Nat.le_of_ble_eq_true rfl), (Nat.le_of_ble_eq_true rfl)⟩) (fun r_18 ur_18 hw => ?_)
                clear hPc hKc
                try dsimp only at hw
                have jr_18 := hw
                refine W.eq (g2 := F0 m 245 ls [.int r_18]) rfl ?_
                refine lv_if_lt (tgt := 252) hx hb dX7_map_245 (by decide) (fun c_19 => ?_) (fun c_19 => ?_)
                ·
                  have ic_19 : r_18.toInt < 0 := tx_lt rfl (by decide) c_19
                  refine lv_lconst (v := 0) hx hb dX7_map_252 (by decide) ?_
                  refine W.book (fun hz9_ hn9_ => ?_)
                  have hpost : hOK (tb) (L) (nz) cap := hH9_
                  have hcost : hT s.heap + hPS tb L ≤ (hT s.heap + 6) + hPS (tb) (L) ∧ s.heap.size + hPC tb L ≤ (s.heap.size + 1) + hPC (tb) (L) := by constructor <;> omega
                  have hP9 := hP.sub (ws' := [(a0, .inr (7, [.ref qb])), (qb, .inl (cq, 16, .inr (.inr (.inr (.inr bq))))), (y0, .inr (3, [.ref x0, .int kd, .int wh, .int (nI cap), .int ru, .int (nI tb), .ref b0])), (x0, .inr (5, [.ref k0, .ref w0, .int (nI nz), .int ch])), (k0, .inl (ck, L, .inl f)), (w0, .inl (cw, L, .inl g)), (b0, .inl (cb, tb, .inl bf))]) [0, 1, 2, 3, 4, 5, 6] rfl
                  have hD9 := hD.sub (ws' := [(a0, .inr (7, [.ref qb])), (qb, .inl (cq, 16, .inr (.inr (.inr (.inr bq))))), (y0, .inr (3, [.ref x0, .int kd, .int wh, .int (nI cap), .int ru, .int (nI tb), .ref b0])), (x0, .inr (5, [.ref k0, .ref w0, .int (nI nz), .int ch])), (k0, .inl (ck, L, .inl f)), (w0, .inl (cw, L, .inl g)), (b0, .inl (cb, tb, .inl bf))]) [0, 1, 2, 3, 4, 5, 6] (by decide) rfl
                  have hK9 := hK.sub (tys' := [(cq, .object "KeyAtlas$Body"), (ck, .int), (cw, .int), (cb, .boolean)]) [0, 1, 2, 3] rfl
                  refine W.widen (k := 20) (n := 27000) (Nat.le_of_ble_eq_true rfl) (Nat.le_of_ble_eq_true rfl) ?_
                  refine vx_ret ?_
                  exact W.lret (v := 0) hx hb hr (fun t ht hW => ⟨⟨0, (tb, b0, cb, bf, k0, w0, ck, cw, L, f, g, nz, ch), rfl, hpost, by rw [ht]; exact hP9, va_K.moved hW.alike hK9, hD9, by rw [ht]; exact hcost⟩, hS.F ht⟩) hS.2.2 dX7_map_253
                ·
                  have ic_19 : 0 ≤ r_18.toInt := tx_nlt rfl (by decide) c_19
                  refine lv_lconst (v := 1) hx hb dX7_map_248 (by decide) ?_
                  refine lv_goto (tgt := 253) hx hb dX7_map_249 (by decide) ?_
                  refine W.book (fun hz9_ hn9_ => ?_)
                  have hpost : hOK (tb) (L) (nz) cap := hH9_
                  have hcost : hT s.heap + hPS tb L ≤ (hT s.heap + 6) + hPS (tb) (L) ∧ s.heap.size + hPC tb L ≤ (s.heap.size + 1) + hPC (tb) (L) := by constructor <;> omega
                  have hP9 := hP.sub (ws' := [(a0, .inr (7, [.ref qb])), (qb, .inl (cq, 16, .inr (.inr (.inr (.inr bq))))), (y0, .inr (3, [.ref x0, .int kd, .int wh, .int (nI cap), .int ru, .int (nI tb), .ref b0])), (x0, .inr (5, [.ref k0, .ref w0, .int (nI nz), .int ch])), (k0, .inl (ck, L, .inl f)), (w0, .inl (cw, L, .inl g)), (b0, .inl (cb, tb, .inl bf))]) [0, 1, 2, 3, 4, 5, 6] rfl
                  have hD9 := hD.sub (ws' := [(a0, .inr (7, [.ref qb])), (qb, .inl (cq, 16, .inr (.inr (.inr (.inr bq))))), (y0, .inr (3, [.ref x0, .int kd, .int wh, .int (nI cap), .int ru, .int (nI tb), .ref b0])), (x0, .inr (5, [.ref k0, .ref w0, .int (nI nz), .int ch])), (k0, .inl (ck, L, .inl f)), (w0, .inl (cw, L, .inl g)), (b0, .inl (cb, tb, .inl bf))]) [0, 1, 2, 3, 4, 5, 6] (by decide) rfl
                  have hK9 := hK.sub (tys' := [(cq, .object "KeyAtlas$Body"), (ck, .int), (cw, .int), (cb, .boolean)]) [0, 1, 2, 3] rfl
                  refine W.widen (k := 20) (n := 27000) (Nat.le_of_ble_eq_true rfl) (Nat.le_of_ble_eq_true rfl) ?_
                  refine vx_ret ?_
                  exact W.lret (v := 1) hx hb hr (fun t ht hW => ⟨⟨1, (tb, b0, cb, bf, k0, w0, ck, cw, L, f, g, nz, ch), rfl, hpost, by rw [ht]; exact hP9, va_K.moved hW.alike hK9, hD9, by rw [ht]; exact hcost⟩, hS.F ht⟩) hS.2.2 dX7_map_253
              have ic_17 : ¬ p1.toInt = 3 := tx_ne rfl (by decide) c_17
              by_cases c_20 : p1 = 4
              ·
                have ic_20 : p1.toInt = 4 := tx_eq rfl (by decide) c_20
                refine lv_tableIn (off := 153) (tgt := 254) hx hb dX7_map_101 (by rw [c_20]; decide) (by rw [c_20]; decide) (by rw [c_20]; rfl) (by decide) ?_
                refine lv_aload hx hb dX7_map_254 (lv_at hl 1 rfl) ?_
                have hPc := hP.sub (ws' := [(y0, .inr (3, [.ref x0, .int kd, .int wh, .int (nI cap), .int ru, .int (nI tb), .ref b0])), (x0, .inr (5, [.ref k0, .ref w0, .int (nI nz), .int ch])), (k0, .inl (ck, L, .inl f)), (w0, .inl (cw, L, .inl g))]) [2, 3, 4, 5] rfl
                have hKc := hK.sub (tys' := [(ck, .int), (cw, .int)]) [1, 2] rfl
                refine ro_calli (va_runU (As := []) (rest := []) ⟨hx, hb, hml, hown, hts⟩ (c_X3_size_H l  dC dI s.heap.size y0 (.int kd) (.int wh) (.int (nI cap)) (.int ru) (.int (nI tb)) (.ref b0) x0 k0 w0 ck cw L f g nz ch hR9) (va_cwU 0 hts gX7_map_X3_size_u84X2 rfl rfl rfl rfl (by decide +kernel) ⟨(Nat.le_of_ble_eq_true rfl), (Nat.le_of_ble_eq_true rfl)⟩) ⟨pk_blindR, va_recv hKc hPc (ci := 3) (q0 := 0) rfl rfl, pk_callR hPc hKc⟩ rfl rfl hl.1 rfl (lv_room (Nat.le_of_ble_eq_true rfl)) dX7_map_256 ⟨(Nat.le_of_ble_eq_true rfl), (Nat.le_of_ble_eq_true rfl)⟩) (fun r_21 ur_21 hw => ?_)
                clear hPc hKc
                try dsimp only at hw
                have jr_21 := hw
                refine W.eq (g2 := F0 m 259 ls [.int r_21]) rfl ?_
                have hr_21 : -1000 ≤ r_21.toInt ∧ r_21.toInt ≤ nz := by rw [jr_21, nI_toInt (by omega)]; omega
                refine lv_i2l (v := r_21.toInt64) hx hb dX7_map_259 rfl ?_
                refine W.book (fun hz9_ hn9_ => ?_)
                have hpost : hOK (tb) (L) (nz) cap := hH9_
                have hcost : hT s.heap + hPS tb L ≤ (hT s.heap + 6) + hPS (tb) (L) ∧ s.heap.size + hPC tb L ≤ (s.heap.size + 1) + hPC (tb) (L) := by constructor <;> omega
                have hP9 := hP.sub (ws' := [(a0, .inr (7, [.ref qb])), (qb, .inl (cq, 16, .inr (.inr (.inr (.inr bq))))), (y0, .inr (3, [.ref x0, .int kd, .int wh, .int (nI cap), .int ru, .int (nI tb), .ref b0])), (x0, .inr (5, [.ref k0, .ref w0, .int (nI nz), .int ch])), (k0, .inl (ck, L, .inl f)), (w0, .inl (cw, L, .inl g)), (b0, .inl (cb, tb, .inl bf))]) [0, 1, 2, 3, 4, 5, 6] rfl
                have hD9 := hD.sub (ws' := [(a0, .inr (7, [.ref qb])), (qb, .inl (cq, 16, .inr (.inr (.inr (.inr bq))))), (y0, .inr (3, [.ref x0, .int kd, .int wh, .int (nI cap), .int ru, .int (nI tb), .ref b0])), (x0, .inr (5, [.ref k0, .ref w0, .int (nI nz), .int ch])), (k0, .inl (ck, L, .inl f)), (w0, .inl (cw, L, .inl g)), (b0, .inl (cb, tb, .inl bf))]) [0, 1, 2, 3, 4, 5, 6] (by decide) rfl
                have hK9 := hK.sub (tys' := [(cq, .object "KeyAtlas$Body"), (ck, .int), (cw, .int), (cb, .boolean)]) [0, 1, 2, 3] rfl
                refine W.widen (k := 20) (n := 27000) (Nat.le_of_ble_eq_true rfl) (Nat.le_of_ble_eq_true rfl) ?_
                refine vx_ret ?_
                exact W.lret (v := r_21.toInt64) hx hb hr (fun t ht hW => ⟨⟨r_21.toInt64, (tb, b0, cb, bf, k0, w0, ck, cw, L, f, g, nz, ch), rfl, hpost, by rw [ht]; exact hP9, va_K.moved hW.alike hK9, hD9, by rw [ht]; exact hcost⟩, hS.F ht⟩) hS.2.2 dX7_map_260
              have ic_20 : ¬ p1.toInt = 4 := tx_ne rfl (by decide) c_20
              by_cases c_22 : p1 = 5
              ·
                have ic_22 : p1.toInt = 5 := tx_eq rfl (by decide) c_22
                refine lv_tableIn (off := 160) (tgt := 261) hx hb dX7_map_101 (by rw [c_22]; decide) (by rw [c_22]; decide) (by rw [c_22]; rfl) (by decide) ?_
                refine lv_aload hx hb dX7_map_261 (lv_at hl 1 rfl) ?_
                have hPc := hP.sub (ws' := [(y0, .inr (3, [.ref x0, .int kd, .int wh, .int (nI cap), .int ru, .int (nI tb), .ref b0])), (x0, .inr (5, [.ref k0, .ref w0, .int (nI nz), .int ch])), (k0, .inl (ck, L, .inl f)), (w0, .inl (cw, L, .inl g)), (b0, .inl (cb, tb, .inl bf))]) [2, 3, 4, 5, 6] rfl
                have hDc := hD.sub (ws' := [(y0, .inr (3, [.ref x0, .int kd, .int wh, .int (nI cap), .int ru, .int (nI tb), .ref b0])), (x0, .inr (5, [.ref k0, .ref w0, .int (nI nz), .int ch])), (k0, .inl (ck, L, .inl f)), (w0, .inl (cw, L, .inl g)), (b0, .inl (cb, tb, .inl bf))]) [2, 3, 4, 5, 6] (by decide) rfl
                have hKc := hK.sub (tys' := [(ck, .int), (cw, .int), (cb, .boolean)]) [1, 2, 3] rfl
                have hFc := va_free (wc := [(y0, .inr (3, [.ref x0, .int kd, .int wh, .int (nI cap), .int ru, .int (nI tb), .ref b0])), (x0, .inr (5, [.ref k0, .ref w0, .int (nI nz), .int ch])), (k0, .inl (ck, L, .inl f)), (w0, .inl (cw, L, .inl g)), (b0, .inl (cb, tb, .inl bf))]) hD hS hA [2, 3, 4, 5, 6] rfl
                have hZc := (hZ.kept hS.2.1).narrow hFc
                refine va_calll (va_runU (As := []) (rest := []) ⟨hx, hb, hml, hown, hts⟩ (c_X3_takeAllOut_H l hlt dC dI s.heap.size y0 kd wh cap ru tb b0 cb bf x0 k0 w0 ck cw L f g nz ch hH9) (va_cwU 0 hts gX7_map_X3_takeAllOut_u88X2 rfl rfl rfl rfl (by decide +kernel) ⟨(Nat.le_of_ble_eq_true rfl), (Nat.le_of_ble_eq_true rfl)⟩) ⟨pk_blindX, va_recv hKc hPc (ci := 3) (q0 := 0) rfl rfl, pk_callX hPc hKc hDc hN hZc⟩ rfl rfl hl.1 rfl (lv_room (Nat.le_of_ble_eq_true rfl)) dX7_map_263 ⟨(Nat.le_of_ble_eq_true rfl), (Nat.le_of_ble_eq_true rfl)⟩) hS (fun q _ h => hFc q h) hFc (fun r_23 ur_23 t H1 locs ht hvm hw hB hz1 hk1 hS => ?_)
                try dsimp only at hw
                have jr_23 := hw
                obtain ⟨hP1, hK1, hD1⟩ := hB
                rw [ht] at hP1
                have hK1 := va_K.moved hvm.symm hK1
                obtain ⟨hP, hD⟩ := va_join (wr := [(a0, .inr (7, [.ref qb])), (qb, .inl (cq, 16, .inr (.inr (.inr (.inr bq)))))]) (w1 := [(y0, .inr (3, [.ref x0, .int kd, .int wh, .int (nI cap), .int ru, .int (nI tb), .ref b0])), (x0, .inr (5, [.ref k0, .ref w0, .int (nI (ur_23.2.2.1)), .int ur_23.2.2.2.1])), (k0, .inl (ck, L, .inl ur_23.1)), (w0, .inl (cw, L, .inl ur_23.2.1)), (b0, .inl (cb, tb, .inl ur_23.2.2.2.2))]) hP hD [2, 3, 4, 5, 6] [0, 1] rfl rfl (by decide) (by decide) hk1 hFc hP1 hD1
                clear hk1 hz1 ht hPc hDc hKc hFc
                generalize H1 = H at hP hS ⊢
                replace hP : va_P (dC, dI) vwCl [(a0, .inr (7, [.ref qb])), (qb, .inl (cq, 16, .inr (.inr (.inr (.inr bq))))), (y0, .inr (3, [.ref x0, .int kd, .int wh, .int (nI cap), .int ru, .int (nI tb), .ref b0])), (x0, .inr (5, [.ref k0, .ref w0, .int (nI (ur_23.2.2.1)), .int ur_23.2.2.2.1])), (k0, .inl (ck, L, .inl ur_23.1)), (w0, .inl (cw, L, .inl ur_23.2.1)), (b0, .inl (cb, tb, .inl ur_23.2.2.2.2))] H := hP
                replace hD : va_D A [(a0, .inr (7, [.ref qb])), (qb, .inl (cq, 16, .inr (.inr (.inr (.inr bq))))), (y0, .inr (3, [.ref x0, .int kd, .int wh, .int (nI cap), .int ru, .int (nI tb), .ref b0])), (x0, .inr (5, [.ref k0, .ref w0, .int (nI (ur_23.2.2.1)), .int ur_23.2.2.2.1])), (k0, .inl (ck, L, .inl ur_23.1)), (w0, .inl (cw, L, .inl ur_23.2.1)), (b0, .inl (cb, tb, .inl ur_23.2.2.2.2))] := hD
                refine W.widen (k := 0) (n := 0) (Nat.le_of_ble_eq_true rfl) (Nat.le_of_ble_eq_true rfl) ?_
                refine W.eq (g2 := F0 m 266 ls [.long r_23]) rfl ?_
                refine W.book (fun hz9_ hn9_ => ?_)
                have hpost : hOK (tb) (L) (ur_23.2.2.1) cap := hOK_le hH9_ jr_23
                have hcost : hT H + hPS tb L ≤ (hT s.heap + 6) + hPS (tb) (L) ∧ H.size + hPC tb L ≤ (s.heap.size + 1) + hPC (tb) (L) := by constructor <;> omega
                have hP9 := hP.sub (ws' := [(a0, .inr (7, [.ref qb])), (qb, .inl (cq, 16, .inr (.inr (.inr (.inr bq))))), (y0, .inr (3, [.ref x0, .int kd, .int wh, .int (nI cap), .int ru, .int (nI tb), .ref b0])), (x0, .inr (5, [.ref k0, .ref w0, .int (nI (ur_23.2.2.1)), .int ur_23.2.2.2.1])), (k0, .inl (ck, L, .inl ur_23.1)), (w0, .inl (cw, L, .inl ur_23.2.1)), (b0, .inl (cb, tb, .inl ur_23.2.2.2.2))]) [0, 1, 2, 3, 4, 5, 6] rfl
                have hD9 := hD.sub (ws' := [(a0, .inr (7, [.ref qb])), (qb, .inl (cq, 16, .inr (.inr (.inr (.inr bq))))), (y0, .inr (3, [.ref x0, .int kd, .int wh, .int (nI cap), .int ru, .int (nI tb), .ref b0])), (x0, .inr (5, [.ref k0, .ref w0, .int (nI (ur_23.2.2.1)), .int ur_23.2.2.2.1])), (k0, .inl (ck, L, .inl ur_23.1)), (w0, .inl (cw, L, .inl ur_23.2.1)), (b0, .inl (cb, tb, .inl ur_23.2.2.2.2))]) [0, 1, 2, 3, 4, 5, 6] (by decide) rfl
                have hK9 := hK.sub (tys' := [(cq, .object "KeyAtlas$Body"), (ck, .int), (cw, .int), (cb, .boolean)]) [0, 1, 2, 3] rfl
                refine W.widen (k := 20) (n := 27000) (Nat.le_of_ble_eq_true rfl) (Nat.le_of_ble_eq_true rfl) ?_
                refine vx_ret ?_
                exact W.lret (v := r_23) hx hb hr (fun t ht hW => ⟨⟨r_23, (tb, b0, cb, ur_23.2.2.2.2, k0, w0, ck, cw, L, ur_23.1, ur_23.2.1, ur_23.2.2.1, ur_23.2.2.2.1), rfl, hpost, by rw [ht]; exact hP9, va_K.moved hW.alike hK9, hD9, by rw [ht]; exact hcost⟩, hS.F ht⟩) hS.2.2 dX7_map_266
              have ic_22 : ¬ p1.toInt = 5 := tx_ne rfl (by decide) c_22
              by_cases c_24 : p1 = 6
              ·
                have ic_24 : p1.toInt = 6 := tx_eq rfl (by decide) c_24
                refine lv_tableIn (off := 166) (tgt := 267) hx hb dX7_map_101 (by rw [c_24]; decide) (by rw [c_24]; decide) (by rw [c_24]; rfl) (by decide) ?_
                refine lv_aload hx hb dX7_map_267 (lv_at hl 1 rfl) ?_
                refine lv_iload_n hx hb dX7_map_269 rfl (lv_at hl 8 rfl) ?_
                refine lv_iload hx hb dX7_map_270 (lv_at hl 9 rfl) ?_
                have hPc := hP.sub (ws' := [(y0, .inr (3, [.ref x0, .int kd, .int wh, .int (nI cap), .int ru, .int (nI tb), .ref b0])), (x0, .inr (5, [.ref k0, .ref w0, .int (nI nz), .int ch])), (k0, .inl (ck, L, .inl f)), (w0, .inl (cw, L, .inl g)), (b0, .inl (cb, tb, .inl bf))]) [2, 3, 4, 5, 6] rfl
                have hDc := hD.sub (ws' := [(y0, .inr (3, [.ref x0, .int kd, .int wh, .int (nI cap), .int ru, .int (nI tb), .ref b0])), (x0, .inr (5, [.ref k0, .ref w0, .int (nI nz), .int ch])), (k0, .inl (ck, L, .inl f)), (w0, .inl (cw, L, .inl g)), (b0, .inl (cb, tb, .inl bf))]) [2, 3, 4, 5, 6] (by decide) rfl
                have hKc := hK.sub (tys' := [(ck, .int), (cw, .int), (cb, .boolean)]) [1, 2, 3] rfl
                have hFc := va_free (wc := [(y0, .inr (3, [.ref x0, .int kd, .int wh, .int (nI cap), .int ru, .int (nI tb), .ref b0])), (x0, .inr (5, [.ref k0, .ref w0, .int (nI nz), .int ch])), (k0, .inl (ck, L, .inl f)), (w0, .inl (cw, L, .inl g)), (b0, .inl (cb, tb, .inl bf))]) hD hS hA [2, 3, 4, 5, 6] rfl
                have hZc := (hZ.kept hS.2.1).narrow hFc
                refine vx_calll (vx_runU (As := [.int p2, .int p3]) (rest := []) ⟨hx, hb, hml, hown, hts⟩ (c_X3_putIfAbsent_H l hlt dC dI s.heap.size (hT s.heap) y0 kd wh cap ru tb b0 cb bf x0 k0 w0 ck cw L f g nz ch p2 p3 8000 18000 hH9 (by unfold rOK at hR9; omega) (by unfold rOK at hR9; omega) (by unfold rOK at hR9; omega) (by unfold rOK at hR9; omega)) (va_cwU 2 hts gX7_map_X3_putIfAbsent_u92X2 rfl rfl rfl rfl (by decide +kernel) ⟨(Nat.le_of_ble_eq_true rfl), (Nat.le_of_ble_eq_true rfl)⟩) ⟨pk_blindXT, va_recv hKc hPc (ci := 3) (q0 := 0) rfl rfl, pk_callXT hPc hKc hDc hN hZc⟩ rfl rfl hl.1 rfl (lv_room (Nat.le_of_ble_eq_true rfl)) dX7_map_272 ⟨(Nat.le_of_ble_eq_true rfl), (show 0 + (8000 + 18000 + 6) ≤ 27000 by omega)⟩) hS (fun q _ h => hFc q h) hFc (fun q _ h => hFc q h) (fun E ce q9 u9 t H1 locs ht hvm hw hB hz1 hk1 hS hce hcv hcl => ?_) (fun r_25 ur_25 t H1 locs ht hvm hw hB hz1 hk1 hS => ?_)
                ·
                  try dsimp only at hB
                  obtain ⟨hB8, hB7⟩ := hB
                  obtain ⟨hE8, hP8, hK8, hD8⟩ := hB8
                  rw [ht] at hP8
                  obtain ⟨hP7, -⟩ := va_join (wr := [(a0, .inr (7, [.ref qb])), (qb, .inl (cq, 16, .inr (.inr (.inr (.inr bq)))))]) (w1 := [(y0, .inr (3, [.ref x0, .int kd, .int wh, .int (nI cap), .int ru, .int (nI tb), .ref b0])), (x0, .inr (5, [.ref k0, .ref w0, .int (nI nz), .int ch])), (k0, .inl (ck, L, .inl f)), (w0, .inl (cw, L, .inl g)), (b0, .inl (cb, tb, .inl bf))]) hP hD [2, 3, 4, 5, 6] [0, 1] rfl rfl (by decide) (by decide) hk1 hFc hP8 hD8
                  have hP6 := hP7.sub (ws' := [(a0, .inr (7, [.ref qb])), (qb, .inl (cq, 16, .inr (.inr (.inr (.inr bq))))), (y0, .inr (3, [.ref x0, .int kd, .int wh, .int (nI cap), .int ru, .int (nI tb), .ref b0])), (x0, .inr (5, [.ref k0, .ref w0, .int (nI nz), .int ch])), (k0, .inl (ck, L, .inl f)), (w0, .inl (cw, L, .inl g)), (b0, .inl (cb, tb, .inl bf))]) [0, 1, 2, 3, 4, 5, 6] rfl
                  exact vx_out (fun x hx9 => (htab x hx9).elim) hlocks hce hcv hcl (fun t9 ht9 hal9 => ⟨(), trivial, ⟨⟨hE8.elim (fun h => Or.inl h) (fun h => Or.inr (Or.inl h)), by rw [ht9]; exact hP6, va_K.moved hal9 hK, hD⟩, by rw [ht9, ← ht]; exact hB7.1, by rw [ht9, ← ht]; exact hB7.2⟩, hS.F ht9⟩) hS.2.2 (by omega) (by omega)
                ·
                  try dsimp only at hw
                  have jr_25 := hw
                  obtain ⟨hP1, hK1, hD1, hC1_⟩ := hB
                  rw [ht] at hP1 hC1_
                  have hK1 := va_K.moved hvm.symm hK1
                  obtain ⟨hP, hD⟩ := va_join (wr := [(a0, .inr (7, [.ref qb])), (qb, .inl (cq, 16, .inr (.inr (.inr (.inr bq)))))]) (w1 := [(y0, .inr (3, [.ref x0, .int kd, .int wh, .int (nI cap), .int ru, .int (nI (ur_25.1)), .ref ur_25.2.1])), (x0, .inr (5, [.ref ur_25.2.2.2.2.1, .ref ur_25.2.2.2.2.2.1, .int (nI (ur_25.2.2.2.2.2.2.2.2.2.2.2.1)), .int ur_25.2.2.2.2.2.2.2.2.2.2.2.2])), (ur_25.2.2.2.2.1, .inl (ur_25.2.2.2.2.2.2.1, ur_25.2.2.2.2.2.2.2.2.1, .inl ur_25.2.2.2.2.2.2.2.2.2.1)), (ur_25.2.2.2.2.2.1, .inl (ur_25.2.2.2.2.2.2.2.1, ur_25.2.2.2.2.2.2.2.2.1, .inl ur_25.2.2.2.2.2.2.2.2.2.2.1)), (ur_25.2.1, .inl (ur_25.2.2.1, ur_25.1, .inl ur_25.2.2.2.1))]) hP hD [2, 3, 4, 5, 6] [0, 1] rfl rfl (by decide) (by decide) hk1 hFc hP1 hD1
                  have hK := hK.app hK1
                  have hK : va_K (dC, dI) vwCl [(cq, .object "KeyAtlas$Body"), (ck, .int), (cw, .int), (cb, .boolean), (ur_25.2.2.2.2.2.2.1, .int), (ur_25.2.2.2.2.2.2.2.1, .int), (ur_25.2.2.1, .boolean)] s := hK
                  have hcs1_ : hT H1 + hPS tb L ≤ hT s.heap + hPS (ur_25.1) (ur_25.2.2.2.2.2.2.2.2.1) := hC1_.1
                  have hcs2_ : H1.size + hPC tb L ≤ s.heap.size + hPC (ur_25.1) (ur_25.2.2.2.2.2.2.2.2.1) := hC1_.2
                  clear hC1_
                  clear hk1 hz1 ht hPc hDc hKc hFc
                  generalize H1 = H at hP hS hcs1_ hcs2_ ⊢
                  replace hP : va_P (dC, dI) vwCl [(a0, .inr (7, [.ref qb])), (qb, .inl (cq, 16, .inr (.inr (.inr (.inr bq))))), (y0, .inr (3, [.ref x0, .int kd, .int wh, .int (nI cap), .int ru, .int (nI (ur_25.1)), .ref ur_25.2.1])), (x0, .inr (5, [.ref ur_25.2.2.2.2.1, .ref ur_25.2.2.2.2.2.1, .int (nI (ur_25.2.2.2.2.2.2.2.2.2.2.2.1)), .int ur_25.2.2.2.2.2.2.2.2.2.2.2.2])), (ur_25.2.2.2.2.1, .inl (ur_25.2.2.2.2.2.2.1, ur_25.2.2.2.2.2.2.2.2.1, .inl ur_25.2.2.2.2.2.2.2.2.2.1)), (ur_25.2.2.2.2.2.1, .inl (ur_25.2.2.2.2.2.2.2.1, ur_25.2.2.2.2.2.2.2.2.1, .inl ur_25.2.2.2.2.2.2.2.2.2.2.1)), (ur_25.2.1, .inl (ur_25.2.2.1, ur_25.1, .inl ur_25.2.2.2.1))] H := hP
                  replace hD : va_D A [(a0, .inr (7, [.ref qb])), (qb, .inl (cq, 16, .inr (.inr (.inr (.inr bq))))), (y0, .inr (3, [.ref x0, .int kd, .int wh, .int (nI cap), .int ru, .int (nI (ur_25.1)), .ref ur_25.2.1])), (x0, .inr (5, [.ref ur_25.2.2.2.2.1, .ref ur_25.2.2.2.2.2.1, .int (nI (ur_25.2.2.2.2.2.2.2.2.2.2.2.1)), .int ur_25.2.2.2.2.2.2.2.2.2.2.2.2])), (ur_25.2.2.2.2.1, .inl (ur_25.2.2.2.2.2.2.1, ur_25.2.2.2.2.2.2.2.2.1, .inl ur_25.2.2.2.2.2.2.2.2.2.1)), (ur_25.2.2.2.2.2.1, .inl (ur_25.2.2.2.2.2.2.2.1, ur_25.2.2.2.2.2.2.2.2.1, .inl ur_25.2.2.2.2.2.2.2.2.2.2.1)), (ur_25.2.1, .inl (ur_25.2.2.1, ur_25.1, .inl ur_25.2.2.2.1))] := hD
                  refine W.widen (k := 9) (n := 8000 + 18000 + 6) (by omega) (by omega) ?_
                  refine W.eq (g2 := F0 m 275 ls [.long r_25]) rfl ?_
                  have hko_ := kpH_ok hH9 jr_25
                  refine W.book (fun hz9_ hn9_ => ?_)
                  have hpost : hOK (ur_25.1) (ur_25.2.2.2.2.2.2.2.2.1) (ur_25.2.2.2.2.2.2.2.2.2.2.2.1) cap := hko_.1
                  have hcost : hT H + hPS tb L ≤ (hT s.heap + 6) + hPS (ur_25.1) (ur_25.2.2.2.2.2.2.2.2.1) ∧ H.size + hPC tb L ≤ (s.heap.size + 1) + hPC (ur_25.1) (ur_25.2.2.2.2.2.2.2.2.1) := by constructor <;> omega
                  have hP9 := hP.sub (ws' := [(a0, .inr (7, [.ref qb])), (qb, .inl (cq, 16, .inr (.inr (.inr (.inr bq))))), (y0, .inr (3, [.ref x0, .int kd, .int wh, .int (nI cap), .int ru, .int (nI (ur_25.1)), .ref ur_25.2.1])), (x0, .inr (5, [.ref ur_25.2.2.2.2.1, .ref ur_25.2.2.2.2.2.1, .int (nI (ur_25.2.2.2.2.2.2.2.2.2.2.2.1)), .int ur_25.2.2.2.2.2.2.2.2.2.2.2.2])), (ur_25.2.2.2.2.1, .inl (ur_25.2.2.2.2.2.2.1, ur_25.2.2.2.2.2.2.2.2.1, .inl ur_25.2.2.2.2.2.2.2.2.2.1)), (ur_25.2.2.2.2.2.1, .inl (ur_25.2.2.2.2.2.2.2.1, ur_25.2.2.2.2.2.2.2.2.1, .inl ur_25.2.2.2.2.2.2.2.2.2.2.1)), (ur_25.2.1, .inl (ur_25.2.2.1, ur_25.1, .inl ur_25.2.2.2.1))]) [0, 1, 2, 3, 4, 5, 6] rfl
                  have hD9 := hD.sub (ws' := [(a0, .inr (7, [.ref qb])), (qb, .inl (cq, 16, .inr (.inr (.inr (.inr bq))))), (y0, .inr (3, [.ref x0, .int kd, .int wh, .int (nI cap), .int ru, .int (nI (ur_25.1)), .ref ur_25.2.1])), (x0, .inr (5, [.ref ur_25.2.2.2.2.1, .ref ur_25.2.2.2.2.2.1, .int (nI (ur_25.2.2.2.2.2.2.2.2.2.2.2.1)), .int ur_25.2.2.2.2.2.2.2.2.2.2.2.2])), (ur_25.2.2.2.2.1, .inl (ur_25.2.2.2.2.2.2.1, ur_25.2.2.2.2.2.2.2.2.1, .inl ur_25.2.2.2.2.2.2.2.2.2.1)), (ur_25.2.2.2.2.2.1, .inl (ur_25.2.2.2.2.2.2.2.1, ur_25.2.2.2.2.2.2.2.2.1, .inl ur_25.2.2.2.2.2.2.2.2.2.2.1)), (ur_25.2.1, .inl (ur_25.2.2.1, ur_25.1, .inl ur_25.2.2.2.1))]) [0, 1, 2, 3, 4, 5, 6] (by decide) rfl
                  have hK9 := hK.sub (tys' := [(cq, .object "KeyAtlas$Body"), (ur_25.2.2.2.2.2.2.1, .int), (ur_25.2.2.2.2.2.2.2.1, .int), (ur_25.2.2.1, .boolean)]) [0, 4, 5, 6] rfl
                  refine W.widen (k := 20) (n := 27000) (by omega) (by omega) ?_
                  refine vx_ret ?_
                  exact W.lret (v := r_25) hx hb hr (fun t ht hW => ⟨⟨r_25, (ur_25.1, ur_25.2.1, ur_25.2.2.1, ur_25.2.2.2.1, ur_25.2.2.2.2.1, ur_25.2.2.2.2.2.1, ur_25.2.2.2.2.2.2.1, ur_25.2.2.2.2.2.2.2.1, ur_25.2.2.2.2.2.2.2.2.1, ur_25.2.2.2.2.2.2.2.2.2.1, ur_25.2.2.2.2.2.2.2.2.2.2.1, ur_25.2.2.2.2.2.2.2.2.2.2.2.1, ur_25.2.2.2.2.2.2.2.2.2.2.2.2), rfl, hpost, by rw [ht]; exact hP9, va_K.moved hW.alike hK9, hD9, by rw [ht]; exact hcost⟩, hS.F ht⟩) hS.2.2 dX7_map_275
              have ic_24 : ¬ p1.toInt = 6 := tx_ne rfl (by decide) c_24
              by_cases c_26 : p1 = 7
              ·
                have ic_26 : p1.toInt = 7 := tx_eq rfl (by decide) c_26
                refine lv_tableIn (off := 175) (tgt := 276) hx hb dX7_map_101 (by rw [c_26]; decide) (by rw [c_26]; decide) (by rw [c_26]; rfl) (by decide) ?_
                refine lv_aload hx hb dX7_map_276 (lv_at hl 1 rfl) ?_
                refine lv_iload_n hx hb dX7_map_278 rfl (lv_at hl 8 rfl) ?_
                refine lv_iload hx hb dX7_map_279 (lv_at hl 9 rfl) ?_
                have hPc := hP.sub (ws' := [(y0, .inr (3, [.ref x0, .int kd, .int wh, .int (nI cap), .int ru, .int (nI tb), .ref b0])), (x0, .inr (5, [.ref k0, .ref w0, .int (nI nz), .int ch])), (k0, .inl (ck, L, .inl f)), (w0, .inl (cw, L, .inl g)), (b0, .inl (cb, tb, .inl bf))]) [2, 3, 4, 5, 6] rfl
                have hDc := hD.sub (ws' := [(y0, .inr (3, [.ref x0, .int kd, .int wh, .int (nI cap), .int ru, .int (nI tb), .ref b0])), (x0, .inr (5, [.ref k0, .ref w0, .int (nI nz), .int ch])), (k0, .inl (ck, L, .inl f)), (w0, .inl (cw, L, .inl g)), (b0, .inl (cb, tb, .inl bf))]) [2, 3, 4, 5, 6] (by decide) rfl
                have hKc := hK.sub (tys' := [(ck, .int), (cw, .int), (cb, .boolean)]) [1, 2, 3] rfl
                have hFc := va_free (wc := [(y0, .inr (3, [.ref x0, .int kd, .int wh, .int (nI cap), .int ru, .int (nI tb), .ref b0])), (x0, .inr (5, [.ref k0, .ref w0, .int (nI nz), .int ch])), (k0, .inl (ck, L, .inl f)), (w0, .inl (cw, L, .inl g)), (b0, .inl (cb, tb, .inl bf))]) hD hS hA [2, 3, 4, 5, 6] rfl
                have hZc := (hZ.kept hS.2.1).narrow hFc
                refine va_calll (va_runU (As := [.int p2, .int p3]) (rest := []) ⟨hx, hb, hml, hown, hts⟩ (c_X3_putIfThere_H l hlt dC dI s.heap.size y0 kd wh cap ru tb b0 cb bf x0 k0 w0 ck cw L f g nz ch p2 p3 hH9) (va_cwU 2 hts gX7_map_X3_putIfThere_u95X2 rfl rfl rfl rfl (by decide +kernel) ⟨(Nat.le_of_ble_eq_true rfl), (Nat.le_of_ble_eq_true rfl)⟩) ⟨pk_blindX, va_recv hKc hPc (ci := 3) (q0 := 0) rfl rfl, pk_callX hPc hKc hDc hN hZc⟩ rfl rfl hl.1 rfl (lv_room (Nat.le_of_ble_eq_true rfl)) dX7_map_281 ⟨(Nat.le_of_ble_eq_true rfl), (Nat.le_of_ble_eq_true rfl)⟩) hS (fun q _ h => hFc q h) hFc (fun r_27 ur_27 t H1 locs ht hvm hw hB hz1 hk1 hS => ?_)
                try dsimp only at hw
                have jr_27 := hw
                obtain ⟨hP1, hK1, hD1⟩ := hB
                rw [ht] at hP1
                have hK1 := va_K.moved hvm.symm hK1
                obtain ⟨hP, hD⟩ := va_join (wr := [(a0, .inr (7, [.ref qb])), (qb, .inl (cq, 16, .inr (.inr (.inr (.inr bq)))))]) (w1 := [(y0, .inr (3, [.ref x0, .int kd, .int wh, .int (nI cap), .int ru, .int (nI tb), .ref b0])), (x0, .inr (5, [.ref k0, .ref w0, .int (nI nz), .int ur_27.2.2])), (k0, .inl (ck, L, .inl ur_27.1)), (w0, .inl (cw, L, .inl ur_27.2.1)), (b0, .inl (cb, tb, .inl bf))]) hP hD [2, 3, 4, 5, 6] [0, 1] rfl rfl (by decide) (by decide) hk1 hFc hP1 hD1
                clear hk1 hz1 ht hPc hDc hKc hFc
                generalize H1 = H at hP hS ⊢
                replace hP : va_P (dC, dI) vwCl [(a0, .inr (7, [.ref qb])), (qb, .inl (cq, 16, .inr (.inr (.inr (.inr bq))))), (y0, .inr (3, [.ref x0, .int kd, .int wh, .int (nI cap), .int ru, .int (nI tb), .ref b0])), (x0, .inr (5, [.ref k0, .ref w0, .int (nI nz), .int ur_27.2.2])), (k0, .inl (ck, L, .inl ur_27.1)), (w0, .inl (cw, L, .inl ur_27.2.1)), (b0, .inl (cb, tb, .inl bf))] H := hP
                replace hD : va_D A [(a0, .inr (7, [.ref qb])), (qb, .inl (cq, 16, .inr (.inr (.inr (.inr bq))))), (y0, .inr (3, [.ref x0, .int kd, .int wh, .int (nI cap), .int ru, .int (nI tb), .ref b0])), (x0, .inr (5, [.ref k0, .ref w0, .int (nI nz), .int ur_27.2.2])), (k0, .inl (ck, L, .inl ur_27.1)), (w0, .inl (cw, L, .inl ur_27.2.1)), (b0, .inl (cb, tb, .inl bf))] := hD
                refine W.widen (k := 0) (n := 0) (Nat.le_of_ble_eq_true rfl) (Nat.le_of_ble_eq_true rfl) ?_
                refine W.eq (g2 := F0 m 284 ls [.long r_27]) rfl ?_
                refine W.book (fun hz9_ hn9_ => ?_)
                have hpost : hOK (tb) (L) (nz) cap := hH9_
                have hcost : hT H + hPS tb L ≤ (hT s.heap + 6) + hPS (tb) (L) ∧ H.size + hPC tb L ≤ (s.heap.size + 1) + hPC (tb) (L) := by constructor <;> omega
                have hP9 := hP.sub (ws' := [(a0, .inr (7, [.ref qb])), (qb, .inl (cq, 16, .inr (.inr (.inr (.inr bq))))), (y0, .inr (3, [.ref x0, .int kd, .int wh, .int (nI cap), .int ru, .int (nI tb), .ref b0])), (x0, .inr (5, [.ref k0, .ref w0, .int (nI nz), .int ur_27.2.2])), (k0, .inl (ck, L, .inl ur_27.1)), (w0, .inl (cw, L, .inl ur_27.2.1)), (b0, .inl (cb, tb, .inl bf))]) [0, 1, 2, 3, 4, 5, 6] rfl
                have hD9 := hD.sub (ws' := [(a0, .inr (7, [.ref qb])), (qb, .inl (cq, 16, .inr (.inr (.inr (.inr bq))))), (y0, .inr (3, [.ref x0, .int kd, .int wh, .int (nI cap), .int ru, .int (nI tb), .ref b0])), (x0, .inr (5, [.ref k0, .ref w0, .int (nI nz), .int ur_27.2.2])), (k0, .inl (ck, L, .inl ur_27.1)), (w0, .inl (cw, L, .inl ur_27.2.1)), (b0, .inl (cb, tb, .inl bf))]) [0, 1, 2, 3, 4, 5, 6] (by decide) rfl
                have hK9 := hK.sub (tys' := [(cq, .object "KeyAtlas$Body"), (ck, .int), (cw, .int), (cb, .boolean)]) [0, 1, 2, 3] rfl
                refine W.widen (k := 20) (n := 27000) (Nat.le_of_ble_eq_true rfl) (Nat.le_of_ble_eq_true rfl) ?_
                refine vx_ret ?_
                exact W.lret (v := r_27) hx hb hr (fun t ht hW => ⟨⟨r_27, (tb, b0, cb, bf, k0, w0, ck, cw, L, ur_27.1, ur_27.2.1, nz, ur_27.2.2), rfl, hpost, by rw [ht]; exact hP9, va_K.moved hW.alike hK9, hD9, by rw [ht]; exact hcost⟩, hS.F ht⟩) hS.2.2 dX7_map_284
              have ic_26 : ¬ p1.toInt = 7 := tx_ne rfl (by decide) c_26
              by_cases c_28 : p1 = 8
              ·
                have ic_28 : p1.toInt = 8 := tx_eq rfl (by decide) c_28
                refine lv_tableIn (off := 184) (tgt := 285) hx hb dX7_map_101 (by rw [c_28]; decide) (by rw [c_28]; decide) (by rw [c_28]; rfl) (by decide) ?_
                refine lv_aload hx hb dX7_map_285 (lv_at hl 1 rfl) ?_
                refine lv_iload_n hx hb dX7_map_287 rfl (lv_at hl 8 rfl) ?_
                refine lv_iload hx hb dX7_map_288 (lv_at hl 9 rfl) ?_
                have hPc := hP.sub (ws' := [(y0, .inr (3, [.ref x0, .int kd, .int wh, .int (nI cap), .int ru, .int (nI tb), .ref b0])), (x0, .inr (5, [.ref k0, .ref w0, .int (nI nz), .int ch])), (k0, .inl (ck, L, .inl f)), (w0, .inl (cw, L, .inl g)), (b0, .inl (cb, tb, .inl bf))]) [2, 3, 4, 5, 6] rfl
                have hDc := hD.sub (ws' := [(y0, .inr (3, [.ref x0, .int kd, .int wh, .int (nI cap), .int ru, .int (nI tb), .ref b0])), (x0, .inr (5, [.ref k0, .ref w0, .int (nI nz), .int ch])), (k0, .inl (ck, L, .inl f)), (w0, .inl (cw, L, .inl g)), (b0, .inl (cb, tb, .inl bf))]) [2, 3, 4, 5, 6] (by decide) rfl
                have hKc := hK.sub (tys' := [(ck, .int), (cw, .int), (cb, .boolean)]) [1, 2, 3] rfl
                have hFc := va_free (wc := [(y0, .inr (3, [.ref x0, .int kd, .int wh, .int (nI cap), .int ru, .int (nI tb), .ref b0])), (x0, .inr (5, [.ref k0, .ref w0, .int (nI nz), .int ch])), (k0, .inl (ck, L, .inl f)), (w0, .inl (cw, L, .inl g)), (b0, .inl (cb, tb, .inl bf))]) hD hS hA [2, 3, 4, 5, 6] rfl
                have hZc := (hZ.kept hS.2.1).narrow hFc
                refine vx_calll (vx_runU (As := [.int p2, .int p3]) (rest := []) ⟨hx, hb, hml, hown, hts⟩ (c_X3_putMore_H l hlt dC dI s.heap.size (hT s.heap) y0 kd wh cap ru tb b0 cb bf x0 k0 w0 ck cw L f g nz ch p2 p3 8000 18000 hH9 (by unfold rOK at hR9; omega) (by unfold rOK at hR9; omega) (by unfold rOK at hR9; omega) (by unfold rOK at hR9; omega)) (va_cwU 2 hts gX7_map_X3_putMore_u98X2 rfl rfl rfl rfl (by decide +kernel) ⟨(Nat.le_of_ble_eq_true rfl), (Nat.le_of_ble_eq_true rfl)⟩) ⟨pk_blindXT, va_recv hKc hPc (ci := 3) (q0 := 0) rfl rfl, pk_callXT hPc hKc hDc hN hZc⟩ rfl rfl hl.1 rfl (lv_room (Nat.le_of_ble_eq_true rfl)) dX7_map_290 ⟨(Nat.le_of_ble_eq_true rfl), (show 0 + (8000 + 18000 + 6) ≤ 27000 by omega)⟩) hS (fun q _ h => hFc q h) hFc (fun q _ h => hFc q h) (fun E ce q9 u9 t H1 locs ht hvm hw hB hz1 hk1 hS hce hcv hcl => ?_) (fun r_29 ur_29 t H1 locs ht hvm hw hB hz1 hk1 hS => ?_)
                ·
                  try dsimp only at hB
                  obtain ⟨hB8, hB7⟩ := hB
                  obtain ⟨hE8, hP8, hK8, hD8⟩ := hB8
                  rw [ht] at hP8
                  obtain ⟨hP7, -⟩ := va_join (wr := [(a0, .inr (7, [.ref qb])), (qb, .inl (cq, 16, .inr (.inr (.inr (.inr bq)))))]) (w1 := [(y0, .inr (3, [.ref x0, .int kd, .int wh, .int (nI cap), .int ru, .int (nI tb), .ref b0])), (x0, .inr (5, [.ref k0, .ref w0, .int (nI nz), .int ch])), (k0, .inl (ck, L, .inl f)), (w0, .inl (cw, L, .inl g)), (b0, .inl (cb, tb, .inl bf))]) hP hD [2, 3, 4, 5, 6] [0, 1] rfl rfl (by decide) (by decide) hk1 hFc hP8 hD8
                  have hP6 := hP7.sub (ws' := [(a0, .inr (7, [.ref qb])), (qb, .inl (cq, 16, .inr (.inr (.inr (.inr bq))))), (y0, .inr (3, [.ref x0, .int kd, .int wh, .int (nI cap), .int ru, .int (nI tb), .ref b0])), (x0, .inr (5, [.ref k0, .ref w0, .int (nI nz), .int ch])), (k0, .inl (ck, L, .inl f)), (w0, .inl (cw, L, .inl g)), (b0, .inl (cb, tb, .inl bf))]) [0, 1, 2, 3, 4, 5, 6] rfl
                  exact vx_out (fun x hx9 => (htab x hx9).elim) hlocks hce hcv hcl (fun t9 ht9 hal9 => ⟨(), trivial, ⟨⟨hE8.elim (fun h => Or.inl h) (fun h => Or.inr (Or.inl h)), by rw [ht9]; exact hP6, va_K.moved hal9 hK, hD⟩, by rw [ht9, ← ht]; exact hB7.1, by rw [ht9, ← ht]; exact hB7.2⟩, hS.F ht9⟩) hS.2.2 (by omega) (by omega)
                ·
                  try dsimp only at hw
                  have jr_29 := hw
                  obtain ⟨hP1, hK1, hD1, hC1_⟩ := hB
                  rw [ht] at hP1 hC1_
                  have hK1 := va_K.moved hvm.symm hK1
                  obtain ⟨hP, hD⟩ := va_join (wr := [(a0, .inr (7, [.ref qb])), (qb, .inl (cq, 16, .inr (.inr (.inr (.inr bq)))))]) (w1 := [(y0, .inr (3, [.ref x0, .int kd, .int wh, .int (nI cap), .int ru, .int (nI (ur_29.1)), .ref ur_29.2.1])), (x0, .inr (5, [.ref ur_29.2.2.2.2.1, .ref ur_29.2.2.2.2.2.1, .int (nI (ur_29.2.2.2.2.2.2.2.2.2.2.2.1)), .int ur_29.2.2.2.2.2.2.2.2.2.2.2.2])), (ur_29.2.2.2.2.1, .inl (ur_29.2.2.2.2.2.2.1, ur_29.2.2.2.2.2.2.2.2.1, .inl ur_29.2.2.2.2.2.2.2.2.2.1)), (ur_29.2.2.2.2.2.1, .inl (ur_29.2.2.2.2.2.2.2.1, ur_29.2.2.2.2.2.2.2.2.1, .inl ur_29.2.2.2.2.2.2.2.2.2.2.1)), (ur_29.2.1, .inl (ur_29.2.2.1, ur_29.1, .inl ur_29.2.2.2.1))]) hP hD [2, 3, 4, 5, 6] [0, 1] rfl rfl (by decide) (by decide) hk1 hFc hP1 hD1
                  have hK := hK.app hK1
                  have hK : va_K (dC, dI) vwCl [(cq, .object "KeyAtlas$Body"), (ck, .int), (cw, .int), (cb, .boolean), (ur_29.2.2.2.2.2.2.1, .int), (ur_29.2.2.2.2.2.2.2.1, .int), (ur_29.2.2.1, .boolean)] s := hK
                  have hcs1_ : hT H1 + hPS tb L ≤ hT s.heap + hPS (ur_29.1) (ur_29.2.2.2.2.2.2.2.2.1) := hC1_.1
                  have hcs2_ : H1.size + hPC tb L ≤ s.heap.size + hPC (ur_29.1) (ur_29.2.2.2.2.2.2.2.2.1) := hC1_.2
                  clear hC1_
                  clear hk1 hz1 ht hPc hDc hKc hFc
                  generalize H1 = H at hP hS hcs1_ hcs2_ ⊢
                  replace hP : va_P (dC, dI) vwCl [(a0, .inr (7, [.ref qb])), (qb, .inl (cq, 16, .inr (.inr (.inr (.inr bq))))), (y0, .inr (3, [.ref x0, .int kd, .int wh, .int (nI cap), .int ru, .int (nI (ur_29.1)), .ref ur_29.2.1])), (x0, .inr (5, [.ref ur_29.2.2.2.2.1, .ref ur_29.2.2.2.2.2.1, .int (nI (ur_29.2.2.2.2.2.2.2.2.2.2.2.1)), .int ur_29.2.2.2.2.2.2.2.2.2.2.2.2])), (ur_29.2.2.2.2.1, .inl (ur_29.2.2.2.2.2.2.1, ur_29.2.2.2.2.2.2.2.2.1, .inl ur_29.2.2.2.2.2.2.2.2.2.1)), (ur_29.2.2.2.2.2.1, .inl (ur_29.2.2.2.2.2.2.2.1, ur_29.2.2.2.2.2.2.2.2.1, .inl ur_29.2.2.2.2.2.2.2.2.2.2.1)), (ur_29.2.1, .inl (ur_29.2.2.1, ur_29.1, .inl ur_29.2.2.2.1))] H := hP
                  replace hD : va_D A [(a0, .inr (7, [.ref qb])), (qb, .inl (cq, 16, .inr (.inr (.inr (.inr bq))))), (y0, .inr (3, [.ref x0, .int kd, .int wh, .int (nI cap), .int ru, .int (nI (ur_29.1)), .ref ur_29.2.1])), (x0, .inr (5, [.ref ur_29.2.2.2.2.1, .ref ur_29.2.2.2.2.2.1, .int (nI (ur_29.2.2.2.2.2.2.2.2.2.2.2.1)), .int ur_29.2.2.2.2.2.2.2.2.2.2.2.2])), (ur_29.2.2.2.2.1, .inl (ur_29.2.2.2.2.2.2.1, ur_29.2.2.2.2.2.2.2.2.1, .inl ur_29.2.2.2.2.2.2.2.2.2.1)), (ur_29.2.2.2.2.2.1, .inl (ur_29.2.2.2.2.2.2.2.1, ur_29.2.2.2.2.2.2.2.2.1, .inl ur_29.2.2.2.2.2.2.2.2.2.2.1)), (ur_29.2.1, .inl (ur_29.2.2.1, ur_29.1, .inl ur_29.2.2.2.1))] := hD
                  refine W.widen (k := 9) (n := 8000 + 18000 + 6) (by omega) (by omega) ?_
                  refine W.eq (g2 := F0 m 293 ls [.long r_29]) rfl ?_
                  have hko_ := kpH_ok hH9 jr_29
                  refine W.book (fun hz9_ hn9_ => ?_)
                  have hpost : hOK (ur_29.1) (ur_29.2.2.2.2.2.2.2.2.1) (ur_29.2.2.2.2.2.2.2.2.2.2.2.1) cap := hko_.1
                  have hcost : hT H + hPS tb L ≤ (hT s.heap + 6) + hPS (ur_29.1) (ur_29.2.2.2.2.2.2.2.2.1) ∧ H.size + hPC tb L ≤ (s.heap.size + 1) + hPC (ur_29.1) (ur_29.2.2.2.2.2.2.2.2.1) := by constructor <;> omega
                  have hP9 := hP.sub (ws' := [(a0, .inr (7, [.ref qb])), (qb, .inl (cq, 16, .inr (.inr (.inr (.inr bq))))), (y0, .inr (3, [.ref x0, .int kd, .int wh, .int (nI cap), .int ru, .int (nI (ur_29.1)), .ref ur_29.2.1])), (x0, .inr (5, [.ref ur_29.2.2.2.2.1, .ref ur_29.2.2.2.2.2.1, .int (nI (ur_29.2.2.2.2.2.2.2.2.2.2.2.1)), .int ur_29.2.2.2.2.2.2.2.2.2.2.2.2])), (ur_29.2.2.2.2.1, .inl (ur_29.2.2.2.2.2.2.1, ur_29.2.2.2.2.2.2.2.2.1, .inl ur_29.2.2.2.2.2.2.2.2.2.1)), (ur_29.2.2.2.2.2.1, .inl (ur_29.2.2.2.2.2.2.2.1, ur_29.2.2.2.2.2.2.2.2.1, .inl ur_29.2.2.2.2.2.2.2.2.2.2.1)), (ur_29.2.1, .inl (ur_29.2.2.1, ur_29.1, .inl ur_29.2.2.2.1))]) [0, 1, 2, 3, 4, 5, 6] rfl
                  have hD9 := hD.sub (ws' := [(a0, .inr (7, [.ref qb])), (qb, .inl (cq, 16, .inr (.inr (.inr (.inr bq))))), (y0, .inr (3, [.ref x0, .int kd, .int wh, .int (nI cap), .int ru, .int (nI (ur_29.1)), .ref ur_29.2.1])), (x0, .inr (5, [.ref ur_29.2.2.2.2.1, .ref ur_29.2.2.2.2.2.1, .int (nI (ur_29.2.2.2.2.2.2.2.2.2.2.2.1)), .int ur_29.2.2.2.2.2.2.2.2.2.2.2.2])), (ur_29.2.2.2.2.1, .inl (ur_29.2.2.2.2.2.2.1, ur_29.2.2.2.2.2.2.2.2.1, .inl ur_29.2.2.2.2.2.2.2.2.2.1)), (ur_29.2.2.2.2.2.1, .inl (ur_29.2.2.2.2.2.2.2.1, ur_29.2.2.2.2.2.2.2.2.1, .inl ur_29.2.2.2.2.2.2.2.2.2.2.1)), (ur_29.2.1, .inl (ur_29.2.2.1, ur_29.1, .inl ur_29.2.2.2.1))]) [0, 1, 2, 3, 4, 5, 6] (by decide) rfl
                  have hK9 := hK.sub (tys' := [(cq, .object "KeyAtlas$Body"), (ur_29.2.2.2.2.2.2.1, .int), (ur_29.2.2.2.2.2.2.2.1, .int), (ur_29.2.2.1, .boolean)]) [0, 4, 5, 6] rfl
                  refine W.widen (k := 20) (n := 27000) (by omega) (by omega) ?_
                  refine vx_ret ?_
                  exact W.lret (v := r_29) hx hb hr (fun t ht hW => ⟨⟨r_29, (ur_29.1, ur_29.2.1, ur_29.2.2.1, ur_29.2.2.2.1, ur_29.2.2.2.2.1, ur_29.2.2.2.2.2.1, ur_29.2.2.2.2.2.2.1, ur_29.2.2.2.2.2.2.2.1, ur_29.2.2.2.2.2.2.2.2.1, ur_29.2.2.2.2.2.2.2.2.2.1, ur_29.2.2.2.2.2.2.2.2.2.2.1, ur_29.2.2.2.2.2.2.2.2.2.2.2.1, ur_29.2.2.2.2.2.2.2.2.2.2.2.2), rfl, hpost, by rw [ht]; exact hP9, va_K.moved hW.alike hK9, hD9, by rw [ht]; exact hcost⟩, hS.F ht⟩) hS.2.2 dX7_map_293
              have ic_28 : ¬ p1.toInt = 8 := tx_ne rfl (by decide) c_28
              by_cases c_30 : p1 = 9
              ·
                have ic_30 : p1.toInt = 9 := tx_eq rfl (by decide) c_30
                refine lv_tableIn (off := 193) (tgt := 294) hx hb dX7_map_101 (by rw [c_30]; decide) (by rw [c_30]; decide) (by rw [c_30]; rfl) (by decide) ?_
                refine lv_aload hx hb dX7_map_294 (lv_at hl 1 rfl) ?_
                refine lv_iload_n hx hb dX7_map_296 rfl (lv_at hl 8 rfl) ?_
                have hPc := hP.sub (ws' := [(y0, .inr (3, [.ref x0, .int kd, .int wh, .int (nI cap), .int ru, .int (nI tb), .ref b0])), (x0, .inr (5, [.ref k0, .ref w0, .int (nI nz), .int ch])), (k0, .inl (ck, L, .inl f)), (w0, .inl (cw, L, .inl g)), (b0, .inl (cb, tb, .inl bf))]) [2, 3, 4, 5, 6] rfl
                have hKc := hK.sub (tys' := [(ck, .int), (cw, .int), (cb, .boolean)]) [1, 2, 3] rfl
                refine ro_calll (va_runU (As := [.int p2]) (rest := []) ⟨hx, hb, hml, hown, hts⟩ (c_X3_howManyWith_H l hlt dC dI s.heap.size y0 kd wh cap ru tb b0 cb bf x0 k0 w0 ck cw L f g nz ch p2 hH9) (va_cwU 1 hts gX7_map_X3_howManyWith_u101X2 rfl rfl rfl rfl (by decide +kernel) ⟨(Nat.le_of_ble_eq_true rfl), (Nat.le_of_ble_eq_true rfl)⟩) ⟨pk_blindRX, va_recv hKc hPc (ci := 3) (q0 := 0) rfl rfl, pk_callRX hPc hKc hN⟩ rfl rfl hl.1 rfl (lv_room (Nat.le_of_ble_eq_true rfl)) dX7_map_297 ⟨(Nat.le_of_ble_eq_true rfl), (Nat.le_of_ble_eq_true rfl)⟩) (fun r_31 ur_31 hw => ?_)
                clear hPc hKc
                try dsimp only at hw
                have jr_31 := hw
                refine W.eq (g2 := F0 m 300 ls [.long r_31]) rfl ?_
                refine W.book (fun hz9_ hn9_ => ?_)
                have hpost : hOK (tb) (L) (nz) cap := hH9_
                have hcost : hT s.heap + hPS tb L ≤ (hT s.heap + 6) + hPS (tb) (L) ∧ s.heap.size + hPC tb L ≤ (s.heap.size + 1) + hPC (tb) (L) := by constructor <;> omega
                have hP9 := hP.sub (ws' := [(a0, .inr (7, [.ref qb])), (qb, .inl (cq, 16, .inr (.inr (.inr (.inr bq))))), (y0, .inr (3, [.ref x0, .int kd, .int wh, .int (nI cap), .int ru, .int (nI tb), .ref b0])), (x0, .inr (5, [.ref k0, .ref w0, .int (nI nz), .int ch])), (k0, .inl (ck, L, .inl f)), (w0, .inl (cw, L, .inl g)), (b0, .inl (cb, tb, .inl bf))]) [0, 1, 2, 3, 4, 5, 6] rfl
                have hD9 := hD.sub (ws' := [(a0, .inr (7, [.ref qb])), (qb, .inl (cq, 16, .inr (.inr (.inr (.inr bq))))), (y0, .inr (3, [.ref x0, .int kd, .int wh, .int (nI cap), .int ru, .int (nI tb), .ref b0])), (x0, .inr (5, [.ref k0, .ref w0, .int (nI nz), .int ch])), (k0, .inl (ck, L, .inl f)), (w0, .inl (cw, L, .inl g)), (b0, .inl (cb, tb, .inl bf))]) [0, 1, 2, 3, 4, 5, 6] (by decide) rfl
                have hK9 := hK.sub (tys' := [(cq, .object "KeyAtlas$Body"), (ck, .int), (cw, .int), (cb, .boolean)]) [0, 1, 2, 3] rfl
                refine W.widen (k := 20) (n := 27000) (Nat.le_of_ble_eq_true rfl) (Nat.le_of_ble_eq_true rfl) ?_
                refine vx_ret ?_
                exact W.lret (v := r_31) hx hb hr (fun t ht hW => ⟨⟨r_31, (tb, b0, cb, bf, k0, w0, ck, cw, L, f, g, nz, ch), rfl, hpost, by rw [ht]; exact hP9, va_K.moved hW.alike hK9, hD9, by rw [ht]; exact hcost⟩, hS.F ht⟩) hS.2.2 dX7_map_300
              have ic_30 : ¬ p1.toInt = 9 := tx_ne rfl (by decide) c_30
              by_cases c_32 : p1 = 10
              ·
                have ic_32 : p1.toInt = 10 := tx_eq rfl (by decide) c_32
                refine lv_tableIn (off := 200) (tgt := 301) hx hb dX7_map_101 (by rw [c_32]; decide) (by rw [c_32]; decide) (by rw [c_32]; rfl) (by decide) ?_
                refine lv_aload hx hb dX7_map_301 (lv_at hl 1 rfl) ?_
                refine lv_iconst (v := 0) hx hb dX7_map_303 (by decide) ?_
                refine lv_iconst (v := 0) hx hb dX7_map_304 (by decide) ?_
                have hPc := hP.sub (ws' := [(y0, .inr (3, [.ref x0, .int kd, .int wh, .int (nI cap), .int ru, .int (nI tb), .ref b0])), (x0, .inr (5, [.ref k0, .ref w0, .int (nI nz), .int ch])), (k0, .inl (ck, L, .inl f)), (w0, .inl (cw, L, .inl g)), (b0, .inl (cb, tb, .inl bf))]) [2, 3, 4, 5, 6] rfl
                have hDc := hD.sub (ws' := [(y0, .inr (3, [.ref x0, .int kd, .int wh, .int (nI cap), .int ru, .int (nI tb), .ref b0])), (x0, .inr (5, [.ref k0, .ref w0, .int (nI nz), .int ch])), (k0, .inl (ck, L, .inl f)), (w0, .inl (cw, L, .inl g)), (b0, .inl (cb, tb, .inl bf))]) [2, 3, 4, 5, 6] (by decide) rfl
                have hKc := hK.sub (tys' := [(ck, .int), (cw, .int), (cb, .boolean)]) [1, 2, 3] rfl
                have hFc := va_free (wc := [(y0, .inr (3, [.ref x0, .int kd, .int wh, .int (nI cap), .int ru, .int (nI tb), .ref b0])), (x0, .inr (5, [.ref k0, .ref w0, .int (nI nz), .int ch])), (k0, .inl (ck, L, .inl f)), (w0, .inl (cw, L, .inl g)), (b0, .inl (cb, tb, .inl bf))]) hD hS hA [2, 3, 4, 5, 6] rfl
                have hZc := (hZ.kept hS.2.1).narrow hFc
                refine vx_calll (vx_runU (As := [.int 0, .int 0]) (rest := []) ⟨hx, hb, hml, hown, hts⟩ (c_X3_endKey_H l hlt dC dI s.heap.size y0 kd wh cap ru tb b0 cb bf x0 k0 w0 ck cw L f g nz ch 0 0 hH9) (va_cwU 2 hts gX7_map_X3_endKey_u104X2 rfl rfl rfl rfl (by decide +kernel) ⟨(Nat.le_of_ble_eq_true rfl), (Nat.le_of_ble_eq_true rfl)⟩) ⟨pk_blindX, va_recv hKc hPc (ci := 3) (q0 := 0) rfl rfl, pk_callX hPc hKc hDc hN hZc⟩ rfl rfl hl.1 rfl (lv_room (Nat.le_of_ble_eq_true rfl)) dX7_map_305 ⟨(Nat.le_of_ble_eq_true rfl), (Nat.le_of_ble_eq_true rfl)⟩) hS (fun q _ h => hFc q h) hFc (fun q _ h => hFc q h) (fun E ce q9 u9 t H1 locs ht hvm hw hB hz1 hk1 hS hce hcv hcl => ?_) (fun r_33 ur_33 t H1 locs ht hvm hw hB hz1 hk1 hS => ?_)
                ·
                  try dsimp only at hB
                  have hB8 := hB
                  obtain ⟨hE8, hP8, hK8, hD8⟩ := hB8
                  rw [ht] at hP8
                  obtain ⟨hP7, -⟩ := va_join (wr := [(a0, .inr (7, [.ref qb])), (qb, .inl (cq, 16, .inr (.inr (.inr (.inr bq)))))]) (w1 := [(y0, .inr (3, [.ref x0, .int kd, .int wh, .int (nI cap), .int ru, .int (nI tb), .ref b0])), (x0, .inr (5, [.ref k0, .ref w0, .int (nI nz), .int ch])), (k0, .inl (ck, L, .inl f)), (w0, .inl (cw, L, .inl g)), (b0, .inl (cb, tb, .inl bf))]) hP hD [2, 3, 4, 5, 6] [0, 1] rfl rfl (by decide) (by decide) hk1 hFc hP8 hD8
                  have hP6 := hP7.sub (ws' := [(a0, .inr (7, [.ref qb])), (qb, .inl (cq, 16, .inr (.inr (.inr (.inr bq))))), (y0, .inr (3, [.ref x0, .int kd, .int wh, .int (nI cap), .int ru, .int (nI tb), .ref b0])), (x0, .inr (5, [.ref k0, .ref w0, .int (nI nz), .int ch])), (k0, .inl (ck, L, .inl f)), (w0, .inl (cw, L, .inl g)), (b0, .inl (cb, tb, .inl bf))]) [0, 1, 2, 3, 4, 5, 6] rfl
                  refine vx_tightO (XC0 := vx_X (fun _ : Unit => True) (fun (E : String) (_ : Unit) (t : State) => (E = "java/lang/IllegalArgumentException" ∨ E = "java/lang/IllegalStateException" ∨ E = "java/util/NoSuchElementException" ∨ E = "java/lang/UnsupportedOperationException") ∧ va_P (dC, dI) vwCl [(a0, .inr (7, [.ref qb])), (qb, .inl (cq, 16, .inr (.inr (.inr (.inr bq))))), (y0, .inr (3, [.ref x0, .int kd, .int wh, .int (nI cap), .int ru, .int (nI tb), .ref b0])), (x0, .inr (5, [.ref k0, .ref w0, .int (nI nz), .int ch])), (k0, .inl (ck, L, .inl f)), (w0, .inl (cw, L, .inl g)), (b0, .inl (cb, tb, .inl bf))] t.heap ∧ va_K (dC, dI) vwCl [(cq, .object "KeyAtlas$Body"), (ck, .int), (cw, .int), (cb, .boolean)] t ∧ va_D A [(a0, .inr (7, [.ref qb])), (qb, .inl (cq, 16, .inr (.inr (.inr (.inr bq))))), (y0, .inr (3, [.ref x0, .int kd, .int wh, .int (nI cap), .int ru, .int (nI tb), .ref b0])), (x0, .inr (5, [.ref k0, .ref w0, .int (nI nz), .int ch])), (k0, .inl (ck, L, .inl f)), (w0, .inl (cw, L, .inl g)), (b0, .inl (cb, tb, .inl bf))]) A) 1 6 (by omega) (by omega) (fun E t9 h9 hz9 hn9 => by obtain ⟨u9, g1, g2, g3⟩ := h9; exact ⟨u9, g1, ⟨g2, hz9, hn9⟩, g3⟩) ?_
                  exact vx_out (fun x hx9 => (htab x hx9).elim) hlocks hce hcv hcl (fun t9 ht9 hal9 => ⟨(), trivial, ⟨Or.inr (Or.inr (Or.inl hE8)), by rw [ht9]; exact hP6, va_K.moved hal9 hK, hD⟩, hS.F ht9⟩) hS.2.2 (by omega) (by omega)
                ·
                  try dsimp only at hw
                  have jr_33 := hw
                  obtain ⟨hP1, hK1, hD1⟩ := hB
                  rw [ht] at hP1
                  have hK1 := va_K.moved hvm.symm hK1
                  obtain ⟨hP, hD⟩ := va_join (wr := [(a0, .inr (7, [.ref qb])), (qb, .inl (cq, 16, .inr (.inr (.inr (.inr bq)))))]) (w1 := [(y0, .inr (3, [.ref x0, .int kd, .int wh, .int (nI cap), .int ru, .int (nI tb), .ref b0])), (x0, .inr (5, [.ref k0, .ref w0, .int (nI (ur_33.2.2.1)), .int ur_33.2.2.2.1])), (k0, .inl (ck, L, .inl ur_33.1)), (w0, .inl (cw, L, .inl ur_33.2.1)), (b0, .inl (cb, tb, .inl ur_33.2.2.2.2))]) hP hD [2, 3, 4, 5, 6] [0, 1] rfl rfl (by decide) (by decide) hk1 hFc hP1 hD1
                  clear hk1 hz1 ht hPc hDc hKc hFc
                  generalize H1 = H at hP hS ⊢
                  replace hP : va_P (dC, dI) vwCl [(a0, .inr (7, [.ref qb])), (qb, .inl (cq, 16, .inr (.inr (.inr (.inr bq))))), (y0, .inr (3, [.ref x0, .int kd, .int wh, .int (nI cap), .int ru, .int (nI tb), .ref b0])), (x0, .inr (5, [.ref k0, .ref w0, .int (nI (ur_33.2.2.1)), .int ur_33.2.2.2.1])), (k0, .inl (ck, L, .inl ur_33.1)), (w0, .inl (cw, L, .inl ur_33.2.1)), (b0, .inl (cb, tb, .inl ur_33.2.2.2.2))] H := hP
                  replace hD : va_D A [(a0, .inr (7, [.ref qb])), (qb, .inl (cq, 16, .inr (.inr (.inr (.inr bq))))), (y0, .inr (3, [.ref x0, .int kd, .int wh, .int (nI cap), .int ru, .int (nI tb), .ref b0])), (x0, .inr (5, [.ref k0, .ref w0, .int (nI (ur_33.2.2.1)), .int ur_33.2.2.2.1])), (k0, .inl (ck, L, .inl ur_33.1)), (w0, .inl (cw, L, .inl ur_33.2.1)), (b0, .inl (cb, tb, .inl ur_33.2.2.2.2))] := hD
                  refine W.widen (k := 1) (n := 6) (Nat.le_of_ble_eq_true rfl) (Nat.le_of_ble_eq_true rfl) ?_
                  refine W.eq (g2 := F0 m 308 ls [.long r_33]) rfl ?_
                  refine W.book (fun hz9_ hn9_ => ?_)
                  have hpost : hOK (tb) (L) (ur_33.2.2.1) cap := hOK_le hH9_ jr_33
                  have hcost : hT H + hPS tb L ≤ (hT s.heap + 6) + hPS (tb) (L) ∧ H.size + hPC tb L ≤ (s.heap.size + 1) + hPC (tb) (L) := by constructor <;> omega
                  have hP9 := hP.sub (ws' := [(a0, .inr (7, [.ref qb])), (qb, .inl (cq, 16, .inr (.inr (.inr (.inr bq))))), (y0, .inr (3, [.ref x0, .int kd, .int wh, .int (nI cap), .int ru, .int (nI tb), .ref b0])), (x0, .inr (5, [.ref k0, .ref w0, .int (nI (ur_33.2.2.1)), .int ur_33.2.2.2.1])), (k0, .inl (ck, L, .inl ur_33.1)), (w0, .inl (cw, L, .inl ur_33.2.1)), (b0, .inl (cb, tb, .inl ur_33.2.2.2.2))]) [0, 1, 2, 3, 4, 5, 6] rfl
                  have hD9 := hD.sub (ws' := [(a0, .inr (7, [.ref qb])), (qb, .inl (cq, 16, .inr (.inr (.inr (.inr bq))))), (y0, .inr (3, [.ref x0, .int kd, .int wh, .int (nI cap), .int ru, .int (nI tb), .ref b0])), (x0, .inr (5, [.ref k0, .ref w0, .int (nI (ur_33.2.2.1)), .int ur_33.2.2.2.1])), (k0, .inl (ck, L, .inl ur_33.1)), (w0, .inl (cw, L, .inl ur_33.2.1)), (b0, .inl (cb, tb, .inl ur_33.2.2.2.2))]) [0, 1, 2, 3, 4, 5, 6] (by decide) rfl
                  have hK9 := hK.sub (tys' := [(cq, .object "KeyAtlas$Body"), (ck, .int), (cw, .int), (cb, .boolean)]) [0, 1, 2, 3] rfl
                  refine W.widen (k := 20) (n := 27000) (Nat.le_of_ble_eq_true rfl) (Nat.le_of_ble_eq_true rfl) ?_
                  refine vx_ret ?_
                  exact W.lret (v := r_33) hx hb hr (fun t ht hW => ⟨⟨r_33, (tb, b0, cb, ur_33.2.2.2.2, k0, w0, ck, cw, L, ur_33.1, ur_33.2.1, ur_33.2.2.1, ur_33.2.2.2.1), rfl, hpost, by rw [ht]; exact hP9, va_K.moved hW.alike hK9, hD9, by rw [ht]; exact hcost⟩, hS.F ht⟩) hS.2.2 dX7_map_308
              have ic_32 : ¬ p1.toInt = 10 := tx_ne rfl (by decide) c_32
              by_cases c_34 : p1 = 11
              ·
                have ic_34 : p1.toInt = 11 := tx_eq rfl (by decide) c_34
                refine lv_tableIn (off := 208) (tgt := 309) hx hb dX7_map_101 (by rw [c_34]; decide) (by rw [c_34]; decide) (by rw [c_34]; rfl) (by decide) ?_
                refine lv_aload hx hb dX7_map_309 (lv_at hl 1 rfl) ?_
                refine lv_iconst (v := 1) hx hb dX7_map_311 (by decide) ?_
                refine lv_iconst (v := 0) hx hb dX7_map_312 (by decide) ?_
                have hPc := hP.sub (ws' := [(y0, .inr (3, [.ref x0, .int kd, .int wh, .int (nI cap), .int ru, .int (nI tb), .ref b0])), (x0, .inr (5, [.ref k0, .ref w0, .int (nI nz), .int ch])), (k0, .inl (ck, L, .inl f)), (w0, .inl (cw, L, .inl g)), (b0, .inl (cb, tb, .inl bf))]) [2, 3, 4, 5, 6] rfl
                have hDc := hD.sub (ws' := [(y0, .inr (3, [.ref x0, .int kd, .int wh, .int (nI cap), .int ru, .int (nI tb), .ref b0])), (x0, .inr (5, [.ref k0, .ref w0, .int (nI nz), .int ch])), (k0, .inl (ck, L, .inl f)), (w0, .inl (cw, L, .inl g)), (b0, .inl (cb, tb, .inl bf))]) [2, 3, 4, 5, 6] (by decide) rfl
                have hKc := hK.sub (tys' := [(ck, .int), (cw, .int), (cb, .boolean)]) [1, 2, 3] rfl
                have hFc := va_free (wc := [(y0, .inr (3, [.ref x0, .int kd, .int wh, .int (nI cap), .int ru, .int (nI tb), .ref b0])), (x0, .inr (5, [.ref k0, .ref w0, .int (nI nz), .int ch])), (k0, .inl (ck, L, .inl f)), (w0, .inl (cw, L, .inl g)), (b0, .inl (cb, tb, .inl bf))]) hD hS hA [2, 3, 4, 5, 6] rfl
                have hZc := (hZ.kept hS.2.1).narrow hFc
                refine vx_calll (vx_runU (As := [.int 1, .int 0]) (rest := []) ⟨hx, hb, hml, hown, hts⟩ (c_X3_endKey_H l hlt dC dI s.heap.size y0 kd wh cap ru tb b0 cb bf x0 k0 w0 ck cw L f g nz ch 1 0 hH9) (va_cwU 2 hts gX7_map_X3_endKey_u104X2 rfl rfl rfl rfl (by decide +kernel) ⟨(Nat.le_of_ble_eq_true rfl), (Nat.le_of_ble_eq_true rfl)⟩) ⟨pk_blindX, va_recv hKc hPc (ci := 3) (q0 := 0) rfl rfl, pk_callX hPc hKc hDc hN hZc⟩ rfl rfl hl.1 rfl (lv_room (Nat.le_of_ble_eq_true rfl)) dX7_map_313 ⟨(Nat.le_of_ble_eq_true rfl), (Nat.le_of_ble_eq_true rfl)⟩) hS (fun q _ h => hFc q h) hFc (fun q _ h => hFc q h) (fun E ce q9 u9 t H1 locs ht hvm hw hB hz1 hk1 hS hce hcv hcl => ?_) (fun r_35 ur_35 t H1 locs ht hvm hw hB hz1 hk1 hS => ?_)
                ·
                  try dsimp only at hB
                  have hB8 := hB
                  obtain ⟨hE8, hP8, hK8, hD8⟩ := hB8
                  rw [ht] at hP8
                  obtain ⟨hP7, -⟩ := va_join (wr := [(a0, .inr (7, [.ref qb])), (qb, .inl (cq, 16, .inr (.inr (.inr (.inr bq)))))]) (w1 := [(y0, .inr (3, [.ref x0, .int kd, .int wh, .int (nI cap), .int ru, .int (nI tb), .ref b0])), (x0, .inr (5, [.ref k0, .ref w0, .int (nI nz), .int ch])), (k0, .inl (ck, L, .inl f)), (w0, .inl (cw, L, .inl g)), (b0, .inl (cb, tb, .inl bf))]) hP hD [2, 3, 4, 5, 6] [0, 1] rfl rfl (by decide) (by decide) hk1 hFc hP8 hD8
                  have hP6 := hP7.sub (ws' := [(a0, .inr (7, [.ref qb])), (qb, .inl (cq, 16, .inr (.inr (.inr (.inr bq))))), (y0, .inr (3, [.ref x0, .int kd, .int wh, .int (nI cap), .int ru, .int (nI tb), .ref b0])), (x0, .inr (5, [.ref k0, .ref w0, .int (nI nz), .int ch])), (k0, .inl (ck, L, .inl f)), (w0, .inl (cw, L, .inl g)), (b0, .inl (cb, tb, .inl bf))]) [0, 1, 2, 3, 4, 5, 6] rfl
                  refine vx_tightO (XC0 := vx_X (fun _ : Unit => True) (fun (E : String) (_ : Unit) (t : State) => (E = "java/lang/IllegalArgumentException" ∨ E = "java/lang/IllegalStateException" ∨ E = "java/util/NoSuchElementException" ∨ E = "java/lang/UnsupportedOperationException") ∧ va_P (dC, dI) vwCl [(a0, .inr (7, [.ref qb])), (qb, .inl (cq, 16, .inr (.inr (.inr (.inr bq))))), (y0, .inr (3, [.ref x0, .int kd, .int wh, .int (nI cap), .int ru, .int (nI tb), .ref b0])), (x0, .inr (5, [.ref k0, .ref w0, .int (nI nz), .int ch])), (k0, .inl (ck, L, .inl f)), (w0, .inl (cw, L, .inl g)), (b0, .inl (cb, tb, .inl bf))] t.heap ∧ va_K (dC, dI) vwCl [(cq, .object "KeyAtlas$Body"), (ck, .int), (cw, .int), (cb, .boolean)] t ∧ va_D A [(a0, .inr (7, [.ref qb])), (qb, .inl (cq, 16, .inr (.inr (.inr (.inr bq))))), (y0, .inr (3, [.ref x0, .int kd, .int wh, .int (nI cap), .int ru, .int (nI tb), .ref b0])), (x0, .inr (5, [.ref k0, .ref w0, .int (nI nz), .int ch])), (k0, .inl (ck, L, .inl f)), (w0, .inl (cw, L, .inl g)), (b0, .inl (cb, tb, .inl bf))]) A) 1 6 (by omega) (by omega) (fun E t9 h9 hz9 hn9 => by obtain ⟨u9, g1, g2, g3⟩ := h9; exact ⟨u9, g1, ⟨g2, hz9, hn9⟩, g3⟩) ?_
                  exact vx_out (fun x hx9 => (htab x hx9).elim) hlocks hce hcv hcl (fun t9 ht9 hal9 => ⟨(), trivial, ⟨Or.inr (Or.inr (Or.inl hE8)), by rw [ht9]; exact hP6, va_K.moved hal9 hK, hD⟩, hS.F ht9⟩) hS.2.2 (by omega) (by omega)
                ·
                  try dsimp only at hw
                  have jr_35 := hw
                  obtain ⟨hP1, hK1, hD1⟩ := hB
                  rw [ht] at hP1
                  have hK1 := va_K.moved hvm.symm hK1
                  obtain ⟨hP, hD⟩ := va_join (wr := [(a0, .inr (7, [.ref qb])), (qb, .inl (cq, 16, .inr (.inr (.inr (.inr bq)))))]) (w1 := [(y0, .inr (3, [.ref x0, .int kd, .int wh, .int (nI cap), .int ru, .int (nI tb), .ref b0])), (x0, .inr (5, [.ref k0, .ref w0, .int (nI (ur_35.2.2.1)), .int ur_35.2.2.2.1])), (k0, .inl (ck, L, .inl ur_35.1)), (w0, .inl (cw, L, .inl ur_35.2.1)), (b0, .inl (cb, tb, .inl ur_35.2.2.2.2))]) hP hD [2, 3, 4, 5, 6] [0, 1] rfl rfl (by decide) (by decide) hk1 hFc hP1 hD1
                  clear hk1 hz1 ht hPc hDc hKc hFc
                  generalize H1 = H at hP hS ⊢
                  replace hP : va_P (dC, dI) vwCl [(a0, .inr (7, [.ref qb])), (qb, .inl (cq, 16, .inr (.inr (.inr (.inr bq))))), (y0, .inr (3, [.ref x0, .int kd, .int wh, .int (nI cap), .int ru, .int (nI tb), .ref b0])), (x0, .inr (5, [.ref k0, .ref w0, .int (nI (ur_35.2.2.1)), .int ur_35.2.2.2.1])), (k0, .inl (ck, L, .inl ur_35.1)), (w0, .inl (cw, L, .inl ur_35.2.1)), (b0, .inl (cb, tb, .inl ur_35.2.2.2.2))] H := hP
                  replace hD : va_D A [(a0, .inr (7, [.ref qb])), (qb, .inl (cq, 16, .inr (.inr (.inr (.inr bq))))), (y0, .inr (3, [.ref x0, .int kd, .int wh, .int (nI cap), .int ru, .int (nI tb), .ref b0])), (x0, .inr (5, [.ref k0, .ref w0, .int (nI (ur_35.2.2.1)), .int ur_35.2.2.2.1])), (k0, .inl (ck, L, .inl ur_35.1)), (w0, .inl (cw, L, .inl ur_35.2.1)), (b0, .inl (cb, tb, .inl ur_35.2.2.2.2))] := hD
                  refine W.widen (k := 1) (n := 6) (Nat.le_of_ble_eq_true rfl) (Nat.le_of_ble_eq_true rfl) ?_
                  refine W.eq (g2 := F0 m 316 ls [.long r_35]) rfl ?_
                  refine W.book (fun hz9_ hn9_ => ?_)
                  have hpost : hOK (tb) (L) (ur_35.2.2.1) cap := hOK_le hH9_ jr_35
                  have hcost : hT H + hPS tb L ≤ (hT s.heap + 6) + hPS (tb) (L) ∧ H.size + hPC tb L ≤ (s.heap.size + 1) + hPC (tb) (L) := by constructor <;> omega
                  have hP9 := hP.sub (ws' := [(a0, .inr (7, [.ref qb])), (qb, .inl (cq, 16, .inr (.inr (.inr (.inr bq))))), (y0, .inr (3, [.ref x0, .int kd, .int wh, .int (nI cap), .int ru, .int (nI tb), .ref b0])), (x0, .inr (5, [.ref k0, .ref w0, .int (nI (ur_35.2.2.1)), .int ur_35.2.2.2.1])), (k0, .inl (ck, L, .inl ur_35.1)), (w0, .inl (cw, L, .inl ur_35.2.1)), (b0, .inl (cb, tb, .inl ur_35.2.2.2.2))]) [0, 1, 2, 3, 4, 5, 6] rfl
                  have hD9 := hD.sub (ws' := [(a0, .inr (7, [.ref qb])), (qb, .inl (cq, 16, .inr (.inr (.inr (.inr bq))))), (y0, .inr (3, [.ref x0, .int kd, .int wh, .int (nI cap), .int ru, .int (nI tb), .ref b0])), (x0, .inr (5, [.ref k0, .ref w0, .int (nI (ur_35.2.2.1)), .int ur_35.2.2.2.1])), (k0, .inl (ck, L, .inl ur_35.1)), (w0, .inl (cw, L, .inl ur_35.2.1)), (b0, .inl (cb, tb, .inl ur_35.2.2.2.2))]) [0, 1, 2, 3, 4, 5, 6] (by decide) rfl
                  have hK9 := hK.sub (tys' := [(cq, .object "KeyAtlas$Body"), (ck, .int), (cw, .int), (cb, .boolean)]) [0, 1, 2, 3] rfl
                  refine W.widen (k := 20) (n := 27000) (Nat.le_of_ble_eq_true rfl) (Nat.le_of_ble_eq_true rfl) ?_
                  refine vx_ret ?_
                  exact W.lret (v := r_35) hx hb hr (fun t ht hW => ⟨⟨r_35, (tb, b0, cb, ur_35.2.2.2.2, k0, w0, ck, cw, L, ur_35.1, ur_35.2.1, ur_35.2.2.1, ur_35.2.2.2.1), rfl, hpost, by rw [ht]; exact hP9, va_K.moved hW.alike hK9, hD9, by rw [ht]; exact hcost⟩, hS.F ht⟩) hS.2.2 dX7_map_316
              have ic_34 : ¬ p1.toInt = 11 := tx_ne rfl (by decide) c_34
              by_cases c_36 : p1 = 12
              ·
                have ic_36 : p1.toInt = 12 := tx_eq rfl (by decide) c_36
                refine lv_tableIn (off := 216) (tgt := 317) hx hb dX7_map_101 (by rw [c_36]; decide) (by rw [c_36]; decide) (by rw [c_36]; rfl) (by decide) ?_
                refine lv_aload hx hb dX7_map_317 (lv_at hl 1 rfl) ?_
                refine lv_iconst (v := 0) hx hb dX7_map_319 (by decide) ?_
                refine lv_iconst (v := 1) hx hb dX7_map_320 (by decide) ?_
                have hPc := hP.sub (ws' := [(y0, .inr (3, [.ref x0, .int kd, .int wh, .int (nI cap), .int ru, .int (nI tb), .ref b0])), (x0, .inr (5, [.ref k0, .ref w0, .int (nI nz), .int ch])), (k0, .inl (ck, L, .inl f)), (w0, .inl (cw, L, .inl g)), (b0, .inl (cb, tb, .inl bf))]) [2, 3, 4, 5, 6] rfl
                have hDc := hD.sub (ws' := [(y0, .inr (3, [.ref x0, .int kd, .int wh, .int (nI cap), .int ru, .int (nI tb), .ref b0])), (x0, .inr (5, [.ref k0, .ref w0, .int (nI nz), .int ch])), (k0, .inl (ck, L, .inl f)), (w0, .inl (cw, L, .inl g)), (b0, .inl (cb, tb, .inl bf))]) [2, 3, 4, 5, 6] (by decide) rfl
                have hKc := hK.sub (tys' := [(ck, .int), (cw, .int), (cb, .boolean)]) [1, 2, 3] rfl
                have hFc := va_free (wc := [(y0, .inr (3, [.ref x0, .int kd, .int wh, .int (nI cap), .int ru, .int (nI tb), .ref b0])), (x0, .inr (5, [.ref k0, .ref w0, .int (nI nz), .int ch])), (k0, .inl (ck, L, .inl f)), (w0, .inl (cw, L, .inl g)), (b0, .inl (cb, tb, .inl bf))]) hD hS hA [2, 3, 4, 5, 6] rfl
                have hZc := (hZ.kept hS.2.1).narrow hFc
                refine vx_calll (vx_runU (As := [.int 0, .int 1]) (rest := []) ⟨hx, hb, hml, hown, hts⟩ (c_X3_endKey_H l hlt dC dI s.heap.size y0 kd wh cap ru tb b0 cb bf x0 k0 w0 ck cw L f g nz ch 0 1 hH9) (va_cwU 2 hts gX7_map_X3_endKey_u104X2 rfl rfl rfl rfl (by decide +kernel) ⟨(Nat.le_of_ble_eq_true rfl), (Nat.le_of_ble_eq_true rfl)⟩) ⟨pk_blindX, va_recv hKc hPc (ci := 3) (q0 := 0) rfl rfl, pk_callX hPc hKc hDc hN hZc⟩ rfl rfl hl.1 rfl (lv_room (Nat.le_of_ble_eq_true rfl)) dX7_map_321 ⟨(Nat.le_of_ble_eq_true rfl), (Nat.le_of_ble_eq_true rfl)⟩) hS (fun q _ h => hFc q h) hFc (fun q _ h => hFc q h) (fun E ce q9 u9 t H1 locs ht hvm hw hB hz1 hk1 hS hce hcv hcl => ?_) (fun r_37 ur_37 t H1 locs ht hvm hw hB hz1 hk1 hS => ?_)
                ·
                  try dsimp only at hB
                  have hB8 := hB
                  obtain ⟨hE8, hP8, hK8, hD8⟩ := hB8
                  rw [ht] at hP8
                  obtain ⟨hP7, -⟩ := va_join (wr := [(a0, .inr (7, [.ref qb])), (qb, .inl (cq, 16, .inr (.inr (.inr (.inr bq)))))]) (w1 := [(y0, .inr (3, [.ref x0, .int kd, .int wh, .int (nI cap), .int ru, .int (nI tb), .ref b0])), (x0, .inr (5, [.ref k0, .ref w0, .int (nI nz), .int ch])), (k0, .inl (ck, L, .inl f)), (w0, .inl (cw, L, .inl g)), (b0, .inl (cb, tb, .inl bf))]) hP hD [2, 3, 4, 5, 6] [0, 1] rfl rfl (by decide) (by decide) hk1 hFc hP8 hD8
                  have hP6 := hP7.sub (ws' := [(a0, .inr (7, [.ref qb])), (qb, .inl (cq, 16, .inr (.inr (.inr (.inr bq))))), (y0, .inr (3, [.ref x0, .int kd, .int wh, .int (nI cap), .int ru, .int (nI tb), .ref b0])), (x0, .inr (5, [.ref k0, .ref w0, .int (nI nz), .int ch])), (k0, .inl (ck, L, .inl f)), (w0, .inl (cw, L, .inl g)), (b0, .inl (cb, tb, .inl bf))]) [0, 1, 2, 3, 4, 5, 6] rfl
                  refine vx_tightO (XC0 := vx_X (fun _ : Unit => True) (fun (E : String) (_ : Unit) (t : State) => (E = "java/lang/IllegalArgumentException" ∨ E = "java/lang/IllegalStateException" ∨ E = "java/util/NoSuchElementException" ∨ E = "java/lang/UnsupportedOperationException") ∧ va_P (dC, dI) vwCl [(a0, .inr (7, [.ref qb])), (qb, .inl (cq, 16, .inr (.inr (.inr (.inr bq))))), (y0, .inr (3, [.ref x0, .int kd, .int wh, .int (nI cap), .int ru, .int (nI tb), .ref b0])), (x0, .inr (5, [.ref k0, .ref w0, .int (nI nz), .int ch])), (k0, .inl (ck, L, .inl f)), (w0, .inl (cw, L, .inl g)), (b0, .inl (cb, tb, .inl bf))] t.heap ∧ va_K (dC, dI) vwCl [(cq, .object "KeyAtlas$Body"), (ck, .int), (cw, .int), (cb, .boolean)] t ∧ va_D A [(a0, .inr (7, [.ref qb])), (qb, .inl (cq, 16, .inr (.inr (.inr (.inr bq))))), (y0, .inr (3, [.ref x0, .int kd, .int wh, .int (nI cap), .int ru, .int (nI tb), .ref b0])), (x0, .inr (5, [.ref k0, .ref w0, .int (nI nz), .int ch])), (k0, .inl (ck, L, .inl f)), (w0, .inl (cw, L, .inl g)), (b0, .inl (cb, tb, .inl bf))]) A) 1 6 (by omega) (by omega) (fun E t9 h9 hz9 hn9 => by obtain ⟨u9, g1, g2, g3⟩ := h9; exact ⟨u9, g1, ⟨g2, hz9, hn9⟩, g3⟩) ?_
                  exact vx_out (fun x hx9 => (htab x hx9).elim) hlocks hce hcv hcl (fun t9 ht9 hal9 => ⟨(), trivial, ⟨Or.inr (Or.inr (Or.inl hE8)), by rw [ht9]; exact hP6, va_K.moved hal9 hK, hD⟩, hS.F ht9⟩) hS.2.2 (by omega) (by omega)
                ·
                  try dsimp only at hw
                  have jr_37 := hw
                  obtain ⟨hP1, hK1, hD1⟩ := hB
                  rw [ht] at hP1
                  have hK1 := va_K.moved hvm.symm hK1
                  obtain ⟨hP, hD⟩ := va_join (wr := [(a0, .inr (7, [.ref qb])), (qb, .inl (cq, 16, .inr (.inr (.inr (.inr bq)))))]) (w1 := [(y0, .inr (3, [.ref x0, .int kd, .int wh, .int (nI cap), .int ru, .int (nI tb), .ref b0])), (x0, .inr (5, [.ref k0, .ref w0, .int (nI (ur_37.2.2.1)), .int ur_37.2.2.2.1])), (k0, .inl (ck, L, .inl ur_37.1)), (w0, .inl (cw, L, .inl ur_37.2.1)), (b0, .inl (cb, tb, .inl ur_37.2.2.2.2))]) hP hD [2, 3, 4, 5, 6] [0, 1] rfl rfl (by decide) (by decide) hk1 hFc hP1 hD1
                  clear hk1 hz1 ht hPc hDc hKc hFc
                  generalize H1 = H at hP hS ⊢
                  replace hP : va_P (dC, dI) vwCl [(a0, .inr (7, [.ref qb])), (qb, .inl (cq, 16, .inr (.inr (.inr (.inr bq))))), (y0, .inr (3, [.ref x0, .int kd, .int wh, .int (nI cap), .int ru, .int (nI tb), .ref b0])), (x0, .inr (5, [.ref k0, .ref w0, .int (nI (ur_37.2.2.1)), .int ur_37.2.2.2.1])), (k0, .inl (ck, L, .inl ur_37.1)), (w0, .inl (cw, L, .inl ur_37.2.1)), (b0, .inl (cb, tb, .inl ur_37.2.2.2.2))] H := hP
                  replace hD : va_D A [(a0, .inr (7, [.ref qb])), (qb, .inl (cq, 16, .inr (.inr (.inr (.inr bq))))), (y0, .inr (3, [.ref x0, .int kd, .int wh, .int (nI cap), .int ru, .int (nI tb), .ref b0])), (x0, .inr (5, [.ref k0, .ref w0, .int (nI (ur_37.2.2.1)), .int ur_37.2.2.2.1])), (k0, .inl (ck, L, .inl ur_37.1)), (w0, .inl (cw, L, .inl ur_37.2.1)), (b0, .inl (cb, tb, .inl ur_37.2.2.2.2))] := hD
                  refine W.widen (k := 1) (n := 6) (Nat.le_of_ble_eq_true rfl) (Nat.le_of_ble_eq_true rfl) ?_
                  refine W.eq (g2 := F0 m 324 ls [.long r_37]) rfl ?_
                  refine W.book (fun hz9_ hn9_ => ?_)
                  have hpost : hOK (tb) (L) (ur_37.2.2.1) cap := hOK_le hH9_ jr_37
                  have hcost : hT H + hPS tb L ≤ (hT s.heap + 6) + hPS (tb) (L) ∧ H.size + hPC tb L ≤ (s.heap.size + 1) + hPC (tb) (L) := by constructor <;> omega
                  have hP9 := hP.sub (ws' := [(a0, .inr (7, [.ref qb])), (qb, .inl (cq, 16, .inr (.inr (.inr (.inr bq))))), (y0, .inr (3, [.ref x0, .int kd, .int wh, .int (nI cap), .int ru, .int (nI tb), .ref b0])), (x0, .inr (5, [.ref k0, .ref w0, .int (nI (ur_37.2.2.1)), .int ur_37.2.2.2.1])), (k0, .inl (ck, L, .inl ur_37.1)), (w0, .inl (cw, L, .inl ur_37.2.1)), (b0, .inl (cb, tb, .inl ur_37.2.2.2.2))]) [0, 1, 2, 3, 4, 5, 6] rfl
                  have hD9 := hD.sub (ws' := [(a0, .inr (7, [.ref qb])), (qb, .inl (cq, 16, .inr (.inr (.inr (.inr bq))))), (y0, .inr (3, [.ref x0, .int kd, .int wh, .int (nI cap), .int ru, .int (nI tb), .ref b0])), (x0, .inr (5, [.ref k0, .ref w0, .int (nI (ur_37.2.2.1)), .int ur_37.2.2.2.1])), (k0, .inl (ck, L, .inl ur_37.1)), (w0, .inl (cw, L, .inl ur_37.2.1)), (b0, .inl (cb, tb, .inl ur_37.2.2.2.2))]) [0, 1, 2, 3, 4, 5, 6] (by decide) rfl
                  have hK9 := hK.sub (tys' := [(cq, .object "KeyAtlas$Body"), (ck, .int), (cw, .int), (cb, .boolean)]) [0, 1, 2, 3] rfl
                  refine W.widen (k := 20) (n := 27000) (Nat.le_of_ble_eq_true rfl) (Nat.le_of_ble_eq_true rfl) ?_
                  refine vx_ret ?_
                  exact W.lret (v := r_37) hx hb hr (fun t ht hW => ⟨⟨r_37, (tb, b0, cb, ur_37.2.2.2.2, k0, w0, ck, cw, L, ur_37.1, ur_37.2.1, ur_37.2.2.1, ur_37.2.2.2.1), rfl, hpost, by rw [ht]; exact hP9, va_K.moved hW.alike hK9, hD9, by rw [ht]; exact hcost⟩, hS.F ht⟩) hS.2.2 dX7_map_324
              have ic_36 : ¬ p1.toInt = 12 := tx_ne rfl (by decide) c_36
              by_cases c_38 : p1 = 13
              ·
                have ic_38 : p1.toInt = 13 := tx_eq rfl (by decide) c_38
                refine lv_tableIn (off := 224) (tgt := 325) hx hb dX7_map_101 (by rw [c_38]; decide) (by rw [c_38]; decide) (by rw [c_38]; rfl) (by decide) ?_
                refine lv_aload hx hb dX7_map_325 (lv_at hl 1 rfl) ?_
                refine lv_iconst (v := 1) hx hb dX7_map_327 (by decide) ?_
                refine lv_iconst (v := 1) hx hb dX7_map_328 (by decide) ?_
                have hPc := hP.sub (ws' := [(y0, .inr (3, [.ref x0, .int kd, .int wh, .int (nI cap), .int ru, .int (nI tb), .ref b0])), (x0, .inr (5, [.ref k0, .ref w0, .int (nI nz), .int ch])), (k0, .inl (ck, L, .inl f)), (w0, .inl (cw, L, .inl g)), (b0, .inl (cb, tb, .inl bf))]) [2, 3, 4, 5, 6] rfl
                have hDc := hD.sub (ws' := [(y0, .inr (3, [.ref x0, .int kd, .int wh, .int (nI cap), .int ru, .int (nI tb), .ref b0])), (x0, .inr (5, [.ref k0, .ref w0, .int (nI nz), .int ch])), (k0, .inl (ck, L, .inl f)), (w0, .inl (cw, L, .inl g)), (b0, .inl (cb, tb, .inl bf))]) [2, 3, 4, 5, 6] (by decide) rfl
                have hKc := hK.sub (tys' := [(ck, .int), (cw, .int), (cb, .boolean)]) [1, 2, 3] rfl
                have hFc := va_free (wc := [(y0, .inr (3, [.ref x0, .int kd, .int wh, .int (nI cap), .int ru, .int (nI tb), .ref b0])), (x0, .inr (5, [.ref k0, .ref w0, .int (nI nz), .int ch])), (k0, .inl (ck, L, .inl f)), (w0, .inl (cw, L, .inl g)), (b0, .inl (cb, tb, .inl bf))]) hD hS hA [2, 3, 4, 5, 6] rfl
                have hZc := (hZ.kept hS.2.1).narrow hFc
                refine vx_calll (vx_runU (As := [.int 1, .int 1]) (rest := []) ⟨hx, hb, hml, hown, hts⟩ (c_X3_endKey_H l hlt dC dI s.heap.size y0 kd wh cap ru tb b0 cb bf x0 k0 w0 ck cw L f g nz ch 1 1 hH9) (va_cwU 2 hts gX7_map_X3_endKey_u104X2 rfl rfl rfl rfl (by decide +kernel) ⟨(Nat.le_of_ble_eq_true rfl), (Nat.le_of_ble_eq_true rfl)⟩) ⟨pk_blindX, va_recv hKc hPc (ci := 3) (q0 := 0) rfl rfl, pk_callX hPc hKc hDc hN hZc⟩ rfl rfl hl.1 rfl (lv_room (Nat.le_of_ble_eq_true rfl)) dX7_map_329 ⟨(Nat.le_of_ble_eq_true rfl), (Nat.le_of_ble_eq_true rfl)⟩) hS (fun q _ h => hFc q h) hFc (fun q _ h => hFc q h) (fun E ce q9 u9 t H1 locs ht hvm hw hB hz1 hk1 hS hce hcv hcl => ?_) (fun r_39 ur_39 t H1 locs ht hvm hw hB hz1 hk1 hS => ?_)
                ·
                  try dsimp only at hB
                  have hB8 := hB
                  obtain ⟨hE8, hP8, hK8, hD8⟩ := hB8
                  rw [ht] at hP8
                  obtain ⟨hP7, -⟩ := va_join (wr := [(a0, .inr (7, [.ref qb])), (qb, .inl (cq, 16, .inr (.inr (.inr (.inr bq)))))]) (w1 := [(y0, .inr (3, [.ref x0, .int kd, .int wh, .int (nI cap), .int ru, .int (nI tb), .ref b0])), (x0, .inr (5, [.ref k0, .ref w0, .int (nI nz), .int ch])), (k0, .inl (ck, L, .inl f)), (w0, .inl (cw, L, .inl g)), (b0, .inl (cb, tb, .inl bf))]) hP hD [2, 3, 4, 5, 6] [0, 1] rfl rfl (by decide) (by decide) hk1 hFc hP8 hD8
                  have hP6 := hP7.sub (ws' := [(a0, .inr (7, [.ref qb])), (qb, .inl (cq, 16, .inr (.inr (.inr (.inr bq))))), (y0, .inr (3, [.ref x0, .int kd, .int wh, .int (nI cap), .int ru, .int (nI tb), .ref b0])), (x0, .inr (5, [.ref k0, .ref w0, .int (nI nz), .int ch])), (k0, .inl (ck, L, .inl f)), (w0, .inl (cw, L, .inl g)), (b0, .inl (cb, tb, .inl bf))]) [0, 1, 2, 3, 4, 5, 6] rfl
                  refine vx_tightO (XC0 := vx_X (fun _ : Unit => True) (fun (E : String) (_ : Unit) (t : State) => (E = "java/lang/IllegalArgumentException" ∨ E = "java/lang/IllegalStateException" ∨ E = "java/util/NoSuchElementException" ∨ E = "java/lang/UnsupportedOperationException") ∧ va_P (dC, dI) vwCl [(a0, .inr (7, [.ref qb])), (qb, .inl (cq, 16, .inr (.inr (.inr (.inr bq))))), (y0, .inr (3, [.ref x0, .int kd, .int wh, .int (nI cap), .int ru, .int (nI tb), .ref b0])), (x0, .inr (5, [.ref k0, .ref w0, .int (nI nz), .int ch])), (k0, .inl (ck, L, .inl f)), (w0, .inl (cw, L, .inl g)), (b0, .inl (cb, tb, .inl bf))] t.heap ∧ va_K (dC, dI) vwCl [(cq, .object "KeyAtlas$Body"), (ck, .int), (cw, .int), (cb, .boolean)] t ∧ va_D A [(a0, .inr (7, [.ref qb])), (qb, .inl (cq, 16, .inr (.inr (.inr (.inr bq))))), (y0, .inr (3, [.ref x0, .int kd, .int wh, .int (nI cap), .int ru, .int (nI tb), .ref b0])), (x0, .inr (5, [.ref k0, .ref w0, .int (nI nz), .int ch])), (k0, .inl (ck, L, .inl f)), (w0, .inl (cw, L, .inl g)), (b0, .inl (cb, tb, .inl bf))]) A) 1 6 (by omega) (by omega) (fun E t9 h9 hz9 hn9 => by obtain ⟨u9, g1, g2, g3⟩ := h9; exact ⟨u9, g1, ⟨g2, hz9, hn9⟩, g3⟩) ?_
                  exact vx_out (fun x hx9 => (htab x hx9).elim) hlocks hce hcv hcl (fun t9 ht9 hal9 => ⟨(), trivial, ⟨Or.inr (Or.inr (Or.inl hE8)), by rw [ht9]; exact hP6, va_K.moved hal9 hK, hD⟩, hS.F ht9⟩) hS.2.2 (by omega) (by omega)
                ·
                  try dsimp only at hw
                  have jr_39 := hw
                  obtain ⟨hP1, hK1, hD1⟩ := hB
                  rw [ht] at hP1
                  have hK1 := va_K.moved hvm.symm hK1
                  obtain ⟨hP, hD⟩ := va_join (wr := [(a0, .inr (7, [.ref qb])), (qb, .inl (cq, 16, .inr (.inr (.inr (.inr bq)))))]) (w1 := [(y0, .inr (3, [.ref x0, .int kd, .int wh, .int (nI cap), .int ru, .int (nI tb), .ref b0])), (x0, .inr (5, [.ref k0, .ref w0, .int (nI (ur_39.2.2.1)), .int ur_39.2.2.2.1])), (k0, .inl (ck, L, .inl ur_39.1)), (w0, .inl (cw, L, .inl ur_39.2.1)), (b0, .inl (cb, tb, .inl ur_39.2.2.2.2))]) hP hD [2, 3, 4, 5, 6] [0, 1] rfl rfl (by decide) (by decide) hk1 hFc hP1 hD1
                  clear hk1 hz1 ht hPc hDc hKc hFc
                  generalize H1 = H at hP hS ⊢
                  replace hP : va_P (dC, dI) vwCl [(a0, .inr (7, [.ref qb])), (qb, .inl (cq, 16, .inr (.inr (.inr (.inr bq))))), (y0, .inr (3, [.ref x0, .int kd, .int wh, .int (nI cap), .int ru, .int (nI tb), .ref b0])), (x0, .inr (5, [.ref k0, .ref w0, .int (nI (ur_39.2.2.1)), .int ur_39.2.2.2.1])), (k0, .inl (ck, L, .inl ur_39.1)), (w0, .inl (cw, L, .inl ur_39.2.1)), (b0, .inl (cb, tb, .inl ur_39.2.2.2.2))] H := hP
                  replace hD : va_D A [(a0, .inr (7, [.ref qb])), (qb, .inl (cq, 16, .inr (.inr (.inr (.inr bq))))), (y0, .inr (3, [.ref x0, .int kd, .int wh, .int (nI cap), .int ru, .int (nI tb), .ref b0])), (x0, .inr (5, [.ref k0, .ref w0, .int (nI (ur_39.2.2.1)), .int ur_39.2.2.2.1])), (k0, .inl (ck, L, .inl ur_39.1)), (w0, .inl (cw, L, .inl ur_39.2.1)), (b0, .inl (cb, tb, .inl ur_39.2.2.2.2))] := hD
                  refine W.widen (k := 1) (n := 6) (Nat.le_of_ble_eq_true rfl) (Nat.le_of_ble_eq_true rfl) ?_
                  refine W.eq (g2 := F0 m 332 ls [.long r_39]) rfl ?_
                  refine W.book (fun hz9_ hn9_ => ?_)
                  have hpost : hOK (tb) (L) (ur_39.2.2.1) cap := hOK_le hH9_ jr_39
                  have hcost : hT H + hPS tb L ≤ (hT s.heap + 6) + hPS (tb) (L) ∧ H.size + hPC tb L ≤ (s.heap.size + 1) + hPC (tb) (L) := by constructor <;> omega
                  have hP9 := hP.sub (ws' := [(a0, .inr (7, [.ref qb])), (qb, .inl (cq, 16, .inr (.inr (.inr (.inr bq))))), (y0, .inr (3, [.ref x0, .int kd, .int wh, .int (nI cap), .int ru, .int (nI tb), .ref b0])), (x0, .inr (5, [.ref k0, .ref w0, .int (nI (ur_39.2.2.1)), .int ur_39.2.2.2.1])), (k0, .inl (ck, L, .inl ur_39.1)), (w0, .inl (cw, L, .inl ur_39.2.1)), (b0, .inl (cb, tb, .inl ur_39.2.2.2.2))]) [0, 1, 2, 3, 4, 5, 6] rfl
                  have hD9 := hD.sub (ws' := [(a0, .inr (7, [.ref qb])), (qb, .inl (cq, 16, .inr (.inr (.inr (.inr bq))))), (y0, .inr (3, [.ref x0, .int kd, .int wh, .int (nI cap), .int ru, .int (nI tb), .ref b0])), (x0, .inr (5, [.ref k0, .ref w0, .int (nI (ur_39.2.2.1)), .int ur_39.2.2.2.1])), (k0, .inl (ck, L, .inl ur_39.1)), (w0, .inl (cw, L, .inl ur_39.2.1)), (b0, .inl (cb, tb, .inl ur_39.2.2.2.2))]) [0, 1, 2, 3, 4, 5, 6] (by decide) rfl
                  have hK9 := hK.sub (tys' := [(cq, .object "KeyAtlas$Body"), (ck, .int), (cw, .int), (cb, .boolean)]) [0, 1, 2, 3] rfl
                  refine W.widen (k := 20) (n := 27000) (Nat.le_of_ble_eq_true rfl) (Nat.le_of_ble_eq_true rfl) ?_
                  refine vx_ret ?_
                  exact W.lret (v := r_39) hx hb hr (fun t ht hW => ⟨⟨r_39, (tb, b0, cb, ur_39.2.2.2.2, k0, w0, ck, cw, L, ur_39.1, ur_39.2.1, ur_39.2.2.1, ur_39.2.2.2.1), rfl, hpost, by rw [ht]; exact hP9, va_K.moved hW.alike hK9, hD9, by rw [ht]; exact hcost⟩, hS.F ht⟩) hS.2.2 dX7_map_332
              have ic_38 : ¬ p1.toInt = 13 := tx_ne rfl (by decide) c_38
              by_cases c_40 : p1 = 14
              ·
                have ic_40 : p1.toInt = 14 := tx_eq rfl (by decide) c_40
                refine lv_tableIn (off := 232) (tgt := 333) hx hb dX7_map_101 (by rw [c_40]; decide) (by rw [c_40]; decide) (by rw [c_40]; rfl) (by decide) ?_
                refine lv_aload hx hb dX7_map_333 (lv_at hl 1 rfl) ?_
                refine lv_aload hx hb dX7_map_335 (lv_at hl 1 rfl) ?_
                refine lv_iload_n hx hb dX7_map_337 rfl (lv_at hl 8 rfl) ?_
                have hPc := hP.sub (ws' := [(y0, .inr (3, [.ref x0, .int kd, .int wh, .int (nI cap), .int ru, .int (nI tb), .ref b0]))]) [2] rfl
                have hKc := hK.sub (tys' := []) [] rfl
                refine ro_calli (va_runU (As := [.int p2]) (rest := [.ref y0]) ⟨hx, hb, hml, hown, hts⟩ (c_X3_howManyBefore_H l  dC dI s.heap.size y0 (.ref x0) (.int kd) (.int wh) (.int (nI cap)) (.int ru) (.int (nI tb)) (.ref b0) p2) (va_cwU 1 hts gX7_map_X3_howManyBefore_u108X2 rfl rfl rfl rfl (by decide +kernel) ⟨(Nat.le_of_ble_eq_true rfl), (Nat.le_of_ble_eq_true rfl)⟩) ⟨pk_blindR, va_recv hKc hPc (ci := 3) (q0 := 0) rfl rfl, pk_callR hPc hKc⟩ rfl rfl hl.1 rfl (lv_room (Nat.le_of_ble_eq_true rfl)) dX7_map_338 ⟨(Nat.le_of_ble_eq_true rfl), (Nat.le_of_ble_eq_true rfl)⟩) (fun r_41 ur_41 hw => ?_)
                clear hPc hKc
                try dsimp only at hw
                have jr_41 := hw
                refine W.eq (g2 := F0 m 341 ls [.int r_41, .ref y0]) rfl ?_
                refine lv_iconst (v := 1) hx hb dX7_map_341 (by decide) ?_
                refine lv_isub hx hb dX7_map_342 ?_
                refine lv_topi (fun z_ ez_ => ?_)
                obtain rfl : z_ = r_41 - 1 := ez_.trans (rfl)
                have hPc := hP.sub (ws' := [(y0, .inr (3, [.ref x0, .int kd, .int wh, .int (nI cap), .int ru, .int (nI tb), .ref b0])), (x0, .inr (5, [.ref k0, .ref w0, .int (nI nz), .int ch])), (k0, .inl (ck, L, .inl f)), (w0, .inl (cw, L, .inl g)), (b0, .inl (cb, tb, .inl bf))]) [2, 3, 4, 5, 6] rfl
                have hKc := hK.sub (tys' := [(ck, .int), (cw, .int), (cb, .boolean)]) [1, 2, 3] rfl
                refine ro_calll (va_runU (As := [.int (r_41 - 1)]) (rest := []) ⟨hx, hb, hml, hown, hts⟩ (c_X3_keyOrNone_H l hlt dC dI s.heap.size y0 kd wh cap ru tb b0 cb bf x0 k0 w0 ck cw L f g nz ch (r_41 - 1) hH9) (va_cwU 1 hts gX7_map_X3_keyOrNone_u111X2 rfl rfl rfl rfl (by decide +kernel) ⟨(Nat.le_of_ble_eq_true rfl), (Nat.le_of_ble_eq_true rfl)⟩) ⟨pk_blindRX, va_recv hKc hPc (ci := 3) (q0 := 0) rfl rfl, pk_callRX hPc hKc hN⟩ rfl rfl hl.1 rfl (lv_room (Nat.le_of_ble_eq_true rfl)) dX7_map_343 ⟨(Nat.le_of_ble_eq_true rfl), (Nat.le_of_ble_eq_true rfl)⟩) (fun r_42 ur_42 hw => ?_)
                clear hPc hKc
                try dsimp only at hw
                have jr_42 := hw
                refine W.eq (g2 := F0 m 346 ls [.long r_42]) rfl ?_
                refine W.book (fun hz9_ hn9_ => ?_)
                have hpost : hOK (tb) (L) (nz) cap := hH9_
                have hcost : hT s.heap + hPS tb L ≤ (hT s.heap + 6) + hPS (tb) (L) ∧ s.heap.size + hPC tb L ≤ (s.heap.size + 1) + hPC (tb) (L) := by constructor <;> omega
                have hP9 := hP.sub (ws' := [(a0, .inr (7, [.ref qb])), (qb, .inl (cq, 16, .inr (.inr (.inr (.inr bq))))), (y0, .inr (3, [.ref x0, .int kd, .int wh, .int (nI cap), .int ru, .int (nI tb), .ref b0])), (x0, .inr (5, [.ref k0, .ref w0, .int (nI nz), .int ch])), (k0, .inl (ck, L, .inl f)), (w0, .inl (cw, L, .inl g)), (b0, .inl (cb, tb, .inl bf))]) [0, 1, 2, 3, 4, 5, 6] rfl
                have hD9 := hD.sub (ws' := [(a0, .inr (7, [.ref qb])), (qb, .inl (cq, 16, .inr (.inr (.inr (.inr bq))))), (y0, .inr (3, [.ref x0, .int kd, .int wh, .int (nI cap), .int ru, .int (nI tb), .ref b0])), (x0, .inr (5, [.ref k0, .ref w0, .int (nI nz), .int ch])), (k0, .inl (ck, L, .inl f)), (w0, .inl (cw, L, .inl g)), (b0, .inl (cb, tb, .inl bf))]) [0, 1, 2, 3, 4, 5, 6] (by decide) rfl
                have hK9 := hK.sub (tys' := [(cq, .object "KeyAtlas$Body"), (ck, .int), (cw, .int), (cb, .boolean)]) [0, 1, 2, 3] rfl
                refine W.widen (k := 20) (n := 27000) (Nat.le_of_ble_eq_true rfl) (Nat.le_of_ble_eq_true rfl) ?_
                refine vx_ret ?_
                exact W.lret (v := r_42) hx hb hr (fun t ht hW => ⟨⟨r_42, (tb, b0, cb, bf, k0, w0, ck, cw, L, f, g, nz, ch), rfl, hpost, by rw [ht]; exact hP9, va_K.moved hW.alike hK9, hD9, by rw [ht]; exact hcost⟩, hS.F ht⟩) hS.2.2 dX7_map_346
              have ic_40 : ¬ p1.toInt = 14 := tx_ne rfl (by decide) c_40
              by_cases c_43 : p1 = 15
              ·
                have ic_43 : p1.toInt = 15 := tx_eq rfl (by decide) c_43
                refine lv_tableIn (off := 246) (tgt := 347) hx hb dX7_map_101 (by rw [c_43]; decide) (by rw [c_43]; decide) (by rw [c_43]; rfl) (by decide) ?_
                refine lv_aload hx hb dX7_map_347 (lv_at hl 1 rfl) ?_
                refine lv_aload hx hb dX7_map_349 (lv_at hl 1 rfl) ?_
                refine lv_iload_n hx hb dX7_map_351 rfl (lv_at hl 8 rfl) ?_
                have hPc := hP.sub (ws' := [(y0, .inr (3, [.ref x0, .int kd, .int wh, .int (nI cap), .int ru, .int (nI tb), .ref b0]))]) [2] rfl
                have hKc := hK.sub (tys' := []) [] rfl
                refine ro_calli (va_runU (As := [.int p2]) (rest := [.ref y0]) ⟨hx, hb, hml, hown, hts⟩ (c_X3_howManyUpTo_H l  dC dI s.heap.size y0 (.ref x0) (.int kd) (.int wh) (.int (nI cap)) (.int ru) (.int (nI tb)) (.ref b0) p2) (va_cwU 1 hts gX7_map_X3_howManyUpTo_u114X2 rfl rfl rfl rfl (by decide +kernel) ⟨(Nat.le_of_ble_eq_true rfl), (Nat.le_of_ble_eq_true rfl)⟩) ⟨pk_blindR, va_recv hKc hPc (ci := 3) (q0 := 0) rfl rfl, pk_callR hPc hKc⟩ rfl rfl hl.1 rfl (lv_room (Nat.le_of_ble_eq_true rfl)) dX7_map_352 ⟨(Nat.le_of_ble_eq_true rfl), (Nat.le_of_ble_eq_true rfl)⟩) (fun r_44 ur_44 hw => ?_)
                clear hPc hKc
                try dsimp only at hw
                have jr_44 := hw
                refine W.eq (g2 := F0 m 355 ls [.int r_44, .ref y0]) rfl ?_
                refine lv_iconst (v := 1) hx hb dX7_map_355 (by decide) ?_
                refine lv_isub hx hb dX7_map_356 ?_
                refine lv_topi (fun z_ ez_ => ?_)
                obtain rfl : z_ = r_44 - 1 := ez_.trans (rfl)
                have hPc := hP.sub (ws' := [(y0, .inr (3, [.ref x0, .int kd, .int wh, .int (nI cap), .int ru, .int (nI tb), .ref b0])), (x0, .inr (5, [.ref k0, .ref w0, .int (nI nz), .int ch])), (k0, .inl (ck, L, .inl f)), (w0, .inl (cw, L, .inl g)), (b0, .inl (cb, tb, .inl bf))]) [2, 3, 4, 5, 6] rfl
                have hKc := hK.sub (tys' := [(ck, .int), (cw, .int), (cb, .boolean)]) [1, 2, 3] rfl
                refine ro_calll (va_runU (As := [.int (r_44 - 1)]) (rest := []) ⟨hx, hb, hml, hown, hts⟩ (c_X3_keyOrNone_H l hlt dC dI s.heap.size y0 kd wh cap ru tb b0 cb bf x0 k0 w0 ck cw L f g nz ch (r_44 - 1) hH9) (va_cwU 1 hts gX7_map_X3_keyOrNone_u111X2 rfl rfl rfl rfl (by decide +kernel) ⟨(Nat.le_of_ble_eq_true rfl), (Nat.le_of_ble_eq_true rfl)⟩) ⟨pk_blindRX, va_recv hKc hPc (ci := 3) (q0 := 0) rfl rfl, pk_callRX hPc hKc hN⟩ rfl rfl hl.1 rfl (lv_room (Nat.le_of_ble_eq_true rfl)) dX7_map_357 ⟨(Nat.le_of_ble_eq_true rfl), (Nat.le_of_ble_eq_true rfl)⟩) (fun r_45 ur_45 hw => ?_)
                clear hPc hKc
                try dsimp only at hw
                have jr_45 := hw
                refine W.eq (g2 := F0 m 360 ls [.long r_45]) rfl ?_
                refine W.book (fun hz9_ hn9_ => ?_)
                have hpost : hOK (tb) (L) (nz) cap := hH9_
                have hcost : hT s.heap + hPS tb L ≤ (hT s.heap + 6) + hPS (tb) (L) ∧ s.heap.size + hPC tb L ≤ (s.heap.size + 1) + hPC (tb) (L) := by constructor <;> omega
                have hP9 := hP.sub (ws' := [(a0, .inr (7, [.ref qb])), (qb, .inl (cq, 16, .inr (.inr (.inr (.inr bq))))), (y0, .inr (3, [.ref x0, .int kd, .int wh, .int (nI cap), .int ru, .int (nI tb), .ref b0])), (x0, .inr (5, [.ref k0, .ref w0, .int (nI nz), .int ch])), (k0, .inl (ck, L, .inl f)), (w0, .inl (cw, L, .inl g)), (b0, .inl (cb, tb, .inl bf))]) [0, 1, 2, 3, 4, 5, 6] rfl
                have hD9 := hD.sub (ws' := [(a0, .inr (7, [.ref qb])), (qb, .inl (cq, 16, .inr (.inr (.inr (.inr bq))))), (y0, .inr (3, [.ref x0, .int kd, .int wh, .int (nI cap), .int ru, .int (nI tb), .ref b0])), (x0, .inr (5, [.ref k0, .ref w0, .int (nI nz), .int ch])), (k0, .inl (ck, L, .inl f)), (w0, .inl (cw, L, .inl g)), (b0, .inl (cb, tb, .inl bf))]) [0, 1, 2, 3, 4, 5, 6] (by decide) rfl
                have hK9 := hK.sub (tys' := [(cq, .object "KeyAtlas$Body"), (ck, .int), (cw, .int), (cb, .boolean)]) [0, 1, 2, 3] rfl
                refine W.widen (k := 20) (n := 27000) (Nat.le_of_ble_eq_true rfl) (Nat.le_of_ble_eq_true rfl) ?_
                refine vx_ret ?_
                exact W.lret (v := r_45) hx hb hr (fun t ht hW => ⟨⟨r_45, (tb, b0, cb, bf, k0, w0, ck, cw, L, f, g, nz, ch), rfl, hpost, by rw [ht]; exact hP9, va_K.moved hW.alike hK9, hD9, by rw [ht]; exact hcost⟩, hS.F ht⟩) hS.2.2 dX7_map_360
              have ic_43 : ¬ p1.toInt = 15 := tx_ne rfl (by decide) c_43
              by_cases c_46 : p1 = 16
              ·
                have ic_46 : p1.toInt = 16 := tx_eq rfl (by decide) c_46
                refine lv_tableIn (off := 260) (tgt := 361) hx hb dX7_map_101 (by rw [c_46]; decide) (by rw [c_46]; decide) (by rw [c_46]; rfl) (by decide) ?_
                refine lv_aload hx hb dX7_map_361 (lv_at hl 1 rfl) ?_
                refine lv_aload hx hb dX7_map_363 (lv_at hl 1 rfl) ?_
                refine lv_iload_n hx hb dX7_map_365 rfl (lv_at hl 8 rfl) ?_
                have hPc := hP.sub (ws' := [(y0, .inr (3, [.ref x0, .int kd, .int wh, .int (nI cap), .int ru, .int (nI tb), .ref b0]))]) [2] rfl
                have hKc := hK.sub (tys' := []) [] rfl
                refine ro_calli (va_runU (As := [.int p2]) (rest := [.ref y0]) ⟨hx, hb, hml, hown, hts⟩ (c_X3_howManyBefore_H l  dC dI s.heap.size y0 (.ref x0) (.int kd) (.int wh) (.int (nI cap)) (.int ru) (.int (nI tb)) (.ref b0) p2) (va_cwU 1 hts gX7_map_X3_howManyBefore_u108X2 rfl rfl rfl rfl (by decide +kernel) ⟨(Nat.le_of_ble_eq_true rfl), (Nat.le_of_ble_eq_true rfl)⟩) ⟨pk_blindR, va_recv hKc hPc (ci := 3) (q0 := 0) rfl rfl, pk_callR hPc hKc⟩ rfl rfl hl.1 rfl (lv_room (Nat.le_of_ble_eq_true rfl)) dX7_map_366 ⟨(Nat.le_of_ble_eq_true rfl), (Nat.le_of_ble_eq_true rfl)⟩) (fun r_47 ur_47 hw => ?_)
                clear hPc hKc
                try dsimp only at hw
                have jr_47 := hw
                refine W.eq (g2 := F0 m 369 ls [.int r_47, .ref y0]) rfl ?_
                have hPc := hP.sub (ws' := [(y0, .inr (3, [.ref x0, .int kd, .int wh, .int (nI cap), .int ru, .int (nI tb), .ref b0])), (x0, .inr (5, [.ref k0, .ref w0, .int (nI nz), .int ch])), (k0, .inl (ck, L, .inl f)), (w0, .inl (cw, L, .inl g)), (b0, .inl (cb, tb, .inl bf))]) [2, 3, 4, 5, 6] rfl
                have hKc := hK.sub (tys' := [(ck, .int), (cw, .int), (cb, .boolean)]) [1, 2, 3] rfl
                refine ro_calll (va_runU (As := [.int r_47]) (rest := []) ⟨hx, hb, hml, hown, hts⟩ (c_X3_keyOrNone_H l hlt dC dI s.heap.size y0 kd wh cap ru tb b0 cb bf x0 k0 w0 ck cw L f g nz ch r_47 hH9) (va_cwU 1 hts gX7_map_X3_keyOrNone_u111X2 rfl rfl rfl rfl (by decide +kernel) ⟨(Nat.le_of_ble_eq_true rfl), (Nat.le_of_ble_eq_true rfl)⟩) ⟨pk_blindRX, va_recv hKc hPc (ci := 3) (q0 := 0) rfl rfl, pk_callRX hPc hKc hN⟩ rfl rfl hl.1 rfl (lv_room (Nat.le_of_ble_eq_true rfl)) dX7_map_369 ⟨(Nat.le_of_ble_eq_true rfl), (Nat.le_of_ble_eq_true rfl)⟩) (fun r_48 ur_48 hw => ?_)
                clear hPc hKc
                try dsimp only at hw
                have jr_48 := hw
                refine W.eq (g2 := F0 m 372 ls [.long r_48]) rfl ?_
                refine W.book (fun hz9_ hn9_ => ?_)
                have hpost : hOK (tb) (L) (nz) cap := hH9_
                have hcost : hT s.heap + hPS tb L ≤ (hT s.heap + 6) + hPS (tb) (L) ∧ s.heap.size + hPC tb L ≤ (s.heap.size + 1) + hPC (tb) (L) := by constructor <;> omega
                have hP9 := hP.sub (ws' := [(a0, .inr (7, [.ref qb])), (qb, .inl (cq, 16, .inr (.inr (.inr (.inr bq))))), (y0, .inr (3, [.ref x0, .int kd, .int wh, .int (nI cap), .int ru, .int (nI tb), .ref b0])), (x0, .inr (5, [.ref k0, .ref w0, .int (nI nz), .int ch])), (k0, .inl (ck, L, .inl f)), (w0, .inl (cw, L, .inl g)), (b0, .inl (cb, tb, .inl bf))]) [0, 1, 2, 3, 4, 5, 6] rfl
                have hD9 := hD.sub (ws' := [(a0, .inr (7, [.ref qb])), (qb, .inl (cq, 16, .inr (.inr (.inr (.inr bq))))), (y0, .inr (3, [.ref x0, .int kd, .int wh, .int (nI cap), .int ru, .int (nI tb), .ref b0])), (x0, .inr (5, [.ref k0, .ref w0, .int (nI nz), .int ch])), (k0, .inl (ck, L, .inl f)), (w0, .inl (cw, L, .inl g)), (b0, .inl (cb, tb, .inl bf))]) [0, 1, 2, 3, 4, 5, 6] (by decide) rfl
                have hK9 := hK.sub (tys' := [(cq, .object "KeyAtlas$Body"), (ck, .int), (cw, .int), (cb, .boolean)]) [0, 1, 2, 3] rfl
                refine W.widen (k := 20) (n := 27000) (Nat.le_of_ble_eq_true rfl) (Nat.le_of_ble_eq_true rfl) ?_
                refine vx_ret ?_
                exact W.lret (v := r_48) hx hb hr (fun t ht hW => ⟨⟨r_48, (tb, b0, cb, bf, k0, w0, ck, cw, L, f, g, nz, ch), rfl, hpost, by rw [ht]; exact hP9, va_K.moved hW.alike hK9, hD9, by rw [ht]; exact hcost⟩, hS.F ht⟩) hS.2.2 dX7_map_372
              have ic_46 : ¬ p1.toInt = 16 := tx_ne rfl (by decide) c_46
              by_cases c_49 : p1 = 17
              ·
                have ic_49 : p1.toInt = 17 := tx_eq rfl (by decide) c_49
                refine lv_tableIn (off := 272) (tgt := 373) hx hb dX7_map_101 (by rw [c_49]; decide) (by rw [c_49]; decide) (by rw [c_49]; rfl) (by decide) ?_
                refine lv_aload hx hb dX7_map_373 (lv_at hl 1 rfl) ?_
                refine lv_aload hx hb dX7_map_375 (lv_at hl 1 rfl) ?_
                refine lv_iload_n hx hb dX7_map_377 rfl (lv_at hl 8 rfl) ?_
                have hPc := hP.sub (ws' := [(y0, .inr (3, [.ref x0, .int kd, .int wh, .int (nI cap), .int ru, .int (nI tb), .ref b0]))]) [2] rfl
                have hKc := hK.sub (tys' := []) [] rfl
                refine ro_calli (va_runU (As := [.int p2]) (rest := [.ref y0]) ⟨hx, hb, hml, hown, hts⟩ (c_X3_howManyUpTo_H l  dC dI s.heap.size y0 (.ref x0) (.int kd) (.int wh) (.int (nI cap)) (.int ru) (.int (nI tb)) (.ref b0) p2) (va_cwU 1 hts gX7_map_X3_howManyUpTo_u114X2 rfl rfl rfl rfl (by decide +kernel) ⟨(Nat.le_of_ble_eq_true rfl), (Nat.le_of_ble_eq_true rfl)⟩) ⟨pk_blindR, va_recv hKc hPc (ci := 3) (q0 := 0) rfl rfl, pk_callR hPc hKc⟩ rfl rfl hl.1 rfl (lv_room (Nat.le_of_ble_eq_true rfl)) dX7_map_378 ⟨(Nat.le_of_ble_eq_true rfl), (Nat.le_of_ble_eq_true rfl)⟩) (fun r_50 ur_50 hw => ?_)
                clear hPc hKc
                try dsimp only at hw
                have jr_50 := hw
                refine W.eq (g2 := F0 m 381 ls [.int r_50, .ref y0]) rfl ?_
                have hPc := hP.sub (ws' := [(y0, .inr (3, [.ref x0, .int kd, .int wh, .int (nI cap), .int ru, .int (nI tb), .ref b0])), (x0, .inr (5, [.ref k0, .ref w0, .int (nI nz), .int ch])), (k0, .inl (ck, L, .inl f)), (w0, .inl (cw, L, .inl g)), (b0, .inl (cb, tb, .inl bf))]) [2, 3, 4, 5, 6] rfl
                have hKc := hK.sub (tys' := [(ck, .int), (cw, .int), (cb, .boolean)]) [1, 2, 3] rfl
                refine ro_calll (va_runU (As := [.int r_50]) (rest := []) ⟨hx, hb, hml, hown, hts⟩ (c_X3_keyOrNone_H l hlt dC dI s.heap.size y0 kd wh cap ru tb b0 cb bf x0 k0 w0 ck cw L f g nz ch r_50 hH9) (va_cwU 1 hts gX7_map_X3_keyOrNone_u111X2 rfl rfl rfl rfl (by decide +kernel) ⟨(Nat.le_of_ble_eq_true rfl), (Nat.le_of_ble_eq_true rfl)⟩) ⟨pk_blindRX, va_recv hKc hPc (ci := 3) (q0 := 0) rfl rfl, pk_callRX hPc hKc hN⟩ rfl rfl hl.1 rfl (lv_room (Nat.le_of_ble_eq_true rfl)) dX7_map_381 ⟨(Nat.le_of_ble_eq_true rfl), (Nat.le_of_ble_eq_true rfl)⟩) (fun r_51 ur_51 hw => ?_)
                clear hPc hKc
                try dsimp only at hw
                have jr_51 := hw
                refine W.eq (g2 := F0 m 384 ls [.long r_51]) rfl ?_
                refine W.book (fun hz9_ hn9_ => ?_)
                have hpost : hOK (tb) (L) (nz) cap := hH9_
                have hcost : hT s.heap + hPS tb L ≤ (hT s.heap + 6) + hPS (tb) (L) ∧ s.heap.size + hPC tb L ≤ (s.heap.size + 1) + hPC (tb) (L) := by constructor <;> omega
                have hP9 := hP.sub (ws' := [(a0, .inr (7, [.ref qb])), (qb, .inl (cq, 16, .inr (.inr (.inr (.inr bq))))), (y0, .inr (3, [.ref x0, .int kd, .int wh, .int (nI cap), .int ru, .int (nI tb), .ref b0])), (x0, .inr (5, [.ref k0, .ref w0, .int (nI nz), .int ch])), (k0, .inl (ck, L, .inl f)), (w0, .inl (cw, L, .inl g)), (b0, .inl (cb, tb, .inl bf))]) [0, 1, 2, 3, 4, 5, 6] rfl
                have hD9 := hD.sub (ws' := [(a0, .inr (7, [.ref qb])), (qb, .inl (cq, 16, .inr (.inr (.inr (.inr bq))))), (y0, .inr (3, [.ref x0, .int kd, .int wh, .int (nI cap), .int ru, .int (nI tb), .ref b0])), (x0, .inr (5, [.ref k0, .ref w0, .int (nI nz), .int ch])), (k0, .inl (ck, L, .inl f)), (w0, .inl (cw, L, .inl g)), (b0, .inl (cb, tb, .inl bf))]) [0, 1, 2, 3, 4, 5, 6] (by decide) rfl
                have hK9 := hK.sub (tys' := [(cq, .object "KeyAtlas$Body"), (ck, .int), (cw, .int), (cb, .boolean)]) [0, 1, 2, 3] rfl
                refine W.widen (k := 20) (n := 27000) (Nat.le_of_ble_eq_true rfl) (Nat.le_of_ble_eq_true rfl) ?_
                refine vx_ret ?_
                exact W.lret (v := r_51) hx hb hr (fun t ht hW => ⟨⟨r_51, (tb, b0, cb, bf, k0, w0, ck, cw, L, f, g, nz, ch), rfl, hpost, by rw [ht]; exact hP9, va_K.moved hW.alike hK9, hD9, by rw [ht]; exact hcost⟩, hS.F ht⟩) hS.2.2 dX7_map_384
              have ic_49 : ¬ p1.toInt = 17 := tx_ne rfl (by decide) c_49
              by_cases c_52 : p1 = 18
              ·
                have ic_52 : p1.toInt = 18 := tx_eq rfl (by decide) c_52
                refine lv_tableIn (off := 284) (tgt := 385) hx hb dX7_map_101 (by rw [c_52]; decide) (by rw [c_52]; decide) (by rw [c_52]; rfl) (by decide) ?_
                refine lv_aload hx hb dX7_map_385 (lv_at hl 1 rfl) ?_
                have hPc := hP.sub (ws' := [(y0, .inr (3, [.ref x0, .int kd, .int wh, .int (nI cap), .int ru, .int (nI tb), .ref b0])), (x0, .inr (5, [.ref k0, .ref w0, .int (nI nz), .int ch])), (k0, .inl (ck, L, .inl f)), (w0, .inl (cw, L, .inl g)), (b0, .inl (cb, tb, .inl bf))]) [2, 3, 4, 5, 6] rfl
                have hKc := hK.sub (tys' := [(ck, .int), (cw, .int), (cb, .boolean)]) [1, 2, 3] rfl
                refine ro_calll (va_runU (As := []) (rest := []) ⟨hx, hb, hml, hown, hts⟩ (c_X3_sum_H l hlt dC dI s.heap.size y0 kd wh cap ru tb b0 cb bf x0 k0 w0 ck cw L f g nz ch hH9) (va_cwU 0 hts gX7_map_X3_sum_u117X2 rfl rfl rfl rfl (by decide +kernel) ⟨(Nat.le_of_ble_eq_true rfl), (Nat.le_of_ble_eq_true rfl)⟩) ⟨pk_blindRX, va_recv hKc hPc (ci := 3) (q0 := 0) rfl rfl, pk_callRX hPc hKc hN⟩ rfl rfl hl.1 rfl (lv_room (Nat.le_of_ble_eq_true rfl)) dX7_map_387 ⟨(Nat.le_of_ble_eq_true rfl), (Nat.le_of_ble_eq_true rfl)⟩) (fun r_53 ur_53 hw => ?_)
                clear hPc hKc
                try dsimp only at hw
                have jr_53 := hw
                refine W.eq (g2 := F0 m 390 ls [.long r_53]) rfl ?_
                refine W.book (fun hz9_ hn9_ => ?_)
                have hpost : hOK (tb) (L) (nz) cap := hH9_
                have hcost : hT s.heap + hPS tb L ≤ (hT s.heap + 6) + hPS (tb) (L) ∧ s.heap.size + hPC tb L ≤ (s.heap.size + 1) + hPC (tb) (L) := by constructor <;> omega
                have hP9 := hP.sub (ws' := [(a0, .inr (7, [.ref qb])), (qb, .inl (cq, 16, .inr (.inr (.inr (.inr bq))))), (y0, .inr (3, [.ref x0, .int kd, .int wh, .int (nI cap), .int ru, .int (nI tb), .ref b0])), (x0, .inr (5, [.ref k0, .ref w0, .int (nI nz), .int ch])), (k0, .inl (ck, L, .inl f)), (w0, .inl (cw, L, .inl g)), (b0, .inl (cb, tb, .inl bf))]) [0, 1, 2, 3, 4, 5, 6] rfl
                have hD9 := hD.sub (ws' := [(a0, .inr (7, [.ref qb])), (qb, .inl (cq, 16, .inr (.inr (.inr (.inr bq))))), (y0, .inr (3, [.ref x0, .int kd, .int wh, .int (nI cap), .int ru, .int (nI tb), .ref b0])), (x0, .inr (5, [.ref k0, .ref w0, .int (nI nz), .int ch])), (k0, .inl (ck, L, .inl f)), (w0, .inl (cw, L, .inl g)), (b0, .inl (cb, tb, .inl bf))]) [0, 1, 2, 3, 4, 5, 6] (by decide) rfl
                have hK9 := hK.sub (tys' := [(cq, .object "KeyAtlas$Body"), (ck, .int), (cw, .int), (cb, .boolean)]) [0, 1, 2, 3] rfl
                refine W.widen (k := 20) (n := 27000) (Nat.le_of_ble_eq_true rfl) (Nat.le_of_ble_eq_true rfl) ?_
                refine vx_ret ?_
                exact W.lret (v := r_53) hx hb hr (fun t ht hW => ⟨⟨r_53, (tb, b0, cb, bf, k0, w0, ck, cw, L, f, g, nz, ch), rfl, hpost, by rw [ht]; exact hP9, va_K.moved hW.alike hK9, hD9, by rw [ht]; exact hcost⟩, hS.F ht⟩) hS.2.2 dX7_map_390
              have ic_52 : ¬ p1.toInt = 18 := tx_ne rfl (by decide) c_52
              by_cases c_54 : p1 = 19
              ·
                have ic_54 : p1.toInt = 19 := tx_eq rfl (by decide) c_54
                refine lv_tableIn (off := 290) (tgt := 391) hx hb dX7_map_101 (by rw [c_54]; decide) (by rw [c_54]; decide) (by rw [c_54]; rfl) (by decide) ?_
                exfalso
                omega
              have ic_54 : ¬ p1.toInt = 19 := tx_ne rfl (by decide) c_54
              by_cases c_55 : p1 = 20
              ·
                have ic_55 : p1.toInt = 20 := tx_eq rfl (by decide) c_55
                refine lv_tableIn (off := 306) (tgt := 407) hx hb dX7_map_101 (by rw [c_55]; decide) (by rw [c_55]; decide) (by rw [c_55]; rfl) (by decide) ?_
                exfalso
                omega
              have ic_55 : ¬ p1.toInt = 20 := tx_ne rfl (by decide) c_55
              by_cases c_56 : p1 = 21
              ·
                have ic_56 : p1.toInt = 21 := tx_eq rfl (by decide) c_56
                refine lv_tableIn (off := 314) (tgt := 415) hx hb dX7_map_101 (by rw [c_56]; decide) (by rw [c_56]; decide) (by rw [c_56]; rfl) (by decide) ?_
                refine lv_aload hx hb dX7_map_415 (lv_at hl 1 rfl) ?_
                have hPc := hP.sub (ws' := [(y0, .inr (3, [.ref x0, .int kd, .int wh, .int (nI cap), .int ru, .int (nI tb), .ref b0])), (x0, .inr (5, [.ref k0, .ref w0, .int (nI nz), .int ch])), (k0, .inl (ck, L, .inl f)), (w0, .inl (cw, L, .inl g)), (b0, .inl (cb, tb, .inl bf))]) [2, 3, 4, 5, 6] rfl
                have hKc := hK.sub (tys' := [(ck, .int), (cw, .int), (cb, .boolean)]) [1, 2, 3] rfl
                refine ro_calli (va_runU (As := []) (rest := []) ⟨hx, hb, hml, hown, hts⟩ (c_X2_tableLength l  dC dI s.heap.size y0 kd wh cap ru tb b0 cb bf x0 k0 w0 ck cw L f g nz ch hH9) (va_cwO 0 hts gX7_map_X2_tableLength_u128X2 rfl rfl rfl (List.mem_of_getElem? (l := wqX7_map) (i := 434) rfl) (by decide +kernel) ⟨(Nat.le_of_ble_eq_true rfl), (Nat.le_of_ble_eq_true rfl)⟩) ⟨pk_blindR, va_recv hKc hPc (ci := 3) (q0 := 0) rfl rfl, pk_callR hPc hKc⟩ rfl rfl hl.1 rfl (lv_room (Nat.le_of_ble_eq_true rfl)) dX7_map_417 ⟨(Nat.le_of_ble_eq_true rfl), (Nat.le_of_ble_eq_true rfl)⟩) (fun r_57 ur_57 hw => ?_)
                clear hPc hKc
                try dsimp only at hw
                have jr_57 := hw
                refine W.eq (g2 := F0 m 420 ls [.int r_57]) rfl ?_
                refine lv_i2l (v := r_57.toInt64) hx hb dX7_map_420 rfl ?_
                refine W.book (fun hz9_ hn9_ => ?_)
                have hpost : hOK (tb) (L) (nz) cap := hH9_
                have hcost : hT s.heap + hPS tb L ≤ (hT s.heap + 6) + hPS (tb) (L) ∧ s.heap.size + hPC tb L ≤ (s.heap.size + 1) + hPC (tb) (L) := by constructor <;> omega
                have hP9 := hP.sub (ws' := [(a0, .inr (7, [.ref qb])), (qb, .inl (cq, 16, .inr (.inr (.inr (.inr bq))))), (y0, .inr (3, [.ref x0, .int kd, .int wh, .int (nI cap), .int ru, .int (nI tb), .ref b0])), (x0, .inr (5, [.ref k0, .ref w0, .int (nI nz), .int ch])), (k0, .inl (ck, L, .inl f)), (w0, .inl (cw, L, .inl g)), (b0, .inl (cb, tb, .inl bf))]) [0, 1, 2, 3, 4, 5, 6] rfl
                have hD9 := hD.sub (ws' := [(a0, .inr (7, [.ref qb])), (qb, .inl (cq, 16, .inr (.inr (.inr (.inr bq))))), (y0, .inr (3, [.ref x0, .int kd, .int wh, .int (nI cap), .int ru, .int (nI tb), .ref b0])), (x0, .inr (5, [.ref k0, .ref w0, .int (nI nz), .int ch])), (k0, .inl (ck, L, .inl f)), (w0, .inl (cw, L, .inl g)), (b0, .inl (cb, tb, .inl bf))]) [0, 1, 2, 3, 4, 5, 6] (by decide) rfl
                have hK9 := hK.sub (tys' := [(cq, .object "KeyAtlas$Body"), (ck, .int), (cw, .int), (cb, .boolean)]) [0, 1, 2, 3] rfl
                refine W.widen (k := 20) (n := 27000) (Nat.le_of_ble_eq_true rfl) (Nat.le_of_ble_eq_true rfl) ?_
                refine vx_ret ?_
                exact W.lret (v := r_57.toInt64) hx hb hr (fun t ht hW => ⟨⟨r_57.toInt64, (tb, b0, cb, bf, k0, w0, ck, cw, L, f, g, nz, ch), rfl, hpost, by rw [ht]; exact hP9, va_K.moved hW.alike hK9, hD9, by rw [ht]; exact hcost⟩, hS.F ht⟩) hS.2.2 dX7_map_421
              have ic_56 : ¬ p1.toInt = 21 := tx_ne rfl (by decide) c_56
              by_cases c_58 : p1 = 22
              ·
                have ic_58 : p1.toInt = 22 := tx_eq rfl (by decide) c_58
                refine lv_tableIn (off := 321) (tgt := 422) hx hb dX7_map_101 (by rw [c_58]; decide) (by rw [c_58]; decide) (by rw [c_58]; rfl) (by decide) ?_
                refine lv_aload hx hb dX7_map_422 (lv_at hl 1 rfl) ?_
                have hPc := hP.sub (ws' := [(y0, .inr (3, [.ref x0, .int kd, .int wh, .int (nI cap), .int ru, .int (nI tb), .ref b0])), (x0, .inr (5, [.ref k0, .ref w0, .int (nI nz), .int ch])), (k0, .inl (ck, L, .inl f)), (w0, .inl (cw, L, .inl g)), (b0, .inl (cb, tb, .inl bf))]) [2, 3, 4, 5, 6] rfl
                have hKc := hK.sub (tys' := [(ck, .int), (cw, .int), (cb, .boolean)]) [1, 2, 3] rfl
                refine ro_calli (va_runU (As := []) (rest := []) ⟨hx, hb, hml, hown, hts⟩ (c_X2_howManyBushy l  dC dI s.heap.size y0 kd wh cap ru tb b0 cb bf x0 k0 w0 ck cw L f g nz ch hH9) (va_cwO 0 hts gX7_map_X2_howManyBushy_u131X2 rfl rfl rfl (List.mem_of_getElem? (l := wqX7_map) (i := 444) rfl) (by decide +kernel) ⟨(Nat.le_of_ble_eq_true rfl), (Nat.le_of_ble_eq_true rfl)⟩) ⟨pk_blindR, va_recv hKc hPc (ci := 3) (q0 := 0) rfl rfl, pk_callR hPc hKc⟩ rfl rfl hl.1 rfl (lv_room (Nat.le_of_ble_eq_true rfl)) dX7_map_424 ⟨(Nat.le_of_ble_eq_true rfl), (Nat.le_of_ble_eq_true rfl)⟩) (fun r_59 ur_59 hw => ?_)
                clear hPc hKc
                try dsimp only at hw
                have jr_59 := hw
                refine W.eq (g2 := F0 m 427 ls [.int r_59]) rfl ?_
                refine lv_i2l (v := r_59.toInt64) hx hb dX7_map_427 rfl ?_
                refine W.book (fun hz9_ hn9_ => ?_)
                have hpost : hOK (tb) (L) (nz) cap := hH9_
                have hcost : hT s.heap + hPS tb L ≤ (hT s.heap + 6) + hPS (tb) (L) ∧ s.heap.size + hPC tb L ≤ (s.heap.size + 1) + hPC (tb) (L) := by constructor <;> omega
                have hP9 := hP.sub (ws' := [(a0, .inr (7, [.ref qb])), (qb, .inl (cq, 16, .inr (.inr (.inr (.inr bq))))), (y0, .inr (3, [.ref x0, .int kd, .int wh, .int (nI cap), .int ru, .int (nI tb), .ref b0])), (x0, .inr (5, [.ref k0, .ref w0, .int (nI nz), .int ch])), (k0, .inl (ck, L, .inl f)), (w0, .inl (cw, L, .inl g)), (b0, .inl (cb, tb, .inl bf))]) [0, 1, 2, 3, 4, 5, 6] rfl
                have hD9 := hD.sub (ws' := [(a0, .inr (7, [.ref qb])), (qb, .inl (cq, 16, .inr (.inr (.inr (.inr bq))))), (y0, .inr (3, [.ref x0, .int kd, .int wh, .int (nI cap), .int ru, .int (nI tb), .ref b0])), (x0, .inr (5, [.ref k0, .ref w0, .int (nI nz), .int ch])), (k0, .inl (ck, L, .inl f)), (w0, .inl (cw, L, .inl g)), (b0, .inl (cb, tb, .inl bf))]) [0, 1, 2, 3, 4, 5, 6] (by decide) rfl
                have hK9 := hK.sub (tys' := [(cq, .object "KeyAtlas$Body"), (ck, .int), (cw, .int), (cb, .boolean)]) [0, 1, 2, 3] rfl
                refine W.widen (k := 20) (n := 27000) (Nat.le_of_ble_eq_true rfl) (Nat.le_of_ble_eq_true rfl) ?_
                refine vx_ret ?_
                exact W.lret (v := r_59.toInt64) hx hb hr (fun t ht hW => ⟨⟨r_59.toInt64, (tb, b0, cb, bf, k0, w0, ck, cw, L, f, g, nz, ch), rfl, hpost, by rw [ht]; exact hP9, va_K.moved hW.alike hK9, hD9, by rw [ht]; exact hcost⟩, hS.F ht⟩) hS.2.2 dX7_map_428
              have ic_58 : ¬ p1.toInt = 22 := tx_ne rfl (by decide) c_58
              by_cases c_60 : p1 = 23
              ·
                have ic_60 : p1.toInt = 23 := tx_eq rfl (by decide) c_60
                refine lv_tableIn (off := 328) (tgt := 429) hx hb dX7_map_101 (by rw [c_60]; decide) (by rw [c_60]; decide) (by rw [c_60]; rfl) (by decide) ?_
                refine lv_aload hx hb dX7_map_429 (lv_at hl 1 rfl) ?_
                refine lv_iload_n hx hb dX7_map_431 rfl (lv_at hl 8 rfl) ?_
                have hPc := hP.sub (ws' := [(y0, .inr (3, [.ref x0, .int kd, .int wh, .int (nI cap), .int ru, .int (nI tb), .ref b0]))]) [2] rfl
                have hKc := hK.sub (tys' := []) [] rfl
                refine ro_calli (va_runU (As := [.int p2]) (rest := []) ⟨hx, hb, hml, hown, hts⟩ (c_X3_howManyBefore_H l  dC dI s.heap.size y0 (.ref x0) (.int kd) (.int wh) (.int (nI cap)) (.int ru) (.int (nI tb)) (.ref b0) p2) (va_cwU 1 hts gX7_map_X3_howManyBefore_u108X2 rfl rfl rfl rfl (by decide +kernel) ⟨(Nat.le_of_ble_eq_true rfl), (Nat.le_of_ble_eq_true rfl)⟩) ⟨pk_blindR, va_recv hKc hPc (ci := 3) (q0 := 0) rfl rfl, pk_callR hPc hKc⟩ rfl rfl hl.1 rfl (lv_room (Nat.le_of_ble_eq_true rfl)) dX7_map_432 ⟨(Nat.le_of_ble_eq_true rfl), (Nat.le_of_ble_eq_true rfl)⟩) (fun r_61 ur_61 hw => ?_)
                clear hPc hKc
                try dsimp only at hw
                have jr_61 := hw
                refine W.eq (g2 := F0 m 435 ls [.int r_61]) rfl ?_
                refine lv_i2l (v := r_61.toInt64) hx hb dX7_map_435 rfl ?_
                refine W.book (fun hz9_ hn9_ => ?_)
                have hpost : hOK (tb) (L) (nz) cap := hH9_
                have hcost : hT s.heap + hPS tb L ≤ (hT s.heap + 6) + hPS (tb) (L) ∧ s.heap.size + hPC tb L ≤ (s.heap.size + 1) + hPC (tb) (L) := by constructor <;> omega
                have hP9 := hP.sub (ws' := [(a0, .inr (7, [.ref qb])), (qb, .inl (cq, 16, .inr (.inr (.inr (.inr bq))))), (y0, .inr (3, [.ref x0, .int kd, .int wh, .int (nI cap), .int ru, .int (nI tb), .ref b0])), (x0, .inr (5, [.ref k0, .ref w0, .int (nI nz), .int ch])), (k0, .inl (ck, L, .inl f)), (w0, .inl (cw, L, .inl g)), (b0, .inl (cb, tb, .inl bf))]) [0, 1, 2, 3, 4, 5, 6] rfl
                have hD9 := hD.sub (ws' := [(a0, .inr (7, [.ref qb])), (qb, .inl (cq, 16, .inr (.inr (.inr (.inr bq))))), (y0, .inr (3, [.ref x0, .int kd, .int wh, .int (nI cap), .int ru, .int (nI tb), .ref b0])), (x0, .inr (5, [.ref k0, .ref w0, .int (nI nz), .int ch])), (k0, .inl (ck, L, .inl f)), (w0, .inl (cw, L, .inl g)), (b0, .inl (cb, tb, .inl bf))]) [0, 1, 2, 3, 4, 5, 6] (by decide) rfl
                have hK9 := hK.sub (tys' := [(cq, .object "KeyAtlas$Body"), (ck, .int), (cw, .int), (cb, .boolean)]) [0, 1, 2, 3] rfl
                refine W.widen (k := 20) (n := 27000) (Nat.le_of_ble_eq_true rfl) (Nat.le_of_ble_eq_true rfl) ?_
                refine vx_ret ?_
                exact W.lret (v := r_61.toInt64) hx hb hr (fun t ht hW => ⟨⟨r_61.toInt64, (tb, b0, cb, bf, k0, w0, ck, cw, L, f, g, nz, ch), rfl, hpost, by rw [ht]; exact hP9, va_K.moved hW.alike hK9, hD9, by rw [ht]; exact hcost⟩, hS.F ht⟩) hS.2.2 dX7_map_436
              have ic_60 : ¬ p1.toInt = 23 := tx_ne rfl (by decide) c_60
              by_cases c_62 : p1 = 24
              ·
                have ic_62 : p1.toInt = 24 := tx_eq rfl (by decide) c_62
                refine lv_tableIn (off := 336) (tgt := 437) hx hb dX7_map_101 (by rw [c_62]; decide) (by rw [c_62]; decide) (by rw [c_62]; rfl) (by decide) ?_
                refine lv_aload hx hb dX7_map_437 (lv_at hl 1 rfl) ?_
                refine lv_iload_n hx hb dX7_map_439 rfl (lv_at hl 8 rfl) ?_
                have hPc := hP.sub (ws' := [(y0, .inr (3, [.ref x0, .int kd, .int wh, .int (nI cap), .int ru, .int (nI tb), .ref b0])), (x0, .inr (5, [.ref k0, .ref w0, .int (nI nz), .int ch])), (k0, .inl (ck, L, .inl f)), (w0, .inl (cw, L, .inl g)), (b0, .inl (cb, tb, .inl bf))]) [2, 3, 4, 5, 6] rfl
                have hDc := hD.sub (ws' := [(y0, .inr (3, [.ref x0, .int kd, .int wh, .int (nI cap), .int ru, .int (nI tb), .ref b0])), (x0, .inr (5, [.ref k0, .ref w0, .int (nI nz), .int ch])), (k0, .inl (ck, L, .inl f)), (w0, .inl (cw, L, .inl g)), (b0, .inl (cb, tb, .inl bf))]) [2, 3, 4, 5, 6] (by decide) rfl
                have hKc := hK.sub (tys' := [(ck, .int), (cw, .int), (cb, .boolean)]) [1, 2, 3] rfl
                have hFc := va_free (wc := [(y0, .inr (3, [.ref x0, .int kd, .int wh, .int (nI cap), .int ru, .int (nI tb), .ref b0])), (x0, .inr (5, [.ref k0, .ref w0, .int (nI nz), .int ch])), (k0, .inl (ck, L, .inl f)), (w0, .inl (cw, L, .inl g)), (b0, .inl (cb, tb, .inl bf))]) hD hS hA [2, 3, 4, 5, 6] rfl
                have hZc := (hZ.kept hS.2.1).narrow hFc
                refine va_calll (va_runU (As := [.int p2]) (rest := []) ⟨hx, hb, hml, hown, hts⟩ (c_X3_raiseValues_H l hlt dC dI s.heap.size y0 kd wh cap ru tb b0 cb bf x0 k0 w0 ck cw L f g nz ch p2 hH9) (va_cwU 1 hts gX7_map_X3_raiseValues_u134X2 rfl rfl rfl rfl (by decide +kernel) ⟨(Nat.le_of_ble_eq_true rfl), (Nat.le_of_ble_eq_true rfl)⟩) ⟨pk_blindX, va_recv hKc hPc (ci := 3) (q0 := 0) rfl rfl, pk_callX hPc hKc hDc hN hZc⟩ rfl rfl hl.1 rfl (lv_room (Nat.le_of_ble_eq_true rfl)) dX7_map_440 ⟨(Nat.le_of_ble_eq_true rfl), (Nat.le_of_ble_eq_true rfl)⟩) hS (fun q _ h => hFc q h) hFc (fun r_63 ur_63 t H1 locs ht hvm hw hB hz1 hk1 hS => ?_)
                try dsimp only at hw
                have jr_63 := hw
                obtain ⟨hP1, hK1, hD1⟩ := hB
                rw [ht] at hP1
                have hK1 := va_K.moved hvm.symm hK1
                obtain ⟨hP, hD⟩ := va_join (wr := [(a0, .inr (7, [.ref qb])), (qb, .inl (cq, 16, .inr (.inr (.inr (.inr bq)))))]) (w1 := [(y0, .inr (3, [.ref x0, .int kd, .int wh, .int (nI cap), .int ru, .int (nI tb), .ref b0])), (x0, .inr (5, [.ref k0, .ref w0, .int (nI nz), .int ch])), (k0, .inl (ck, L, .inl f)), (w0, .inl (cw, L, .inl ur_63)), (b0, .inl (cb, tb, .inl bf))]) hP hD [2, 3, 4, 5, 6] [0, 1] rfl rfl (by decide) (by decide) hk1 hFc hP1 hD1
                clear hk1 hz1 ht hPc hDc hKc hFc
                generalize H1 = H at hP hS ⊢
                replace hP : va_P (dC, dI) vwCl [(a0, .inr (7, [.ref qb])), (qb, .inl (cq, 16, .inr (.inr (.inr (.inr bq))))), (y0, .inr (3, [.ref x0, .int kd, .int wh, .int (nI cap), .int ru, .int (nI tb), .ref b0])), (x0, .inr (5, [.ref k0, .ref w0, .int (nI nz), .int ch])), (k0, .inl (ck, L, .inl f)), (w0, .inl (cw, L, .inl ur_63)), (b0, .inl (cb, tb, .inl bf))] H := hP
                replace hD : va_D A [(a0, .inr (7, [.ref qb])), (qb, .inl (cq, 16, .inr (.inr (.inr (.inr bq))))), (y0, .inr (3, [.ref x0, .int kd, .int wh, .int (nI cap), .int ru, .int (nI tb), .ref b0])), (x0, .inr (5, [.ref k0, .ref w0, .int (nI nz), .int ch])), (k0, .inl (ck, L, .inl f)), (w0, .inl (cw, L, .inl ur_63)), (b0, .inl (cb, tb, .inl bf))] := hD
                refine W.widen (k := 0) (n := 0) (Nat.le_of_ble_eq_true rfl) (Nat.le_of_ble_eq_true rfl) ?_
                refine W.eq (g2 := F0 m 443 ls [.long r_63]) rfl ?_
                refine W.book (fun hz9_ hn9_ => ?_)
                have hpost : hOK (tb) (L) (nz) cap := hH9_
                have hcost : hT H + hPS tb L ≤ (hT s.heap + 6) + hPS (tb) (L) ∧ H.size + hPC tb L ≤ (s.heap.size + 1) + hPC (tb) (L) := by constructor <;> omega
                have hP9 := hP.sub (ws' := [(a0, .inr (7, [.ref qb])), (qb, .inl (cq, 16, .inr (.inr (.inr (.inr bq))))), (y0, .inr (3, [.ref x0, .int kd, .int wh, .int (nI cap), .int ru, .int (nI tb), .ref b0])), (x0, .inr (5, [.ref k0, .ref w0, .int (nI nz), .int ch])), (k0, .inl (ck, L, .inl f)), (w0, .inl (cw, L, .inl ur_63)), (b0, .inl (cb, tb, .inl bf))]) [0, 1, 2, 3, 4, 5, 6] rfl
                have hD9 := hD.sub (ws' := [(a0, .inr (7, [.ref qb])), (qb, .inl (cq, 16, .inr (.inr (.inr (.inr bq))))), (y0, .inr (3, [.ref x0, .int kd, .int wh, .int (nI cap), .int ru, .int (nI tb), .ref b0])), (x0, .inr (5, [.ref k0, .ref w0, .int (nI nz), .int ch])), (k0, .inl (ck, L, .inl f)), (w0, .inl (cw, L, .inl ur_63)), (b0, .inl (cb, tb, .inl bf))]) [0, 1, 2, 3, 4, 5, 6] (by decide) rfl
                have hK9 := hK.sub (tys' := [(cq, .object "KeyAtlas$Body"), (ck, .int), (cw, .int), (cb, .boolean)]) [0, 1, 2, 3] rfl
                refine W.widen (k := 20) (n := 27000) (Nat.le_of_ble_eq_true rfl) (Nat.le_of_ble_eq_true rfl) ?_
                refine vx_ret ?_
                exact W.lret (v := r_63) hx hb hr (fun t ht hW => ⟨⟨r_63, (tb, b0, cb, bf, k0, w0, ck, cw, L, f, ur_63, nz, ch), rfl, hpost, by rw [ht]; exact hP9, va_K.moved hW.alike hK9, hD9, by rw [ht]; exact hcost⟩, hS.F ht⟩) hS.2.2 dX7_map_443
              have ic_62 : ¬ p1.toInt = 24 := tx_ne rfl (by decide) c_62
              refine lv_tableOut (tgt := 444) hx hb dX7_map_101 (by omega) (by decide) ?_
              refine lv_aload hx hb dX7_map_444 (lv_at hl 1 rfl) ?_
              refine lv_iload_n hx hb dX7_map_446 rfl (lv_at hl 8 rfl) ?_
              have hPc := hP.sub (ws' := [(y0, .inr (3, [.ref x0, .int kd, .int wh, .int (nI cap), .int ru, .int (nI tb), .ref b0])), (x0, .inr (5, [.ref k0, .ref w0, .int (nI nz), .int ch])), (k0, .inl (ck, L, .inl f)), (w0, .inl (cw, L, .inl g)), (b0, .inl (cb, tb, .inl bf))]) [2, 3, 4, 5, 6] rfl
              have hDc := hD.sub (ws' := [(y0, .inr (3, [.ref x0, .int kd, .int wh, .int (nI cap), .int ru, .int (nI tb), .ref b0])), (x0, .inr (5, [.ref k0, .ref w0, .int (nI nz), .int ch])), (k0, .inl (ck, L, .inl f)), (w0, .inl (cw, L, .inl g)), (b0, .inl (cb, tb, .inl bf))]) [2, 3, 4, 5, 6] (by decide) rfl
              have hKc := hK.sub (tys' := [(ck, .int), (cw, .int), (cb, .boolean)]) [1, 2, 3] rfl
              have hFc := va_free (wc := [(y0, .inr (3, [.ref x0, .int kd, .int wh, .int (nI cap), .int ru, .int (nI tb), .ref b0])), (x0, .inr (5, [.ref k0, .ref w0, .int (nI nz), .int ch])), (k0, .inl (ck, L, .inl f)), (w0, .inl (cw, L, .inl g)), (b0, .inl (cb, tb, .inl bf))]) hD hS hA [2, 3, 4, 5, 6] rfl
              have hZc := (hZ.kept hS.2.1).narrow hFc
              refine va_calll (va_runU (As := [.int p2]) (rest := []) ⟨hx, hb, hml, hown, hts⟩ (c_X3_takeOutWith_H l hlt dC dI s.heap.size y0 kd wh cap ru tb b0 cb bf x0 k0 w0 ck cw L f g nz ch p2 hH9) (va_cwU 1 hts gX7_map_X3_takeOutWith_u137X2 rfl rfl rfl rfl (by decide +kernel) ⟨(Nat.le_of_ble_eq_true rfl), (Nat.le_of_ble_eq_true rfl)⟩) ⟨pk_blindX, va_recv hKc hPc (ci := 3) (q0 := 0) rfl rfl, pk_callX hPc hKc hDc hN hZc⟩ rfl rfl hl.1 rfl (lv_room (Nat.le_of_ble_eq_true rfl)) dX7_map_447 ⟨(Nat.le_of_ble_eq_true rfl), (Nat.le_of_ble_eq_true rfl)⟩) hS (fun q _ h => hFc q h) hFc (fun r_64 ur_64 t H1 locs ht hvm hw hB hz1 hk1 hS => ?_)
              try dsimp only at hw
              have jr_64 := hw
              obtain ⟨hP1, hK1, hD1⟩ := hB
              rw [ht] at hP1
              have hK1 := va_K.moved hvm.symm hK1
              obtain ⟨hP, hD⟩ := va_join (wr := [(a0, .inr (7, [.ref qb])), (qb, .inl (cq, 16, .inr (.inr (.inr (.inr bq)))))]) (w1 := [(y0, .inr (3, [.ref x0, .int kd, .int wh, .int (nI cap), .int ru, .int (nI tb), .ref b0])), (x0, .inr (5, [.ref k0, .ref w0, .int (nI (ur_64.2.2.1)), .int ur_64.2.2.2.1])), (k0, .inl (ck, L, .inl ur_64.1)), (w0, .inl (cw, L, .inl ur_64.2.1)), (b0, .inl (cb, tb, .inl ur_64.2.2.2.2))]) hP hD [2, 3, 4, 5, 6] [0, 1] rfl rfl (by decide) (by decide) hk1 hFc hP1 hD1
              clear hk1 hz1 ht hPc hDc hKc hFc
              generalize H1 = H at hP hS ⊢
              replace hP : va_P (dC, dI) vwCl [(a0, .inr (7, [.ref qb])), (qb, .inl (cq, 16, .inr (.inr (.inr (.inr bq))))), (y0, .inr (3, [.ref x0, .int kd, .int wh, .int (nI cap), .int ru, .int (nI tb), .ref b0])), (x0, .inr (5, [.ref k0, .ref w0, .int (nI (ur_64.2.2.1)), .int ur_64.2.2.2.1])), (k0, .inl (ck, L, .inl ur_64.1)), (w0, .inl (cw, L, .inl ur_64.2.1)), (b0, .inl (cb, tb, .inl ur_64.2.2.2.2))] H := hP
              replace hD : va_D A [(a0, .inr (7, [.ref qb])), (qb, .inl (cq, 16, .inr (.inr (.inr (.inr bq))))), (y0, .inr (3, [.ref x0, .int kd, .int wh, .int (nI cap), .int ru, .int (nI tb), .ref b0])), (x0, .inr (5, [.ref k0, .ref w0, .int (nI (ur_64.2.2.1)), .int ur_64.2.2.2.1])), (k0, .inl (ck, L, .inl ur_64.1)), (w0, .inl (cw, L, .inl ur_64.2.1)), (b0, .inl (cb, tb, .inl ur_64.2.2.2.2))] := hD
              refine W.widen (k := 0) (n := 0) (Nat.le_of_ble_eq_true rfl) (Nat.le_of_ble_eq_true rfl) ?_
              refine W.eq (g2 := F0 m 450 ls [.long r_64]) rfl ?_
              refine W.book (fun hz9_ hn9_ => ?_)
              have hpost : hOK (tb) (L) (ur_64.2.2.1) cap := hOK_le hH9_ jr_64
              have hcost : hT H + hPS tb L ≤ (hT s.heap + 6) + hPS (tb) (L) ∧ H.size + hPC tb L ≤ (s.heap.size + 1) + hPC (tb) (L) := by constructor <;> omega
              have hP9 := hP.sub (ws' := [(a0, .inr (7, [.ref qb])), (qb, .inl (cq, 16, .inr (.inr (.inr (.inr bq))))), (y0, .inr (3, [.ref x0, .int kd, .int wh, .int (nI cap), .int ru, .int (nI tb), .ref b0])), (x0, .inr (5, [.ref k0, .ref w0, .int (nI (ur_64.2.2.1)), .int ur_64.2.2.2.1])), (k0, .inl (ck, L, .inl ur_64.1)), (w0, .inl (cw, L, .inl ur_64.2.1)), (b0, .inl (cb, tb, .inl ur_64.2.2.2.2))]) [0, 1, 2, 3, 4, 5, 6] rfl
              have hD9 := hD.sub (ws' := [(a0, .inr (7, [.ref qb])), (qb, .inl (cq, 16, .inr (.inr (.inr (.inr bq))))), (y0, .inr (3, [.ref x0, .int kd, .int wh, .int (nI cap), .int ru, .int (nI tb), .ref b0])), (x0, .inr (5, [.ref k0, .ref w0, .int (nI (ur_64.2.2.1)), .int ur_64.2.2.2.1])), (k0, .inl (ck, L, .inl ur_64.1)), (w0, .inl (cw, L, .inl ur_64.2.1)), (b0, .inl (cb, tb, .inl ur_64.2.2.2.2))]) [0, 1, 2, 3, 4, 5, 6] (by decide) rfl
              have hK9 := hK.sub (tys' := [(cq, .object "KeyAtlas$Body"), (ck, .int), (cw, .int), (cb, .boolean)]) [0, 1, 2, 3] rfl
              refine W.widen (k := 20) (n := 27000) (Nat.le_of_ble_eq_true rfl) (Nat.le_of_ble_eq_true rfl) ?_
              refine vx_ret ?_
              exact W.lret (v := r_64) hx hb hr (fun t ht hW => ⟨⟨r_64, (tb, b0, cb, ur_64.2.2.2.2, k0, w0, ck, cw, L, ur_64.1, ur_64.2.1, ur_64.2.2.1, ur_64.2.2.2.1), rfl, hpost, by rw [ht]; exact hP9, va_K.moved hW.alike hK9, hD9, by rw [ht]; exact hcost⟩, hS.F ht⟩) hS.2.2 dX7_map_450
            ·
              have ic_10 : r_9.toInt = 0 := tx_eq rfl (by decide) c_10
              have hP9 := hP.sub (ws' := [(a0, .inr (7, [.ref qb])), (qb, .inl (cq, 16, .inr (.inr (.inr (.inr bq))))), (y0, .inr (3, [.ref x0, .int kd, .int wh, .int (nI cap), .int ru, .int (nI tb), .ref b0])), (x0, .inr (5, [.ref k0, .ref w0, .int (nI nz), .int ch])), (k0, .inl (ck, L, .inl f)), (w0, .inl (cw, L, .inl g)), (b0, .inl (cb, tb, .inl bf))]) [0, 1, 2, 3, 4, 5, 6] rfl
              have hD9 := hD.sub (ws' := [(a0, .inr (7, [.ref qb])), (qb, .inl (cq, 16, .inr (.inr (.inr (.inr bq))))), (y0, .inr (3, [.ref x0, .int kd, .int wh, .int (nI cap), .int ru, .int (nI tb), .ref b0])), (x0, .inr (5, [.ref k0, .ref w0, .int (nI nz), .int ch])), (k0, .inl (ck, L, .inl f)), (w0, .inl (cw, L, .inl g)), (b0, .inl (cb, tb, .inl bf))]) [0, 1, 2, 3, 4, 5, 6] (by decide) rfl
              have hK9 := hK.sub (tys' := [(cq, .object "KeyAtlas$Body"), (ck, .int), (cw, .int), (cb, .boolean)]) [0, 1, 2, 3] rfl
              refine vx_tightX (XC0 := vx_X (fun _ : Unit => True) (fun (E : String) (_ : Unit) (t : State) => (E = "java/lang/IllegalArgumentException" ∨ E = "java/lang/IllegalStateException" ∨ E = "java/util/NoSuchElementException" ∨ E = "java/lang/UnsupportedOperationException") ∧ va_P (dC, dI) vwCl [(a0, .inr (7, [.ref qb])), (qb, .inl (cq, 16, .inr (.inr (.inr (.inr bq))))), (y0, .inr (3, [.ref x0, .int kd, .int wh, .int (nI cap), .int ru, .int (nI tb), .ref b0])), (x0, .inr (5, [.ref k0, .ref w0, .int (nI nz), .int ch])), (k0, .inl (ck, L, .inl f)), (w0, .inl (cw, L, .inl g)), (b0, .inl (cb, tb, .inl bf))] t.heap ∧ va_K (dC, dI) vwCl [(cq, .object "KeyAtlas$Body"), (ck, .int), (cw, .int), (cb, .boolean)] t ∧ va_D A [(a0, .inr (7, [.ref qb])), (qb, .inl (cq, 16, .inr (.inr (.inr (.inr bq))))), (y0, .inr (3, [.ref x0, .int kd, .int wh, .int (nI cap), .int ru, .int (nI tb), .ref b0])), (x0, .inr (5, [.ref k0, .ref w0, .int (nI nz), .int ch])), (k0, .inl (ck, L, .inl f)), (w0, .inl (cw, L, .inl g)), (b0, .inl (cb, tb, .inl bf))]) A) 1 6 (by omega) (by omega) (fun E t9 h9 hz9 hn9 => by obtain ⟨u9, g1, g2, g3⟩ := h9; exact ⟨u9, g1, ⟨g2, hz9, hn9⟩, g3⟩) ?_
              obtain ⟨sa, hsa⟩ := hN.stX7_66
              exact vx_throwS hx hb hlt (own := RX7) (cls := "java/lang/UnsupportedOperationException") (text := "op is not for this kind") (names := ["java/lang/RuntimeException", "java/lang/Exception"]) hown (by decide +kernel) (by decide +kernel) hw4_ hw5_ hsa (tx_hat hN.xw (fun w h => hts w (at_X7_map_90 w h)) ng_RX7_68) og_RX7_68 hZ.1 hZ.2 hS (by rw [hml]; exact hl.1) dX7_map_90 dX7_map_93 dX7_map_94 dX7_map_96 dX7_map_99 (fun x hx9 => (htab x hx9).elim) (Nat.le_of_ble_eq_true rfl) (Nat.le_of_ble_eq_true rfl) (Nat.le_of_ble_eq_true rfl) (Nat.le_of_ble_eq_true rfl) hlocks (fun t hvm hz hq => ⟨(), trivial, ⟨Or.inr (Or.inr (Or.inr rfl)), hP9.kept (fun k x hx => hq x.1 (hP9 k x hx).lt), va_K.moved hvm hK9, hD9⟩, ⟨Nat.le_trans hS.1 hz, fun q h1 h2 => (hq q (Nat.lt_of_lt_of_le h1 hS.1)).trans (hS.2.1 q h1 h2)⟩⟩) hS.2.2 (Nat.le_of_ble_eq_true rfl) (Nat.le_of_ble_eq_true rfl)
          ·
            have ic_8 : 25 < p1.toInt := tx_nle rfl (by decide) c_8
            have hP9 := hP.sub (ws' := [(a0, .inr (7, [.ref qb])), (qb, .inl (cq, 16, .inr (.inr (.inr (.inr bq))))), (y0, .inr (3, [.ref x0, .int kd, .int wh, .int (nI cap), .int ru, .int (nI tb), .ref b0])), (x0, .inr (5, [.ref k0, .ref w0, .int (nI nz), .int ch])), (k0, .inl (ck, L, .inl f)), (w0, .inl (cw, L, .inl g)), (b0, .inl (cb, tb, .inl bf))]) [0, 1, 2, 3, 4, 5, 6] rfl
            have hD9 := hD.sub (ws' := [(a0, .inr (7, [.ref qb])), (qb, .inl (cq, 16, .inr (.inr (.inr (.inr bq))))), (y0, .inr (3, [.ref x0, .int kd, .int wh, .int (nI cap), .int ru, .int (nI tb), .ref b0])), (x0, .inr (5, [.ref k0, .ref w0, .int (nI nz), .int ch])), (k0, .inl (ck, L, .inl f)), (w0, .inl (cw, L, .inl g)), (b0, .inl (cb, tb, .inl bf))]) [0, 1, 2, 3, 4, 5, 6] (by decide) rfl
            have hK9 := hK.sub (tys' := [(cq, .object "KeyAtlas$Body"), (ck, .int), (cw, .int), (cb, .boolean)]) [0, 1, 2, 3] rfl
            refine vx_tightX (XC0 := vx_X (fun _ : Unit => True) (fun (E : String) (_ : Unit) (t : State) => (E = "java/lang/IllegalArgumentException" ∨ E = "java/lang/IllegalStateException" ∨ E = "java/util/NoSuchElementException" ∨ E = "java/lang/UnsupportedOperationException") ∧ va_P (dC, dI) vwCl [(a0, .inr (7, [.ref qb])), (qb, .inl (cq, 16, .inr (.inr (.inr (.inr bq))))), (y0, .inr (3, [.ref x0, .int kd, .int wh, .int (nI cap), .int ru, .int (nI tb), .ref b0])), (x0, .inr (5, [.ref k0, .ref w0, .int (nI nz), .int ch])), (k0, .inl (ck, L, .inl f)), (w0, .inl (cw, L, .inl g)), (b0, .inl (cb, tb, .inl bf))] t.heap ∧ va_K (dC, dI) vwCl [(cq, .object "KeyAtlas$Body"), (ck, .int), (cw, .int), (cb, .boolean)] t ∧ va_D A [(a0, .inr (7, [.ref qb])), (qb, .inl (cq, 16, .inr (.inr (.inr (.inr bq))))), (y0, .inr (3, [.ref x0, .int kd, .int wh, .int (nI cap), .int ru, .int (nI tb), .ref b0])), (x0, .inr (5, [.ref k0, .ref w0, .int (nI nz), .int ch])), (k0, .inl (ck, L, .inl f)), (w0, .inl (cw, L, .inl g)), (b0, .inl (cb, tb, .inl bf))]) A) 1 6 (by omega) (by omega) (fun E t9 h9 hz9 hn9 => by obtain ⟨u9, g1, g2, g3⟩ := h9; exact ⟨u9, g1, ⟨g2, hz9, hn9⟩, g3⟩) ?_
            obtain ⟨sa, hsa⟩ := hN.stX7_53
            exact vx_throwS hx hb hlt (own := RX7) (cls := "java/lang/IllegalArgumentException") (text := "no such op") (names := ["java/lang/RuntimeException", "java/lang/Exception"]) hown (by decide +kernel) (by decide +kernel) hw0_ hw1_ hsa (tx_hat hN.xw (fun w h => hts w (at_X7_map_68 w h)) ng_RX7_19) og_RX7_19 hZ.1 hZ.2 hS (by rw [hml]; exact hl.1) dX7_map_68 dX7_map_71 dX7_map_72 dX7_map_74 dX7_map_77 (fun x hx9 => (htab x hx9).elim) (Nat.le_of_ble_eq_true rfl) (Nat.le_of_ble_eq_true rfl) (Nat.le_of_ble_eq_true rfl) (Nat.le_of_ble_eq_true rfl) hlocks (fun t hvm hz hq => ⟨(), trivial, ⟨Or.inl rfl, hP9.kept (fun k x hx => hq x.1 (hP9 k x hx).lt), va_K.moved hvm hK9, hD9⟩, ⟨Nat.le_trans hS.1 hz, fun q h1 h2 => (hq q (Nat.lt_of_lt_of_le h1 hS.1)).trans (hS.2.1 q h1 h2)⟩⟩) hS.2.2 (Nat.le_of_ble_eq_true rfl) (Nat.le_of_ble_eq_true rfl)
      ·
        have ic_3 : p1.toInt = 20 := tx_eq rfl (by decide) c_3
        exfalso
        omega
