/-- what drop leaves of the kinds -/
def dq (a1 a8 : Nat → Int32) (p0 : Int32) (b : Nat → Int32) : Prop := (∃ o : Nat, o < 16 ∧ p0 = nI o ∧ ¬ (a1 o).toInt = 0 ∧ ∀ j : Nat, j < 16 → b j = if j = o ∨ dgB a1 a8 o j = true then 0 else a1 j) ∨ (b = a1 ∧ ∀ o : Nat, o < 16 → p0 = nI o → (a1 o).toInt = 0)
theorem dL_count_0 : decode cL_count 0 = .ok (.aload_n 2, 1) := by decide +kernel
theorem dL_count_1 : decode cL_count 1 = .ok (.iconst 0, 1) := by decide +kernel
theorem dL_count_2 : decode cL_count 2 = .ok (.aload_n 0, 1) := by decide +kernel
theorem dL_count_3 : decode cL_count 3 = .ok (.iload_n 1, 1) := by decide +kernel
set_option maxRecDepth 20000 in
theorem ggL_count_X7_count : GoodIn wsL_count wsX7_count := goodIn_ca (goodIn_r _ [6, 7, 8, 9, 10, 11, 5, 12, 13, 14, 15, 16, 17, 18, 19, 20, 21, 22, 23, 24, 25, 26, 27, 28, 29, 30, 31, 32, 33, 34, 35, 36, 37, 38, 39, 40, 41, 42, 43, 44, 45, 46, 47, 48, 49, 50, 51, 52, 53, 54, 55, 56, 57, 58, 59, 60, 61, 62, 63, 64, 65, 66, 67, 68, 69, 70, 71, 72, 73, 74, 75, 76, 77, 78, 79, 80, 81, 82, 83, 84, 85, 86, 87, 88, 89, 90, 91, 92, 93, 94, 95, 96, 97, 98, 99, 100, 101, 102, 103, 104, 105, 106, 107, 108, 109, 110, 111, 112, 113, 114, 115, 116] rfl (by decide +kernel)) (goodIn_sub (fun _ h => List.mem_cons_of_mem _ (List.mem_append_right _ h)) (by decide +kernel))
set_option maxRecDepth 20000 in
theorem gL_count_X7_count : GoodIn wsL_count (wsV RL 49 RX7 yX7_count wsX7_count) := goodIn_app (goodIn_of _ (by decide +kernel)) ggL_count_X7_count
theorem dL_count_4 : decode cL_count 4 = .ok (.invokevirtual 49, 3) := by decide +kernel
theorem dL_count_12 : decode cL_count 12 = .ok (.astore_n 3, 1) := by decide +kernel
theorem dL_count_13 : decode cL_count 13 = .ok (.iconst 1, 1) := by decide +kernel
theorem dL_count_14 : decode cL_count 14 = .ok (.ireturn, 1) := by decide +kernel
theorem dL_count_7 : decode cL_count 7 = .ok (.i2l, 1) := by decide +kernel
theorem dL_count_8 : decode cL_count 8 = .ok (.lastore, 1) := by decide +kernel
theorem dL_count_9 : decode cL_count 9 = .ok (.goto 6, 3) := by decide +kernel
theorem dL_count_15 : decode cL_count 15 = .ok (.iconst 0, 1) := by decide +kernel
theorem dL_count_16 : decode cL_count 16 = .ok (.ireturn, 1) := by decide +kernel
theorem dL_make_0 : decode cL_make 0 = .ok (.aload 4, 2) := by decide +kernel
theorem dL_make_2 : decode cL_make 2 = .ok (.iconst 0, 1) := by decide +kernel
theorem dL_make_3 : decode cL_make 3 = .ok (.aload_n 0, 1) := by decide +kernel
theorem dL_make_4 : decode cL_make 4 = .ok (.iload_n 1, 1) := by decide +kernel
theorem dL_make_5 : decode cL_make 5 = .ok (.iload_n 2, 1) := by decide +kernel
theorem dL_make_6 : decode cL_make 6 = .ok (.iload_n 3, 1) := by decide +kernel
set_option maxRecDepth 20000 in
theorem ggL_make_X7_make : GoodIn wuL_make wqX7_make := goodIn_ca (show GoodIn wuL_make wrX7_make from goodIn_ca (goodIn_ca (goodIn_r _ [7, 8, 9, 10, 11, 12, 13, 14, 6, 15, 16, 17, 18, 19, 20, 21, 22, 23, 24, 25, 26, 27, 28, 29, 30, 31, 32, 33, 34, 35, 36, 37, 38, 39, 40, 41, 42, 43, 44, 45, 46, 47, 48, 49, 50, 51, 52, 53, 54, 55, 56, 57, 58, 59, 60, 61, 62, 63, 64, 65, 66, 67, 68, 69, 70, 71, 72, 73, 74, 75, 76, 77, 78, 79, 80, 81, 82, 83, 84, 85, 86, 87, 88, 89, 90, 91, 92, 93, 94, 95, 96, 97, 98, 99, 100, 101, 102, 103, 104, 105, 106, 107, 108, 109, 110, 111, 112, 113, 114, 115, 116, 117, 118] rfl (by decide +kernel)) (goodIn_sub (fun _ h => List.mem_cons_of_mem _ (List.mem_append_left _ (List.mem_append_left _ (List.mem_append_left _ (List.mem_append_right _ h))))) (by decide +kernel))) (goodIn_sub (fun _ h => List.mem_cons_of_mem _ (List.mem_append_left _ (List.mem_append_left _ (List.mem_append_right _ h)))) (by decide +kernel))) (goodIn_sub (fun w h => List.mem_cons_of_mem _ (List.mem_append_left _ (List.mem_append_right _ h))) (by decide +kernel))
set_option maxRecDepth 20000 in
theorem gL_make_X7_make : GoodIn wuL_make (wsV RL 7 RX7 yX7_make wqX7_make) := goodIn_app (goodIn_of _ (by decide +kernel)) ggL_make_X7_make
theorem dL_make_7 : decode cL_make 7 = .ok (.invokevirtual 7, 3) := by decide +kernel
theorem dL_make_15 : decode cL_make 15 = .ok (.astore 5, 2) := by decide +kernel
theorem dL_make_17 : decode cL_make 17 = .ok (.iconst 1, 1) := by decide +kernel
theorem dL_make_18 : decode cL_make 18 = .ok (.ireturn, 1) := by decide +kernel
theorem dL_make_19 : decode cL_make 19 = .ok (.astore 5, 2) := by decide +kernel
theorem dL_make_21 : decode cL_make 21 = .ok (.iconst 2, 1) := by decide +kernel
theorem dL_make_22 : decode cL_make 22 = .ok (.ireturn, 1) := by decide +kernel
theorem dL_make_23 : decode cL_make 23 = .ok (.astore 5, 2) := by decide +kernel
theorem dL_make_25 : decode cL_make 25 = .ok (.iconst 3, 1) := by decide +kernel
theorem dL_make_26 : decode cL_make 26 = .ok (.ireturn, 1) := by decide +kernel
theorem dL_make_10 : decode cL_make 10 = .ok (.i2l, 1) := by decide +kernel
theorem dL_make_11 : decode cL_make 11 = .ok (.lastore, 1) := by decide +kernel
theorem dL_make_12 : decode cL_make 12 = .ok (.goto 15, 3) := by decide +kernel
theorem dL_make_27 : decode cL_make 27 = .ok (.iconst 0, 1) := by decide +kernel
theorem dL_make_28 : decode cL_make 28 = .ok (.ireturn, 1) := by decide +kernel
theorem dL_drop_0 : decode cL_drop 0 = .ok (.aload_n 2, 1) := by decide +kernel
theorem dL_drop_1 : decode cL_drop 1 = .ok (.iconst 0, 1) := by decide +kernel
theorem dL_drop_2 : decode cL_drop 2 = .ok (.aload_n 0, 1) := by decide +kernel
theorem dL_drop_3 : decode cL_drop 3 = .ok (.iload_n 1, 1) := by decide +kernel
set_option maxRecDepth 20000 in
theorem ggL_drop_X7_drop : GoodIn wqL_drop wqX7_drop := goodIn_ca (goodIn_r _ [6, 7, 8, 9, 10, 11, 5, 12, 13, 14, 15, 16, 17, 18, 19, 20, 21, 22, 23, 24, 25, 26, 27, 28, 29, 30, 31, 32, 33, 34, 35, 36, 37, 38, 39, 40, 41, 42, 43, 44, 45, 46, 47, 48, 49] rfl (by decide +kernel)) (goodIn_sub (fun _ h => List.mem_cons_of_mem _ (List.mem_append_right _ h)) (by decide +kernel))
set_option maxRecDepth 20000 in
theorem gL_drop_X7_drop : GoodIn wqL_drop (wsV RL 19 RX7 yX7_drop wqX7_drop) := goodIn_app (goodIn_of _ (by decide +kernel)) ggL_drop_X7_drop
theorem dL_drop_4 : decode cL_drop 4 = .ok (.invokevirtual 19, 3) := by decide +kernel
theorem dL_drop_12 : decode cL_drop 12 = .ok (.astore_n 3, 1) := by decide +kernel
theorem dL_drop_13 : decode cL_drop 13 = .ok (.iconst 1, 1) := by decide +kernel
theorem dL_drop_14 : decode cL_drop 14 = .ok (.ireturn, 1) := by decide +kernel
theorem dL_drop_7 : decode cL_drop 7 = .ok (.i2l, 1) := by decide +kernel
theorem dL_drop_8 : decode cL_drop 8 = .ok (.lastore, 1) := by decide +kernel
theorem dL_drop_9 : decode cL_drop 9 = .ok (.goto 6, 3) := by decide +kernel
theorem dL_drop_15 : decode cL_drop 15 = .ok (.iconst 0, 1) := by decide +kernel
theorem dL_drop_16 : decode cL_drop 16 = .ok (.ireturn, 1) := by decide +kernel
theorem dL_map_0 : decode cL_map 0 = .ok (.aload 5, 2) := by decide +kernel
theorem dL_map_2 : decode cL_map 2 = .ok (.iconst 0, 1) := by decide +kernel
theorem dL_map_3 : decode cL_map 3 = .ok (.aload_n 0, 1) := by decide +kernel
theorem dL_map_4 : decode cL_map 4 = .ok (.iload_n 1, 1) := by decide +kernel
theorem dL_map_5 : decode cL_map 5 = .ok (.iload_n 2, 1) := by decide +kernel
theorem dL_map_6 : decode cL_map 6 = .ok (.iload_n 3, 1) := by decide +kernel
theorem dL_map_7 : decode cL_map 7 = .ok (.iload 4, 2) := by decide +kernel
set_option maxRecDepth 20000 in
theorem ggL_map_X7_map : GoodIn wqL_map wqX7_map := goodIn_ca (show GoodIn wqL_map wrX7_map from goodIn_ca (goodIn_ca (goodIn_ca (goodIn_ca (goodIn_ca (goodIn_ca (goodIn_r _ [10, 11, 12, 13, 14, 15, 16, 17, 18, 19, 9, 20, 21, 22, 23, 24, 25, 26, 27, 28, 29, 30, 31, 32, 33, 34, 35, 36, 37, 38, 39, 40, 41, 42, 43, 44, 45, 46, 47, 48, 49, 50, 51, 52, 53, 54, 55, 56, 57, 58, 59, 60, 61, 62, 63, 64, 65, 66, 67, 68, 69, 70, 71, 72, 73, 74, 75, 76, 77, 78, 79, 80, 81, 82, 83, 84, 85, 86, 87, 88, 89, 90, 91, 92, 93, 94, 95, 96, 97, 98, 99, 100, 101, 102, 103, 104, 105, 106, 107, 108, 109, 110, 111, 112, 113, 114, 115, 116, 117, 118, 119, 120, 121, 122, 123, 124, 125, 126, 127, 128, 129, 130, 131, 132, 133, 134, 135, 136, 137, 138, 139, 140, 141, 142, 143, 144, 145, 146, 147, 148, 149, 150, 151, 152, 153, 154, 155, 156, 157, 158, 159, 160, 161, 162, 163, 164, 165, 166, 167, 168, 169, 170, 171, 172, 173, 174, 175, 176, 177, 178, 179, 180, 181, 182, 183, 184, 185, 186, 187, 188, 189, 190, 191, 192, 193, 194, 195, 196, 197, 198, 199, 200, 201, 202, 203, 204, 205, 206, 207, 208, 209, 210, 211, 212, 213, 214, 215, 216, 217, 218, 219, 220, 221, 222, 223, 224, 225, 226, 227, 228, 229, 230, 231, 232, 233, 234, 235, 236, 237, 238, 239, 240, 241, 242, 243, 244, 245, 246, 247, 248, 249, 250, 251, 252, 253, 254, 255, 256, 257, 258, 259, 260, 261, 262, 263, 264, 265, 266, 267, 268, 269, 270, 271, 272, 273, 274, 275, 276, 277, 278, 279, 280, 281, 282, 283, 284, 285, 286, 287, 288, 289, 290, 291, 292, 293, 294, 295, 296, 297, 298, 299, 300, 301, 302, 303, 304, 305, 306, 307, 308, 309, 310, 311, 312, 313, 314, 315, 316, 317, 318, 319, 320, 321, 322, 323, 324, 325, 326, 327, 328, 329, 330, 331, 332, 333, 334, 335, 336, 337, 338, 339, 340, 341, 342, 343, 344, 345, 346, 347, 348, 349, 350, 351, 352, 353, 354, 355, 356, 357, 358, 359, 360, 361, 362, 363, 364, 365, 366, 367, 368, 369, 370, 371, 372, 373, 374, 375, 376, 377, 378, 379, 380, 381, 382, 383, 384, 385, 386, 387, 388, 389, 390, 391, 392, 393, 394, 395, 396, 397, 398, 399, 400, 401, 402, 403, 404, 405, 406, 407, 408, 409, 410, 411, 412, 413, 414, 415, 416, 417, 418, 419, 420, 421, 422, 423, 424, 425, 426, 427, 428, 429, 430, 431, 432, 433, 434, 435, 436, 437, 438, 439, 440, 441, 442, 443, 444, 445, 446, 447, 448, 449, 450, 451, 452, 453, 454, 455, 456, 457, 458, 459, 460, 461, 462, 463, 464, 465, 466, 467, 468, 469, 470, 471, 472, 473, 474, 475, 476, 477, 478, 479, 480, 481, 482, 483, 484, 485, 486, 487, 488, 489, 490, 491, 492, 493, 494, 495, 496, 497, 498, 499, 500, 501, 502, 503, 504, 505, 506] rfl (by decide +kernel)) (goodIn_sub (fun _ h => List.mem_cons_of_mem _ (List.mem_append_left _ (List.mem_append_left _ (List.mem_append_left _ (List.mem_append_left _ (List.mem_append_left _ (List.mem_append_left _ (List.mem_append_right _ h)))))))) (by decide +kernel))) (goodIn_sub (fun _ h => List.mem_cons_of_mem _ (List.mem_append_left _ (List.mem_append_left _ (List.mem_append_left _ (List.mem_append_left _ (List.mem_append_left _ (List.mem_append_right _ h))))))) (by decide +kernel))) (goodIn_sub (fun _ h => List.mem_cons_of_mem _ (List.mem_append_left _ (List.mem_append_left _ (List.mem_append_left _ (List.mem_append_left _ (List.mem_append_right _ h)))))) (by decide +kernel))) (goodIn_sub (fun _ h => List.mem_cons_of_mem _ (List.mem_append_left _ (List.mem_append_left _ (List.mem_append_left _ (List.mem_append_right _ h))))) (by decide +kernel))) (goodIn_sub (fun _ h => List.mem_cons_of_mem _ (List.mem_append_left _ (List.mem_append_left _ (List.mem_append_right _ h)))) (by decide +kernel))) (goodIn_sub (fun _ h => List.mem_cons_of_mem _ (List.mem_append_left _ (List.mem_append_right _ h))) (by decide +kernel))) (goodIn_sub (fun w h => List.mem_cons_of_mem _ (List.mem_append_right _ h)) (by decide +kernel))
set_option maxRecDepth 20000 in
theorem gL_map_X7_map : GoodIn wqL_map (wsV RL 25 RX7 yX7_map wqX7_map) := goodIn_app (goodIn_of _ (by decide +kernel)) ggL_map_X7_map
theorem dL_map_9 : decode cL_map 9 = .ok (.invokevirtual 25, 3) := by decide +kernel
theorem dL_map_16 : decode cL_map 16 = .ok (.astore 6, 2) := by decide +kernel
theorem dL_map_18 : decode cL_map 18 = .ok (.iconst 1, 1) := by decide +kernel
theorem dL_map_19 : decode cL_map 19 = .ok (.ireturn, 1) := by decide +kernel
theorem dL_map_20 : decode cL_map 20 = .ok (.astore 6, 2) := by decide +kernel
theorem dL_map_22 : decode cL_map 22 = .ok (.iconst 2, 1) := by decide +kernel
theorem dL_map_23 : decode cL_map 23 = .ok (.ireturn, 1) := by decide +kernel
theorem dL_map_24 : decode cL_map 24 = .ok (.astore 6, 2) := by decide +kernel
theorem dL_map_26 : decode cL_map 26 = .ok (.iconst 3, 1) := by decide +kernel
theorem dL_map_27 : decode cL_map 27 = .ok (.ireturn, 1) := by decide +kernel
theorem dL_map_28 : decode cL_map 28 = .ok (.astore 6, 2) := by decide +kernel
theorem dL_map_30 : decode cL_map 30 = .ok (.iconst 4, 1) := by decide +kernel
theorem dL_map_31 : decode cL_map 31 = .ok (.ireturn, 1) := by decide +kernel
theorem dL_map_32 : decode cL_map 32 = .ok (.astore 6, 2) := by decide +kernel
theorem dL_map_34 : decode cL_map 34 = .ok (.iconst 5, 1) := by decide +kernel
theorem dL_map_35 : decode cL_map 35 = .ok (.ireturn, 1) := by decide +kernel
theorem dL_map_12 : decode cL_map 12 = .ok (.lastore, 1) := by decide +kernel
theorem dL_map_13 : decode cL_map 13 = .ok (.goto 23, 3) := by decide +kernel
theorem dL_map_36 : decode cL_map 36 = .ok (.iconst 0, 1) := by decide +kernel
theorem dL_map_37 : decode cL_map 37 = .ok (.ireturn, 1) := by decide +kernel
theorem dL_view_0 : decode cL_view 0 = .ok (.aload 5, 2) := by decide +kernel
theorem dL_view_2 : decode cL_view 2 = .ok (.iconst 0, 1) := by decide +kernel
theorem dL_view_3 : decode cL_view 3 = .ok (.aload_n 0, 1) := by decide +kernel
theorem dL_view_4 : decode cL_view 4 = .ok (.iload_n 1, 1) := by decide +kernel
theorem dL_view_5 : decode cL_view 5 = .ok (.iload_n 2, 1) := by decide +kernel
theorem dL_view_6 : decode cL_view 6 = .ok (.iload_n 3, 1) := by decide +kernel
theorem dL_view_7 : decode cL_view 7 = .ok (.iload 4, 2) := by decide +kernel
set_option maxRecDepth 20000 in
theorem ggL_view_X7_view : GoodIn wqL_view wqX7_view := goodIn_ca (show GoodIn wqL_view wrX7_view from goodIn_ca (goodIn_ca (goodIn_ca (goodIn_r _ [9, 10, 11, 12, 13, 14, 8, 15, 16, 17, 18, 19, 20, 21, 22, 23, 24, 25, 26, 27, 28, 29, 30, 31, 32, 33, 34, 35, 36, 37, 38, 39, 40, 41, 42, 43, 44, 45, 46, 47, 48, 49, 50, 51, 52, 53, 54, 55, 56, 57, 58, 59, 60, 61, 62, 63, 64, 65, 66, 67, 68, 69, 70, 71, 72, 73, 74, 75, 76, 77, 78, 79, 80, 81, 82, 83, 84, 85, 86, 87, 88, 89, 90, 91, 92, 93, 94, 95, 96, 97, 98, 99, 100, 101, 102, 103, 104, 105, 106, 107, 108, 109, 110, 111, 112, 113, 114, 115, 116, 117, 118, 119, 120, 121, 122, 123, 124, 125, 126, 127, 128] rfl (by decide +kernel)) (goodIn_sub (fun _ h => List.mem_cons_of_mem _ (List.mem_append_left _ (List.mem_append_left _ (List.mem_append_left _ (List.mem_append_right _ h))))) (by decide +kernel))) (goodIn_sub (fun _ h => List.mem_cons_of_mem _ (List.mem_append_left _ (List.mem_append_left _ (List.mem_append_right _ h)))) (by decide +kernel))) (goodIn_sub (fun _ h => List.mem_cons_of_mem _ (List.mem_append_left _ (List.mem_append_right _ h))) (by decide +kernel))) (goodIn_sub (fun w h => List.mem_cons_of_mem _ (List.mem_append_right _ h)) (by decide +kernel))
set_option maxRecDepth 20000 in
theorem gL_view_X7_view : GoodIn wqL_view (wsV RL 33 RX7 yX7_view wqX7_view) := goodIn_app (goodIn_of _ (by decide +kernel)) ggL_view_X7_view
theorem dL_view_9 : decode cL_view 9 = .ok (.invokevirtual 33, 3) := by decide +kernel
theorem dL_view_17 : decode cL_view 17 = .ok (.astore 6, 2) := by decide +kernel
theorem dL_view_19 : decode cL_view 19 = .ok (.iconst 1, 1) := by decide +kernel
theorem dL_view_20 : decode cL_view 20 = .ok (.ireturn, 1) := by decide +kernel
theorem dL_view_21 : decode cL_view 21 = .ok (.astore 6, 2) := by decide +kernel
theorem dL_view_23 : decode cL_view 23 = .ok (.iconst 2, 1) := by decide +kernel
theorem dL_view_24 : decode cL_view 24 = .ok (.ireturn, 1) := by decide +kernel
theorem dL_view_25 : decode cL_view 25 = .ok (.astore 6, 2) := by decide +kernel
theorem dL_view_27 : decode cL_view 27 = .ok (.iconst 3, 1) := by decide +kernel
theorem dL_view_28 : decode cL_view 28 = .ok (.ireturn, 1) := by decide +kernel
theorem dL_view_29 : decode cL_view 29 = .ok (.astore 6, 2) := by decide +kernel
theorem dL_view_31 : decode cL_view 31 = .ok (.iconst 4, 1) := by decide +kernel
theorem dL_view_32 : decode cL_view 32 = .ok (.ireturn, 1) := by decide +kernel
theorem dL_view_12 : decode cL_view 12 = .ok (.i2l, 1) := by decide +kernel
theorem dL_view_13 : decode cL_view 13 = .ok (.lastore, 1) := by decide +kernel
theorem dL_view_14 : decode cL_view 14 = .ok (.goto 19, 3) := by decide +kernel
theorem dL_view_33 : decode cL_view 33 = .ok (.iconst 0, 1) := by decide +kernel
theorem dL_view_34 : decode cL_view 34 = .ok (.ireturn, 1) := by decide +kernel
theorem dL_cursor_0 : decode cL_cursor 0 = .ok (.aload_n 2, 1) := by decide +kernel
theorem dL_cursor_1 : decode cL_cursor 1 = .ok (.iconst 0, 1) := by decide +kernel
theorem dL_cursor_2 : decode cL_cursor 2 = .ok (.aload_n 0, 1) := by decide +kernel
theorem dL_cursor_3 : decode cL_cursor 3 = .ok (.iload_n 1, 1) := by decide +kernel
set_option maxRecDepth 20000 in
theorem ggL_cursor_X7_cursor : GoodIn wqL_cursor wqX7_cursor := goodIn_ca (show GoodIn wqL_cursor wrX7_cursor from goodIn_ca (goodIn_ca (goodIn_r _ [8, 9, 10, 11, 12, 13, 14, 7, 15, 16, 17, 18, 19, 20, 21, 22, 23, 24, 25, 26, 27, 28, 29, 30, 31, 32, 33, 34, 35, 36, 37, 38, 39, 40, 41, 42, 43, 44, 45, 46, 47, 48, 49, 50, 51, 52, 53, 54, 55, 56, 57, 58, 59, 60, 61, 62, 63, 64, 65, 66, 67, 68, 69, 70, 71, 72, 73, 74, 75, 76, 77, 78, 79, 80, 81, 82, 83, 84, 85, 86, 87, 88, 89, 90, 91, 92, 93] rfl (by decide +kernel)) (goodIn_sub (fun _ h => List.mem_cons_of_mem _ (List.mem_append_left _ (List.mem_append_left _ (List.mem_append_right _ h)))) (by decide +kernel))) (goodIn_sub (fun _ h => List.mem_cons_of_mem _ (List.mem_append_left _ (List.mem_append_right _ h))) (by decide +kernel))) (goodIn_sub (fun w h => List.mem_cons_of_mem _ (List.mem_append_right _ h)) (by decide +kernel))
set_option maxRecDepth 20000 in
theorem gL_cursor_X7_cursor : GoodIn wqL_cursor (wsV RL 37 RX7 yX7_cursor wqX7_cursor) := goodIn_app (goodIn_of _ (by decide +kernel)) ggL_cursor_X7_cursor
theorem dL_cursor_4 : decode cL_cursor 4 = .ok (.invokevirtual 37, 3) := by decide +kernel
theorem dL_cursor_12 : decode cL_cursor 12 = .ok (.astore_n 3, 1) := by decide +kernel
theorem dL_cursor_13 : decode cL_cursor 13 = .ok (.iconst 1, 1) := by decide +kernel
theorem dL_cursor_14 : decode cL_cursor 14 = .ok (.ireturn, 1) := by decide +kernel
theorem dL_cursor_15 : decode cL_cursor 15 = .ok (.astore_n 3, 1) := by decide +kernel
theorem dL_cursor_16 : decode cL_cursor 16 = .ok (.iconst 2, 1) := by decide +kernel
theorem dL_cursor_17 : decode cL_cursor 17 = .ok (.ireturn, 1) := by decide +kernel
theorem dL_cursor_18 : decode cL_cursor 18 = .ok (.astore_n 3, 1) := by decide +kernel
theorem dL_cursor_19 : decode cL_cursor 19 = .ok (.iconst 3, 1) := by decide +kernel
theorem dL_cursor_20 : decode cL_cursor 20 = .ok (.ireturn, 1) := by decide +kernel
theorem dL_cursor_7 : decode cL_cursor 7 = .ok (.i2l, 1) := by decide +kernel
theorem dL_cursor_8 : decode cL_cursor 8 = .ok (.lastore, 1) := by decide +kernel
theorem dL_cursor_9 : decode cL_cursor 9 = .ok (.goto 12, 3) := by decide +kernel
theorem dL_cursor_21 : decode cL_cursor 21 = .ok (.iconst 0, 1) := by decide +kernel
theorem dL_cursor_22 : decode cL_cursor 22 = .ok (.ireturn, 1) := by decide +kernel
theorem dL_move_0 : decode cL_move 0 = .ok (.aload 4, 2) := by decide +kernel
theorem dL_move_2 : decode cL_move 2 = .ok (.iconst 0, 1) := by decide +kernel
theorem dL_move_3 : decode cL_move 3 = .ok (.aload_n 0, 1) := by decide +kernel
theorem dL_move_4 : decode cL_move 4 = .ok (.iload_n 1, 1) := by decide +kernel
theorem dL_move_5 : decode cL_move 5 = .ok (.iload_n 2, 1) := by decide +kernel
theorem dL_move_6 : decode cL_move 6 = .ok (.iload_n 3, 1) := by decide +kernel
set_option maxRecDepth 20000 in
theorem ggL_move_X7_move : GoodIn wqL_move wqX7_move := goodIn_ca (show GoodIn wqL_move wrX7_move from goodIn_ca (goodIn_ca (goodIn_ca (goodIn_ca (goodIn_ca (goodIn_r _ [9, 10, 11, 12, 13, 14, 15, 16, 8, 17, 18, 19, 20, 21, 22, 23, 24, 25, 26, 27, 28, 29, 30, 31, 32, 33, 34, 35, 36, 37, 38, 39, 40, 41, 42, 43, 44, 45, 46, 47, 48, 49, 50, 51, 52, 53, 54, 55, 56, 57, 58, 59, 60, 61, 62, 63, 64, 65, 66, 67, 68, 69, 70, 71, 72, 73, 74, 75, 76, 77, 78, 79, 80, 81, 82, 83, 84, 85, 86, 87, 88, 89, 90, 91, 92, 93, 94, 95, 96, 97, 98, 99, 100, 101, 102, 103, 104, 105, 106, 107, 108, 109, 110, 111, 112, 113, 114, 115, 116, 117, 118, 119, 120, 121, 122, 123, 124, 125, 126, 127, 128, 129, 130, 131, 132, 133, 134, 135, 136, 137, 138, 139, 140, 141, 142, 143, 144, 145, 146, 147, 148, 149, 150, 151, 152, 153, 154, 155, 156, 157, 158, 159, 160, 161, 162, 163, 164, 165, 166, 167, 168, 169, 170, 171, 172, 173, 174, 175, 176, 177, 178, 179, 180, 181, 182, 183, 184, 185, 186, 187, 188, 189, 190, 191, 192, 193, 194, 195, 196, 197, 198, 199, 200, 201, 202, 203, 204, 205, 206, 207, 208, 209, 210, 211, 212, 213, 214, 215, 216, 217, 218, 219, 220, 221, 222, 223, 224, 225, 226, 227, 228, 229, 230, 231, 232, 233, 234] rfl (by decide +kernel)) (goodIn_sub (fun _ h => List.mem_cons_of_mem _ (List.mem_append_left _ (List.mem_append_left _ (List.mem_append_left _ (List.mem_append_left _ (List.mem_append_left _ (List.mem_append_right _ h))))))) (by decide +kernel))) (goodIn_sub (fun _ h => List.mem_cons_of_mem _ (List.mem_append_left _ (List.mem_append_left _ (List.mem_append_left _ (List.mem_append_left _ (List.mem_append_right _ h)))))) (by decide +kernel))) (goodIn_sub (fun _ h => List.mem_cons_of_mem _ (List.mem_append_left _ (List.mem_append_left _ (List.mem_append_left _ (List.mem_append_right _ h))))) (by decide +kernel))) (goodIn_sub (fun _ h => List.mem_cons_of_mem _ (List.mem_append_left _ (List.mem_append_left _ (List.mem_append_right _ h)))) (by decide +kernel))) (goodIn_sub (fun _ h => List.mem_cons_of_mem _ (List.mem_append_left _ (List.mem_append_right _ h))) (by decide +kernel))) (goodIn_sub (fun w h => List.mem_cons_of_mem _ (List.mem_append_right _ h)) (by decide +kernel))
set_option maxRecDepth 20000 in
theorem gL_move_X7_move : GoodIn wqL_move (wsV RL 40 RX7 yX7_move wqX7_move) := goodIn_app (goodIn_of _ (by decide +kernel)) ggL_move_X7_move
theorem dL_move_7 : decode cL_move 7 = .ok (.invokevirtual 40, 3) := by decide +kernel
theorem dL_move_14 : decode cL_move 14 = .ok (.astore 5, 2) := by decide +kernel
theorem dL_move_16 : decode cL_move 16 = .ok (.iconst 1, 1) := by decide +kernel
theorem dL_move_17 : decode cL_move 17 = .ok (.ireturn, 1) := by decide +kernel
theorem dL_move_18 : decode cL_move 18 = .ok (.astore 5, 2) := by decide +kernel
theorem dL_move_20 : decode cL_move 20 = .ok (.iconst 2, 1) := by decide +kernel
theorem dL_move_21 : decode cL_move 21 = .ok (.ireturn, 1) := by decide +kernel
theorem dL_move_22 : decode cL_move 22 = .ok (.astore 5, 2) := by decide +kernel
theorem dL_move_24 : decode cL_move 24 = .ok (.iconst 3, 1) := by decide +kernel
theorem dL_move_25 : decode cL_move 25 = .ok (.ireturn, 1) := by decide +kernel
theorem dL_move_26 : decode cL_move 26 = .ok (.astore 5, 2) := by decide +kernel
theorem dL_move_28 : decode cL_move 28 = .ok (.iconst 4, 1) := by decide +kernel
theorem dL_move_29 : decode cL_move 29 = .ok (.ireturn, 1) := by decide +kernel
theorem dL_move_10 : decode cL_move 10 = .ok (.lastore, 1) := by decide +kernel
theorem dL_move_11 : decode cL_move 11 = .ok (.goto 19, 3) := by decide +kernel
theorem dL_move_30 : decode cL_move 30 = .ok (.iconst 0, 1) := by decide +kernel
theorem dL_move_31 : decode cL_move 31 = .ok (.ireturn, 1) := by decide +kernel
theorem dL_item_0 : decode cL_item 0 = .ok (.aload 4, 2) := by decide +kernel
theorem dL_item_2 : decode cL_item 2 = .ok (.iconst 0, 1) := by decide +kernel
theorem dL_item_3 : decode cL_item 3 = .ok (.aload_n 0, 1) := by decide +kernel
theorem dL_item_4 : decode cL_item 4 = .ok (.iload_n 1, 1) := by decide +kernel
theorem dL_item_5 : decode cL_item 5 = .ok (.iload_n 2, 1) := by decide +kernel
theorem dL_item_6 : decode cL_item 6 = .ok (.iload_n 3, 1) := by decide +kernel
set_option maxRecDepth 20000 in
theorem ggL_item_X7_item : GoodIn wqL_item wqX7_item := goodIn_ca (show GoodIn wqL_item wrX7_item from goodIn_ca (goodIn_ca (goodIn_ca (goodIn_r _ [9, 10, 11, 12, 13, 14, 15, 16, 17, 8, 18, 19, 20, 21, 22, 23, 24, 25, 26, 27, 28, 29, 30, 31, 32, 33, 34, 35, 36, 37, 38, 39, 40, 41, 42, 43, 44, 45, 46, 47, 48, 49, 50, 51, 52, 53, 54, 55, 56, 57, 58, 59, 60, 61, 62, 63, 64, 65, 66, 67, 68, 69, 70, 71, 72, 73, 74, 75, 76, 77, 78, 79, 80, 81, 82, 83, 84, 85, 86, 87, 88, 89, 90, 91, 92, 93, 94, 95, 96, 97, 98, 99, 100, 101, 102, 103, 104, 105, 106, 107, 108, 109, 110, 111, 112, 113, 114, 115, 116, 117, 118, 119, 120, 121, 122, 123, 124, 125, 126, 127, 128, 129, 130, 131, 132, 133, 134, 135, 136, 137, 138] rfl (by decide +kernel)) (goodIn_sub (fun _ h => List.mem_cons_of_mem _ (List.mem_append_left _ (List.mem_append_left _ (List.mem_append_left _ (List.mem_append_right _ h))))) (by decide +kernel))) (goodIn_sub (fun _ h => List.mem_cons_of_mem _ (List.mem_append_left _ (List.mem_append_left _ (List.mem_append_right _ h)))) (by decide +kernel))) (goodIn_sub (fun _ h => List.mem_cons_of_mem _ (List.mem_append_left _ (List.mem_append_right _ h))) (by decide +kernel))) (goodIn_sub (fun w h => List.mem_cons_of_mem _ (List.mem_append_right _ h)) (by decide +kernel))
set_option maxRecDepth 20000 in
theorem gL_item_X7_item : GoodIn wqL_item (wsV RL 44 RX7 yX7_item wqX7_item) := goodIn_app (goodIn_of _ (by decide +kernel)) ggL_item_X7_item
theorem dL_item_7 : decode cL_item 7 = .ok (.invokevirtual 44, 3) := by decide +kernel
theorem dL_item_14 : decode cL_item 14 = .ok (.astore 5, 2) := by decide +kernel
theorem dL_item_16 : decode cL_item 16 = .ok (.iconst 1, 1) := by decide +kernel
theorem dL_item_17 : decode cL_item 17 = .ok (.ireturn, 1) := by decide +kernel
theorem dL_item_18 : decode cL_item 18 = .ok (.astore 5, 2) := by decide +kernel
theorem dL_item_20 : decode cL_item 20 = .ok (.iconst 2, 1) := by decide +kernel
theorem dL_item_21 : decode cL_item 21 = .ok (.ireturn, 1) := by decide +kernel
theorem dL_item_22 : decode cL_item 22 = .ok (.astore 5, 2) := by decide +kernel
theorem dL_item_24 : decode cL_item 24 = .ok (.iconst 3, 1) := by decide +kernel
theorem dL_item_25 : decode cL_item 25 = .ok (.ireturn, 1) := by decide +kernel
theorem dL_item_26 : decode cL_item 26 = .ok (.astore 5, 2) := by decide +kernel
theorem dL_item_28 : decode cL_item 28 = .ok (.iconst 4, 1) := by decide +kernel
theorem dL_item_29 : decode cL_item 29 = .ok (.ireturn, 1) := by decide +kernel
theorem dL_item_10 : decode cL_item 10 = .ok (.lastore, 1) := by decide +kernel
theorem dL_item_11 : decode cL_item 11 = .ok (.goto 19, 3) := by decide +kernel
theorem dL_item_30 : decode cL_item 30 = .ok (.iconst 0, 1) := by decide +kernel
theorem dL_item_31 : decode cL_item 31 = .ok (.ireturn, 1) := by decide +kernel
set_option maxHeartbeats 4000000 in
set_option maxRecDepth 100000 in
/-- the law's caller of count -/
theorem c_L_count (l : Launch) (hlt : l.stackTraces = false) (dC : Nat → ClassId) (dI : Nat → Nat → Nat) (sz T0 : Nat) {a0 qb : Nat} {cq : ClassId} {bq : Nat → Option Nat} {ow rx cr : Nat → Nat} {a1 a4 a8 a11 : Nat → Int32} (hF : ∃ dep : Nat → Nat, rF a1 a8 dep ∧ ∀ o : Nat, o < 16 → dep o < 17) (qo : Nat) (co : ClassId) (f0 : Nat → Int64) (p0 : Int32) : Met l yL_count wsL_count ({ frames := 9, cells := 1, slots := 6, locals := 312 }) (va_Pc [.ref a0, .int p0, .ref qo] (lPre (dC, dI) a0 qb cq bq ow rx cr a1 a4 a8 a11 qo co f0 sz T0)) (va_Qi (fun (k : Int32) (u : (Nat → Int64) × (Nat → Option Nat) × (Nat → Nat) × (Nat → Nat) × (Nat → Nat) × (Nat → Int32) × (Nat → Int32) × (Nat → Int32) × (Nat → Int32)) => u.2.2.2.2.2.1 = a1 ∧ u.2.2.2.2.2.2.1 = a4 ∧ u.2.2.2.2.2.2.2.1 = a8 ∧ u.2.2.2.2.2.2.2.2 = a11) (fun (u : (Nat → Int64) × (Nat → Option Nat) × (Nat → Nat) × (Nat → Nat) × (Nat → Nat) × (Nat → Int32) × (Nat → Int32) × (Nat → Int32) × (Nat → Int32)) (t : State) => aPostG (dC, dI) a0 qb cq ow cr sz T0 (u.2.1) (u.2.2.1) (u.2.2.2.1) (u.2.2.2.2.1) (u.2.2.2.2.2.1) (u.2.2.2.2.2.2.1) (u.2.2.2.2.2.2.2.1) (u.2.2.2.2.2.2.2.2) t ∧ va_P (dC, dI) vwCl [(qo, .inl (co, 1, .inr (.inl (u.1))))] t.heap ∧ va_K (dC, dI) vwCl [(co, .long)] t ∧ (u.2.2.1) qo = 0) (lA ow qo sz)) 1 6 (lA ow qo sz) := by
  refine va_MetW (cc := cL_count) (maxL := 4) (ret := (some .int)) (by decide) rfl ?_
  intro p e s m args below meth c s₁ B hml hv
  obtain ⟨rfl, hsz, hT0, hI, hN, hM, hZ, hP, hK, hoq⟩ := hv
  have hx := B.exec
  have hb := B.bytes
  have hr := B.returns
  have hts := atoms_spec (ws := wsL_count) B.pre
  have hown : s.vm.findClass RL = some m.cls := findClass_of_methodNamed B.named
  have hlocks := B.notSynchronized
  have htab : c.exceptionTable.toList = tableOf [(0, 9, 12, 13)] := vx_table (x := yL_count) B (show (Cond.codeWith yL_count cL_count 4 (some .int) [(0, 9, 12, 13)]).before _ s = true from hts _ List.mem_cons_self)
  subst hsz
  subst hT0
  have hbl : qo < s.heap.size := (hP 0 _ rfl).lt
  obtain ⟨A, hAe⟩ : ∃ A : Nat → Prop, A = lA ow qo s.heap.size := ⟨_, rfl⟩
  rw [← hAe] at hZ ⊢
  have hA : ∀ q : Nat, s.heap.size ≤ q → A q := fun q h => by rw [hAe]; exact Or.inl (Or.inr h)
  have hAa : ∀ q : Nat, aA ow s.heap.size q → A q := fun q h => by rw [hAe]; exact Or.inl h
  have hAo : A qo := by rw [hAe]; exact Or.inr rfl
  have hD : va_D A [(qo, .inl (co, 1, .inr (.inl f0)))] := D_one hAo
  have hS : va_S A s.heap s.heap [] := va_S.rf
  have hl := lv_entry ([.ref a0, .int p0, .ref qo]) (n := 4) (Nat.le_of_ble_eq_true rfl)
  rw [lg_entry_eq]
  generalize (lg_sl ([.ref a0, .int p0, .ref qo]) ++ List.replicate (4 - (lg_sl ([.ref a0, .int p0, .ref qo])).length) Slot.unset).toArray = ls at hl ⊢
  have hl : lv_has ls 4 [(0, .ref a0), (1, .int p0), (2, .ref qo)] := hl
  refine lv_aload_n hx hb dL_count_0 rfl (lv_at hl 2 rfl) ?_
  refine lv_iconst (v := 0) hx hb dL_count_1 (by decide) ?_
  refine lv_aload_n hx hb dL_count_2 rfl (lv_at hl 0 rfl) ?_
  refine lv_iload_n hx hb dL_count_3 rfl (lv_at hl 1 rfl) ?_
  refine vx_calli (vx_runV (As := [.int p0]) (rest := [.int 0, .ref qo]) ⟨hx, hb, hml, hown, hts⟩ (u_X7_count l hlt dC dI s.heap.size (hT s.heap) hF p0) (cwV 1 hts gL_count_X7_count rfl rfl rfl (by decide +kernel) ⟨(Nat.le_of_ble_eq_true rfl), (Nat.le_of_ble_eq_true rfl)⟩) ⟨aPre_blind, va_recv hI.2.1 hI.1 (ci := 7) (q0 := 0) rfl rfl, aPre_call hI hN hZ hAa⟩ rfl rfl hl.1 rfl (lv_room (Nat.le_of_ble_eq_true rfl)) dL_count_4 ⟨(Nat.le_of_ble_eq_true rfl), (Nat.le_of_ble_eq_true rfl)⟩) hS (fun q _ h => hAa q h) hAa (fun q _ h => hAa q h) (fun E ce q9 u9 t H1 locs ht hvm hw hB hz1 hk1 hS hce hcv hcl => ?_) (fun r ur t H1 locs ht hvm hw hB hz1 hk1 hS => ?_)
  ·
    have hP : va_P (dC, dI) vwCl [(qo, .inl (co, 1, .inr (.inl f0)))] H1 := P_kept hP (List.forall_mem_cons.mpr ⟨(fun (z : qo < _) => hk1 qo z (fun y => y.elim (fun (y : 0 < ow qo) => by omega) (fun (y : s.heap.size ≤ qo) => by omega))), fun _ h => absurd h List.not_mem_nil⟩)
    obtain ⟨hE, hI, hpos, hc1, hc2⟩ := hB
    rw [ht] at hI hc1 hc2
    have hI := aI_moved hvm.symm hI
    have hoq : u9.1 qo = 0 := by have h9 := hpos qo; omega
    subst hE
    refine tx_catch (name := "java/lang/IllegalArgumentException") hown [] ⟨0, 9, 12, 13⟩ [] (htab.trans rfl) (fun _ h => absurd h List.not_mem_nil) (by decide) (by decide) (hts (.classLink RL 13 "java/lang/IllegalArgumentException") (by decide +kernel)) (hN.xw _ (List.mem_of_getElem? (l := p_xw) (i := 2) rfl)) hce hcv hcl ?_
    clear hce
    generalize H1 = H at hP hI hS hc1 hc2 ⊢
    refine W.widen (k := 1) (n := 6) (by omega) (by omega) ?_
    refine W.eq (g2 := F0 m 12 ls [.ref q9]) rfl ?_
    refine lv_astore_n (lv' := [(3, .ref q9), (0, .ref a0), (1, .int p0), (2, .ref qo)]) hx hb dL_count_12 rfl hl (by decide) rfl (fun ls hl => ?_)
    refine lv_iconst (v := 1) hx hb dL_count_13 (by decide) ?_
    refine W.book2 (fun hz9 hn9 _ _ => ?_)
    refine W.widen (k := 1) (n := 6) (by omega) (by omega) ?_
    exact W.iret (v := 1) hx hb hr (fun t9 ht9 hW9 => ⟨⟨1, (f0, bq, u9.1, rx, u9.2, a1, a4, a8, a11), rfl, ⟨rfl, rfl, rfl, rfl⟩, ⟨by rw [ht9]; exact aI_moved hW9.alike hI, hpos, by rw [ht9]; show hT H + sumN u9.2 16 ≤ _; omega, by rw [ht9]; omega⟩, by rw [ht9]; exact hP, va_K.moved hW9.alike hK, hoq⟩, hS.F ht9⟩) hS.2.2 dL_count_14
  ·
    have hP : va_P (dC, dI) vwCl [(qo, .inl (co, 1, .inr (.inl f0)))] H1 := P_kept hP (List.forall_mem_cons.mpr ⟨(fun (z : qo < _) => hk1 qo z (fun y => y.elim (fun (y : 0 < ow qo) => by omega) (fun (y : s.heap.size ≤ qo) => by omega))), fun _ h => absurd h List.not_mem_nil⟩)
    try dsimp only at hw hB
    obtain ⟨hI, hpos, hc1, hc2⟩ := hB
    rw [ht] at hI hc1 hc2
    have hI := aI_moved hvm.symm hI
    have hoq : (ur.1) qo = 0 := by have h9 := hpos qo; omega
    have hP8 := hP
    clear hk1 hz1 ht
    refine W.widen (k := 1) (n := 6) (by omega) (by omega) ?_
    refine W.book2 (fun hz8 hn8 hz7 hn7 => ?_)
    obtain ⟨kw, ekw⟩ : ∃ z : Nat, z = H1.size - s.heap.size := ⟨_, rfl⟩
    obtain ⟨nw, enw⟩ : ∃ z : Nat, z = hT H1 - hT s.heap := ⟨_, rfl⟩
    refine W.tight (k := kw) (n := nw) (by omega) (by omega) ?_
    refine W.eq (g2 := F0 m 7 ls [.int r, .int 0, .ref qo]) rfl ?_
    refine lv_i2l (v := r.toInt64) hx hb dL_count_7 rfl ?_
    refine tx_last (i := 0) hx hb hK hP hD hS 0 0 rfl rfl (by unfold vp_in; decide) dL_count_8 (fun H locs hP hD hS hoo => ?_)
    have hI : aI (dC, dI) s H a0 qb cq bq ur.1 rx ur.2 a1 a4 a8 a11 := aI_kept hI (fun q z1 z2 => hoo q (fun z => by rw [z] at z2; omega))
    replace hP : va_P (dC, dI) vwCl [(qo, .inl (co, 1, .inr (.inl (vp_updL f0 (0 : Int32).toNatClampNeg r.toInt64))))] H := hP
    refine lv_goto (tgt := 15) hx hb dL_count_9 (by decide) ?_
    refine lv_iconst (v := 0) hx hb dL_count_15 (by decide) ?_
    refine W.book2 (fun hz9 hn9 _ _ => ?_)
    refine W.widen (k := 1) (n := 6) (by omega) (by omega) ?_
    exact W.iret (v := 0) hx hb hr (fun t9 ht9 hW9 => ⟨⟨0, ((vp_updL f0 (0 : Int32).toNatClampNeg r.toInt64), bq, ur.1, rx, ur.2, a1, a4, a8, a11), rfl, ⟨rfl, rfl, rfl, rfl⟩, ⟨by rw [ht9]; exact aI_moved hW9.alike hI, hpos, by rw [ht9]; show hT H + sumN ur.2 16 ≤ _; omega, by rw [ht9]; omega⟩, by rw [ht9]; exact hP, va_K.moved hW9.alike hK, hoq⟩, hS.F ht9⟩) hS.2.2 dL_count_16
set_option maxHeartbeats 4000000 in
set_option maxRecDepth 100000 in
/-- the law's caller of make -/
theorem c_L_make (l : Launch) (hlt : l.stackTraces = false) (dC : Nat → ClassId) (dI : Nat → Nat → Nat) (sz T0 : Nat) {a0 qb : Nat} {cq : ClassId} {bq : Nat → Option Nat} {ow rx cr : Nat → Nat} {a1 a4 a8 a11 : Nat → Int32} (hF : ∃ dep : Nat → Nat, rF a1 a8 dep ∧ ∀ o : Nat, o < 16 → dep o < 17) (qo : Nat) (co : ClassId) (f0 : Nat → Int64) (p0 : Int32) (p1 : Int32) (p2 : Int32) : Met l yL_make wuL_make ({ frames := 8, cells := 6, slots := 49, locals := 172 }) (va_Pc [.ref a0, .int p0, .int p1, .int p2, .ref qo] (lPre (dC, dI) a0 qb cq bq ow rx cr a1 a4 a8 a11 qo co f0 sz T0)) (va_Qi (fun (k : Int32) (u : (Nat → Int64) × (Nat → Option Nat) × (Nat → Nat) × (Nat → Nat) × (Nat → Nat) × (Nat → Int32) × (Nat → Int32) × (Nat → Int32) × (Nat → Int32)) => ∃ xx : Nat, mkR a1 p0 p1 p2 k xx ∧ (k = 0 → u.1 0 = (nI xx).toInt64 ∧ u.2.2.2.2.2.1 = upd a1 xx (p0 + 1) ∧ u.2.2.2.2.2.2.1 = upd a4 xx p1 ∧ u.2.2.2.2.2.2.2.1 = upd a8 xx (-1) ∧ u.2.2.2.2.2.2.2.2 = a11) ∧ (¬ k = 0 → u.2.2.2.2.2.1 = a1 ∧ u.2.2.2.2.2.2.1 = a4 ∧ u.2.2.2.2.2.2.2.1 = a8 ∧ u.2.2.2.2.2.2.2.2 = a11)) (fun (u : (Nat → Int64) × (Nat → Option Nat) × (Nat → Nat) × (Nat → Nat) × (Nat → Nat) × (Nat → Int32) × (Nat → Int32) × (Nat → Int32) × (Nat → Int32)) (t : State) => aPostG (dC, dI) a0 qb cq ow cr sz T0 (u.2.1) (u.2.2.1) (u.2.2.2.1) (u.2.2.2.2.1) (u.2.2.2.2.2.1) (u.2.2.2.2.2.2.1) (u.2.2.2.2.2.2.2.1) (u.2.2.2.2.2.2.2.2) t ∧ va_P (dC, dI) vwCl [(qo, .inl (co, 1, .inr (.inl (u.1))))] t.heap ∧ va_K (dC, dI) vwCl [(co, .long)] t ∧ (u.2.2.1) qo = 0) (lA ow qo sz)) 6 49 (lA ow qo sz) := by
  refine va_MetW (cc := cL_make) (maxL := 6) (ret := (some .int)) (by decide) rfl ?_
  intro p e s m args below meth c s₁ B hml hv
  obtain ⟨rfl, hsz, hT0, hI, hN, hM, hZ, hP, hK, hoq⟩ := hv
  have hx := B.exec
  have hb := B.bytes
  have hr := B.returns
  have hts := atoms_spec (ws := wuL_make) B.pre
  have hown : s.vm.findClass RL = some m.cls := findClass_of_methodNamed B.named
  have hlocks := B.notSynchronized
  have htab : c.exceptionTable.toList = tableOf [(0, 12, 15, 13), (0, 12, 19, 15), (0, 12, 23, 17)] := vx_table (x := yL_make) B (show (Cond.codeWith yL_make cL_make 6 (some .int) [(0, 12, 15, 13), (0, 12, 19, 15), (0, 12, 23, 17)]).before _ s = true from hts _ List.mem_cons_self)
  subst hsz
  subst hT0
  have hbl : qo < s.heap.size := (hP 0 _ rfl).lt
  obtain ⟨A, hAe⟩ : ∃ A : Nat → Prop, A = lA ow qo s.heap.size := ⟨_, rfl⟩
  rw [← hAe] at hZ ⊢
  have hA : ∀ q : Nat, s.heap.size ≤ q → A q := fun q h => by rw [hAe]; exact Or.inl (Or.inr h)
  have hAa : ∀ q : Nat, aA ow s.heap.size q → A q := fun q h => by rw [hAe]; exact Or.inl h
  have hAo : A qo := by rw [hAe]; exact Or.inr rfl
  have hD : va_D A [(qo, .inl (co, 1, .inr (.inl f0)))] := D_one hAo
  have hS : va_S A s.heap s.heap [] := va_S.rf
  have hl := lv_entry ([.ref a0, .int p0, .int p1, .int p2, .ref qo]) (n := 6) (Nat.le_of_ble_eq_true rfl)
  rw [lg_entry_eq]
  generalize (lg_sl ([.ref a0, .int p0, .int p1, .int p2, .ref qo]) ++ List.replicate (6 - (lg_sl ([.ref a0, .int p0, .int p1, .int p2, .ref qo])).length) Slot.unset).toArray = ls at hl ⊢
  have hl : lv_has ls 6 [(0, .ref a0), (1, .int p0), (2, .int p1), (3, .int p2), (4, .ref qo)] := hl
  refine lv_aload hx hb dL_make_0 (lv_at hl 4 rfl) ?_
  refine lv_iconst (v := 0) hx hb dL_make_2 (by decide) ?_
  refine lv_aload_n hx hb dL_make_3 rfl (lv_at hl 0 rfl) ?_
  refine lv_iload_n hx hb dL_make_4 rfl (lv_at hl 1 rfl) ?_
  refine lv_iload_n hx hb dL_make_5 rfl (lv_at hl 2 rfl) ?_
  refine lv_iload_n hx hb dL_make_6 rfl (lv_at hl 3 rfl) ?_
  refine vx_calli (vx_runV (As := [.int p0, .int p1, .int p2]) (rest := [.int 0, .ref qo]) ⟨hx, hb, hml, hown, hts⟩ (u_X7_make l hlt dC dI s.heap.size (hT s.heap) hF p0 p1 p2) (cwV 3 hts gL_make_X7_make rfl rfl rfl (by decide +kernel) ⟨(Nat.le_of_ble_eq_true rfl), (Nat.le_of_ble_eq_true rfl)⟩) ⟨aPre_blind, va_recv hI.2.1 hI.1 (ci := 7) (q0 := 0) rfl rfl, aPre_call hI hN hZ hAa⟩ rfl rfl hl.1 rfl (lv_room (Nat.le_of_ble_eq_true rfl)) dL_make_7 ⟨(Nat.le_of_ble_eq_true rfl), (Nat.le_of_ble_eq_true rfl)⟩) hS (fun q _ h => hAa q h) hAa (fun q _ h => hAa q h) (fun E ce q9 u9 t H1 locs ht hvm hw hB hz1 hk1 hS hce hcv hcl => ?_) (fun r ur t H1 locs ht hvm hw hB hz1 hk1 hS => ?_)
  ·
    have hP : va_P (dC, dI) vwCl [(qo, .inl (co, 1, .inr (.inl f0)))] H1 := P_kept hP (List.forall_mem_cons.mpr ⟨(fun (z : qo < _) => hk1 qo z (fun y => y.elim (fun (y : 0 < ow qo) => by omega) (fun (y : s.heap.size ≤ qo) => by omega))), fun _ h => absurd h List.not_mem_nil⟩)
    obtain ⟨hE, hI, hpos, hc1, hc2⟩ := hB
    rw [ht] at hI hc1 hc2
    have hI := aI_moved hvm.symm hI
    have hoq : u9.1 qo = 0 := by have h9 := hpos qo; omega
    rcases hE with ⟨hE, hcx⟩ | ⟨hE, hcx⟩ | ⟨hE, hcx⟩
    ·
      subst hE
      refine tx_catch (name := "java/lang/IllegalArgumentException") hown [] ⟨0, 12, 15, 13⟩ [⟨0, 12, 19, 15⟩, ⟨0, 12, 23, 17⟩] (htab.trans rfl) (fun _ h => absurd h List.not_mem_nil) (by decide) (by decide) (hts (.classLink RL 13 "java/lang/IllegalArgumentException") (by decide +kernel)) (hN.xw _ (List.mem_of_getElem? (l := p_xw) (i := 2) rfl)) hce hcv hcl ?_
      clear hce
      generalize H1 = H at hP hI hS hc1 hc2 ⊢
      refine W.widen (k := 6) (n := 49) (by omega) (by omega) ?_
      refine W.eq (g2 := F0 m 15 ls [.ref q9]) rfl ?_
      refine lv_astore (lv' := [(5, .ref q9), (0, .ref a0), (1, .int p0), (2, .int p1), (3, .int p2), (4, .ref qo)]) hx hb dL_make_15 hl (by decide) rfl (fun ls hl => ?_)
      refine lv_iconst (v := 1) hx hb dL_make_17 (by decide) ?_
      refine W.book2 (fun hz9 hn9 _ _ => ?_)
      refine W.widen (k := 6) (n := 49) (by omega) (by omega) ?_
      exact W.iret (v := 1) hx hb hr (fun t9 ht9 hW9 => ⟨⟨1, (f0, bq, u9.1, rx, u9.2, a1, a4, a8, a11), rfl, ⟨0, hcx, fun h => absurd h (by decide), fun _ => ⟨rfl, rfl, rfl, rfl⟩⟩, ⟨by rw [ht9]; exact aI_moved hW9.alike hI, hpos, by rw [ht9]; show hT H + sumN u9.2 16 ≤ _; omega, by rw [ht9]; omega⟩, by rw [ht9]; exact hP, va_K.moved hW9.alike hK, hoq⟩, hS.F ht9⟩) hS.2.2 dL_make_18
    ·
      subst hE
      refine tx_catch (name := "java/lang/IllegalStateException") hown [⟨0, 12, 15, 13⟩] ⟨0, 12, 19, 15⟩ [⟨0, 12, 23, 17⟩] (htab.trans rfl) (List.forall_mem_cons.mpr ⟨Or.inr ⟨by decide, "java/lang/IllegalArgumentException", hts (.classLink RL 13 "java/lang/IllegalArgumentException") (by decide +kernel), hM _ (List.mem_of_getElem? (l := p_nx) (i := 5) rfl)⟩, fun _ h => absurd h List.not_mem_nil⟩) (by decide) (by decide) (hts (.classLink RL 15 "java/lang/IllegalStateException") (by decide +kernel)) (hN.xw _ (List.mem_of_getElem? (l := p_xw) (i := 5) rfl)) hce hcv hcl ?_
      clear hce
      generalize H1 = H at hP hI hS hc1 hc2 ⊢
      refine W.widen (k := 6) (n := 49) (by omega) (by omega) ?_
      refine W.eq (g2 := F0 m 19 ls [.ref q9]) rfl ?_
      refine lv_astore (lv' := [(5, .ref q9), (0, .ref a0), (1, .int p0), (2, .int p1), (3, .int p2), (4, .ref qo)]) hx hb dL_make_19 hl (by decide) rfl (fun ls hl => ?_)
      refine lv_iconst (v := 2) hx hb dL_make_21 (by decide) ?_
      refine W.book2 (fun hz9 hn9 _ _ => ?_)
      refine W.widen (k := 6) (n := 49) (by omega) (by omega) ?_
      exact W.iret (v := 2) hx hb hr (fun t9 ht9 hW9 => ⟨⟨2, (f0, bq, u9.1, rx, u9.2, a1, a4, a8, a11), rfl, ⟨0, hcx, fun h => absurd h (by decide), fun _ => ⟨rfl, rfl, rfl, rfl⟩⟩, ⟨by rw [ht9]; exact aI_moved hW9.alike hI, hpos, by rw [ht9]; show hT H + sumN u9.2 16 ≤ _; omega, by rw [ht9]; omega⟩, by rw [ht9]; exact hP, va_K.moved hW9.alike hK, hoq⟩, hS.F ht9⟩) hS.2.2 dL_make_22
    ·
      subst hE
      refine tx_catch (name := "java/lang/NegativeArraySizeException") hown [⟨0, 12, 15, 13⟩, ⟨0, 12, 19, 15⟩] ⟨0, 12, 23, 17⟩ [] (htab.trans rfl) (List.forall_mem_cons.mpr ⟨Or.inr ⟨by decide, "java/lang/IllegalArgumentException", hts (.classLink RL 13 "java/lang/IllegalArgumentException") (by decide +kernel), hM _ (List.mem_of_getElem? (l := p_nx) (i := 13) rfl)⟩, List.forall_mem_cons.mpr ⟨Or.inr ⟨by decide, "java/lang/IllegalStateException", hts (.classLink RL 15 "java/lang/IllegalStateException") (by decide +kernel), hM _ (List.mem_of_getElem? (l := p_nx) (i := 14) rfl)⟩, fun _ h => absurd h List.not_mem_nil⟩⟩) (by decide) (by decide) (hts (.classLink RL 17 "java/lang/NegativeArraySizeException") (by decide +kernel)) (hN.xw _ (List.mem_of_getElem? (l := p_xw) (i := 3) rfl)) hce hcv hcl ?_
      clear hce
      generalize H1 = H at hP hI hS hc1 hc2 ⊢
      refine W.widen (k := 6) (n := 49) (by omega) (by omega) ?_
      refine W.eq (g2 := F0 m 23 ls [.ref q9]) rfl ?_
      refine lv_astore (lv' := [(5, .ref q9), (0, .ref a0), (1, .int p0), (2, .int p1), (3, .int p2), (4, .ref qo)]) hx hb dL_make_23 hl (by decide) rfl (fun ls hl => ?_)
      refine lv_iconst (v := 3) hx hb dL_make_25 (by decide) ?_
      refine W.book2 (fun hz9 hn9 _ _ => ?_)
      refine W.widen (k := 6) (n := 49) (by omega) (by omega) ?_
      exact W.iret (v := 3) hx hb hr (fun t9 ht9 hW9 => ⟨⟨3, (f0, bq, u9.1, rx, u9.2, a1, a4, a8, a11), rfl, ⟨0, hcx, fun h => absurd h (by decide), fun _ => ⟨rfl, rfl, rfl, rfl⟩⟩, ⟨by rw [ht9]; exact aI_moved hW9.alike hI, hpos, by rw [ht9]; show hT H + sumN u9.2 16 ≤ _; omega, by rw [ht9]; omega⟩, by rw [ht9]; exact hP, va_K.moved hW9.alike hK, hoq⟩, hS.F ht9⟩) hS.2.2 dL_make_26
  ·
    have hP : va_P (dC, dI) vwCl [(qo, .inl (co, 1, .inr (.inl f0)))] H1 := P_kept hP (List.forall_mem_cons.mpr ⟨(fun (z : qo < _) => hk1 qo z (fun y => y.elim (fun (y : 0 < ow qo) => by omega) (fun (y : s.heap.size ≤ qo) => by omega))), fun _ h => absurd h List.not_mem_nil⟩)
    try dsimp only at hw hB
    obtain ⟨hI, hpos, hc1, hc2⟩ := hB
    rw [ht] at hI hc1 hc2
    have hI := aI_moved hvm.symm hI
    have hoq : (ur.2.2.1) qo = 0 := by have h9 := hpos qo; omega
    have hP8 := hP
    clear hk1 hz1 ht
    refine W.widen (k := 6) (n := 49) (by omega) (by omega) ?_
    refine W.book2 (fun hz8 hn8 hz7 hn7 => ?_)
    obtain ⟨kw, ekw⟩ : ∃ z : Nat, z = H1.size - s.heap.size := ⟨_, rfl⟩
    obtain ⟨nw, enw⟩ : ∃ z : Nat, z = hT H1 - hT s.heap := ⟨_, rfl⟩
    refine W.tight (k := kw) (n := nw) (by omega) (by omega) ?_
    refine W.eq (g2 := F0 m 10 ls [.int r, .int 0, .ref qo]) rfl ?_
    refine lv_i2l (v := r.toInt64) hx hb dL_make_10 rfl ?_
    refine tx_last (i := 0) hx hb hK hP hD hS 0 0 rfl rfl (by unfold vp_in; decide) dL_make_11 (fun H locs hP hD hS hoo => ?_)
    have hI : aI (dC, dI) s H a0 qb cq ur.2.1 ur.2.2.1 ur.2.2.2.1 ur.2.2.2.2 (upd a1 ur.1 (p0 + 1)) (upd a4 ur.1 p1) (upd a8 ur.1 (-1)) a11 := aI_kept hI (fun q z1 z2 => hoo q (fun z => by rw [z] at z2; omega))
    replace hP : va_P (dC, dI) vwCl [(qo, .inl (co, 1, .inr (.inl (vp_updL f0 (0 : Int32).toNatClampNeg r.toInt64))))] H := hP
    refine lv_goto (tgt := 27) hx hb dL_make_12 (by decide) ?_
    refine lv_iconst (v := 0) hx hb dL_make_27 (by decide) ?_
    refine W.book2 (fun hz9 hn9 _ _ => ?_)
    refine W.widen (k := 6) (n := 49) (by omega) (by omega) ?_
    exact W.iret (v := 0) hx hb hr (fun t9 ht9 hW9 => ⟨⟨0, ((vp_updL f0 (0 : Int32).toNatClampNeg r.toInt64), ur.2.1, ur.2.2.1, ur.2.2.2.1, ur.2.2.2.2, (upd a1 ur.1 (p0 + 1)), (upd a4 ur.1 p1), (upd a8 ur.1 (-1)), a11), rfl, ⟨ur.1, hw.2, fun _ => ⟨(up_0 (f := f0) (x := r.toInt64)).trans (congrArg Int32.toInt64 hw.1), rfl, rfl, rfl, rfl⟩, fun h => absurd rfl h⟩, ⟨by rw [ht9]; exact aI_moved hW9.alike hI, hpos, by rw [ht9]; show hT H + sumN ur.2.2.2.2 16 ≤ _; omega, by rw [ht9]; omega⟩, by rw [ht9]; exact hP, va_K.moved hW9.alike hK, hoq⟩, hS.F ht9⟩) hS.2.2 dL_make_28
set_option maxHeartbeats 4000000 in
set_option maxRecDepth 100000 in
/-- the law's caller of drop -/
theorem c_L_drop (l : Launch) (hlt : l.stackTraces = false) (dC : Nat → ClassId) (dI : Nat → Nat → Nat) (sz T0 : Nat) {a0 qb : Nat} {cq : ClassId} {bq : Nat → Option Nat} {ow rx cr : Nat → Nat} {a1 a4 a8 a11 : Nat → Int32} (hF : ∃ dep : Nat → Nat, rF a1 a8 dep ∧ ∀ o : Nat, o < 16 → dep o < 17) (qo : Nat) (co : ClassId) (f0 : Nat → Int64) (p0 : Int32) : Met l yL_drop wqL_drop ({ frames := 8, cells := 2, slots := 22, locals := 172 }) (va_Pc [.ref a0, .int p0, .ref qo] (lPre (dC, dI) a0 qb cq bq ow rx cr a1 a4 a8 a11 qo co f0 sz T0)) (va_Qi (fun (k : Int32) (u : (Nat → Int64) × (Nat → Option Nat) × (Nat → Nat) × (Nat → Nat) × (Nat → Nat) × (Nat → Int32) × (Nat → Int32) × (Nat → Int32) × (Nat → Int32)) => (k = 1 ∧ ∀ o : Nat, o < 16 → p0 = nI o → (a1 o).toInt = 0) ∨ (k = 0 ∧ ∃ o : Nat, o < 16 ∧ p0 = nI o ∧ ¬ (a1 o).toInt = 0 ∧ u.1 0 = (nI (1 + cntN (dgB a1 a8 o) 16)).toInt64)) (fun (u : (Nat → Int64) × (Nat → Option Nat) × (Nat → Nat) × (Nat → Nat) × (Nat → Nat) × (Nat → Int32) × (Nat → Int32) × (Nat → Int32) × (Nat → Int32)) (t : State) => (∀ b : Nat → Int32, dq a1 a8 p0 b → aI (dC, dI) t t.heap a0 qb cq (u.2.1) (u.2.2.1) (u.2.2.2.1) (u.2.2.2.2.1) b a4 a8 a11) ∧ (∀ q : Nat, 0 < (u.2.2.1) q → 0 < ow q ∨ sz ≤ q) ∧ hT t.heap + sumN (u.2.2.2.2.1) 16 ≤ T0 + sumN cr 16 + 12700 ∧ t.heap.size ≤ sz + 150 ∧ va_P (dC, dI) vwCl [(qo, .inl (co, 1, .inr (.inl (u.1))))] t.heap ∧ va_K (dC, dI) vwCl [(co, .long)] t ∧ (u.2.2.1) qo = 0) (lA ow qo sz)) 2 22 (lA ow qo sz) := by
  refine va_MetW (cc := cL_drop) (maxL := 4) (ret := (some .int)) (by decide) rfl ?_
  intro p e s m args below meth c s₁ B hml hv
  obtain ⟨rfl, hsz, hT0, hI, hN, hM, hZ, hP, hK, hoq⟩ := hv
  have hx := B.exec
  have hb := B.bytes
  have hr := B.returns
  have hts := atoms_spec (ws := wqL_drop) B.pre
  have hown : s.vm.findClass RL = some m.cls := findClass_of_methodNamed B.named
  have hlocks := B.notSynchronized
  have htab : c.exceptionTable.toList = tableOf [(0, 9, 12, 23)] := vx_table (x := yL_drop) B (show (Cond.codeWith yL_drop cL_drop 4 (some .int) [(0, 9, 12, 23)]).before _ s = true from hts _ List.mem_cons_self)
  subst hsz
  subst hT0
  have hbl : qo < s.heap.size := (hP 0 _ rfl).lt
  obtain ⟨A, hAe⟩ : ∃ A : Nat → Prop, A = lA ow qo s.heap.size := ⟨_, rfl⟩
  rw [← hAe] at hZ ⊢
  have hA : ∀ q : Nat, s.heap.size ≤ q → A q := fun q h => by rw [hAe]; exact Or.inl (Or.inr h)
  have hAa : ∀ q : Nat, aA ow s.heap.size q → A q := fun q h => by rw [hAe]; exact Or.inl h
  have hAo : A qo := by rw [hAe]; exact Or.inr rfl
  have hD : va_D A [(qo, .inl (co, 1, .inr (.inl f0)))] := D_one hAo
  have hS : va_S A s.heap s.heap [] := va_S.rf
  have hl := lv_entry ([.ref a0, .int p0, .ref qo]) (n := 4) (Nat.le_of_ble_eq_true rfl)
  rw [lg_entry_eq]
  generalize (lg_sl ([.ref a0, .int p0, .ref qo]) ++ List.replicate (4 - (lg_sl ([.ref a0, .int p0, .ref qo])).length) Slot.unset).toArray = ls at hl ⊢
  have hl : lv_has ls 4 [(0, .ref a0), (1, .int p0), (2, .ref qo)] := hl
  refine lv_aload_n hx hb dL_drop_0 rfl (lv_at hl 2 rfl) ?_
  refine lv_iconst (v := 0) hx hb dL_drop_1 (by decide) ?_
  refine lv_aload_n hx hb dL_drop_2 rfl (lv_at hl 0 rfl) ?_
  refine lv_iload_n hx hb dL_drop_3 rfl (lv_at hl 1 rfl) ?_
  refine vx_calli (vx_runV (As := [.int p0]) (rest := [.int 0, .ref qo]) ⟨hx, hb, hml, hown, hts⟩ (u_X7_drop l hlt dC dI s.heap.size (hT s.heap) hF p0) (cwV 1 hts gL_drop_X7_drop rfl rfl rfl (by decide +kernel) ⟨(Nat.le_of_ble_eq_true rfl), (Nat.le_of_ble_eq_true rfl)⟩) ⟨aPre_blind, va_recv hI.2.1 hI.1 (ci := 7) (q0 := 0) rfl rfl, aPre_call hI hN hZ hAa⟩ rfl rfl hl.1 rfl (lv_room (Nat.le_of_ble_eq_true rfl)) dL_drop_4 ⟨(Nat.le_of_ble_eq_true rfl), (Nat.le_of_ble_eq_true rfl)⟩) hS (fun q _ h => hAa q h) hAa (fun q _ h => hAa q h) (fun E ce q9 u9 t H1 locs ht hvm hw hB hz1 hk1 hS hce hcv hcl => ?_) (fun r ur t H1 locs ht hvm hw hB hz1 hk1 hS => ?_)
  ·
    have hP : va_P (dC, dI) vwCl [(qo, .inl (co, 1, .inr (.inl f0)))] H1 := P_kept hP (List.forall_mem_cons.mpr ⟨(fun (z : qo < _) => hk1 qo z (fun y => y.elim (fun (y : 0 < ow qo) => by omega) (fun (y : s.heap.size ≤ qo) => by omega))), fun _ h => absurd h List.not_mem_nil⟩)
    obtain ⟨hE, hI, hpos, hc1, hc2⟩ := hB
    rw [ht] at hI hc1 hc2
    have hI := aI_moved hvm.symm hI
    have hoq : u9.1 qo = 0 := by have h9 := hpos qo; omega
    obtain ⟨hE, hcx⟩ := hE
    subst hE
    refine tx_catch (name := "java/util/NoSuchElementException") hown [] ⟨0, 9, 12, 23⟩ [] (htab.trans rfl) (fun _ h => absurd h List.not_mem_nil) (by decide) (by decide) (hts (.classLink RL 23 "java/util/NoSuchElementException") (by decide +kernel)) (hN.xw _ (List.mem_of_getElem? (l := p_xw) (i := 4) rfl)) hce hcv hcl ?_
    clear hce
    generalize H1 = H at hP hI hS hc1 hc2 ⊢
    have hG : ∀ b : Nat → Int32, dq a1 a8 p0 b → aI (dC, dI) s H a0 qb cq bq u9.1 rx u9.2 b a4 a8 a11 := fun b hd => hd.elim (fun ⟨o, h1, h2, h3, _⟩ => absurd (hcx o h1 h2) h3) (fun z => by rw [z.1]; exact hI)
    refine W.widen (k := 2) (n := 22) (by omega) (by omega) ?_
    refine W.eq (g2 := F0 m 12 ls [.ref q9]) rfl ?_
    refine lv_astore_n (lv' := [(3, .ref q9), (0, .ref a0), (1, .int p0), (2, .ref qo)]) hx hb dL_drop_12 rfl hl (by decide) rfl (fun ls hl => ?_)
    refine lv_iconst (v := 1) hx hb dL_drop_13 (by decide) ?_
    refine W.book2 (fun hz9 hn9 _ _ => ?_)
    refine W.widen (k := 2) (n := 22) (by omega) (by omega) ?_
    exact W.iret (v := 1) hx hb hr (fun t9 ht9 hW9 => ⟨⟨1, (f0, bq, u9.1, rx, u9.2, a1, a4, a8, a11), rfl, Or.inl ⟨rfl, hcx⟩, fun b hb9 => by rw [ht9]; exact aI_moved hW9.alike (hG b hb9), hpos, by rw [ht9]; show hT H + sumN u9.2 16 ≤ _; omega, by rw [ht9]; omega, by rw [ht9]; exact hP, va_K.moved hW9.alike hK, hoq⟩, hS.F ht9⟩) hS.2.2 dL_drop_14
  ·
    have hP : va_P (dC, dI) vwCl [(qo, .inl (co, 1, .inr (.inl f0)))] H1 := P_kept hP (List.forall_mem_cons.mpr ⟨(fun (z : qo < _) => hk1 qo z (fun y => y.elim (fun (y : 0 < ow qo) => by omega) (fun (y : s.heap.size ≤ qo) => by omega))), fun _ h => absurd h List.not_mem_nil⟩)
    try dsimp only at hw hB
    obtain ⟨ho0, ho1, ho2, ho3⟩ := id hw
    have hG : ∀ b : Nat → Int32, dq a1 a8 p0 b → aI (dC, dI) s H1 a0 qb cq ur.2 ow rx cr b a4 a8 a11 := fun b hd => hd.elim (fun ⟨o, h1, h2, h3, h4⟩ => by obtain rfl : ur.1 = o := (nI_eq (by omega) (by omega)).mp (ho2.symm.trans h2); have h9 := (hB b h4).1; rw [ht] at h9; exact aI_moved hvm.symm h9) (fun z => absurd (z.2 _ ho1 ho2) ho3)
    obtain ⟨hI, hpos, hc1, hc2⟩ := hB (fun j => if j = ur.1 ∨ dgB a1 a8 ur.1 j = true then 0 else a1 j) (fun _ _ => rfl)
    rw [ht] at hI hc1 hc2
    have hI := aI_moved hvm.symm hI
    have hoq : (ow) qo = 0 := by have h9 := hpos qo; omega
    have hP8 := hP
    clear hk1 hz1 ht
    refine W.widen (k := 2) (n := 22) (by omega) (by omega) ?_
    refine W.book2 (fun hz8 hn8 hz7 hn7 => ?_)
    obtain ⟨kw, ekw⟩ : ∃ z : Nat, z = H1.size - s.heap.size := ⟨_, rfl⟩
    obtain ⟨nw, enw⟩ : ∃ z : Nat, z = hT H1 - hT s.heap := ⟨_, rfl⟩
    refine W.tight (k := kw) (n := nw) (by omega) (by omega) ?_
    refine W.eq (g2 := F0 m 7 ls [.int r, .int 0, .ref qo]) rfl ?_
    refine lv_i2l (v := r.toInt64) hx hb dL_drop_7 rfl ?_
    refine tx_last (i := 0) hx hb hK hP hD hS 0 0 rfl rfl (by unfold vp_in; decide) dL_drop_8 (fun H locs hP hD hS hoo => ?_)
    have hI : aI (dC, dI) s H a0 qb cq ur.2 ow rx cr (fun j => if j = ur.1 ∨ dgB a1 a8 ur.1 j = true then 0 else a1 j) a4 a8 a11 := aI_kept hI (fun q z1 z2 => hoo q (fun z => by rw [z] at z2; omega))
    have hG : ∀ b : Nat → Int32, dq a1 a8 p0 b → aI (dC, dI) s H a0 qb cq ur.2 ow rx cr b a4 a8 a11 := fun b hd => aI_kept (hG b hd) (fun q z1 z2 => hoo q (fun z => by rw [z] at z2; omega))
    replace hP : va_P (dC, dI) vwCl [(qo, .inl (co, 1, .inr (.inl (vp_updL f0 (0 : Int32).toNatClampNeg r.toInt64))))] H := hP
    refine lv_goto (tgt := 15) hx hb dL_drop_9 (by decide) ?_
    refine lv_iconst (v := 0) hx hb dL_drop_15 (by decide) ?_
    refine W.book2 (fun hz9 hn9 _ _ => ?_)
    refine W.widen (k := 2) (n := 22) (by omega) (by omega) ?_
    exact W.iret (v := 0) hx hb hr (fun t9 ht9 hW9 => ⟨⟨0, ((vp_updL f0 (0 : Int32).toNatClampNeg r.toInt64), ur.2, ow, rx, cr, (fun j => if j = ur.1 ∨ dgB a1 a8 ur.1 j = true then 0 else a1 j), a4, a8, a11), rfl, Or.inr ⟨rfl, ur.1, ho1, ho2, ho3, (up_0 (f := f0) (x := r.toInt64)).trans (congrArg Int32.toInt64 ho0)⟩, fun b hb9 => by rw [ht9]; exact aI_moved hW9.alike (hG b hb9), hpos, by rw [ht9]; show hT H + sumN cr 16 ≤ _; omega, by rw [ht9]; omega, by rw [ht9]; exact hP, va_K.moved hW9.alike hK, hoq⟩, hS.F ht9⟩) hS.2.2 dL_drop_16
set_option maxHeartbeats 4000000 in
set_option maxRecDepth 100000 in
/-- the law's caller of map -/
theorem c_L_map (l : Launch) (hlt : l.stackTraces = false) (dC : Nat → ClassId) (dI : Nat → Nat → Nat) (sz T0 : Nat) {a0 qb : Nat} {cq : ClassId} {bq : Nat → Option Nat} {ow rx cr : Nat → Nat} {a1 a4 a8 a11 : Nat → Int32} (hF : ∃ dep : Nat → Nat, rF a1 a8 dep ∧ ∀ o : Nat, o < 16 → dep o < 17) (qo : Nat) (co : ClassId) (f0 : Nat → Int64) (p0 : Int32) (p1 : Int32) (p2 : Int32) (p3 : Int32) : Met l yL_map wqL_map ({ frames := 10, cells := 130, slots := 53000, locals := 432 }) (va_Pc [.ref a0, .int p0, .int p1, .int p2, .int p3, .ref qo] (lPre (dC, dI) a0 qb cq bq ow rx cr a1 a4 a8 a11 qo co f0 sz T0)) (va_Qi (fun (k : Int32) (u : (Nat → Int64) × (Nat → Option Nat) × (Nat → Nat) × (Nat → Nat) × (Nat → Nat) × (Nat → Int32) × (Nat → Int32) × (Nat → Int32) × (Nat → Int32)) => u.2.2.2.2.2.1 = a1 ∧ u.2.2.2.2.2.2.1 = a4 ∧ u.2.2.2.2.2.2.2.1 = a8 ∧ u.2.2.2.2.2.2.2.2 = a11) (fun (u : (Nat → Int64) × (Nat → Option Nat) × (Nat → Nat) × (Nat → Nat) × (Nat → Nat) × (Nat → Int32) × (Nat → Int32) × (Nat → Int32) × (Nat → Int32)) (t : State) => aPostG (dC, dI) a0 qb cq ow cr sz T0 (u.2.1) (u.2.2.1) (u.2.2.2.1) (u.2.2.2.2.1) (u.2.2.2.2.2.1) (u.2.2.2.2.2.2.1) (u.2.2.2.2.2.2.2.1) (u.2.2.2.2.2.2.2.2) t ∧ va_P (dC, dI) vwCl [(qo, .inl (co, 1, .inr (.inl (u.1))))] t.heap ∧ va_K (dC, dI) vwCl [(co, .long)] t ∧ (u.2.2.1) qo = 0) (lA ow qo sz)) 130 53000 (lA ow qo sz) := by
  refine va_MetW (cc := cL_map) (maxL := 7) (ret := (some .int)) (by decide) rfl ?_
  intro p e s m args below meth c s₁ B hml hv
  obtain ⟨rfl, hsz, hT0, hI, hN, hM, hZ, hP, hK, hoq⟩ := hv
  have hx := B.exec
  have hb := B.bytes
  have hr := B.returns
  have hts := atoms_spec (ws := wqL_map) B.pre
  have hown : s.vm.findClass RL = some m.cls := findClass_of_methodNamed B.named
  have hlocks := B.notSynchronized
  have htab : c.exceptionTable.toList = tableOf [(0, 13, 16, 23), (0, 13, 20, 29), (0, 13, 24, 13), (0, 13, 28, 15), (0, 13, 32, 31)] := vx_table (x := yL_map) B (show (Cond.codeWith yL_map cL_map 7 (some .int) [(0, 13, 16, 23), (0, 13, 20, 29), (0, 13, 24, 13), (0, 13, 28, 15), (0, 13, 32, 31)]).before _ s = true from hts _ List.mem_cons_self)
  subst hsz
  subst hT0
  have hbl : qo < s.heap.size := (hP 0 _ rfl).lt
  obtain ⟨A, hAe⟩ : ∃ A : Nat → Prop, A = lA ow qo s.heap.size := ⟨_, rfl⟩
  rw [← hAe] at hZ ⊢
  have hA : ∀ q : Nat, s.heap.size ≤ q → A q := fun q h => by rw [hAe]; exact Or.inl (Or.inr h)
  have hAa : ∀ q : Nat, aA ow s.heap.size q → A q := fun q h => by rw [hAe]; exact Or.inl h
  have hAo : A qo := by rw [hAe]; exact Or.inr rfl
  have hD : va_D A [(qo, .inl (co, 1, .inr (.inl f0)))] := D_one hAo
  have hS : va_S A s.heap s.heap [] := va_S.rf
  have hl := lv_entry ([.ref a0, .int p0, .int p1, .int p2, .int p3, .ref qo]) (n := 7) (Nat.le_of_ble_eq_true rfl)
  rw [lg_entry_eq]
  generalize (lg_sl ([.ref a0, .int p0, .int p1, .int p2, .int p3, .ref qo]) ++ List.replicate (7 - (lg_sl ([.ref a0, .int p0, .int p1, .int p2, .int p3, .ref qo])).length) Slot.unset).toArray = ls at hl ⊢
  have hl : lv_has ls 7 [(0, .ref a0), (1, .int p0), (2, .int p1), (3, .int p2), (4, .int p3), (5, .ref qo)] := hl
  refine lv_aload hx hb dL_map_0 (lv_at hl 5 rfl) ?_
  refine lv_iconst (v := 0) hx hb dL_map_2 (by decide) ?_
  refine lv_aload_n hx hb dL_map_3 rfl (lv_at hl 0 rfl) ?_
  refine lv_iload_n hx hb dL_map_4 rfl (lv_at hl 1 rfl) ?_
  refine lv_iload_n hx hb dL_map_5 rfl (lv_at hl 2 rfl) ?_
  refine lv_iload_n hx hb dL_map_6 rfl (lv_at hl 3 rfl) ?_
  refine lv_iload hx hb dL_map_7 (lv_at hl 4 rfl) ?_
  refine vx_calll (vx_runV (As := [.int p0, .int p1, .int p2, .int p3]) (rest := [.int 0, .ref qo]) ⟨hx, hb, hml, hown, hts⟩ (u_X7_map l hlt dC dI s.heap.size (hT s.heap) hF p0 p1 p2 p3) (cwV 4 hts gL_map_X7_map rfl rfl rfl (by decide +kernel) ⟨(Nat.le_of_ble_eq_true rfl), (Nat.le_of_ble_eq_true rfl)⟩) ⟨aPre_blind, va_recv hI.2.1 hI.1 (ci := 7) (q0 := 0) rfl rfl, aPre_call hI hN hZ hAa⟩ rfl rfl hl.1 rfl (lv_room (Nat.le_of_ble_eq_true rfl)) dL_map_9 ⟨(Nat.le_of_ble_eq_true rfl), (Nat.le_of_ble_eq_true rfl)⟩) hS (fun q _ h => hAa q h) hAa (fun q _ h => hAa q h) (fun E ce q9 u9 t H1 locs ht hvm hw hB hz1 hk1 hS hce hcv hcl => ?_) (fun r ur t H1 locs ht hvm hw hB hz1 hk1 hS => ?_)
  ·
    have hP : va_P (dC, dI) vwCl [(qo, .inl (co, 1, .inr (.inl f0)))] H1 := P_kept hP (List.forall_mem_cons.mpr ⟨(fun (z : qo < _) => hk1 qo z (fun y => y.elim (fun (y : 0 < ow qo) => by omega) (fun (y : s.heap.size ≤ qo) => by omega))), fun _ h => absurd h List.not_mem_nil⟩)
    obtain ⟨hE, hI, hpos, hc1, hc2⟩ := hB
    rw [ht] at hI hc1 hc2
    have hI := aI_moved hvm.symm hI
    have hoq : u9.1 qo = 0 := by have h9 := hpos qo; omega
    rcases hE with hE | hE | hE | hE | hE
    ·
      subst hE
      refine tx_catch (name := "java/util/NoSuchElementException") hown [] ⟨0, 13, 16, 23⟩ [⟨0, 13, 20, 29⟩, ⟨0, 13, 24, 13⟩, ⟨0, 13, 28, 15⟩, ⟨0, 13, 32, 31⟩] (htab.trans rfl) (fun _ h => absurd h List.not_mem_nil) (by decide) (by decide) (hts (.classLink RL 23 "java/util/NoSuchElementException") (by decide +kernel)) (hN.xw _ (List.mem_of_getElem? (l := p_xw) (i := 4) rfl)) hce hcv hcl ?_
      clear hce
      generalize H1 = H at hP hI hS hc1 hc2 ⊢
      refine W.widen (k := 130) (n := 53000) (by omega) (by omega) ?_
      refine W.eq (g2 := F0 m 16 ls [.ref q9]) rfl ?_
      refine lv_astore (lv' := [(6, .ref q9), (0, .ref a0), (1, .int p0), (2, .int p1), (3, .int p2), (4, .int p3), (5, .ref qo)]) hx hb dL_map_16 hl (by decide) rfl (fun ls hl => ?_)
      refine lv_iconst (v := 1) hx hb dL_map_18 (by decide) ?_
      refine W.book2 (fun hz9 hn9 _ _ => ?_)
      refine W.widen (k := 130) (n := 53000) (by omega) (by omega) ?_
      exact W.iret (v := 1) hx hb hr (fun t9 ht9 hW9 => ⟨⟨1, (f0, bq, u9.1, rx, u9.2, a1, a4, a8, a11), rfl, ⟨rfl, rfl, rfl, rfl⟩, ⟨by rw [ht9]; exact aI_moved hW9.alike hI, hpos, by rw [ht9]; show hT H + sumN u9.2 16 ≤ _; omega, by rw [ht9]; omega⟩, by rw [ht9]; exact hP, va_K.moved hW9.alike hK, hoq⟩, hS.F ht9⟩) hS.2.2 dL_map_19
    ·
      subst hE
      refine tx_catch (name := "java/lang/ClassCastException") hown [⟨0, 13, 16, 23⟩] ⟨0, 13, 20, 29⟩ [⟨0, 13, 24, 13⟩, ⟨0, 13, 28, 15⟩, ⟨0, 13, 32, 31⟩] (htab.trans rfl) (List.forall_mem_cons.mpr ⟨Or.inr ⟨by decide, "java/util/NoSuchElementException", hts (.classLink RL 23 "java/util/NoSuchElementException") (by decide +kernel), hM _ (List.mem_of_getElem? (l := p_nx) (i := 0) rfl)⟩, fun _ h => absurd h List.not_mem_nil⟩) (by decide) (by decide) (hts (.classLink RL 29 "java/lang/ClassCastException") (by decide +kernel)) (hN.xw _ (List.mem_of_getElem? (l := p_xw) (i := 6) rfl)) hce hcv hcl ?_
      clear hce
      generalize H1 = H at hP hI hS hc1 hc2 ⊢
      refine W.widen (k := 130) (n := 53000) (by omega) (by omega) ?_
      refine W.eq (g2 := F0 m 20 ls [.ref q9]) rfl ?_
      refine lv_astore (lv' := [(6, .ref q9), (0, .ref a0), (1, .int p0), (2, .int p1), (3, .int p2), (4, .int p3), (5, .ref qo)]) hx hb dL_map_20 hl (by decide) rfl (fun ls hl => ?_)
      refine lv_iconst (v := 2) hx hb dL_map_22 (by decide) ?_
      refine W.book2 (fun hz9 hn9 _ _ => ?_)
      refine W.widen (k := 130) (n := 53000) (by omega) (by omega) ?_
      exact W.iret (v := 2) hx hb hr (fun t9 ht9 hW9 => ⟨⟨2, (f0, bq, u9.1, rx, u9.2, a1, a4, a8, a11), rfl, ⟨rfl, rfl, rfl, rfl⟩, ⟨by rw [ht9]; exact aI_moved hW9.alike hI, hpos, by rw [ht9]; show hT H + sumN u9.2 16 ≤ _; omega, by rw [ht9]; omega⟩, by rw [ht9]; exact hP, va_K.moved hW9.alike hK, hoq⟩, hS.F ht9⟩) hS.2.2 dL_map_23
    ·
      subst hE
      refine tx_catch (name := "java/lang/IllegalArgumentException") hown [⟨0, 13, 16, 23⟩, ⟨0, 13, 20, 29⟩] ⟨0, 13, 24, 13⟩ [⟨0, 13, 28, 15⟩, ⟨0, 13, 32, 31⟩] (htab.trans rfl) (List.forall_mem_cons.mpr ⟨Or.inr ⟨by decide, "java/util/NoSuchElementException", hts (.classLink RL 23 "java/util/NoSuchElementException") (by decide +kernel), hM _ (List.mem_of_getElem? (l := p_nx) (i := 1) rfl)⟩, List.forall_mem_cons.mpr ⟨Or.inr ⟨by decide, "java/lang/ClassCastException", hts (.classLink RL 29 "java/lang/ClassCastException") (by decide +kernel), hM _ (List.mem_of_getElem? (l := p_nx) (i := 2) rfl)⟩, fun _ h => absurd h List.not_mem_nil⟩⟩) (by decide) (by decide) (hts (.classLink RL 13 "java/lang/IllegalArgumentException") (by decide +kernel)) (hN.xw _ (List.mem_of_getElem? (l := p_xw) (i := 2) rfl)) hce hcv hcl ?_
      clear hce
      generalize H1 = H at hP hI hS hc1 hc2 ⊢
      refine W.widen (k := 130) (n := 53000) (by omega) (by omega) ?_
      refine W.eq (g2 := F0 m 24 ls [.ref q9]) rfl ?_
      refine lv_astore (lv' := [(6, .ref q9), (0, .ref a0), (1, .int p0), (2, .int p1), (3, .int p2), (4, .int p3), (5, .ref qo)]) hx hb dL_map_24 hl (by decide) rfl (fun ls hl => ?_)
      refine lv_iconst (v := 3) hx hb dL_map_26 (by decide) ?_
      refine W.book2 (fun hz9 hn9 _ _ => ?_)
      refine W.widen (k := 130) (n := 53000) (by omega) (by omega) ?_
      exact W.iret (v := 3) hx hb hr (fun t9 ht9 hW9 => ⟨⟨3, (f0, bq, u9.1, rx, u9.2, a1, a4, a8, a11), rfl, ⟨rfl, rfl, rfl, rfl⟩, ⟨by rw [ht9]; exact aI_moved hW9.alike hI, hpos, by rw [ht9]; show hT H + sumN u9.2 16 ≤ _; omega, by rw [ht9]; omega⟩, by rw [ht9]; exact hP, va_K.moved hW9.alike hK, hoq⟩, hS.F ht9⟩) hS.2.2 dL_map_27
    ·
      subst hE
      refine tx_catch (name := "java/lang/IllegalStateException") hown [⟨0, 13, 16, 23⟩, ⟨0, 13, 20, 29⟩, ⟨0, 13, 24, 13⟩] ⟨0, 13, 28, 15⟩ [⟨0, 13, 32, 31⟩] (htab.trans rfl) (List.forall_mem_cons.mpr ⟨Or.inr ⟨by decide, "java/util/NoSuchElementException", hts (.classLink RL 23 "java/util/NoSuchElementException") (by decide +kernel), hM _ (List.mem_of_getElem? (l := p_nx) (i := 3) rfl)⟩, List.forall_mem_cons.mpr ⟨Or.inr ⟨by decide, "java/lang/ClassCastException", hts (.classLink RL 29 "java/lang/ClassCastException") (by decide +kernel), hM _ (List.mem_of_getElem? (l := p_nx) (i := 4) rfl)⟩, List.forall_mem_cons.mpr ⟨Or.inr ⟨by decide, "java/lang/IllegalArgumentException", hts (.classLink RL 13 "java/lang/IllegalArgumentException") (by decide +kernel), hM _ (List.mem_of_getElem? (l := p_nx) (i := 5) rfl)⟩, fun _ h => absurd h List.not_mem_nil⟩⟩⟩) (by decide) (by decide) (hts (.classLink RL 15 "java/lang/IllegalStateException") (by decide +kernel)) (hN.xw _ (List.mem_of_getElem? (l := p_xw) (i := 5) rfl)) hce hcv hcl ?_
      clear hce
      generalize H1 = H at hP hI hS hc1 hc2 ⊢
      refine W.widen (k := 130) (n := 53000) (by omega) (by omega) ?_
      refine W.eq (g2 := F0 m 28 ls [.ref q9]) rfl ?_
      refine lv_astore (lv' := [(6, .ref q9), (0, .ref a0), (1, .int p0), (2, .int p1), (3, .int p2), (4, .int p3), (5, .ref qo)]) hx hb dL_map_28 hl (by decide) rfl (fun ls hl => ?_)
      refine lv_iconst (v := 4) hx hb dL_map_30 (by decide) ?_
      refine W.book2 (fun hz9 hn9 _ _ => ?_)
      refine W.widen (k := 130) (n := 53000) (by omega) (by omega) ?_
      exact W.iret (v := 4) hx hb hr (fun t9 ht9 hW9 => ⟨⟨4, (f0, bq, u9.1, rx, u9.2, a1, a4, a8, a11), rfl, ⟨rfl, rfl, rfl, rfl⟩, ⟨by rw [ht9]; exact aI_moved hW9.alike hI, hpos, by rw [ht9]; show hT H + sumN u9.2 16 ≤ _; omega, by rw [ht9]; omega⟩, by rw [ht9]; exact hP, va_K.moved hW9.alike hK, hoq⟩, hS.F ht9⟩) hS.2.2 dL_map_31
    ·
      subst hE
      refine tx_catch (name := "java/lang/UnsupportedOperationException") hown [⟨0, 13, 16, 23⟩, ⟨0, 13, 20, 29⟩, ⟨0, 13, 24, 13⟩, ⟨0, 13, 28, 15⟩] ⟨0, 13, 32, 31⟩ [] (htab.trans rfl) (List.forall_mem_cons.mpr ⟨Or.inr ⟨by decide, "java/util/NoSuchElementException", hts (.classLink RL 23 "java/util/NoSuchElementException") (by decide +kernel), hM _ (List.mem_of_getElem? (l := p_nx) (i := 6) rfl)⟩, List.forall_mem_cons.mpr ⟨Or.inr ⟨by decide, "java/lang/ClassCastException", hts (.classLink RL 29 "java/lang/ClassCastException") (by decide +kernel), hM _ (List.mem_of_getElem? (l := p_nx) (i := 7) rfl)⟩, List.forall_mem_cons.mpr ⟨Or.inr ⟨by decide, "java/lang/IllegalArgumentException", hts (.classLink RL 13 "java/lang/IllegalArgumentException") (by decide +kernel), hM _ (List.mem_of_getElem? (l := p_nx) (i := 8) rfl)⟩, List.forall_mem_cons.mpr ⟨Or.inr ⟨by decide, "java/lang/IllegalStateException", hts (.classLink RL 15 "java/lang/IllegalStateException") (by decide +kernel), hM _ (List.mem_of_getElem? (l := p_nx) (i := 9) rfl)⟩, fun _ h => absurd h List.not_mem_nil⟩⟩⟩⟩) (by decide) (by decide) (hts (.classLink RL 31 "java/lang/UnsupportedOperationException") (by decide +kernel)) (hN.xw _ (List.mem_of_getElem? (l := p_xw) (i := 7) rfl)) hce hcv hcl ?_
      clear hce
      generalize H1 = H at hP hI hS hc1 hc2 ⊢
      refine W.widen (k := 130) (n := 53000) (by omega) (by omega) ?_
      refine W.eq (g2 := F0 m 32 ls [.ref q9]) rfl ?_
      refine lv_astore (lv' := [(6, .ref q9), (0, .ref a0), (1, .int p0), (2, .int p1), (3, .int p2), (4, .int p3), (5, .ref qo)]) hx hb dL_map_32 hl (by decide) rfl (fun ls hl => ?_)
      refine lv_iconst (v := 5) hx hb dL_map_34 (by decide) ?_
      refine W.book2 (fun hz9 hn9 _ _ => ?_)
      refine W.widen (k := 130) (n := 53000) (by omega) (by omega) ?_
      exact W.iret (v := 5) hx hb hr (fun t9 ht9 hW9 => ⟨⟨5, (f0, bq, u9.1, rx, u9.2, a1, a4, a8, a11), rfl, ⟨rfl, rfl, rfl, rfl⟩, ⟨by rw [ht9]; exact aI_moved hW9.alike hI, hpos, by rw [ht9]; show hT H + sumN u9.2 16 ≤ _; omega, by rw [ht9]; omega⟩, by rw [ht9]; exact hP, va_K.moved hW9.alike hK, hoq⟩, hS.F ht9⟩) hS.2.2 dL_map_35
  ·
    have hP : va_P (dC, dI) vwCl [(qo, .inl (co, 1, .inr (.inl f0)))] H1 := P_kept hP (List.forall_mem_cons.mpr ⟨(fun (z : qo < _) => hk1 qo z (fun y => y.elim (fun (y : 0 < ow qo) => by omega) (fun (y : s.heap.size ≤ qo) => by omega))), fun _ h => absurd h List.not_mem_nil⟩)
    try dsimp only at hw hB
    obtain ⟨hI, hpos, hc1, hc2⟩ := hB
    rw [ht] at hI hc1 hc2
    have hI := aI_moved hvm.symm hI
    have hoq : (ur.1) qo = 0 := by have h9 := hpos qo; omega
    have hP8 := hP
    clear hk1 hz1 ht
    refine W.widen (k := 130) (n := 53000) (by omega) (by omega) ?_
    refine W.book2 (fun hz8 hn8 hz7 hn7 => ?_)
    obtain ⟨kw, ekw⟩ : ∃ z : Nat, z = H1.size - s.heap.size := ⟨_, rfl⟩
    obtain ⟨nw, enw⟩ : ∃ z : Nat, z = hT H1 - hT s.heap := ⟨_, rfl⟩
    refine W.tight (k := kw) (n := nw) (by omega) (by omega) ?_
    refine W.eq (g2 := F0 m 12 ls [.long r, .int 0, .ref qo]) rfl ?_
    refine tx_last (i := 0) hx hb hK hP hD hS 0 0 rfl rfl (by unfold vp_in; decide) dL_map_12 (fun H locs hP hD hS hoo => ?_)
    have hI : aI (dC, dI) s H a0 qb cq bq ur.1 rx ur.2 a1 a4 a8 a11 := aI_kept hI (fun q z1 z2 => hoo q (fun z => by rw [z] at z2; omega))
    replace hP : va_P (dC, dI) vwCl [(qo, .inl (co, 1, .inr (.inl (vp_updL f0 (0 : Int32).toNatClampNeg r))))] H := hP
    refine lv_goto (tgt := 36) hx hb dL_map_13 (by decide) ?_
    refine lv_iconst (v := 0) hx hb dL_map_36 (by decide) ?_
    refine W.book2 (fun hz9 hn9 _ _ => ?_)
    refine W.widen (k := 130) (n := 53000) (by omega) (by omega) ?_
    exact W.iret (v := 0) hx hb hr (fun t9 ht9 hW9 => ⟨⟨0, ((vp_updL f0 (0 : Int32).toNatClampNeg r), bq, ur.1, rx, ur.2, a1, a4, a8, a11), rfl, ⟨rfl, rfl, rfl, rfl⟩, ⟨by rw [ht9]; exact aI_moved hW9.alike hI, hpos, by rw [ht9]; show hT H + sumN ur.2 16 ≤ _; omega, by rw [ht9]; omega⟩, by rw [ht9]; exact hP, va_K.moved hW9.alike hK, hoq⟩, hS.F ht9⟩) hS.2.2 dL_map_37
set_option maxHeartbeats 4000000 in
set_option maxRecDepth 100000 in
/-- the law's caller of view -/
theorem c_L_view (l : Launch) (hlt : l.stackTraces = false) (dC : Nat → ClassId) (dI : Nat → Nat → Nat) (sz T0 : Nat) {a0 qb : Nat} {cq : ClassId} {bq : Nat → Option Nat} {ow rx cr : Nat → Nat} {a1 a4 a8 a11 : Nat → Int32} (hF : ∃ dep : Nat → Nat, rF a1 a8 dep ∧ ∀ o : Nat, o < 16 → dep o < 17) (qo : Nat) (co : ClassId) (f0 : Nat → Int64) (p0 : Int32) (p1 : Int32) (p2 : Int32) (p3 : Int32) : Met l yL_view wqL_view ({ frames := 8, cells := 4, slots := 26, locals := 212 }) (va_Pc [.ref a0, .int p0, .int p1, .int p2, .int p3, .ref qo] (lPre (dC, dI) a0 qb cq bq ow rx cr a1 a4 a8 a11 qo co f0 sz T0)) (va_Qi (fun (k : Int32) (u : (Nat → Int64) × (Nat → Option Nat) × (Nat → Nat) × (Nat → Nat) × (Nat → Nat) × (Nat → Int32) × (Nat → Int32) × (Nat → Int32) × (Nat → Int32)) => (∃ o xx : Nat, k = 0 ∧ u.1 0 = (nI xx).toInt64 ∧ vwR a1 a4 a8 a11 p0 p1 p2 p3 0 o xx ∧ u.2.2.2.2.2.1 = upd a1 xx 4 ∧ u.2.2.2.2.2.2.1 = a4 ∧ u.2.2.2.2.2.2.2.1 = upd (upd a8 xx (-1)) xx (nI o) ∧ u.2.2.2.2.2.2.2.2 = upd a11 xx p1) ∨ ((∃ (c : Int32) (o xx : Nat), ¬ c = 0 ∧ k = c ∧ vwR a1 a4 a8 a11 p0 p1 p2 p3 c o xx) ∧ u.2.2.2.2.2.1 = a1 ∧ u.2.2.2.2.2.2.1 = a4 ∧ u.2.2.2.2.2.2.2.1 = a8 ∧ u.2.2.2.2.2.2.2.2 = a11)) (fun (u : (Nat → Int64) × (Nat → Option Nat) × (Nat → Nat) × (Nat → Nat) × (Nat → Nat) × (Nat → Int32) × (Nat → Int32) × (Nat → Int32) × (Nat → Int32)) (t : State) => aPostG (dC, dI) a0 qb cq ow cr sz T0 (u.2.1) (u.2.2.1) (u.2.2.2.1) (u.2.2.2.2.1) (u.2.2.2.2.2.1) (u.2.2.2.2.2.2.1) (u.2.2.2.2.2.2.2.1) (u.2.2.2.2.2.2.2.2) t ∧ va_P (dC, dI) vwCl [(qo, .inl (co, 1, .inr (.inl (u.1))))] t.heap ∧ va_K (dC, dI) vwCl [(co, .long)] t ∧ (u.2.2.1) qo = 0) (lA ow qo sz)) 4 26 (lA ow qo sz) := by
  refine va_MetW (cc := cL_view) (maxL := 7) (ret := (some .int)) (by decide) rfl ?_
  intro p e s m args below meth c s₁ B hml hv
  obtain ⟨rfl, hsz, hT0, hI, hN, hM, hZ, hP, hK, hoq⟩ := hv
  have hx := B.exec
  have hb := B.bytes
  have hr := B.returns
  have hts := atoms_spec (ws := wqL_view) B.pre
  have hown : s.vm.findClass RL = some m.cls := findClass_of_methodNamed B.named
  have hlocks := B.notSynchronized
  have htab : c.exceptionTable.toList = tableOf [(0, 14, 17, 23), (0, 14, 21, 29), (0, 14, 25, 13), (0, 14, 29, 15)] := vx_table (x := yL_view) B (show (Cond.codeWith yL_view cL_view 7 (some .int) [(0, 14, 17, 23), (0, 14, 21, 29), (0, 14, 25, 13), (0, 14, 29, 15)]).before _ s = true from hts _ List.mem_cons_self)
  subst hsz
  subst hT0
  have hbl : qo < s.heap.size := (hP 0 _ rfl).lt
  obtain ⟨A, hAe⟩ : ∃ A : Nat → Prop, A = lA ow qo s.heap.size := ⟨_, rfl⟩
  rw [← hAe] at hZ ⊢
  have hA : ∀ q : Nat, s.heap.size ≤ q → A q := fun q h => by rw [hAe]; exact Or.inl (Or.inr h)
  have hAa : ∀ q : Nat, aA ow s.heap.size q → A q := fun q h => by rw [hAe]; exact Or.inl h
  have hAo : A qo := by rw [hAe]; exact Or.inr rfl
  have hD : va_D A [(qo, .inl (co, 1, .inr (.inl f0)))] := D_one hAo
  have hS : va_S A s.heap s.heap [] := va_S.rf
  have hl := lv_entry ([.ref a0, .int p0, .int p1, .int p2, .int p3, .ref qo]) (n := 7) (Nat.le_of_ble_eq_true rfl)
  rw [lg_entry_eq]
  generalize (lg_sl ([.ref a0, .int p0, .int p1, .int p2, .int p3, .ref qo]) ++ List.replicate (7 - (lg_sl ([.ref a0, .int p0, .int p1, .int p2, .int p3, .ref qo])).length) Slot.unset).toArray = ls at hl ⊢
  have hl : lv_has ls 7 [(0, .ref a0), (1, .int p0), (2, .int p1), (3, .int p2), (4, .int p3), (5, .ref qo)] := hl
  refine lv_aload hx hb dL_view_0 (lv_at hl 5 rfl) ?_
  refine lv_iconst (v := 0) hx hb dL_view_2 (by decide) ?_
  refine lv_aload_n hx hb dL_view_3 rfl (lv_at hl 0 rfl) ?_
  refine lv_iload_n hx hb dL_view_4 rfl (lv_at hl 1 rfl) ?_
  refine lv_iload_n hx hb dL_view_5 rfl (lv_at hl 2 rfl) ?_
  refine lv_iload_n hx hb dL_view_6 rfl (lv_at hl 3 rfl) ?_
  refine lv_iload hx hb dL_view_7 (lv_at hl 4 rfl) ?_
  refine vx_calli (vx_runV (As := [.int p0, .int p1, .int p2, .int p3]) (rest := [.int 0, .ref qo]) ⟨hx, hb, hml, hown, hts⟩ (u_X7_view l hlt dC dI s.heap.size (hT s.heap) hF p0 p1 p2 p3) (cwV 4 hts gL_view_X7_view rfl rfl rfl (by decide +kernel) ⟨(Nat.le_of_ble_eq_true rfl), (Nat.le_of_ble_eq_true rfl)⟩) ⟨aPre_blind, va_recv hI.2.1 hI.1 (ci := 7) (q0 := 0) rfl rfl, aPre_call hI hN hZ hAa⟩ rfl rfl hl.1 rfl (lv_room (Nat.le_of_ble_eq_true rfl)) dL_view_9 ⟨(Nat.le_of_ble_eq_true rfl), (Nat.le_of_ble_eq_true rfl)⟩) hS (fun q _ h => hAa q h) hAa (fun q _ h => hAa q h) (fun E ce q9 u9 t H1 locs ht hvm hw hB hz1 hk1 hS hce hcv hcl => ?_) (fun r ur t H1 locs ht hvm hw hB hz1 hk1 hS => ?_)
  ·
    have hP : va_P (dC, dI) vwCl [(qo, .inl (co, 1, .inr (.inl f0)))] H1 := P_kept hP (List.forall_mem_cons.mpr ⟨(fun (z : qo < _) => hk1 qo z (fun y => y.elim (fun (y : 0 < ow qo) => by omega) (fun (y : s.heap.size ≤ qo) => by omega))), fun _ h => absurd h List.not_mem_nil⟩)
    obtain ⟨hE, hI, hpos, hc1, hc2⟩ := hB
    rw [ht] at hI hc1 hc2
    have hI := aI_moved hvm.symm hI
    have hoq : u9.1 qo = 0 := by have h9 := hpos qo; omega
    rcases hE with ⟨hE, o9, x9, hcx⟩ | ⟨hE, o9, x9, hcx⟩ | ⟨hE, o9, x9, hcx⟩ | ⟨hE, o9, x9, hcx⟩
    ·
      subst hE
      refine tx_catch (name := "java/util/NoSuchElementException") hown [] ⟨0, 14, 17, 23⟩ [⟨0, 14, 21, 29⟩, ⟨0, 14, 25, 13⟩, ⟨0, 14, 29, 15⟩] (htab.trans rfl) (fun _ h => absurd h List.not_mem_nil) (by decide) (by decide) (hts (.classLink RL 23 "java/util/NoSuchElementException") (by decide +kernel)) (hN.xw _ (List.mem_of_getElem? (l := p_xw) (i := 4) rfl)) hce hcv hcl ?_
      clear hce
      generalize H1 = H at hP hI hS hc1 hc2 ⊢
      refine W.widen (k := 4) (n := 26) (by omega) (by omega) ?_
      refine W.eq (g2 := F0 m 17 ls [.ref q9]) rfl ?_
      refine lv_astore (lv' := [(6, .ref q9), (0, .ref a0), (1, .int p0), (2, .int p1), (3, .int p2), (4, .int p3), (5, .ref qo)]) hx hb dL_view_17 hl (by decide) rfl (fun ls hl => ?_)
      refine lv_iconst (v := 1) hx hb dL_view_19 (by decide) ?_
      refine W.book2 (fun hz9 hn9 _ _ => ?_)
      refine W.widen (k := 4) (n := 26) (by omega) (by omega) ?_
      exact W.iret (v := 1) hx hb hr (fun t9 ht9 hW9 => ⟨⟨1, (f0, bq, u9.1, rx, u9.2, a1, a4, a8, a11), rfl, Or.inr ⟨⟨1, o9, x9, by decide, rfl, hcx⟩, ⟨rfl, rfl, rfl, rfl⟩⟩, ⟨by rw [ht9]; exact aI_moved hW9.alike hI, hpos, by rw [ht9]; show hT H + sumN u9.2 16 ≤ _; omega, by rw [ht9]; omega⟩, by rw [ht9]; exact hP, va_K.moved hW9.alike hK, hoq⟩, hS.F ht9⟩) hS.2.2 dL_view_20
    ·
      subst hE
      refine tx_catch (name := "java/lang/ClassCastException") hown [⟨0, 14, 17, 23⟩] ⟨0, 14, 21, 29⟩ [⟨0, 14, 25, 13⟩, ⟨0, 14, 29, 15⟩] (htab.trans rfl) (List.forall_mem_cons.mpr ⟨Or.inr ⟨by decide, "java/util/NoSuchElementException", hts (.classLink RL 23 "java/util/NoSuchElementException") (by decide +kernel), hM _ (List.mem_of_getElem? (l := p_nx) (i := 0) rfl)⟩, fun _ h => absurd h List.not_mem_nil⟩) (by decide) (by decide) (hts (.classLink RL 29 "java/lang/ClassCastException") (by decide +kernel)) (hN.xw _ (List.mem_of_getElem? (l := p_xw) (i := 6) rfl)) hce hcv hcl ?_
      clear hce
      generalize H1 = H at hP hI hS hc1 hc2 ⊢
      refine W.widen (k := 4) (n := 26) (by omega) (by omega) ?_
      refine W.eq (g2 := F0 m 21 ls [.ref q9]) rfl ?_
      refine lv_astore (lv' := [(6, .ref q9), (0, .ref a0), (1, .int p0), (2, .int p1), (3, .int p2), (4, .int p3), (5, .ref qo)]) hx hb dL_view_21 hl (by decide) rfl (fun ls hl => ?_)
      refine lv_iconst (v := 2) hx hb dL_view_23 (by decide) ?_
      refine W.book2 (fun hz9 hn9 _ _ => ?_)
      refine W.widen (k := 4) (n := 26) (by omega) (by omega) ?_
      exact W.iret (v := 2) hx hb hr (fun t9 ht9 hW9 => ⟨⟨2, (f0, bq, u9.1, rx, u9.2, a1, a4, a8, a11), rfl, Or.inr ⟨⟨2, o9, x9, by decide, rfl, hcx⟩, ⟨rfl, rfl, rfl, rfl⟩⟩, ⟨by rw [ht9]; exact aI_moved hW9.alike hI, hpos, by rw [ht9]; show hT H + sumN u9.2 16 ≤ _; omega, by rw [ht9]; omega⟩, by rw [ht9]; exact hP, va_K.moved hW9.alike hK, hoq⟩, hS.F ht9⟩) hS.2.2 dL_view_24
    ·
      subst hE
      refine tx_catch (name := "java/lang/IllegalArgumentException") hown [⟨0, 14, 17, 23⟩, ⟨0, 14, 21, 29⟩] ⟨0, 14, 25, 13⟩ [⟨0, 14, 29, 15⟩] (htab.trans rfl) (List.forall_mem_cons.mpr ⟨Or.inr ⟨by decide, "java/util/NoSuchElementException", hts (.classLink RL 23 "java/util/NoSuchElementException") (by decide +kernel), hM _ (List.mem_of_getElem? (l := p_nx) (i := 1) rfl)⟩, List.forall_mem_cons.mpr ⟨Or.inr ⟨by decide, "java/lang/ClassCastException", hts (.classLink RL 29 "java/lang/ClassCastException") (by decide +kernel), hM _ (List.mem_of_getElem? (l := p_nx) (i := 2) rfl)⟩, fun _ h => absurd h List.not_mem_nil⟩⟩) (by decide) (by decide) (hts (.classLink RL 13 "java/lang/IllegalArgumentException") (by decide +kernel)) (hN.xw _ (List.mem_of_getElem? (l := p_xw) (i := 2) rfl)) hce hcv hcl ?_
      clear hce
      generalize H1 = H at hP hI hS hc1 hc2 ⊢
      refine W.widen (k := 4) (n := 26) (by omega) (by omega) ?_
      refine W.eq (g2 := F0 m 25 ls [.ref q9]) rfl ?_
      refine lv_astore (lv' := [(6, .ref q9), (0, .ref a0), (1, .int p0), (2, .int p1), (3, .int p2), (4, .int p3), (5, .ref qo)]) hx hb dL_view_25 hl (by decide) rfl (fun ls hl => ?_)
      refine lv_iconst (v := 3) hx hb dL_view_27 (by decide) ?_
      refine W.book2 (fun hz9 hn9 _ _ => ?_)
      refine W.widen (k := 4) (n := 26) (by omega) (by omega) ?_
      exact W.iret (v := 3) hx hb hr (fun t9 ht9 hW9 => ⟨⟨3, (f0, bq, u9.1, rx, u9.2, a1, a4, a8, a11), rfl, Or.inr ⟨⟨3, o9, x9, by decide, rfl, hcx⟩, ⟨rfl, rfl, rfl, rfl⟩⟩, ⟨by rw [ht9]; exact aI_moved hW9.alike hI, hpos, by rw [ht9]; show hT H + sumN u9.2 16 ≤ _; omega, by rw [ht9]; omega⟩, by rw [ht9]; exact hP, va_K.moved hW9.alike hK, hoq⟩, hS.F ht9⟩) hS.2.2 dL_view_28
    ·
      subst hE
      refine tx_catch (name := "java/lang/IllegalStateException") hown [⟨0, 14, 17, 23⟩, ⟨0, 14, 21, 29⟩, ⟨0, 14, 25, 13⟩] ⟨0, 14, 29, 15⟩ [] (htab.trans rfl) (List.forall_mem_cons.mpr ⟨Or.inr ⟨by decide, "java/util/NoSuchElementException", hts (.classLink RL 23 "java/util/NoSuchElementException") (by decide +kernel), hM _ (List.mem_of_getElem? (l := p_nx) (i := 3) rfl)⟩, List.forall_mem_cons.mpr ⟨Or.inr ⟨by decide, "java/lang/ClassCastException", hts (.classLink RL 29 "java/lang/ClassCastException") (by decide +kernel), hM _ (List.mem_of_getElem? (l := p_nx) (i := 4) rfl)⟩, List.forall_mem_cons.mpr ⟨Or.inr ⟨by decide, "java/lang/IllegalArgumentException", hts (.classLink RL 13 "java/lang/IllegalArgumentException") (by decide +kernel), hM _ (List.mem_of_getElem? (l := p_nx) (i := 5) rfl)⟩, fun _ h => absurd h List.not_mem_nil⟩⟩⟩) (by decide) (by decide) (hts (.classLink RL 15 "java/lang/IllegalStateException") (by decide +kernel)) (hN.xw _ (List.mem_of_getElem? (l := p_xw) (i := 5) rfl)) hce hcv hcl ?_
      clear hce
      generalize H1 = H at hP hI hS hc1 hc2 ⊢
      refine W.widen (k := 4) (n := 26) (by omega) (by omega) ?_
      refine W.eq (g2 := F0 m 29 ls [.ref q9]) rfl ?_
      refine lv_astore (lv' := [(6, .ref q9), (0, .ref a0), (1, .int p0), (2, .int p1), (3, .int p2), (4, .int p3), (5, .ref qo)]) hx hb dL_view_29 hl (by decide) rfl (fun ls hl => ?_)
      refine lv_iconst (v := 4) hx hb dL_view_31 (by decide) ?_
      refine W.book2 (fun hz9 hn9 _ _ => ?_)
      refine W.widen (k := 4) (n := 26) (by omega) (by omega) ?_
      exact W.iret (v := 4) hx hb hr (fun t9 ht9 hW9 => ⟨⟨4, (f0, bq, u9.1, rx, u9.2, a1, a4, a8, a11), rfl, Or.inr ⟨⟨4, o9, x9, by decide, rfl, hcx⟩, ⟨rfl, rfl, rfl, rfl⟩⟩, ⟨by rw [ht9]; exact aI_moved hW9.alike hI, hpos, by rw [ht9]; show hT H + sumN u9.2 16 ≤ _; omega, by rw [ht9]; omega⟩, by rw [ht9]; exact hP, va_K.moved hW9.alike hK, hoq⟩, hS.F ht9⟩) hS.2.2 dL_view_32
  ·
    have hP : va_P (dC, dI) vwCl [(qo, .inl (co, 1, .inr (.inl f0)))] H1 := P_kept hP (List.forall_mem_cons.mpr ⟨(fun (z : qo < _) => hk1 qo z (fun y => y.elim (fun (y : 0 < ow qo) => by omega) (fun (y : s.heap.size ≤ qo) => by omega))), fun _ h => absurd h List.not_mem_nil⟩)
    try dsimp only at hw hB
    obtain ⟨hI, hpos, hc1, hc2⟩ := hB
    rw [ht] at hI hc1 hc2
    have hI := aI_moved hvm.symm hI
    have hoq : (ur.2.2.2.1) qo = 0 := by have h9 := hpos qo; omega
    have hP8 := hP
    clear hk1 hz1 ht
    refine W.widen (k := 4) (n := 26) (by omega) (by omega) ?_
    refine W.book2 (fun hz8 hn8 hz7 hn7 => ?_)
    obtain ⟨kw, ekw⟩ : ∃ z : Nat, z = H1.size - s.heap.size := ⟨_, rfl⟩
    obtain ⟨nw, enw⟩ : ∃ z : Nat, z = hT H1 - hT s.heap := ⟨_, rfl⟩
    refine W.tight (k := kw) (n := nw) (by omega) (by omega) ?_
    refine W.eq (g2 := F0 m 12 ls [.int r, .int 0, .ref qo]) rfl ?_
    refine lv_i2l (v := r.toInt64) hx hb dL_view_12 rfl ?_
    refine tx_last (i := 0) hx hb hK hP hD hS 0 0 rfl rfl (by unfold vp_in; decide) dL_view_13 (fun H locs hP hD hS hoo => ?_)
    have hI : aI (dC, dI) s H a0 qb cq ur.2.2.1 ur.2.2.2.1 ur.2.2.2.2.1 ur.2.2.2.2.2 (upd a1 ur.2.1 4) a4 (upd (upd a8 ur.2.1 (-1)) ur.2.1 (nI ur.1)) (upd a11 ur.2.1 p1) := aI_kept hI (fun q z1 z2 => hoo q (fun z => by rw [z] at z2; omega))
    replace hP : va_P (dC, dI) vwCl [(qo, .inl (co, 1, .inr (.inl (vp_updL f0 (0 : Int32).toNatClampNeg r.toInt64))))] H := hP
    refine lv_goto (tgt := 33) hx hb dL_view_14 (by decide) ?_
    refine lv_iconst (v := 0) hx hb dL_view_33 (by decide) ?_
    refine W.book2 (fun hz9 hn9 _ _ => ?_)
    refine W.widen (k := 4) (n := 26) (by omega) (by omega) ?_
    exact W.iret (v := 0) hx hb hr (fun t9 ht9 hW9 => ⟨⟨0, ((vp_updL f0 (0 : Int32).toNatClampNeg r.toInt64), ur.2.2.1, ur.2.2.2.1, ur.2.2.2.2.1, ur.2.2.2.2.2, (upd a1 ur.2.1 4), a4, (upd (upd a8 ur.2.1 (-1)) ur.2.1 (nI ur.1)), (upd a11 ur.2.1 p1)), rfl, Or.inl ⟨ur.1, ur.2.1, rfl, (up_0 (f := f0) (x := r.toInt64)).trans (congrArg Int32.toInt64 hw.1), hw.2, rfl, rfl, rfl, rfl⟩, ⟨by rw [ht9]; exact aI_moved hW9.alike hI, hpos, by rw [ht9]; show hT H + sumN ur.2.2.2.2.2 16 ≤ _; omega, by rw [ht9]; omega⟩, by rw [ht9]; exact hP, va_K.moved hW9.alike hK, hoq⟩, hS.F ht9⟩) hS.2.2 dL_view_34
set_option maxHeartbeats 4000000 in
set_option maxRecDepth 100000 in
/-- the law's caller of cursor -/
theorem c_L_cursor (l : Launch) (hlt : l.stackTraces = false) (dC : Nat → ClassId) (dI : Nat → Nat → Nat) (sz T0 : Nat) {a0 qb : Nat} {cq : ClassId} {bq : Nat → Option Nat} {ow rx cr : Nat → Nat} {a1 a4 a8 a11 : Nat → Int32} (hF : ∃ dep : Nat → Nat, rF a1 a8 dep ∧ ∀ o : Nat, o < 16 → dep o < 17) (qo : Nat) (co : ClassId) (f0 : Nat → Int64) (p0 : Int32) : Met l yL_cursor wqL_cursor ({ frames := 8, cells := 4, slots := 26, locals := 172 }) (va_Pc [.ref a0, .int p0, .ref qo] (lPre (dC, dI) a0 qb cq bq ow rx cr a1 a4 a8 a11 qo co f0 sz T0)) (va_Qi (fun (k : Int32) (u : (Nat → Int64) × (Nat → Option Nat) × (Nat → Nat) × (Nat → Nat) × (Nat → Nat) × (Nat → Int32) × (Nat → Int32) × (Nat → Int32) × (Nat → Int32)) => (∃ o xx : Nat, k = 0 ∧ u.1 0 = (nI xx).toInt64 ∧ cuR a1 p0 0 o xx ∧ u.2.2.2.2.2.1 = upd a1 xx 5 ∧ u.2.2.2.2.2.2.1 = a4 ∧ u.2.2.2.2.2.2.2.1 = upd (upd a8 xx (-1)) xx (nI o) ∧ u.2.2.2.2.2.2.2.2 = a11) ∨ ((∃ (c : Int32) (o xx : Nat), ¬ c = 0 ∧ k = c ∧ cuR a1 p0 c o xx) ∧ u.2.2.2.2.2.1 = a1 ∧ u.2.2.2.2.2.2.1 = a4 ∧ u.2.2.2.2.2.2.2.1 = a8 ∧ u.2.2.2.2.2.2.2.2 = a11)) (fun (u : (Nat → Int64) × (Nat → Option Nat) × (Nat → Nat) × (Nat → Nat) × (Nat → Nat) × (Nat → Int32) × (Nat → Int32) × (Nat → Int32) × (Nat → Int32)) (t : State) => aPostG (dC, dI) a0 qb cq ow cr sz T0 (u.2.1) (u.2.2.1) (u.2.2.2.1) (u.2.2.2.2.1) (u.2.2.2.2.2.1) (u.2.2.2.2.2.2.1) (u.2.2.2.2.2.2.2.1) (u.2.2.2.2.2.2.2.2) t ∧ va_P (dC, dI) vwCl [(qo, .inl (co, 1, .inr (.inl (u.1))))] t.heap ∧ va_K (dC, dI) vwCl [(co, .long)] t ∧ (u.2.2.1) qo = 0) (lA ow qo sz)) 4 26 (lA ow qo sz) := by
  refine va_MetW (cc := cL_cursor) (maxL := 4) (ret := (some .int)) (by decide) rfl ?_
  intro p e s m args below meth c s₁ B hml hv
  obtain ⟨rfl, hsz, hT0, hI, hN, hM, hZ, hP, hK, hoq⟩ := hv
  have hx := B.exec
  have hb := B.bytes
  have hr := B.returns
  have hts := atoms_spec (ws := wqL_cursor) B.pre
  have hown : s.vm.findClass RL = some m.cls := findClass_of_methodNamed B.named
  have hlocks := B.notSynchronized
  have htab : c.exceptionTable.toList = tableOf [(0, 9, 12, 23), (0, 9, 15, 29), (0, 9, 18, 15)] := vx_table (x := yL_cursor) B (show (Cond.codeWith yL_cursor cL_cursor 4 (some .int) [(0, 9, 12, 23), (0, 9, 15, 29), (0, 9, 18, 15)]).before _ s = true from hts _ List.mem_cons_self)
  subst hsz
  subst hT0
  have hbl : qo < s.heap.size := (hP 0 _ rfl).lt
  obtain ⟨A, hAe⟩ : ∃ A : Nat → Prop, A = lA ow qo s.heap.size := ⟨_, rfl⟩
  rw [← hAe] at hZ ⊢
  have hA : ∀ q : Nat, s.heap.size ≤ q → A q := fun q h => by rw [hAe]; exact Or.inl (Or.inr h)
  have hAa : ∀ q : Nat, aA ow s.heap.size q → A q := fun q h => by rw [hAe]; exact Or.inl h
  have hAo : A qo := by rw [hAe]; exact Or.inr rfl
  have hD : va_D A [(qo, .inl (co, 1, .inr (.inl f0)))] := D_one hAo
  have hS : va_S A s.heap s.heap [] := va_S.rf
  have hl := lv_entry ([.ref a0, .int p0, .ref qo]) (n := 4) (Nat.le_of_ble_eq_true rfl)
  rw [lg_entry_eq]
  generalize (lg_sl ([.ref a0, .int p0, .ref qo]) ++ List.replicate (4 - (lg_sl ([.ref a0, .int p0, .ref qo])).length) Slot.unset).toArray = ls at hl ⊢
  have hl : lv_has ls 4 [(0, .ref a0), (1, .int p0), (2, .ref qo)] := hl
  refine lv_aload_n hx hb dL_cursor_0 rfl (lv_at hl 2 rfl) ?_
  refine lv_iconst (v := 0) hx hb dL_cursor_1 (by decide) ?_
  refine lv_aload_n hx hb dL_cursor_2 rfl (lv_at hl 0 rfl) ?_
  refine lv_iload_n hx hb dL_cursor_3 rfl (lv_at hl 1 rfl) ?_
  refine vx_calli (vx_runV (As := [.int p0]) (rest := [.int 0, .ref qo]) ⟨hx, hb, hml, hown, hts⟩ (u_X7_cursor l hlt dC dI s.heap.size (hT s.heap) hF p0) (cwV 1 hts gL_cursor_X7_cursor rfl rfl rfl (by decide +kernel) ⟨(Nat.le_of_ble_eq_true rfl), (Nat.le_of_ble_eq_true rfl)⟩) ⟨aPre_blind, va_recv hI.2.1 hI.1 (ci := 7) (q0 := 0) rfl rfl, aPre_call hI hN hZ hAa⟩ rfl rfl hl.1 rfl (lv_room (Nat.le_of_ble_eq_true rfl)) dL_cursor_4 ⟨(Nat.le_of_ble_eq_true rfl), (Nat.le_of_ble_eq_true rfl)⟩) hS (fun q _ h => hAa q h) hAa (fun q _ h => hAa q h) (fun E ce q9 u9 t H1 locs ht hvm hw hB hz1 hk1 hS hce hcv hcl => ?_) (fun r ur t H1 locs ht hvm hw hB hz1 hk1 hS => ?_)
  ·
    have hP : va_P (dC, dI) vwCl [(qo, .inl (co, 1, .inr (.inl f0)))] H1 := P_kept hP (List.forall_mem_cons.mpr ⟨(fun (z : qo < _) => hk1 qo z (fun y => y.elim (fun (y : 0 < ow qo) => by omega) (fun (y : s.heap.size ≤ qo) => by omega))), fun _ h => absurd h List.not_mem_nil⟩)
    obtain ⟨hE, hI, hpos, hc1, hc2⟩ := hB
    rw [ht] at hI hc1 hc2
    have hI := aI_moved hvm.symm hI
    have hoq : u9.1 qo = 0 := by have h9 := hpos qo; omega
    rcases hE with ⟨hE, o9, x9, hcx⟩ | ⟨hE, o9, x9, hcx⟩ | ⟨hE, o9, x9, hcx⟩
    ·
      subst hE
      refine tx_catch (name := "java/util/NoSuchElementException") hown [] ⟨0, 9, 12, 23⟩ [⟨0, 9, 15, 29⟩, ⟨0, 9, 18, 15⟩] (htab.trans rfl) (fun _ h => absurd h List.not_mem_nil) (by decide) (by decide) (hts (.classLink RL 23 "java/util/NoSuchElementException") (by decide +kernel)) (hN.xw _ (List.mem_of_getElem? (l := p_xw) (i := 4) rfl)) hce hcv hcl ?_
      clear hce
      generalize H1 = H at hP hI hS hc1 hc2 ⊢
      refine W.widen (k := 4) (n := 26) (by omega) (by omega) ?_
      refine W.eq (g2 := F0 m 12 ls [.ref q9]) rfl ?_
      refine lv_astore_n (lv' := [(3, .ref q9), (0, .ref a0), (1, .int p0), (2, .ref qo)]) hx hb dL_cursor_12 rfl hl (by decide) rfl (fun ls hl => ?_)
      refine lv_iconst (v := 1) hx hb dL_cursor_13 (by decide) ?_
      refine W.book2 (fun hz9 hn9 _ _ => ?_)
      refine W.widen (k := 4) (n := 26) (by omega) (by omega) ?_
      exact W.iret (v := 1) hx hb hr (fun t9 ht9 hW9 => ⟨⟨1, (f0, bq, u9.1, rx, u9.2, a1, a4, a8, a11), rfl, Or.inr ⟨⟨1, o9, x9, by decide, rfl, hcx⟩, ⟨rfl, rfl, rfl, rfl⟩⟩, ⟨by rw [ht9]; exact aI_moved hW9.alike hI, hpos, by rw [ht9]; show hT H + sumN u9.2 16 ≤ _; omega, by rw [ht9]; omega⟩, by rw [ht9]; exact hP, va_K.moved hW9.alike hK, hoq⟩, hS.F ht9⟩) hS.2.2 dL_cursor_14
    ·
      subst hE
      refine tx_catch (name := "java/lang/ClassCastException") hown [⟨0, 9, 12, 23⟩] ⟨0, 9, 15, 29⟩ [⟨0, 9, 18, 15⟩] (htab.trans rfl) (List.forall_mem_cons.mpr ⟨Or.inr ⟨by decide, "java/util/NoSuchElementException", hts (.classLink RL 23 "java/util/NoSuchElementException") (by decide +kernel), hM _ (List.mem_of_getElem? (l := p_nx) (i := 0) rfl)⟩, fun _ h => absurd h List.not_mem_nil⟩) (by decide) (by decide) (hts (.classLink RL 29 "java/lang/ClassCastException") (by decide +kernel)) (hN.xw _ (List.mem_of_getElem? (l := p_xw) (i := 6) rfl)) hce hcv hcl ?_
      clear hce
      generalize H1 = H at hP hI hS hc1 hc2 ⊢
      refine W.widen (k := 4) (n := 26) (by omega) (by omega) ?_
      refine W.eq (g2 := F0 m 15 ls [.ref q9]) rfl ?_
      refine lv_astore_n (lv' := [(3, .ref q9), (0, .ref a0), (1, .int p0), (2, .ref qo)]) hx hb dL_cursor_15 rfl hl (by decide) rfl (fun ls hl => ?_)
      refine lv_iconst (v := 2) hx hb dL_cursor_16 (by decide) ?_
      refine W.book2 (fun hz9 hn9 _ _ => ?_)
      refine W.widen (k := 4) (n := 26) (by omega) (by omega) ?_
      exact W.iret (v := 2) hx hb hr (fun t9 ht9 hW9 => ⟨⟨2, (f0, bq, u9.1, rx, u9.2, a1, a4, a8, a11), rfl, Or.inr ⟨⟨2, o9, x9, by decide, rfl, hcx⟩, ⟨rfl, rfl, rfl, rfl⟩⟩, ⟨by rw [ht9]; exact aI_moved hW9.alike hI, hpos, by rw [ht9]; show hT H + sumN u9.2 16 ≤ _; omega, by rw [ht9]; omega⟩, by rw [ht9]; exact hP, va_K.moved hW9.alike hK, hoq⟩, hS.F ht9⟩) hS.2.2 dL_cursor_17
    ·
      subst hE
      refine tx_catch (name := "java/lang/IllegalStateException") hown [⟨0, 9, 12, 23⟩, ⟨0, 9, 15, 29⟩] ⟨0, 9, 18, 15⟩ [] (htab.trans rfl) (List.forall_mem_cons.mpr ⟨Or.inr ⟨by decide, "java/util/NoSuchElementException", hts (.classLink RL 23 "java/util/NoSuchElementException") (by decide +kernel), hM _ (List.mem_of_getElem? (l := p_nx) (i := 3) rfl)⟩, List.forall_mem_cons.mpr ⟨Or.inr ⟨by decide, "java/lang/ClassCastException", hts (.classLink RL 29 "java/lang/ClassCastException") (by decide +kernel), hM _ (List.mem_of_getElem? (l := p_nx) (i := 4) rfl)⟩, fun _ h => absurd h List.not_mem_nil⟩⟩) (by decide) (by decide) (hts (.classLink RL 15 "java/lang/IllegalStateException") (by decide +kernel)) (hN.xw _ (List.mem_of_getElem? (l := p_xw) (i := 5) rfl)) hce hcv hcl ?_
      clear hce
      generalize H1 = H at hP hI hS hc1 hc2 ⊢
      refine W.widen (k := 4) (n := 26) (by omega) (by omega) ?_
      refine W.eq (g2 := F0 m 18 ls [.ref q9]) rfl ?_
      refine lv_astore_n (lv' := [(3, .ref q9), (0, .ref a0), (1, .int p0), (2, .ref qo)]) hx hb dL_cursor_18 rfl hl (by decide) rfl (fun ls hl => ?_)
      refine lv_iconst (v := 3) hx hb dL_cursor_19 (by decide) ?_
      refine W.book2 (fun hz9 hn9 _ _ => ?_)
      refine W.widen (k := 4) (n := 26) (by omega) (by omega) ?_
      exact W.iret (v := 3) hx hb hr (fun t9 ht9 hW9 => ⟨⟨3, (f0, bq, u9.1, rx, u9.2, a1, a4, a8, a11), rfl, Or.inr ⟨⟨3, o9, x9, by decide, rfl, hcx⟩, ⟨rfl, rfl, rfl, rfl⟩⟩, ⟨by rw [ht9]; exact aI_moved hW9.alike hI, hpos, by rw [ht9]; show hT H + sumN u9.2 16 ≤ _; omega, by rw [ht9]; omega⟩, by rw [ht9]; exact hP, va_K.moved hW9.alike hK, hoq⟩, hS.F ht9⟩) hS.2.2 dL_cursor_20
  ·
    have hP : va_P (dC, dI) vwCl [(qo, .inl (co, 1, .inr (.inl f0)))] H1 := P_kept hP (List.forall_mem_cons.mpr ⟨(fun (z : qo < _) => hk1 qo z (fun y => y.elim (fun (y : 0 < ow qo) => by omega) (fun (y : s.heap.size ≤ qo) => by omega))), fun _ h => absurd h List.not_mem_nil⟩)
    try dsimp only at hw hB
    obtain ⟨hI, hpos, hc1, hc2⟩ := hB
    rw [ht] at hI hc1 hc2
    have hI := aI_moved hvm.symm hI
    have hoq : (ur.2.2.2.1) qo = 0 := by have h9 := hpos qo; omega
    have hP8 := hP
    clear hk1 hz1 ht
    refine W.widen (k := 4) (n := 26) (by omega) (by omega) ?_
    refine W.book2 (fun hz8 hn8 hz7 hn7 => ?_)
    obtain ⟨kw, ekw⟩ : ∃ z : Nat, z = H1.size - s.heap.size := ⟨_, rfl⟩
    obtain ⟨nw, enw⟩ : ∃ z : Nat, z = hT H1 - hT s.heap := ⟨_, rfl⟩
    refine W.tight (k := kw) (n := nw) (by omega) (by omega) ?_
    refine W.eq (g2 := F0 m 7 ls [.int r, .int 0, .ref qo]) rfl ?_
    refine lv_i2l (v := r.toInt64) hx hb dL_cursor_7 rfl ?_
    refine tx_last (i := 0) hx hb hK hP hD hS 0 0 rfl rfl (by unfold vp_in; decide) dL_cursor_8 (fun H locs hP hD hS hoo => ?_)
    have hI : aI (dC, dI) s H a0 qb cq ur.2.2.1 ur.2.2.2.1 ur.2.2.2.2.1 ur.2.2.2.2.2 (upd a1 ur.2.1 5) a4 (upd (upd a8 ur.2.1 (-1)) ur.2.1 (nI ur.1)) a11 := aI_kept hI (fun q z1 z2 => hoo q (fun z => by rw [z] at z2; omega))
    replace hP : va_P (dC, dI) vwCl [(qo, .inl (co, 1, .inr (.inl (vp_updL f0 (0 : Int32).toNatClampNeg r.toInt64))))] H := hP
    refine lv_goto (tgt := 21) hx hb dL_cursor_9 (by decide) ?_
    refine lv_iconst (v := 0) hx hb dL_cursor_21 (by decide) ?_
    refine W.book2 (fun hz9 hn9 _ _ => ?_)
    refine W.widen (k := 4) (n := 26) (by omega) (by omega) ?_
    exact W.iret (v := 0) hx hb hr (fun t9 ht9 hW9 => ⟨⟨0, ((vp_updL f0 (0 : Int32).toNatClampNeg r.toInt64), ur.2.2.1, ur.2.2.2.1, ur.2.2.2.2.1, ur.2.2.2.2.2, (upd a1 ur.2.1 5), a4, (upd (upd a8 ur.2.1 (-1)) ur.2.1 (nI ur.1)), a11), rfl, Or.inl ⟨ur.1, ur.2.1, rfl, (up_0 (f := f0) (x := r.toInt64)).trans (congrArg Int32.toInt64 hw.1), hw.2, rfl, rfl, rfl, rfl⟩, ⟨by rw [ht9]; exact aI_moved hW9.alike hI, hpos, by rw [ht9]; show hT H + sumN ur.2.2.2.2.2 16 ≤ _; omega, by rw [ht9]; omega⟩, by rw [ht9]; exact hP, va_K.moved hW9.alike hK, hoq⟩, hS.F ht9⟩) hS.2.2 dL_cursor_22
set_option maxHeartbeats 4000000 in
set_option maxRecDepth 100000 in
/-- the law's caller of move -/
theorem c_L_move (l : Launch) (hlt : l.stackTraces = false) (dC : Nat → ClassId) (dI : Nat → Nat → Nat) (sz T0 : Nat) {a0 qb : Nat} {cq : ClassId} {bq : Nat → Option Nat} {ow rx cr : Nat → Nat} {a1 a4 a8 a11 : Nat → Int32} (hF : ∃ dep : Nat → Nat, rF a1 a8 dep ∧ ∀ o : Nat, o < 16 → dep o < 17) (qo : Nat) (co : ClassId) (f0 : Nat → Int64) (p0 : Int32) (p1 : Int32) (p2 : Int32) : Met l yL_move wqL_move ({ frames := 10, cells := 2, slots := 12, locals := 362 }) (va_Pc [.ref a0, .int p0, .int p1, .int p2, .ref qo] (lPre (dC, dI) a0 qb cq bq ow rx cr a1 a4 a8 a11 qo co f0 sz T0)) (va_Qi (fun (k : Int32) (u : (Nat → Int64) × (Nat → Option Nat) × (Nat → Nat) × (Nat → Nat) × (Nat → Nat) × (Nat → Int32) × (Nat → Int32) × (Nat → Int32) × (Nat → Int32)) => u.2.2.2.2.2.1 = a1 ∧ u.2.2.2.2.2.2.1 = a4 ∧ u.2.2.2.2.2.2.2.1 = a8 ∧ u.2.2.2.2.2.2.2.2 = a11) (fun (u : (Nat → Int64) × (Nat → Option Nat) × (Nat → Nat) × (Nat → Nat) × (Nat → Nat) × (Nat → Int32) × (Nat → Int32) × (Nat → Int32) × (Nat → Int32)) (t : State) => aPostG (dC, dI) a0 qb cq ow cr sz T0 (u.2.1) (u.2.2.1) (u.2.2.2.1) (u.2.2.2.2.1) (u.2.2.2.2.2.1) (u.2.2.2.2.2.2.1) (u.2.2.2.2.2.2.2.1) (u.2.2.2.2.2.2.2.2) t ∧ va_P (dC, dI) vwCl [(qo, .inl (co, 1, .inr (.inl (u.1))))] t.heap ∧ va_K (dC, dI) vwCl [(co, .long)] t ∧ (u.2.2.1) qo = 0) (lA ow qo sz)) 2 12 (lA ow qo sz) := by
  refine va_MetW (cc := cL_move) (maxL := 6) (ret := (some .int)) (by decide) rfl ?_
  intro p e s m args below meth c s₁ B hml hv
  obtain ⟨rfl, hsz, hT0, hI, hN, hM, hZ, hP, hK, hoq⟩ := hv
  have hx := B.exec
  have hb := B.bytes
  have hr := B.returns
  have hts := atoms_spec (ws := wqL_move) B.pre
  have hown : s.vm.findClass RL = some m.cls := findClass_of_methodNamed B.named
  have hlocks := B.notSynchronized
  have htab : c.exceptionTable.toList = tableOf [(0, 11, 14, 23), (0, 11, 18, 29), (0, 11, 22, 13), (0, 11, 26, 15)] := vx_table (x := yL_move) B (show (Cond.codeWith yL_move cL_move 6 (some .int) [(0, 11, 14, 23), (0, 11, 18, 29), (0, 11, 22, 13), (0, 11, 26, 15)]).before _ s = true from hts _ List.mem_cons_self)
  subst hsz
  subst hT0
  have hbl : qo < s.heap.size := (hP 0 _ rfl).lt
  obtain ⟨A, hAe⟩ : ∃ A : Nat → Prop, A = lA ow qo s.heap.size := ⟨_, rfl⟩
  rw [← hAe] at hZ ⊢
  have hA : ∀ q : Nat, s.heap.size ≤ q → A q := fun q h => by rw [hAe]; exact Or.inl (Or.inr h)
  have hAa : ∀ q : Nat, aA ow s.heap.size q → A q := fun q h => by rw [hAe]; exact Or.inl h
  have hAo : A qo := by rw [hAe]; exact Or.inr rfl
  have hD : va_D A [(qo, .inl (co, 1, .inr (.inl f0)))] := D_one hAo
  have hS : va_S A s.heap s.heap [] := va_S.rf
  have hl := lv_entry ([.ref a0, .int p0, .int p1, .int p2, .ref qo]) (n := 6) (Nat.le_of_ble_eq_true rfl)
  rw [lg_entry_eq]
  generalize (lg_sl ([.ref a0, .int p0, .int p1, .int p2, .ref qo]) ++ List.replicate (6 - (lg_sl ([.ref a0, .int p0, .int p1, .int p2, .ref qo])).length) Slot.unset).toArray = ls at hl ⊢
  have hl : lv_has ls 6 [(0, .ref a0), (1, .int p0), (2, .int p1), (3, .int p2), (4, .ref qo)] := hl
  refine lv_aload hx hb dL_move_0 (lv_at hl 4 rfl) ?_
  refine lv_iconst (v := 0) hx hb dL_move_2 (by decide) ?_
  refine lv_aload_n hx hb dL_move_3 rfl (lv_at hl 0 rfl) ?_
  refine lv_iload_n hx hb dL_move_4 rfl (lv_at hl 1 rfl) ?_
  refine lv_iload_n hx hb dL_move_5 rfl (lv_at hl 2 rfl) ?_
  refine lv_iload_n hx hb dL_move_6 rfl (lv_at hl 3 rfl) ?_
  refine vx_calll (vx_runV (As := [.int p0, .int p1, .int p2]) (rest := [.int 0, .ref qo]) ⟨hx, hb, hml, hown, hts⟩ (u_X7_move l hlt dC dI s.heap.size (hT s.heap) hF p0 p1 p2) (cwV 3 hts gL_move_X7_move rfl rfl rfl (by decide +kernel) ⟨(Nat.le_of_ble_eq_true rfl), (Nat.le_of_ble_eq_true rfl)⟩) ⟨aPre_blind, va_recv hI.2.1 hI.1 (ci := 7) (q0 := 0) rfl rfl, aPre_call hI hN hZ hAa⟩ rfl rfl hl.1 rfl (lv_room (Nat.le_of_ble_eq_true rfl)) dL_move_7 ⟨(Nat.le_of_ble_eq_true rfl), (Nat.le_of_ble_eq_true rfl)⟩) hS (fun q _ h => hAa q h) hAa (fun q _ h => hAa q h) (fun E ce q9 u9 t H1 locs ht hvm hw hB hz1 hk1 hS hce hcv hcl => ?_) (fun r ur t H1 locs ht hvm hw hB hz1 hk1 hS => ?_)
  ·
    have hP : va_P (dC, dI) vwCl [(qo, .inl (co, 1, .inr (.inl f0)))] H1 := P_kept hP (List.forall_mem_cons.mpr ⟨(fun (z : qo < _) => hk1 qo z (fun y => y.elim (fun (y : 0 < ow qo) => by omega) (fun (y : s.heap.size ≤ qo) => by omega))), fun _ h => absurd h List.not_mem_nil⟩)
    obtain ⟨hE, hI, hpos, hc1, hc2⟩ := hB
    rw [ht] at hI hc1 hc2
    have hI := aI_moved hvm.symm hI
    have hoq : u9.1 qo = 0 := by have h9 := hpos qo; omega
    rcases hE with hE | hE | hE | hE
    ·
      subst hE
      refine tx_catch (name := "java/util/NoSuchElementException") hown [] ⟨0, 11, 14, 23⟩ [⟨0, 11, 18, 29⟩, ⟨0, 11, 22, 13⟩, ⟨0, 11, 26, 15⟩] (htab.trans rfl) (fun _ h => absurd h List.not_mem_nil) (by decide) (by decide) (hts (.classLink RL 23 "java/util/NoSuchElementException") (by decide +kernel)) (hN.xw _ (List.mem_of_getElem? (l := p_xw) (i := 4) rfl)) hce hcv hcl ?_
      clear hce
      generalize H1 = H at hP hI hS hc1 hc2 ⊢
      refine W.widen (k := 2) (n := 12) (by omega) (by omega) ?_
      refine W.eq (g2 := F0 m 14 ls [.ref q9]) rfl ?_
      refine lv_astore (lv' := [(5, .ref q9), (0, .ref a0), (1, .int p0), (2, .int p1), (3, .int p2), (4, .ref qo)]) hx hb dL_move_14 hl (by decide) rfl (fun ls hl => ?_)
      refine lv_iconst (v := 1) hx hb dL_move_16 (by decide) ?_
      refine W.book2 (fun hz9 hn9 _ _ => ?_)
      refine W.widen (k := 2) (n := 12) (by omega) (by omega) ?_
      exact W.iret (v := 1) hx hb hr (fun t9 ht9 hW9 => ⟨⟨1, (f0, bq, u9.1, rx, u9.2, a1, a4, a8, a11), rfl, ⟨rfl, rfl, rfl, rfl⟩, ⟨by rw [ht9]; exact aI_moved hW9.alike hI, hpos, by rw [ht9]; show hT H + sumN u9.2 16 ≤ _; omega, by rw [ht9]; omega⟩, by rw [ht9]; exact hP, va_K.moved hW9.alike hK, hoq⟩, hS.F ht9⟩) hS.2.2 dL_move_17
    ·
      subst hE
      refine tx_catch (name := "java/lang/ClassCastException") hown [⟨0, 11, 14, 23⟩] ⟨0, 11, 18, 29⟩ [⟨0, 11, 22, 13⟩, ⟨0, 11, 26, 15⟩] (htab.trans rfl) (List.forall_mem_cons.mpr ⟨Or.inr ⟨by decide, "java/util/NoSuchElementException", hts (.classLink RL 23 "java/util/NoSuchElementException") (by decide +kernel), hM _ (List.mem_of_getElem? (l := p_nx) (i := 0) rfl)⟩, fun _ h => absurd h List.not_mem_nil⟩) (by decide) (by decide) (hts (.classLink RL 29 "java/lang/ClassCastException") (by decide +kernel)) (hN.xw _ (List.mem_of_getElem? (l := p_xw) (i := 6) rfl)) hce hcv hcl ?_
      clear hce
      generalize H1 = H at hP hI hS hc1 hc2 ⊢
      refine W.widen (k := 2) (n := 12) (by omega) (by omega) ?_
      refine W.eq (g2 := F0 m 18 ls [.ref q9]) rfl ?_
      refine lv_astore (lv' := [(5, .ref q9), (0, .ref a0), (1, .int p0), (2, .int p1), (3, .int p2), (4, .ref qo)]) hx hb dL_move_18 hl (by decide) rfl (fun ls hl => ?_)
      refine lv_iconst (v := 2) hx hb dL_move_20 (by decide) ?_
      refine W.book2 (fun hz9 hn9 _ _ => ?_)
      refine W.widen (k := 2) (n := 12) (by omega) (by omega) ?_
      exact W.iret (v := 2) hx hb hr (fun t9 ht9 hW9 => ⟨⟨2, (f0, bq, u9.1, rx, u9.2, a1, a4, a8, a11), rfl, ⟨rfl, rfl, rfl, rfl⟩, ⟨by rw [ht9]; exact aI_moved hW9.alike hI, hpos, by rw [ht9]; show hT H + sumN u9.2 16 ≤ _; omega, by rw [ht9]; omega⟩, by rw [ht9]; exact hP, va_K.moved hW9.alike hK, hoq⟩, hS.F ht9⟩) hS.2.2 dL_move_21
    ·
      subst hE
      refine tx_catch (name := "java/lang/IllegalArgumentException") hown [⟨0, 11, 14, 23⟩, ⟨0, 11, 18, 29⟩] ⟨0, 11, 22, 13⟩ [⟨0, 11, 26, 15⟩] (htab.trans rfl) (List.forall_mem_cons.mpr ⟨Or.inr ⟨by decide, "java/util/NoSuchElementException", hts (.classLink RL 23 "java/util/NoSuchElementException") (by decide +kernel), hM _ (List.mem_of_getElem? (l := p_nx) (i := 1) rfl)⟩, List.forall_mem_cons.mpr ⟨Or.inr ⟨by decide, "java/lang/ClassCastException", hts (.classLink RL 29 "java/lang/ClassCastException") (by decide +kernel), hM _ (List.mem_of_getElem? (l := p_nx) (i := 2) rfl)⟩, fun _ h => absurd h List.not_mem_nil⟩⟩) (by decide) (by decide) (hts (.classLink RL 13 "java/lang/IllegalArgumentException") (by decide +kernel)) (hN.xw _ (List.mem_of_getElem? (l := p_xw) (i := 2) rfl)) hce hcv hcl ?_
      clear hce
      generalize H1 = H at hP hI hS hc1 hc2 ⊢
      refine W.widen (k := 2) (n := 12) (by omega) (by omega) ?_
      refine W.eq (g2 := F0 m 22 ls [.ref q9]) rfl ?_
      refine lv_astore (lv' := [(5, .ref q9), (0, .ref a0), (1, .int p0), (2, .int p1), (3, .int p2), (4, .ref qo)]) hx hb dL_move_22 hl (by decide) rfl (fun ls hl => ?_)
      refine lv_iconst (v := 3) hx hb dL_move_24 (by decide) ?_
      refine W.book2 (fun hz9 hn9 _ _ => ?_)
      refine W.widen (k := 2) (n := 12) (by omega) (by omega) ?_
      exact W.iret (v := 3) hx hb hr (fun t9 ht9 hW9 => ⟨⟨3, (f0, bq, u9.1, rx, u9.2, a1, a4, a8, a11), rfl, ⟨rfl, rfl, rfl, rfl⟩, ⟨by rw [ht9]; exact aI_moved hW9.alike hI, hpos, by rw [ht9]; show hT H + sumN u9.2 16 ≤ _; omega, by rw [ht9]; omega⟩, by rw [ht9]; exact hP, va_K.moved hW9.alike hK, hoq⟩, hS.F ht9⟩) hS.2.2 dL_move_25
    ·
      subst hE
      refine tx_catch (name := "java/lang/IllegalStateException") hown [⟨0, 11, 14, 23⟩, ⟨0, 11, 18, 29⟩, ⟨0, 11, 22, 13⟩] ⟨0, 11, 26, 15⟩ [] (htab.trans rfl) (List.forall_mem_cons.mpr ⟨Or.inr ⟨by decide, "java/util/NoSuchElementException", hts (.classLink RL 23 "java/util/NoSuchElementException") (by decide +kernel), hM _ (List.mem_of_getElem? (l := p_nx) (i := 3) rfl)⟩, List.forall_mem_cons.mpr ⟨Or.inr ⟨by decide, "java/lang/ClassCastException", hts (.classLink RL 29 "java/lang/ClassCastException") (by decide +kernel), hM _ (List.mem_of_getElem? (l := p_nx) (i := 4) rfl)⟩, List.forall_mem_cons.mpr ⟨Or.inr ⟨by decide, "java/lang/IllegalArgumentException", hts (.classLink RL 13 "java/lang/IllegalArgumentException") (by decide +kernel), hM _ (List.mem_of_getElem? (l := p_nx) (i := 5) rfl)⟩, fun _ h => absurd h List.not_mem_nil⟩⟩⟩) (by decide) (by decide) (hts (.classLink RL 15 "java/lang/IllegalStateException") (by decide +kernel)) (hN.xw _ (List.mem_of_getElem? (l := p_xw) (i := 5) rfl)) hce hcv hcl ?_
      clear hce
      generalize H1 = H at hP hI hS hc1 hc2 ⊢
      refine W.widen (k := 2) (n := 12) (by omega) (by omega) ?_
      refine W.eq (g2 := F0 m 26 ls [.ref q9]) rfl ?_
      refine lv_astore (lv' := [(5, .ref q9), (0, .ref a0), (1, .int p0), (2, .int p1), (3, .int p2), (4, .ref qo)]) hx hb dL_move_26 hl (by decide) rfl (fun ls hl => ?_)
      refine lv_iconst (v := 4) hx hb dL_move_28 (by decide) ?_
      refine W.book2 (fun hz9 hn9 _ _ => ?_)
      refine W.widen (k := 2) (n := 12) (by omega) (by omega) ?_
      exact W.iret (v := 4) hx hb hr (fun t9 ht9 hW9 => ⟨⟨4, (f0, bq, u9.1, rx, u9.2, a1, a4, a8, a11), rfl, ⟨rfl, rfl, rfl, rfl⟩, ⟨by rw [ht9]; exact aI_moved hW9.alike hI, hpos, by rw [ht9]; show hT H + sumN u9.2 16 ≤ _; omega, by rw [ht9]; omega⟩, by rw [ht9]; exact hP, va_K.moved hW9.alike hK, hoq⟩, hS.F ht9⟩) hS.2.2 dL_move_29
  ·
    have hP : va_P (dC, dI) vwCl [(qo, .inl (co, 1, .inr (.inl f0)))] H1 := P_kept hP (List.forall_mem_cons.mpr ⟨(fun (z : qo < _) => hk1 qo z (fun y => y.elim (fun (y : 0 < ow qo) => by omega) (fun (y : s.heap.size ≤ qo) => by omega))), fun _ h => absurd h List.not_mem_nil⟩)
    try dsimp only at hw hB
    obtain ⟨hI, hpos, hc1, hc2⟩ := hB
    rw [ht] at hI hc1 hc2
    have hI := aI_moved hvm.symm hI
    have hoq : (ur.1) qo = 0 := by have h9 := hpos qo; omega
    have hP8 := hP
    clear hk1 hz1 ht
    refine W.widen (k := 2) (n := 12) (by omega) (by omega) ?_
    refine W.book2 (fun hz8 hn8 hz7 hn7 => ?_)
    obtain ⟨kw, ekw⟩ : ∃ z : Nat, z = H1.size - s.heap.size := ⟨_, rfl⟩
    obtain ⟨nw, enw⟩ : ∃ z : Nat, z = hT H1 - hT s.heap := ⟨_, rfl⟩
    refine W.tight (k := kw) (n := nw) (by omega) (by omega) ?_
    refine W.eq (g2 := F0 m 10 ls [.long r, .int 0, .ref qo]) rfl ?_
    refine tx_last (i := 0) hx hb hK hP hD hS 0 0 rfl rfl (by unfold vp_in; decide) dL_move_10 (fun H locs hP hD hS hoo => ?_)
    have hI : aI (dC, dI) s H a0 qb cq bq ur.1 rx ur.2 a1 a4 a8 a11 := aI_kept hI (fun q z1 z2 => hoo q (fun z => by rw [z] at z2; omega))
    replace hP : va_P (dC, dI) vwCl [(qo, .inl (co, 1, .inr (.inl (vp_updL f0 (0 : Int32).toNatClampNeg r))))] H := hP
    refine lv_goto (tgt := 30) hx hb dL_move_11 (by decide) ?_
    refine lv_iconst (v := 0) hx hb dL_move_30 (by decide) ?_
    refine W.book2 (fun hz9 hn9 _ _ => ?_)
    refine W.widen (k := 2) (n := 12) (by omega) (by omega) ?_
    exact W.iret (v := 0) hx hb hr (fun t9 ht9 hW9 => ⟨⟨0, ((vp_updL f0 (0 : Int32).toNatClampNeg r), bq, ur.1, rx, ur.2, a1, a4, a8, a11), rfl, ⟨rfl, rfl, rfl, rfl⟩, ⟨by rw [ht9]; exact aI_moved hW9.alike hI, hpos, by rw [ht9]; show hT H + sumN ur.2 16 ≤ _; omega, by rw [ht9]; omega⟩, by rw [ht9]; exact hP, va_K.moved hW9.alike hK, hoq⟩, hS.F ht9⟩) hS.2.2 dL_move_31
set_option maxHeartbeats 4000000 in
set_option maxRecDepth 100000 in
/-- the law's caller of item -/
theorem c_L_item (l : Launch) (hlt : l.stackTraces = false) (dC : Nat → ClassId) (dI : Nat → Nat → Nat) (sz T0 : Nat) {a0 qb : Nat} {cq : ClassId} {bq : Nat → Option Nat} {ow rx cr : Nat → Nat} {a1 a4 a8 a11 : Nat → Int32} (hF : ∃ dep : Nat → Nat, rF a1 a8 dep ∧ ∀ o : Nat, o < 16 → dep o < 17) (qo : Nat) (co : ClassId) (f0 : Nat → Int64) (p0 : Int32) (p1 : Int32) (p2 : Int32) : Met l yL_item wqL_item ({ frames := 8, cells := 2, slots := 12, locals := 272 }) (va_Pc [.ref a0, .int p0, .int p1, .int p2, .ref qo] (lPre (dC, dI) a0 qb cq bq ow rx cr a1 a4 a8 a11 qo co f0 sz T0)) (va_Qi (fun (k : Int32) (u : (Nat → Int64) × (Nat → Option Nat) × (Nat → Nat) × (Nat → Nat) × (Nat → Nat) × (Nat → Int32) × (Nat → Int32) × (Nat → Int32) × (Nat → Int32)) => u.2.2.2.2.2.1 = a1 ∧ u.2.2.2.2.2.2.1 = a4 ∧ u.2.2.2.2.2.2.2.1 = a8 ∧ u.2.2.2.2.2.2.2.2 = a11) (fun (u : (Nat → Int64) × (Nat → Option Nat) × (Nat → Nat) × (Nat → Nat) × (Nat → Nat) × (Nat → Int32) × (Nat → Int32) × (Nat → Int32) × (Nat → Int32)) (t : State) => aPostG (dC, dI) a0 qb cq ow cr sz T0 (u.2.1) (u.2.2.1) (u.2.2.2.1) (u.2.2.2.2.1) (u.2.2.2.2.2.1) (u.2.2.2.2.2.2.1) (u.2.2.2.2.2.2.2.1) (u.2.2.2.2.2.2.2.2) t ∧ va_P (dC, dI) vwCl [(qo, .inl (co, 1, .inr (.inl (u.1))))] t.heap ∧ va_K (dC, dI) vwCl [(co, .long)] t ∧ (u.2.2.1) qo = 0) (lA ow qo sz)) 2 12 (lA ow qo sz) := by
  refine va_MetW (cc := cL_item) (maxL := 6) (ret := (some .int)) (by decide) rfl ?_
  intro p e s m args below meth c s₁ B hml hv
  obtain ⟨rfl, hsz, hT0, hI, hN, hM, hZ, hP, hK, hoq⟩ := hv
  have hx := B.exec
  have hb := B.bytes
  have hr := B.returns
  have hts := atoms_spec (ws := wqL_item) B.pre
  have hown : s.vm.findClass RL = some m.cls := findClass_of_methodNamed B.named
  have hlocks := B.notSynchronized
  have htab : c.exceptionTable.toList = tableOf [(0, 11, 14, 23), (0, 11, 18, 29), (0, 11, 22, 13), (0, 11, 26, 47)] := vx_table (x := yL_item) B (show (Cond.codeWith yL_item cL_item 6 (some .int) [(0, 11, 14, 23), (0, 11, 18, 29), (0, 11, 22, 13), (0, 11, 26, 47)]).before _ s = true from hts _ List.mem_cons_self)
  subst hsz
  subst hT0
  have hbl : qo < s.heap.size := (hP 0 _ rfl).lt
  obtain ⟨A, hAe⟩ : ∃ A : Nat → Prop, A = lA ow qo s.heap.size := ⟨_, rfl⟩
  rw [← hAe] at hZ ⊢
  have hA : ∀ q : Nat, s.heap.size ≤ q → A q := fun q h => by rw [hAe]; exact Or.inl (Or.inr h)
  have hAa : ∀ q : Nat, aA ow s.heap.size q → A q := fun q h => by rw [hAe]; exact Or.inl h
  have hAo : A qo := by rw [hAe]; exact Or.inr rfl
  have hD : va_D A [(qo, .inl (co, 1, .inr (.inl f0)))] := D_one hAo
  have hS : va_S A s.heap s.heap [] := va_S.rf
  have hl := lv_entry ([.ref a0, .int p0, .int p1, .int p2, .ref qo]) (n := 6) (Nat.le_of_ble_eq_true rfl)
  rw [lg_entry_eq]
  generalize (lg_sl ([.ref a0, .int p0, .int p1, .int p2, .ref qo]) ++ List.replicate (6 - (lg_sl ([.ref a0, .int p0, .int p1, .int p2, .ref qo])).length) Slot.unset).toArray = ls at hl ⊢
  have hl : lv_has ls 6 [(0, .ref a0), (1, .int p0), (2, .int p1), (3, .int p2), (4, .ref qo)] := hl
  refine lv_aload hx hb dL_item_0 (lv_at hl 4 rfl) ?_
  refine lv_iconst (v := 0) hx hb dL_item_2 (by decide) ?_
  refine lv_aload_n hx hb dL_item_3 rfl (lv_at hl 0 rfl) ?_
  refine lv_iload_n hx hb dL_item_4 rfl (lv_at hl 1 rfl) ?_
  refine lv_iload_n hx hb dL_item_5 rfl (lv_at hl 2 rfl) ?_
  refine lv_iload_n hx hb dL_item_6 rfl (lv_at hl 3 rfl) ?_
  refine vx_calll (vx_runV (As := [.int p0, .int p1, .int p2]) (rest := [.int 0, .ref qo]) ⟨hx, hb, hml, hown, hts⟩ (u_X7_item l hlt dC dI s.heap.size (hT s.heap) hF p0 p1 p2) (cwV 3 hts gL_item_X7_item rfl rfl rfl (by decide +kernel) ⟨(Nat.le_of_ble_eq_true rfl), (Nat.le_of_ble_eq_true rfl)⟩) ⟨aPre_blind, va_recv hI.2.1 hI.1 (ci := 7) (q0 := 0) rfl rfl, aPre_call hI hN hZ hAa⟩ rfl rfl hl.1 rfl (lv_room (Nat.le_of_ble_eq_true rfl)) dL_item_7 ⟨(Nat.le_of_ble_eq_true rfl), (Nat.le_of_ble_eq_true rfl)⟩) hS (fun q _ h => hAa q h) hAa (fun q _ h => hAa q h) (fun E ce q9 u9 t H1 locs ht hvm hw hB hz1 hk1 hS hce hcv hcl => ?_) (fun r ur t H1 locs ht hvm hw hB hz1 hk1 hS => ?_)
  ·
    have hP : va_P (dC, dI) vwCl [(qo, .inl (co, 1, .inr (.inl f0)))] H1 := P_kept hP (List.forall_mem_cons.mpr ⟨(fun (z : qo < _) => hk1 qo z (fun y => y.elim (fun (y : 0 < ow qo) => by omega) (fun (y : s.heap.size ≤ qo) => by omega))), fun _ h => absurd h List.not_mem_nil⟩)
    obtain ⟨hE, hI, hpos, hc1, hc2⟩ := hB
    rw [ht] at hI hc1 hc2
    have hI := aI_moved hvm.symm hI
    have hoq : u9.1 qo = 0 := by have h9 := hpos qo; omega
    rcases hE with hE | hE | hE | hE
    ·
      subst hE
      refine tx_catch (name := "java/util/NoSuchElementException") hown [] ⟨0, 11, 14, 23⟩ [⟨0, 11, 18, 29⟩, ⟨0, 11, 22, 13⟩, ⟨0, 11, 26, 47⟩] (htab.trans rfl) (fun _ h => absurd h List.not_mem_nil) (by decide) (by decide) (hts (.classLink RL 23 "java/util/NoSuchElementException") (by decide +kernel)) (hN.xw _ (List.mem_of_getElem? (l := p_xw) (i := 4) rfl)) hce hcv hcl ?_
      clear hce
      generalize H1 = H at hP hI hS hc1 hc2 ⊢
      refine W.widen (k := 2) (n := 12) (by omega) (by omega) ?_
      refine W.eq (g2 := F0 m 14 ls [.ref q9]) rfl ?_
      refine lv_astore (lv' := [(5, .ref q9), (0, .ref a0), (1, .int p0), (2, .int p1), (3, .int p2), (4, .ref qo)]) hx hb dL_item_14 hl (by decide) rfl (fun ls hl => ?_)
      refine lv_iconst (v := 1) hx hb dL_item_16 (by decide) ?_
      refine W.book2 (fun hz9 hn9 _ _ => ?_)
      refine W.widen (k := 2) (n := 12) (by omega) (by omega) ?_
      exact W.iret (v := 1) hx hb hr (fun t9 ht9 hW9 => ⟨⟨1, (f0, bq, u9.1, rx, u9.2, a1, a4, a8, a11), rfl, ⟨rfl, rfl, rfl, rfl⟩, ⟨by rw [ht9]; exact aI_moved hW9.alike hI, hpos, by rw [ht9]; show hT H + sumN u9.2 16 ≤ _; omega, by rw [ht9]; omega⟩, by rw [ht9]; exact hP, va_K.moved hW9.alike hK, hoq⟩, hS.F ht9⟩) hS.2.2 dL_item_17
    ·
      subst hE
      refine tx_catch (name := "java/lang/ClassCastException") hown [⟨0, 11, 14, 23⟩] ⟨0, 11, 18, 29⟩ [⟨0, 11, 22, 13⟩, ⟨0, 11, 26, 47⟩] (htab.trans rfl) (List.forall_mem_cons.mpr ⟨Or.inr ⟨by decide, "java/util/NoSuchElementException", hts (.classLink RL 23 "java/util/NoSuchElementException") (by decide +kernel), hM _ (List.mem_of_getElem? (l := p_nx) (i := 0) rfl)⟩, fun _ h => absurd h List.not_mem_nil⟩) (by decide) (by decide) (hts (.classLink RL 29 "java/lang/ClassCastException") (by decide +kernel)) (hN.xw _ (List.mem_of_getElem? (l := p_xw) (i := 6) rfl)) hce hcv hcl ?_
      clear hce
      generalize H1 = H at hP hI hS hc1 hc2 ⊢
      refine W.widen (k := 2) (n := 12) (by omega) (by omega) ?_
      refine W.eq (g2 := F0 m 18 ls [.ref q9]) rfl ?_
      refine lv_astore (lv' := [(5, .ref q9), (0, .ref a0), (1, .int p0), (2, .int p1), (3, .int p2), (4, .ref qo)]) hx hb dL_item_18 hl (by decide) rfl (fun ls hl => ?_)
      refine lv_iconst (v := 2) hx hb dL_item_20 (by decide) ?_
      refine W.book2 (fun hz9 hn9 _ _ => ?_)
      refine W.widen (k := 2) (n := 12) (by omega) (by omega) ?_
      exact W.iret (v := 2) hx hb hr (fun t9 ht9 hW9 => ⟨⟨2, (f0, bq, u9.1, rx, u9.2, a1, a4, a8, a11), rfl, ⟨rfl, rfl, rfl, rfl⟩, ⟨by rw [ht9]; exact aI_moved hW9.alike hI, hpos, by rw [ht9]; show hT H + sumN u9.2 16 ≤ _; omega, by rw [ht9]; omega⟩, by rw [ht9]; exact hP, va_K.moved hW9.alike hK, hoq⟩, hS.F ht9⟩) hS.2.2 dL_item_21
    ·
      subst hE
      refine tx_catch (name := "java/lang/IllegalArgumentException") hown [⟨0, 11, 14, 23⟩, ⟨0, 11, 18, 29⟩] ⟨0, 11, 22, 13⟩ [⟨0, 11, 26, 47⟩] (htab.trans rfl) (List.forall_mem_cons.mpr ⟨Or.inr ⟨by decide, "java/util/NoSuchElementException", hts (.classLink RL 23 "java/util/NoSuchElementException") (by decide +kernel), hM _ (List.mem_of_getElem? (l := p_nx) (i := 1) rfl)⟩, List.forall_mem_cons.mpr ⟨Or.inr ⟨by decide, "java/lang/ClassCastException", hts (.classLink RL 29 "java/lang/ClassCastException") (by decide +kernel), hM _ (List.mem_of_getElem? (l := p_nx) (i := 2) rfl)⟩, fun _ h => absurd h List.not_mem_nil⟩⟩) (by decide) (by decide) (hts (.classLink RL 13 "java/lang/IllegalArgumentException") (by decide +kernel)) (hN.xw _ (List.mem_of_getElem? (l := p_xw) (i := 2) rfl)) hce hcv hcl ?_
      clear hce
      generalize H1 = H at hP hI hS hc1 hc2 ⊢
      refine W.widen (k := 2) (n := 12) (by omega) (by omega) ?_
      refine W.eq (g2 := F0 m 22 ls [.ref q9]) rfl ?_
      refine lv_astore (lv' := [(5, .ref q9), (0, .ref a0), (1, .int p0), (2, .int p1), (3, .int p2), (4, .ref qo)]) hx hb dL_item_22 hl (by decide) rfl (fun ls hl => ?_)
      refine lv_iconst (v := 3) hx hb dL_item_24 (by decide) ?_
      refine W.book2 (fun hz9 hn9 _ _ => ?_)
      refine W.widen (k := 2) (n := 12) (by omega) (by omega) ?_
      exact W.iret (v := 3) hx hb hr (fun t9 ht9 hW9 => ⟨⟨3, (f0, bq, u9.1, rx, u9.2, a1, a4, a8, a11), rfl, ⟨rfl, rfl, rfl, rfl⟩, ⟨by rw [ht9]; exact aI_moved hW9.alike hI, hpos, by rw [ht9]; show hT H + sumN u9.2 16 ≤ _; omega, by rw [ht9]; omega⟩, by rw [ht9]; exact hP, va_K.moved hW9.alike hK, hoq⟩, hS.F ht9⟩) hS.2.2 dL_item_25
    ·
      subst hE
      refine tx_catch (name := "java/lang/IndexOutOfBoundsException") hown [⟨0, 11, 14, 23⟩, ⟨0, 11, 18, 29⟩, ⟨0, 11, 22, 13⟩] ⟨0, 11, 26, 47⟩ [] (htab.trans rfl) (List.forall_mem_cons.mpr ⟨Or.inr ⟨by decide, "java/util/NoSuchElementException", hts (.classLink RL 23 "java/util/NoSuchElementException") (by decide +kernel), hM _ (List.mem_of_getElem? (l := p_nx) (i := 10) rfl)⟩, List.forall_mem_cons.mpr ⟨Or.inr ⟨by decide, "java/lang/ClassCastException", hts (.classLink RL 29 "java/lang/ClassCastException") (by decide +kernel), hM _ (List.mem_of_getElem? (l := p_nx) (i := 11) rfl)⟩, List.forall_mem_cons.mpr ⟨Or.inr ⟨by decide, "java/lang/IllegalArgumentException", hts (.classLink RL 13 "java/lang/IllegalArgumentException") (by decide +kernel), hM _ (List.mem_of_getElem? (l := p_nx) (i := 12) rfl)⟩, fun _ h => absurd h List.not_mem_nil⟩⟩⟩) (by decide) (by decide) (hts (.classLink RL 47 "java/lang/IndexOutOfBoundsException") (by decide +kernel)) (hN.xw _ (List.mem_of_getElem? (l := p_xw) (i := 8) rfl)) hce hcv hcl ?_
      clear hce
      generalize H1 = H at hP hI hS hc1 hc2 ⊢
      refine W.widen (k := 2) (n := 12) (by omega) (by omega) ?_
      refine W.eq (g2 := F0 m 26 ls [.ref q9]) rfl ?_
      refine lv_astore (lv' := [(5, .ref q9), (0, .ref a0), (1, .int p0), (2, .int p1), (3, .int p2), (4, .ref qo)]) hx hb dL_item_26 hl (by decide) rfl (fun ls hl => ?_)
      refine lv_iconst (v := 4) hx hb dL_item_28 (by decide) ?_
      refine W.book2 (fun hz9 hn9 _ _ => ?_)
      refine W.widen (k := 2) (n := 12) (by omega) (by omega) ?_
      exact W.iret (v := 4) hx hb hr (fun t9 ht9 hW9 => ⟨⟨4, (f0, bq, u9.1, rx, u9.2, a1, a4, a8, a11), rfl, ⟨rfl, rfl, rfl, rfl⟩, ⟨by rw [ht9]; exact aI_moved hW9.alike hI, hpos, by rw [ht9]; show hT H + sumN u9.2 16 ≤ _; omega, by rw [ht9]; omega⟩, by rw [ht9]; exact hP, va_K.moved hW9.alike hK, hoq⟩, hS.F ht9⟩) hS.2.2 dL_item_29
  ·
    have hP : va_P (dC, dI) vwCl [(qo, .inl (co, 1, .inr (.inl f0)))] H1 := P_kept hP (List.forall_mem_cons.mpr ⟨(fun (z : qo < _) => hk1 qo z (fun y => y.elim (fun (y : 0 < ow qo) => by omega) (fun (y : s.heap.size ≤ qo) => by omega))), fun _ h => absurd h List.not_mem_nil⟩)
    try dsimp only at hw hB
    obtain ⟨hI, hpos, hc1, hc2⟩ := hB
    rw [ht] at hI hc1 hc2
    have hI := aI_moved hvm.symm hI
    have hoq : (ur.1) qo = 0 := by have h9 := hpos qo; omega
    have hP8 := hP
    clear hk1 hz1 ht
    refine W.widen (k := 2) (n := 12) (by omega) (by omega) ?_
    refine W.book2 (fun hz8 hn8 hz7 hn7 => ?_)
    obtain ⟨kw, ekw⟩ : ∃ z : Nat, z = H1.size - s.heap.size := ⟨_, rfl⟩
    obtain ⟨nw, enw⟩ : ∃ z : Nat, z = hT H1 - hT s.heap := ⟨_, rfl⟩
    refine W.tight (k := kw) (n := nw) (by omega) (by omega) ?_
    refine W.eq (g2 := F0 m 10 ls [.long r, .int 0, .ref qo]) rfl ?_
    refine tx_last (i := 0) hx hb hK hP hD hS 0 0 rfl rfl (by unfold vp_in; decide) dL_item_10 (fun H locs hP hD hS hoo => ?_)
    have hI : aI (dC, dI) s H a0 qb cq bq ur.1 rx ur.2 a1 a4 a8 a11 := aI_kept hI (fun q z1 z2 => hoo q (fun z => by rw [z] at z2; omega))
    replace hP : va_P (dC, dI) vwCl [(qo, .inl (co, 1, .inr (.inl (vp_updL f0 (0 : Int32).toNatClampNeg r))))] H := hP
    refine lv_goto (tgt := 30) hx hb dL_item_11 (by decide) ?_
    refine lv_iconst (v := 0) hx hb dL_item_30 (by decide) ?_
    refine W.book2 (fun hz9 hn9 _ _ => ?_)
    refine W.widen (k := 2) (n := 12) (by omega) (by omega) ?_
    exact W.iret (v := 0) hx hb hr (fun t9 ht9 hW9 => ⟨⟨0, ((vp_updL f0 (0 : Int32).toNatClampNeg r), bq, ur.1, rx, ur.2, a1, a4, a8, a11), rfl, ⟨rfl, rfl, rfl, rfl⟩, ⟨by rw [ht9]; exact aI_moved hW9.alike hI, hpos, by rw [ht9]; show hT H + sumN ur.2 16 ≤ _; omega, by rw [ht9]; omega⟩, by rw [ht9]; exact hP, va_K.moved hW9.alike hK, hoq⟩, hS.F ht9⟩) hS.2.2 dL_item_31
