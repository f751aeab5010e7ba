theorem tx_up0 {f : Nat → Int64} {x : Int64} : vp_updL f (0 : Int32).toNatClampNeg x 0 = x := by
  unfold vp_updL
  rw [if_pos (by decide)]
def wsP_L_make : List Cond := .codeWith yL_make cL_make 6 (some .int) [(0, 12, 15, 13), (0, 12, 19, 15), (0, 12, 23, 17)] :: ([.classLink RL 13 "java/lang/IllegalArgumentException", .classLink RL 15 "java/lang/IllegalStateException", .classLink RL 17 "java/lang/NegativeArraySizeException"] ++ wsV RL 7 RX7 yX7_make wsN_make)
theorem gP_L_make_make : GoodIn wsP_L_make (wsV RL 7 RX7 yX7_make wsN_make) := goodIn_sub (fun w h => List.mem_cons_of_mem _ (List.mem_append_right _ h)) (by decide +kernel)
def wsP_L_drop : List Cond := .codeWith yL_drop cL_drop 4 (some .int) [(0, 9, 12, 23)] :: ([.classLink RL 23 "java/util/NoSuchElementException"] ++ wsV RL 19 RX7 yX7_drop wsP_X7_drop)
theorem gP_L_drop_drop : GoodIn wsP_L_drop (wsV RL 19 RX7 yX7_drop wsP_X7_drop) := goodIn_sub (fun w h => List.mem_cons_of_mem _ (List.mem_append_right _ h)) (by decide +kernel)
def wsP_L_map : List Cond := .codeWith yL_map cL_map 7 (some .int) [(0, 13, 16, 23), (0, 13, 20, 29), (0, 13, 24, 13), (0, 13, 28, 15), (0, 13, 32, 31)] :: ([.classLink RL 23 "java/util/NoSuchElementException"] ++ wsV RL 25 RX7 yX7_map wsP_X7_map)
theorem gP_L_map_map : GoodIn wsP_L_map (wsV RL 25 RX7 yX7_map wsP_X7_map) := goodIn_sub (fun w h => List.mem_cons_of_mem _ (List.mem_append_right _ h)) (by decide +kernel)
def wsP_L_view : List Cond := .codeWith yL_view cL_view 7 (some .int) [(0, 14, 17, 23), (0, 14, 21, 29), (0, 14, 25, 13), (0, 14, 29, 15)] :: ([.classLink RL 23 "java/util/NoSuchElementException"] ++ wsV RL 33 RX7 yX7_view wsP_X7_view)
theorem gP_L_view_view : GoodIn wsP_L_view (wsV RL 33 RX7 yX7_view wsP_X7_view) := goodIn_sub (fun w h => List.mem_cons_of_mem _ (List.mem_append_right _ h)) (by decide +kernel)
def wsP_L_cursor : List Cond := .codeWith yL_cursor cL_cursor 4 (some .int) [(0, 9, 12, 23), (0, 9, 15, 29), (0, 9, 18, 15)] :: ([.classLink RL 23 "java/util/NoSuchElementException"] ++ wsV RL 37 RX7 yX7_cursor wsP_X7_cursor)
theorem gP_L_cursor_cursor : GoodIn wsP_L_cursor (wsV RL 37 RX7 yX7_cursor wsP_X7_cursor) := goodIn_sub (fun w h => List.mem_cons_of_mem _ (List.mem_append_right _ h)) (by decide +kernel)
def wsP_L_move : List Cond := .codeWith yL_move cL_move 6 (some .int) [(0, 11, 14, 23), (0, 11, 18, 29), (0, 11, 22, 13), (0, 11, 26, 15)] :: ([.classLink RL 23 "java/util/NoSuchElementException"] ++ wsV RL 40 RX7 yX7_move wsP_X7_move)
theorem gP_L_move_move : GoodIn wsP_L_move (wsV RL 40 RX7 yX7_move wsP_X7_move) := goodIn_sub (fun w h => List.mem_cons_of_mem _ (List.mem_append_right _ h)) (by decide +kernel)
def wsP_L_item : List Cond := .codeWith yL_item cL_item 6 (some .int) [(0, 11, 14, 23), (0, 11, 18, 29), (0, 11, 22, 13), (0, 11, 26, 47)] :: ([.classLink RL 23 "java/util/NoSuchElementException"] ++ wsV RL 44 RX7 yX7_item wsP_X7_item)
theorem gP_L_item_item : GoodIn wsP_L_item (wsV RL 44 RX7 yX7_item wsP_X7_item) := goodIn_sub (fun w h => List.mem_cons_of_mem _ (List.mem_append_right _ h)) (by decide +kernel)
def wsP_L_count : List Cond := .codeWith yL_count cL_count 4 (some .int) [(0, 9, 12, 13)] :: ([.classLink RL 13 "java/lang/IllegalArgumentException"] ++ wsV RL 49 RX7 yX7_count wsP_X7_count)
theorem gP_L_count_count : GoodIn wsP_L_count (wsV RL 49 RX7 yX7_count wsP_X7_count) := goodIn_sub (fun w h => List.mem_cons_of_mem _ (List.mem_append_right _ h)) (by decide +kernel)
