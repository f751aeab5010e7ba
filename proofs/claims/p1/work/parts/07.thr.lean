theorem mk_a {k a b : Int32} (h : k.toInt < 0 ∨ 2 < k.toInt) : mkIs k a b 1 := Or.inl ⟨rfl, h⟩
theorem mk_b {k a b : Int32} (h : k.toInt = 0) (h2 : a.toInt < 0) : mkIs k a b 3 := Or.inr (Or.inl ⟨rfl, h, h2⟩)
theorem mk_no {k a b : Int32} (h0 : 0 ≤ k.toInt) (h1 : k.toInt ≤ 2) (h2 : k.toInt = 0 → 0 ≤ a.toInt) (h3 : ¬ mkRng k a b) : mkIs k a b 1 := by
  unfold mkIs
  unfold mkRng at h3
  omega
theorem mk_yes {k a b : Int32} (h0 : 0 ≤ k.toInt) (h1 : k.toInt ≤ 2) (h2 : k.toInt = 0 → 0 ≤ a.toInt) (h3 : mkRng k a b) : mkIs k a b 0 := by
  unfold mkIs
  unfold mkRng at h3
  omega
theorem mk_rn {r : Int32} {P : Prop} (h : (r.toInt = 1 ∧ P) ∨ (r.toInt = 0 ∧ ¬ P)) (h0 : r.toInt = 0) : ¬ P := by
  rcases h with h | h
  · exact absurd h.1 (by omega)
  · exact h.2
theorem mk_ry {r : Int32} {P : Prop} (h : (r.toInt = 1 ∧ P) ∨ (r.toInt = 0 ∧ ¬ P)) (h0 : ¬ r.toInt = 0) : P := by
  rcases h with h | h
  · exact h.2
  · exact absurd h.1 (by omega)
theorem gN_make_areInRange : GoodIn wsN_make (va_wsS RX7 27 yX7_areInRange wsX7_areInRange) := by
  unfold wsN_make
  exact goodIn_mono gX7_make_X7_areInRange
theorem gN_make_newMap : GoodIn wsN_make (va_wsS RX7 33 yX7_newMap wsX7_newMap) := by
  unfold wsN_make
  exact goodIn_mono gX7_make_X7_newMap
theorem gN_make_settle : GoodIn wsN_make (wsV RX7 37 RX7 yX7_settle wsX7_settle) := by
  unfold wsN_make
  exact goodIn_mono gX7_make_X7_settle
theorem ng_RX7_19 : ∀ w ∈ (vx_atS RX7 19 "java/lang/IllegalArgumentException" ["java/lang/RuntimeException", "java/lang/Exception"]).filter (fun w => !goodWord w), w ∈ p_xw := by decide +kernel
theorem og_RX7_19 : ∀ w ∈ Cond.classLink RX7 15 "java/lang/IllegalArgumentException" :: Cond.initialized "java/lang/IllegalArgumentException" :: vx_atS RX7 19 "java/lang/IllegalArgumentException" ["java/lang/RuntimeException", "java/lang/Exception"], vx_ot w = true := by decide +kernel
theorem at_X7_make_9 : ∀ w ∈ (vx_atS RX7 19 "java/lang/IllegalArgumentException" ["java/lang/RuntimeException", "java/lang/Exception"]).filter goodWord, w ∈ wsN_make := fun w h => by
  unfold wsN_make wsX7_make
  exact List.mem_append_left _ (List.mem_cons_of_mem _ (List.mem_append_left _ (List.mem_append_right _ h)))
theorem at_X7_make_46 : ∀ w ∈ (vx_atS RX7 19 "java/lang/IllegalArgumentException" ["java/lang/RuntimeException", "java/lang/Exception"]).filter goodWord, w ∈ wsN_make := fun w h => by
  unfold wsN_make wsX7_make
  exact List.mem_append_left _ (List.mem_cons_of_mem _ (List.mem_append_left _ (List.mem_append_right _ h)))
theorem ng_RX7_26 : ∀ w ∈ (vx_atS RX7 26 "java/lang/NegativeArraySizeException" ["java/lang/RuntimeException", "java/lang/Exception"]).filter (fun w => !goodWord w), w ∈ p_xw := by decide +kernel
theorem og_RX7_26 : ∀ w ∈ Cond.classLink RX7 22 "java/lang/NegativeArraySizeException" :: Cond.initialized "java/lang/NegativeArraySizeException" :: vx_atS RX7 26 "java/lang/NegativeArraySizeException" ["java/lang/RuntimeException", "java/lang/Exception"], vx_ot w = true := by decide +kernel
theorem at_X7_make_27 : ∀ w ∈ (vx_atS RX7 26 "java/lang/NegativeArraySizeException" ["java/lang/RuntimeException", "java/lang/Exception"]).filter goodWord, w ∈ wsN_make := fun w h => by
  unfold wsN_make wsX7_make
  exact List.mem_append_right _ h
theorem ng_RX7_243 : ∀ w ∈ (tx_atN RX7 243).filter (fun w => !goodWord w), w ∈ p_xw := by decide +kernel
theorem og_RX7_243 : ∀ w ∈ Cond.classLink RX7 239 nN :: Cond.initialized nN :: tx_atN RX7 243, vx_ot w = true := by decide +kernel
theorem at_X7_bodyAt_10 : ∀ w ∈ (tx_atN RX7 243).filter goodWord, w ∈ wsP_X7_bodyAt := fun w h => by
  unfold wsP_X7_bodyAt
  exact List.mem_cons_of_mem _ (List.mem_append_right _ h)
theorem at_X7_count_51 : ∀ w ∈ (vx_atS RX7 19 "java/lang/IllegalArgumentException" ["java/lang/RuntimeException", "java/lang/Exception"]).filter goodWord, w ∈ wsP_X7_count := fun w h => by
  unfold wsP_X7_count
  exact List.mem_cons_of_mem _ (List.mem_append_right _ h)
