theorem dX7_item_8 : decode cX7_item 8 = .ok (.astore 4, 2) := by decide +kernel
theorem dX7_item_10 : decode cX7_item 10 = .ok (.iload_n 3, 1) := by decide +kernel
theorem dX7_item_11 : decode cX7_item 11 = .ok (.ifCond .lt 8, 3) := by decide +kernel
theorem dX7_item_19 : decode cX7_item 19 = .ok (.new 15, 3) := by decide +kernel
theorem dX7_item_22 : decode cX7_item 22 = .ok (.dup, 1) := by decide +kernel
theorem dX7_item_23 : decode cX7_item 23 = .ok (.ldc 190, 2) := by decide +kernel
theorem dX7_item_25 : decode cX7_item 25 = .ok (.invokespecial 19, 3) := by decide +kernel
theorem dX7_item_28 : decode cX7_item 28 = .ok (.athrow, 1) := by decide +kernel
theorem dX7_item_14 : decode cX7_item 14 = .ok (.iload_n 3, 1) := by decide +kernel
theorem dX7_item_15 : decode cX7_item 15 = .ok (.iconst 1, 1) := by decide +kernel
theorem dX7_item_16 : decode cX7_item 16 = .ok (.if_icmp .le 13, 3) := by decide +kernel
theorem dX7_item_29 : decode cX7_item 29 = .ok (.iload_n 2, 1) := by decide +kernel
theorem dX7_item_30 : decode cX7_item 30 = .ok (.ifCond .lt 12, 3) := by decide +kernel
theorem dX7_item_42 : decode cX7_item 42 = .ok (.new 192, 3) := by decide +kernel
theorem dX7_item_45 : decode cX7_item 45 = .ok (.dup, 1) := by decide +kernel
theorem dX7_item_46 : decode cX7_item 46 = .ok (.ldc 194, 2) := by decide +kernel
theorem dX7_item_48 : decode cX7_item 48 = .ok (.invokespecial 196, 3) := by decide +kernel
theorem dX7_item_51 : decode cX7_item 51 = .ok (.athrow, 1) := by decide +kernel
theorem dX7_item_33 : decode cX7_item 33 = .ok (.iload_n 2, 1) := by decide +kernel
theorem dX7_item_34 : decode cX7_item 34 = .ok (.aload 4, 2) := by decide +kernel
set_option maxRecDepth 20000 in
theorem ggX7_item_X3_size : GoodIn wqX7_item wsX3_size := goodIn_r _ [30, 31, 32, 33, 34, 35, 36, 37, 101, 102, 103, 104, 105, 106, 107, 108, 109, 110, 111, 112, 113, 114, 115, 116, 117, 118, 119, 127, 128, 129, 130] rfl (by decide +kernel)
set_option maxRecDepth 20000 in
theorem gX7_item_X3_size_u84X2 : GoodIn wqX7_item (va_wsU RX7 84 RX2 "KeyAtlas$Keyed" ⟨"KeyAtlas$Keyed", "size", "()I"⟩ yX3_size wsX3_size) := goodIn_app (goodIn_of _ (by decide +kernel)) ggX7_item_X3_size
theorem dX7_item_36 : decode cX7_item 36 = .ok (.invokevirtual 84, 3) := by decide +kernel
theorem dX7_item_39 : decode cX7_item 39 = .ok (.if_icmp .lt 13, 3) := by decide +kernel
theorem dX7_item_52 : decode cX7_item 52 = .ok (.aload 4, 2) := by decide +kernel
theorem dX7_item_54 : decode cX7_item 54 = .ok (.iload_n 2, 1) := by decide +kernel
set_option maxRecDepth 20000 in
theorem ggX7_item_X3_placeOf : GoodIn wqX7_item wsX3_placeOf := goodIn_r _ [88] rfl (by decide +kernel)
set_option maxRecDepth 20000 in
theorem gX7_item_X3_placeOf_u197X2 : GoodIn wqX7_item (va_wsU RX7 197 RX2 "KeyAtlas$Keyed" ⟨"KeyAtlas$Keyed", "placeOf", "(I)I"⟩ yX3_placeOf wsX3_placeOf) := goodIn_app (goodIn_of _ (by decide +kernel)) ggX7_item_X3_placeOf
theorem dX7_item_55 : decode cX7_item 55 = .ok (.invokevirtual 197, 3) := by decide +kernel
theorem dX7_item_58 : decode cX7_item 58 = .ok (.istore 5, 2) := by decide +kernel
theorem dX7_item_60 : decode cX7_item 60 = .ok (.iload_n 3, 1) := by decide +kernel
theorem dX7_item_61 : decode cX7_item 61 = .ok (.ifCond .ne 17, 3) := by decide +kernel
theorem dX7_item_78 : decode cX7_item 78 = .ok (.aload 4, 2) := by decide +kernel
theorem dX7_item_80 : decode cX7_item 80 = .ok (.getfield 200, 3) := by decide +kernel
theorem dX7_item_83 : decode cX7_item 83 = .ok (.iload 5, 2) := by decide +kernel
set_option maxRecDepth 20000 in
theorem ggX7_item_X5_value : GoodIn wqX7_item wsX5_value := goodIn_r _ [99, 37, 100, 127, 128, 129, 130] rfl (by decide +kernel)
set_option maxRecDepth 20000 in
theorem gX7_item_X5_value : GoodIn wqX7_item (wsV RX7 209 RX5 yX5_value wsX5_value) := goodIn_app (goodIn_of _ (by decide +kernel)) ggX7_item_X5_value
theorem dX7_item_85 : decode cX7_item 85 = .ok (.invokevirtual 209, 3) := by decide +kernel
theorem dX7_item_88 : decode cX7_item 88 = .ok (.i2l, 1) := by decide +kernel
theorem dX7_item_89 : decode cX7_item 89 = .ok (.lreturn, 1) := by decide +kernel
theorem dX7_item_64 : decode cX7_item 64 = .ok (.aload 4, 2) := by decide +kernel
theorem dX7_item_66 : decode cX7_item 66 = .ok (.getfield 200, 3) := by decide +kernel
theorem dX7_item_69 : decode cX7_item 69 = .ok (.iload 5, 2) := by decide +kernel
set_option maxRecDepth 20000 in
theorem ggX7_item_X5_key : GoodIn wqX7_item wsX5_key := goodIn_r _ [60, 37, 61, 127, 128, 129, 130] rfl (by decide +kernel)
set_option maxRecDepth 20000 in
theorem gX7_item_X5_key : GoodIn wqX7_item (wsV RX7 204 RX5 yX5_key wsX5_key) := goodIn_app (goodIn_of _ (by decide +kernel)) ggX7_item_X5_key
theorem dX7_item_71 : decode cX7_item 71 = .ok (.invokevirtual 204, 3) := by decide +kernel
theorem dX7_item_74 : decode cX7_item 74 = .ok (.i2l, 1) := by decide +kernel
theorem dX7_item_75 : decode cX7_item 75 = .ok (.goto 14, 3) := by decide +kernel
set_option maxRecDepth 20000 in
theorem gX7_item_X3_size_u84X4 : GoodIn wqX7_item (va_wsU RX7 84 RX4 "KeyAtlas$Keyed" ⟨"KeyAtlas$Keyed", "size", "()I"⟩ yX3_size wsX3_size) := goodIn_app (goodIn_of _ (by decide +kernel)) ggX7_item_X3_size
set_option maxRecDepth 20000 in
theorem gX7_item_X3_placeOf_u197X4 : GoodIn wqX7_item (va_wsU RX7 197 RX4 "KeyAtlas$Keyed" ⟨"KeyAtlas$Keyed", "placeOf", "(I)I"⟩ yX3_placeOf wsX3_placeOf) := goodIn_app (goodIn_of _ (by decide +kernel)) ggX7_item_X3_placeOf
set_option maxRecDepth 20000 in
theorem ggX7_item_X6_size : GoodIn wqX7_item wsX6_size := goodIn_r _ [43, 44, 45, 46, 42, 47, 48, 49, 50, 51, 52, 33, 34, 35, 36, 37, 53, 54, 55, 56, 57, 58, 59, 60, 61, 62, 63, 64, 65, 66, 67, 68, 69, 70, 71, 72, 73, 74, 75, 76, 77, 78, 79, 80, 81, 82, 83, 113, 114, 115, 116, 117, 118, 119, 101, 102, 103, 104, 105, 106, 107, 108, 109, 110, 111, 112, 127, 128, 129, 130] rfl (by decide +kernel)
set_option maxRecDepth 20000 in
theorem gX7_item_X6_size_u84X6 : GoodIn wqX7_item (va_wsO RX7 84 RX6 "KeyAtlas$Keyed" ⟨"KeyAtlas$Keyed", "size", "()I"⟩ yX6_size wsX6_size) := goodIn_app (goodIn_of _ (by decide +kernel)) ggX7_item_X6_size
set_option maxRecDepth 20000 in
theorem ggX7_item_X6_placeOf : GoodIn wqX7_item wsX6_placeOf := goodIn_r _ [93, 94, 44, 45, 46, 42, 47, 48, 49, 50, 51, 52, 33, 34, 35, 36, 37, 53, 54, 55, 56, 57, 58, 59, 60, 61, 62, 63, 64, 65, 66, 67, 68, 69, 70, 71, 72, 73, 74, 75, 76, 77, 78, 79, 80, 81, 82, 83, 113, 114, 115, 116, 117, 118, 119, 101, 102, 103, 104, 105, 106, 107, 108, 109, 110, 111, 112, 127, 128, 129, 130] rfl (by decide +kernel)
set_option maxRecDepth 20000 in
theorem gX7_item_X6_placeOf_u197X6 : GoodIn wqX7_item (va_wsO RX7 197 RX6 "KeyAtlas$Keyed" ⟨"KeyAtlas$Keyed", "placeOf", "(I)I"⟩ yX6_placeOf wsX6_placeOf) := goodIn_app (goodIn_of _ (by decide +kernel)) ggX7_item_X6_placeOf
theorem at_X7_item_19 : ∀ w ∈ (vx_atS RX7 19 "java/lang/IllegalArgumentException" ["java/lang/RuntimeException", "java/lang/Exception"]).filter goodWord, w ∈ wqX7_item := fun w h => by
  unfold wqX7_item
  exact List.mem_cons_of_mem _ (List.mem_append_left _ (List.mem_append_left _ (List.mem_append_left _ (List.mem_append_right _ h))))
theorem ng_RX7_196 : ∀ w ∈ (vx_atS RX7 196 "java/lang/IndexOutOfBoundsException" ["java/lang/RuntimeException", "java/lang/Exception"]).filter (fun w => !goodWord w), w ∈ p_xw := by decide +kernel
theorem og_RX7_196 : ∀ w ∈ Cond.classLink RX7 192 "java/lang/IndexOutOfBoundsException" :: Cond.initialized "java/lang/IndexOutOfBoundsException" :: vx_atS RX7 196 "java/lang/IndexOutOfBoundsException" ["java/lang/RuntimeException", "java/lang/Exception"], vx_ot w = true := by decide +kernel
theorem at_X7_item_42 : ∀ w ∈ (vx_atS RX7 196 "java/lang/IndexOutOfBoundsException" ["java/lang/RuntimeException", "java/lang/Exception"]).filter goodWord, w ∈ wqX7_item := fun w h => by
  unfold wqX7_item
  exact List.mem_cons_of_mem _ (List.mem_append_left _ (List.mem_append_left _ (List.mem_append_right _ h)))
set_option maxHeartbeats 4000000 in
set_option maxRecDepth 100000 in
/-- item of H -/
theorem c_X7_item_H (l : Launch) (hlt : l.stackTraces = false) (dC : Nat → ClassId) (dI : Nat → Nat → Nat) (sz : Nat) (a0 : Nat) (qb : Nat) (cq : ClassId) (bq : Nat → Option Nat) (o : Nat) (y0 : Nat) (kd : Int32) (wh : Int32) (cap : Nat) (ru : Int32) (tb : Nat) (b0 : Nat) (cb : ClassId) (bf : Nat → Int32) (x0 : Nat) (k0 : Nat) (w0 : Nat) (ck : ClassId) (cw : ClassId) (L : Nat) (f : Nat → Int32) (g : Nat → Int32) (nz : Nat) (ch : Int32) (p1 : Int32) (p2 : Int32) (ho9 : o < 16) (hbo : bq o = some y0) (hH9 : hOK tb L nz cap) : vx_Met l yX7_item wqX7_item ({ frames := 7, cells := 2, slots := 12, locals := 240 }) (va_Pc [.ref a0, .int (nI o), .int p1, .int p2] (pk_PreXR (dC, dI) [(a0, .inr (7, [.ref qb])), (qb, .inl (cq, 16, .inr (.inr (.inr (.inr bq))))), (y0, .inr (3, [.ref x0, .int kd, .int wh, .int (nI cap), .int ru, .int (nI tb), .ref b0])), (x0, .inr (5, [.ref k0, .ref w0, .int (nI nz), .int ch])), (k0, .inl (ck, L, .inl f)), (w0, .inl (cw, L, .inl g)), (b0, .inl (cb, tb, .inl bf))] [(cq, .object "KeyAtlas$Body"), (ck, .int), (cw, .int), (cb, .boolean)] sz)) (va_Ql (fun (x : Int64) (_ : Unit) => True) (fun _ (t : State) => t.heap.size = sz) (roN sz)) (vx_X (fun _ : Unit => True) (fun (E : String) (_ : Unit) (t : State) => E = "java/lang/IllegalArgumentException" ∨ E = "java/lang/IndexOutOfBoundsException") (roN sz)) 2 12 (roN sz) := by
  refine vx_ofW (cc := cX7_item) (maxL := 6) (ret := (some .long)) (by decide) rfl ?_
  intro p e s m args below meth c s₁ B hml htab hv
  obtain ⟨rfl, hsz, hP, hK, hN, hZ⟩ := hv
  have hx := B.exec
  have hb := B.bytes
  have hr := B.returns
  have hts := atoms_spec (ws := wqX7_item) B.pre
  have hown : s.vm.findClass RX7 = some m.cls := findClass_of_methodNamed B.named
  have hlocks := B.notSynchronized
  subst hsz
  generalize hAe : roN s.heap.size = A at hZ ⊢
  have hA : ∀ q : Nat, s.heap.size ≤ q → A q := fun q h => by rw [← hAe]; exact h
  have hS : va_S A s.heap s.heap [] := va_S.rf
  have hP : va_P (dC, dI) vwCl [(a0, .inr (7, [.ref qb])), (qb, .inl (cq, 16, .inr (.inr (.inr (.inr bq))))), (y0, .inr (3, [.ref x0, .int kd, .int wh, .int (nI cap), .int ru, .int (nI tb), .ref b0])), (x0, .inr (5, [.ref k0, .ref w0, .int (nI nz), .int ch])), (k0, .inl (ck, L, .inl f)), (w0, .inl (cw, L, .inl g)), (b0, .inl (cb, tb, .inl bf))] s.heap := hP
  have hl := lv_entry ([.ref a0, .int (nI o), .int p1, .int p2]) (n := 6) (Nat.le_of_ble_eq_true rfl)
  rw [lg_entry_eq]
  generalize (lg_sl ([.ref a0, .int (nI o), .int p1, .int p2]) ++ List.replicate (6 - (lg_sl ([.ref a0, .int (nI o), .int p1, .int p2])).length) Slot.unset).toArray = ls at hl ⊢
  have hl : lv_has ls 6 [(0, .ref a0), (1, .int (nI o)), (2, .int p1), (3, .int p2)] := hl
  have hw0_ := hts (.classLink RX7 15 "java/lang/IllegalArgumentException") (List.mem_of_getElem? (l := wqX7_item) (i := 1) rfl)
  have hw1_ := hts (.initialized "java/lang/IllegalArgumentException") (List.mem_of_getElem? (l := wqX7_item) (i := 2) rfl)
  have hw2_ := hts (.classLink RX7 192 "java/lang/IndexOutOfBoundsException") (List.mem_of_getElem? (l := wqX7_item) (i := 3) rfl)
  have hw3_ := hts (.initialized "java/lang/IndexOutOfBoundsException") (List.mem_of_getElem? (l := wqX7_item) (i := 4) rfl)
  have hw4_ := hts (.fieldLink RX7 200 "KeyAtlas$Keyed" "rows" "LKeyAtlas$Rows;") (List.mem_of_getElem? (l := wqX7_item) (i := 5) rfl)
  have hi0_ : ∀ w ∈ u_ws RX2 TX2 7, w ∈ wqX7_item := fun w h => List.mem_cons_of_mem _ (List.mem_append_left _ (List.mem_append_left _ (List.mem_append_left _ (List.mem_append_left _ (List.mem_append_left _ (List.mem_append_left _ (List.mem_append_left _ (List.mem_append_left _ (List.mem_append_left _ (List.mem_append_right _ h))))))))))
  have hR9 : rOK L nz := hH9.1
  have htb := hOK_tb hH9
  obtain ⟨hL1, hL2, hz1, hz2⟩ := id hR9
  refine lv_aload_n hx hb dX7_item_0 rfl (lv_at hl 0 rfl) ?_
  refine lv_iload_n hx hb dX7_item_1 rfl (lv_at hl 1 rfl) ?_
  have hPc := hP.sub (ws' := [(a0, .inr (7, [.ref qb])), (qb, .inl (cq, 16, .inr (.inr (.inr (.inr bq)))))]) [0, 1] rfl
  have hKc := hK.sub (tys' := [(cq, .object "KeyAtlas$Body")]) [0] rfl
  refine rox_callr (B := (fun (_ : Unit) (a : Nat) (t : State) => t.heap.size = s.heap.size ∧ ∃ j : Nat, j < 16 ∧ nI o = nI j ∧ bq j = some a)) (fun u9 x9 t9 h9 => h9.1) (vx_runV (As := [.int (nI o)]) (rest := []) ⟨hx, hb, hml, hown, hts⟩ (c_X7_bodyAt l hlt dC dI s.heap.size a0 qb cq bq (nI o)) (cwV 1 hts gX7_item_X7_bodyAt rfl rfl rfl (by decide +kernel) ⟨(Nat.le_of_ble_eq_true rfl), (Nat.le_of_ble_eq_true rfl)⟩) ⟨pk_blindXR, va_recv hKc hPc (ci := 7) (q0 := 0) rfl rfl, pk_callXR hPc hKc hN ((hZ.kept hS.2.1).narrow (fun q h9 => hA q (Nat.le_trans hS.1 h9)))⟩ rfl rfl hl.1 rfl (lv_room (Nat.le_of_ble_eq_true rfl)) dX7_item_2 ⟨(Nat.le_of_ble_eq_true rfl), (Nat.le_of_ble_eq_true rfl)⟩) hS (fun q h9 => hA q (Nat.le_trans hS.1 h9)) (fun E ce q9 u9 t H1 locs ht hvm hw hB hz1 hk1 hS hce hcv hcl => ?_) (fun r_1 ur_1 t9 locs hw hB9 hS => ?_)
  ·
    try dsimp only at hB
    exact bq_no ho9 hbo hB.2
  ·
    refine W.tight (k := 0) (n := 0) (Nat.le_refl _) (Nat.le_refl _) ?_
    clear hPc hKc
    try dsimp only at hw
    have jr_1 := hw
    refine W.eq (g2 := F0 m 5 ls [.ref y0]) (by rw [show r_1 = y0 from bq_is ho9 hbo hB9.2]) ?_
    have hPc := hP.sub (ws' := [(y0, .inr (3, [.ref x0, .int kd, .int wh, .int (nI cap), .int ru, .int (nI tb), .ref b0]))]) [2] rfl
    have hKc := hK.sub (tys' := []) [] rfl
    refine ro_callr (B := (fun (_ : Unit) (a : Nat) (t : State) => t.heap.size = s.heap.size ∧ a = y0)) (fun u9 x9 t9 h9 => h9.1) (va_runS (As := [.ref y0]) (rest := []) ⟨hx, hb, hml, hown, hts⟩ (c_X7_asMap_H l hlt dC dI s.heap.size y0 ([.ref x0, .int kd, .int wh, .int (nI cap), .int ru, .int (nI tb), .ref b0])) (va_cwS 1 hts gX7_item_X7_asMap rfl rfl rfl (by decide +kernel) ⟨(Nat.le_of_ble_eq_true rfl), (Nat.le_of_ble_eq_true rfl)⟩) ⟨pk_blindRX, pk_callRX hPc hKc hN⟩ rfl rfl hl.1 rfl (lv_room (Nat.le_of_ble_eq_true rfl)) dX7_item_5 ⟨(Nat.le_of_ble_eq_true rfl), (Nat.le_of_ble_eq_true rfl)⟩) (fun r_2 ur_2 t9 hw hB9 => ?_)
    clear hPc hKc
    try dsimp only at hw
    have jr_2 := hw
    refine W.eq (g2 := F0 m 8 ls [.ref y0]) (by rw [show r_2 = y0 from hB9.2]) ?_
    refine lv_astore (lv' := [(4, .ref y0), (0, .ref a0), (1, .int (nI o)), (2, .int p1), (3, .int p2)]) hx hb dX7_item_8 hl (by decide) rfl (fun ls hl => ?_)
    refine lv_iload_n hx hb dX7_item_10 rfl (lv_at hl 4 rfl) ?_
    refine lv_if_lt (tgt := 19) hx hb dX7_item_11 (by decide) (fun c_3 => ?_) (fun c_3 => ?_)
    ·
      have ic_3 : p2.toInt < 0 := tx_lt rfl (by decide) c_3
      obtain ⟨sa, hsa⟩ := hN.stX7_190
      exact vx_throwS hx hb hlt (own := RX7) (cls := "java/lang/IllegalArgumentException") (text := "no such part") (names := ["java/lang/RuntimeException", "java/lang/Exception"]) hown (by decide +kernel) (by decide +kernel) hw0_ hw1_ hsa (tx_hat hN.xw (fun w h => hts w (at_X7_item_19 w h)) ng_RX7_19) og_RX7_19 hZ.1 hZ.2 hS (by rw [hml]; exact hl.1) dX7_item_19 dX7_item_22 dX7_item_23 dX7_item_25 dX7_item_28 (fun x hx9 => (htab x hx9).elim) (Nat.le_of_ble_eq_true rfl) (Nat.le_of_ble_eq_true rfl) (Nat.le_of_ble_eq_true rfl) (Nat.le_of_ble_eq_true rfl) hlocks (fun t hvm hz hq => ⟨(), trivial, Or.inl rfl, ⟨Nat.le_trans hS.1 hz, fun q h1 h2 => (hq q (Nat.lt_of_lt_of_le h1 hS.1)).trans (hS.2.1 q h1 h2)⟩⟩) hS.2.2 (Nat.le_of_ble_eq_true rfl) (Nat.le_of_ble_eq_true rfl)
    ·
      have ic_3 : 0 ≤ p2.toInt := tx_nlt rfl (by decide) c_3
      refine lv_iload_n hx hb dX7_item_14 rfl (lv_at hl 4 rfl) ?_
      refine lv_iconst (v := 1) hx hb dX7_item_15 (by decide) ?_
      refine lv_icmp_le (tgt := 29) hx hb dX7_item_16 (by decide) (fun c_4 => ?_) (fun c_4 => ?_)
      ·
        have ic_4 : p2.toInt ≤ 1 := tx_le rfl (by decide) c_4
        refine lv_iload_n hx hb dX7_item_29 rfl (lv_at hl 3 rfl) ?_
        refine lv_if_lt (tgt := 42) hx hb dX7_item_30 (by decide) (fun c_5 => ?_) (fun c_5 => ?_)
        ·
          have ic_5 : p1.toInt < 0 := tx_lt rfl (by decide) c_5
          obtain ⟨sa, hsa⟩ := hN.stX7_194
          exact vx_throwS hx hb hlt (own := RX7) (cls := "java/lang/IndexOutOfBoundsException") (text := "no such key") (names := ["java/lang/RuntimeException", "java/lang/Exception"]) hown (by decide +kernel) (by decide +kernel) hw2_ hw3_ hsa (tx_hat hN.xw (fun w h => hts w (at_X7_item_42 w h)) ng_RX7_196) og_RX7_196 hZ.1 hZ.2 hS (by rw [hml]; exact hl.1) dX7_item_42 dX7_item_45 dX7_item_46 dX7_item_48 dX7_item_51 (fun x hx9 => (htab x hx9).elim) (Nat.le_of_ble_eq_true rfl) (Nat.le_of_ble_eq_true rfl) (Nat.le_of_ble_eq_true rfl) (Nat.le_of_ble_eq_true rfl) hlocks (fun t hvm hz hq => ⟨(), trivial, Or.inr rfl, ⟨Nat.le_trans hS.1 hz, fun q h1 h2 => (hq q (Nat.lt_of_lt_of_le h1 hS.1)).trans (hS.2.1 q h1 h2)⟩⟩) hS.2.2 (Nat.le_of_ble_eq_true rfl) (Nat.le_of_ble_eq_true rfl)
        ·
          have ic_5 : 0 ≤ p1.toInt := tx_nlt rfl (by decide) c_5
          refine lv_iload_n hx hb dX7_item_33 rfl (lv_at hl 3 rfl) ?_
          refine lv_aload hx hb dX7_item_34 (lv_at hl 0 rfl) ?_
          have hPc := hP.sub (ws' := [(y0, .inr (3, [.ref x0, .int kd, .int wh, .int (nI cap), .int ru, .int (nI tb), .ref b0])), (x0, .inr (5, [.ref k0, .ref w0, .int (nI nz), .int ch])), (k0, .inl (ck, L, .inl f)), (w0, .inl (cw, L, .inl g))]) [2, 3, 4, 5] rfl
          have hKc := hK.sub (tys' := [(ck, .int), (cw, .int)]) [1, 2] rfl
          refine ro_calli (va_runU (As := []) (rest := [.int p1]) ⟨hx, hb, hml, hown, hts⟩ (c_X3_size_H l  dC dI s.heap.size y0 (.int kd) (.int wh) (.int (nI cap)) (.int ru) (.int (nI tb)) (.ref b0) x0 k0 w0 ck cw L f g nz ch hR9) (va_cwU 0 hts gX7_item_X3_size_u84X2 rfl rfl rfl rfl (by decide +kernel) ⟨(Nat.le_of_ble_eq_true rfl), (Nat.le_of_ble_eq_true rfl)⟩) ⟨pk_blindR, va_recv hKc hPc (ci := 3) (q0 := 0) rfl rfl, pk_callR hPc hKc⟩ rfl rfl hl.1 rfl (lv_room (Nat.le_of_ble_eq_true rfl)) dX7_item_36 ⟨(Nat.le_of_ble_eq_true rfl), (Nat.le_of_ble_eq_true rfl)⟩) (fun r_6 ur_6 hw => ?_)
          clear hPc hKc
          try dsimp only at hw
          have jr_6 := hw
          refine W.eq (g2 := F0 m 39 ls [.int r_6, .int p1]) rfl ?_
          have hr_6 : -1000 ≤ r_6.toInt ∧ r_6.toInt ≤ nz := by rw [jr_6, nI_toInt (by omega)]; omega
          refine lv_icmp_lt (tgt := 52) hx hb dX7_item_39 (by decide) (fun c_7 => ?_) (fun c_7 => ?_)
          ·
            have ic_7 : p1.toInt < r_6.toInt := tx_lt rfl rfl c_7
            refine lv_aload hx hb dX7_item_52 (lv_at hl 0 rfl) ?_
            refine lv_iload_n hx hb dX7_item_54 rfl (lv_at hl 3 rfl) ?_
            have hPc := hP.sub (ws' := [(y0, .inr (3, [.ref x0, .int kd, .int wh, .int (nI cap), .int ru, .int (nI tb), .ref b0]))]) [2] rfl
            have hKc := hK.sub (tys' := []) [] rfl
            refine ro_calli (va_runU (As := [.int p1]) (rest := []) ⟨hx, hb, hml, hown, hts⟩ (c_X3_placeOf_H l  dC dI s.heap.size y0 (.ref x0) (.int kd) (.int wh) (.int (nI cap)) (.int ru) (.int (nI tb)) (.ref b0) p1) (va_cwU 1 hts gX7_item_X3_placeOf_u197X2 rfl rfl rfl rfl (by decide +kernel) ⟨(Nat.le_of_ble_eq_true rfl), (Nat.le_of_ble_eq_true rfl)⟩) ⟨pk_blindR, va_recv hKc hPc (ci := 3) (q0 := 0) rfl rfl, pk_callR hPc hKc⟩ rfl rfl hl.1 rfl (lv_room (Nat.le_of_ble_eq_true rfl)) dX7_item_55 ⟨(Nat.le_of_ble_eq_true rfl), (Nat.le_of_ble_eq_true rfl)⟩) (fun r_8 ur_8 hw => ?_)
            clear hPc hKc
            try dsimp only at hw
            have jr_8 := hw
            refine W.eq (g2 := F0 m 58 ls [.int r_8]) rfl ?_
            refine lv_istore (lv' := [(5, .int r_8), (4, .ref y0), (0, .ref a0), (1, .int (nI o)), (2, .int p1), (3, .int p2)]) hx hb dX7_item_58 hl (by decide) rfl (fun ls hl => ?_)
            refine lv_iload_n hx hb dX7_item_60 rfl (lv_at hl 5 rfl) ?_
            refine lv_if_ne (tgt := 78) hx hb dX7_item_61 (by decide) (fun c_9 => ?_) (fun c_9 => ?_)
            ·
              have ic_9 : ¬ p2.toInt = 0 := tx_ne rfl (by decide) c_9
              refine lv_aload hx hb dX7_item_78 (lv_at hl 1 rfl) ?_
              refine va_get (D := (dC, dI)) (ci := 3) (v := .ref x0) (C := RX2) (T := TX2) (N := 7) hx hb hts hi0_ hown hK hP 2 rfl rfl 0 (by decide) hw4_ (fun _ h9 => h9) rfl dX7_item_80 ?_
              refine lv_iload hx hb dX7_item_83 (lv_at hl 0 rfl) ?_
              have hPc := hP.sub (ws' := [(x0, .inr (5, [.ref k0, .ref w0, .int (nI nz), .int ch])), (k0, .inl (ck, L, .inl f)), (w0, .inl (cw, L, .inl g))]) [3, 4, 5] rfl
              have hKc := hK.sub (tys' := [(ck, .int), (cw, .int)]) [1, 2] rfl
              refine ro_calli (va_runV (As := [.int r_8]) (rest := []) ⟨hx, hb, hml, hown, hts⟩ (c_X5_value l  dC dI s.heap.size x0 k0 w0 ck cw L f g nz ch r_8 hR9) (cwV 1 hts gX7_item_X5_value rfl rfl rfl (by decide +kernel) ⟨(Nat.le_of_ble_eq_true rfl), (Nat.le_of_ble_eq_true rfl)⟩) ⟨pk_blindR, va_recv hKc hPc (ci := 5) (q0 := 0) rfl rfl, pk_callR hPc hKc⟩ rfl rfl hl.1 rfl (lv_room (Nat.le_of_ble_eq_true rfl)) dX7_item_85 ⟨(Nat.le_of_ble_eq_true rfl), (Nat.le_of_ble_eq_true rfl)⟩) (fun r_10 ur_10 hw => ?_)
              clear hPc hKc
              try dsimp only at hw
              have jr_10 := hw
              refine W.eq (g2 := F0 m 88 ls [.int r_10]) rfl ?_
              refine lv_i2l (v := r_10.toInt64) hx hb dX7_item_88 rfl ?_
              refine W.widen (k := 2) (n := 12) (Nat.le_of_ble_eq_true rfl) (Nat.le_of_ble_eq_true rfl) ?_
              refine vx_ret ?_
              exact W.lret (v := r_10.toInt64) hx hb hr (fun t ht hW => ⟨⟨r_10.toInt64, (), rfl, trivial, congrArg Array.size ht⟩, hS.F ht⟩) hS.2.2 dX7_item_89
            ·
              have ic_9 : p2.toInt = 0 := tx_eq rfl (by decide) c_9
              refine lv_aload hx hb dX7_item_64 (lv_at hl 1 rfl) ?_
              refine va_get (D := (dC, dI)) (ci := 3) (v := .ref x0) (C := RX2) (T := TX2) (N := 7) hx hb hts hi0_ hown hK hP 2 rfl rfl 0 (by decide) hw4_ (fun _ h9 => h9) rfl dX7_item_66 ?_
              refine lv_iload hx hb dX7_item_69 (lv_at hl 0 rfl) ?_
              have hPc := hP.sub (ws' := [(x0, .inr (5, [.ref k0, .ref w0, .int (nI nz), .int ch])), (k0, .inl (ck, L, .inl f)), (w0, .inl (cw, L, .inl g))]) [3, 4, 5] rfl
              have hKc := hK.sub (tys' := [(ck, .int), (cw, .int)]) [1, 2] rfl
              refine ro_calli (va_runV (As := [.int r_8]) (rest := []) ⟨hx, hb, hml, hown, hts⟩ (c_X5_key l  dC dI s.heap.size x0 k0 w0 ck cw L f g nz ch r_8 hR9) (cwV 1 hts gX7_item_X5_key rfl rfl rfl (by decide +kernel) ⟨(Nat.le_of_ble_eq_true rfl), (Nat.le_of_ble_eq_true rfl)⟩) ⟨pk_blindR, va_recv hKc hPc (ci := 5) (q0 := 0) rfl rfl, pk_callR hPc hKc⟩ rfl rfl hl.1 rfl (lv_room (Nat.le_of_ble_eq_true rfl)) dX7_item_71 ⟨(Nat.le_of_ble_eq_true rfl), (Nat.le_of_ble_eq_true rfl)⟩) (fun r_11 ur_11 hw => ?_)
              clear hPc hKc
              try dsimp only at hw
              have jr_11 := hw
              refine W.eq (g2 := F0 m 74 ls [.int r_11]) rfl ?_
              refine lv_i2l (v := r_11.toInt64) hx hb dX7_item_74 rfl ?_
              refine lv_goto (tgt := 89) hx hb dX7_item_75 (by decide) ?_
              refine W.widen (k := 2) (n := 12) (Nat.le_of_ble_eq_true rfl) (Nat.le_of_ble_eq_true rfl) ?_
              refine vx_ret ?_
              exact W.lret (v := r_11.toInt64) hx hb hr (fun t ht hW => ⟨⟨r_11.toInt64, (), rfl, trivial, congrArg Array.size ht⟩, hS.F ht⟩) hS.2.2 dX7_item_89
          ·
            have ic_7 : r_6.toInt ≤ p1.toInt := tx_nlt rfl rfl c_7
            obtain ⟨sa, hsa⟩ := hN.stX7_194
            exact vx_throwS hx hb hlt (own := RX7) (cls := "java/lang/IndexOutOfBoundsException") (text := "no such key") (names := ["java/lang/RuntimeException", "java/lang/Exception"]) hown (by decide +kernel) (by decide +kernel) hw2_ hw3_ hsa (tx_hat hN.xw (fun w h => hts w (at_X7_item_42 w h)) ng_RX7_196) og_RX7_196 hZ.1 hZ.2 hS (by rw [hml]; exact hl.1) dX7_item_42 dX7_item_45 dX7_item_46 dX7_item_48 dX7_item_51 (fun x hx9 => (htab x hx9).elim) (Nat.le_of_ble_eq_true rfl) (Nat.le_of_ble_eq_true rfl) (Nat.le_of_ble_eq_true rfl) (Nat.le_of_ble_eq_true rfl) hlocks (fun t hvm hz hq => ⟨(), trivial, Or.inr rfl, ⟨Nat.le_trans hS.1 hz, fun q h1 h2 => (hq q (Nat.lt_of_lt_of_le h1 hS.1)).trans (hS.2.1 q h1 h2)⟩⟩) hS.2.2 (Nat.le_of_ble_eq_true rfl) (Nat.le_of_ble_eq_true rfl)
      ·
        have ic_4 : 1 < p2.toInt := tx_nle rfl (by decide) c_4
        obtain ⟨sa, hsa⟩ := hN.stX7_190
        exact vx_throwS hx hb hlt (own := RX7) (cls := "java/lang/IllegalArgumentException") (text := "no such part") (names := ["java/lang/RuntimeException", "java/lang/Exception"]) hown (by decide +kernel) (by decide +kernel) hw0_ hw1_ hsa (tx_hat hN.xw (fun w h => hts w (at_X7_item_19 w h)) ng_RX7_19) og_RX7_19 hZ.1 hZ.2 hS (by rw [hml]; exact hl.1) dX7_item_19 dX7_item_22 dX7_item_23 dX7_item_25 dX7_item_28 (fun x hx9 => (htab x hx9).elim) (Nat.le_of_ble_eq_true rfl) (Nat.le_of_ble_eq_true rfl) (Nat.le_of_ble_eq_true rfl) (Nat.le_of_ble_eq_true rfl) hlocks (fun t hvm hz hq => ⟨(), trivial, Or.inl rfl, ⟨Nat.le_trans hS.1 hz, fun q h1 h2 => (hq q (Nat.lt_of_lt_of_le h1 hS.1)).trans (hS.2.1 q h1 h2)⟩⟩) hS.2.2 (Nat.le_of_ble_eq_true rfl) (Nat.le_of_ble_eq_true rfl)
set_option maxHeartbeats 4000000 in
set_option maxRecDepth 100000 in
/-- item of L -/
theorem c_X7_item_L (l : Launch) (hlt : l.stackTraces = false) (dC : Nat → ClassId) (dI : Nat → Nat → Nat) (sz : Nat) (a0 : Nat) (qb : Nat) (cq : ClassId) (bq : Nat → Option Nat) (o : Nat) (y0 : Nat) (kd : Int32) (wh : Int32) (lim : Nat) (bu : Int32) (x0 : Nat) (k0 : Nat) (w0 : Nat) (ck : ClassId) (cw : ClassId) (L : Nat) (f : Nat → Int32) (g : Nat → Int32) (nz : Nat) (ch : Int32) (p1 : Int32) (p2 : Int32) (ho9 : o < 16) (hbo : bq o = some y0) (hR9 : rOK L nz) (hlim : lim ≤ 1000) : vx_Met l yX7_item wqX7_item ({ frames := 7, cells := 2, slots := 12, locals := 240 }) (va_Pc [.ref a0, .int (nI o), .int p1, .int p2] (pk_PreXR (dC, dI) [(a0, .inr (7, [.ref qb])), (qb, .inl (cq, 16, .inr (.inr (.inr (.inr bq))))), (y0, .inr (4, [.ref x0, .int kd, .int wh, .int (nI lim), .int bu])), (x0, .inr (5, [.ref k0, .ref w0, .int (nI nz), .int ch])), (k0, .inl (ck, L, .inl f)), (w0, .inl (cw, L, .inl g))] [(cq, .object "KeyAtlas$Body"), (ck, .int), (cw, .int)] sz)) (va_Ql (fun (x : Int64) (_ : Unit) => True) (fun _ (t : State) => t.heap.size = sz) (roN sz)) (vx_X (fun _ : Unit => True) (fun (E : String) (_ : Unit) (t : State) => E = "java/lang/IllegalArgumentException" ∨ E = "java/lang/IndexOutOfBoundsException") (roN sz)) 2 12 (roN sz) := by
  refine vx_ofW (cc := cX7_item) (maxL := 6) (ret := (some .long)) (by decide) rfl ?_
  intro p e s m args below meth c s₁ B hml htab hv
  obtain ⟨rfl, hsz, hP, hK, hN, hZ⟩ := hv
  have hx := B.exec
  have hb := B.bytes
  have hr := B.returns
  have hts := atoms_spec (ws := wqX7_item) B.pre
  have hown : s.vm.findClass RX7 = some m.cls := findClass_of_methodNamed B.named
  have hlocks := B.notSynchronized
  subst hsz
  generalize hAe : roN s.heap.size = A at hZ ⊢
  have hA : ∀ q : Nat, s.heap.size ≤ q → A q := fun q h => by rw [← hAe]; exact h
  have hS : va_S A s.heap s.heap [] := va_S.rf
  have hP : va_P (dC, dI) vwCl [(a0, .inr (7, [.ref qb])), (qb, .inl (cq, 16, .inr (.inr (.inr (.inr bq))))), (y0, .inr (4, [.ref x0, .int kd, .int wh, .int (nI lim), .int bu])), (x0, .inr (5, [.ref k0, .ref w0, .int (nI nz), .int ch])), (k0, .inl (ck, L, .inl f)), (w0, .inl (cw, L, .inl g))] s.heap := hP
  have hl := lv_entry ([.ref a0, .int (nI o), .int p1, .int p2]) (n := 6) (Nat.le_of_ble_eq_true rfl)
  rw [lg_entry_eq]
  generalize (lg_sl ([.ref a0, .int (nI o), .int p1, .int p2]) ++ List.replicate (6 - (lg_sl ([.ref a0, .int (nI o), .int p1, .int p2])).length) Slot.unset).toArray = ls at hl ⊢
  have hl : lv_has ls 6 [(0, .ref a0), (1, .int (nI o)), (2, .int p1), (3, .int p2)] := hl
  have hw0_ := hts (.classLink RX7 15 "java/lang/IllegalArgumentException") (List.mem_of_getElem? (l := wqX7_item) (i := 1) rfl)
  have hw1_ := hts (.initialized "java/lang/IllegalArgumentException") (List.mem_of_getElem? (l := wqX7_item) (i := 2) rfl)
  have hw2_ := hts (.classLink RX7 192 "java/lang/IndexOutOfBoundsException") (List.mem_of_getElem? (l := wqX7_item) (i := 3) rfl)
  have hw3_ := hts (.initialized "java/lang/IndexOutOfBoundsException") (List.mem_of_getElem? (l := wqX7_item) (i := 4) rfl)
  have hw4_ := hts (.fieldLink RX7 200 "KeyAtlas$Keyed" "rows" "LKeyAtlas$Rows;") (List.mem_of_getElem? (l := wqX7_item) (i := 5) rfl)
  have hi0_ : ∀ w ∈ u_ws RX4 TX4 5, w ∈ wqX7_item := fun w h => List.mem_cons_of_mem _ (List.mem_append_left _ (List.mem_append_left _ (List.mem_append_left _ (List.mem_append_left _ (List.mem_append_left _ (List.mem_append_left _ (List.mem_append_left _ (List.mem_append_left _ (List.mem_append_right _ h)))))))))
  obtain ⟨hL1, hL2, hz1, hz2⟩ := id hR9
  refine lv_aload_n hx hb dX7_item_0 rfl (lv_at hl 0 rfl) ?_
  refine lv_iload_n hx hb dX7_item_1 rfl (lv_at hl 1 rfl) ?_
  have hPc := hP.sub (ws' := [(a0, .inr (7, [.ref qb])), (qb, .inl (cq, 16, .inr (.inr (.inr (.inr bq)))))]) [0, 1] rfl
  have hKc := hK.sub (tys' := [(cq, .object "KeyAtlas$Body")]) [0] rfl
  refine rox_callr (B := (fun (_ : Unit) (a : Nat) (t : State) => t.heap.size = s.heap.size ∧ ∃ j : Nat, j < 16 ∧ nI o = nI j ∧ bq j = some a)) (fun u9 x9 t9 h9 => h9.1) (vx_runV (As := [.int (nI o)]) (rest := []) ⟨hx, hb, hml, hown, hts⟩ (c_X7_bodyAt l hlt dC dI s.heap.size a0 qb cq bq (nI o)) (cwV 1 hts gX7_item_X7_bodyAt rfl rfl rfl (by decide +kernel) ⟨(Nat.le_of_ble_eq_true rfl), (Nat.le_of_ble_eq_true rfl)⟩) ⟨pk_blindXR, va_recv hKc hPc (ci := 7) (q0 := 0) rfl rfl, pk_callXR hPc hKc hN ((hZ.kept hS.2.1).narrow (fun q h9 => hA q (Nat.le_trans hS.1 h9)))⟩ rfl rfl hl.1 rfl (lv_room (Nat.le_of_ble_eq_true rfl)) dX7_item_2 ⟨(Nat.le_of_ble_eq_true rfl), (Nat.le_of_ble_eq_true rfl)⟩) hS (fun q h9 => hA q (Nat.le_trans hS.1 h9)) (fun E ce q9 u9 t H1 locs ht hvm hw hB hz1 hk1 hS hce hcv hcl => ?_) (fun r_1 ur_1 t9 locs hw hB9 hS => ?_)
  ·
    try dsimp only at hB
    exact bq_no ho9 hbo hB.2
  ·
    refine W.tight (k := 0) (n := 0) (Nat.le_refl _) (Nat.le_refl _) ?_
    clear hPc hKc
    try dsimp only at hw
    have jr_1 := hw
    refine W.eq (g2 := F0 m 5 ls [.ref y0]) (by rw [show r_1 = y0 from bq_is ho9 hbo hB9.2]) ?_
    have hPc := hP.sub (ws' := [(y0, .inr (4, [.ref x0, .int kd, .int wh, .int (nI lim), .int bu]))]) [2] rfl
    have hKc := hK.sub (tys' := []) [] rfl
    refine ro_callr (B := (fun (_ : Unit) (a : Nat) (t : State) => t.heap.size = s.heap.size ∧ a = y0)) (fun u9 x9 t9 h9 => h9.1) (va_runS (As := [.ref y0]) (rest := []) ⟨hx, hb, hml, hown, hts⟩ (c_X7_asMap_L l hlt dC dI s.heap.size y0 ([.ref x0, .int kd, .int wh, .int (nI lim), .int bu])) (va_cwS 1 hts gX7_item_X7_asMap rfl rfl rfl (by decide +kernel) ⟨(Nat.le_of_ble_eq_true rfl), (Nat.le_of_ble_eq_true rfl)⟩) ⟨pk_blindRX, pk_callRX hPc hKc hN⟩ rfl rfl hl.1 rfl (lv_room (Nat.le_of_ble_eq_true rfl)) dX7_item_5 ⟨(Nat.le_of_ble_eq_true rfl), (Nat.le_of_ble_eq_true rfl)⟩) (fun r_2 ur_2 t9 hw hB9 => ?_)
    clear hPc hKc
    try dsimp only at hw
    have jr_2 := hw
    refine W.eq (g2 := F0 m 8 ls [.ref y0]) (by rw [show r_2 = y0 from hB9.2]) ?_
    refine lv_astore (lv' := [(4, .ref y0), (0, .ref a0), (1, .int (nI o)), (2, .int p1), (3, .int p2)]) hx hb dX7_item_8 hl (by decide) rfl (fun ls hl => ?_)
    refine lv_iload_n hx hb dX7_item_10 rfl (lv_at hl 4 rfl) ?_
    refine lv_if_lt (tgt := 19) hx hb dX7_item_11 (by decide) (fun c_3 => ?_) (fun c_3 => ?_)
    ·
      have ic_3 : p2.toInt < 0 := tx_lt rfl (by decide) c_3
      obtain ⟨sa, hsa⟩ := hN.stX7_190
      exact vx_throwS hx hb hlt (own := RX7) (cls := "java/lang/IllegalArgumentException") (text := "no such part") (names := ["java/lang/RuntimeException", "java/lang/Exception"]) hown (by decide +kernel) (by decide +kernel) hw0_ hw1_ hsa (tx_hat hN.xw (fun w h => hts w (at_X7_item_19 w h)) ng_RX7_19) og_RX7_19 hZ.1 hZ.2 hS (by rw [hml]; exact hl.1) dX7_item_19 dX7_item_22 dX7_item_23 dX7_item_25 dX7_item_28 (fun x hx9 => (htab x hx9).elim) (Nat.le_of_ble_eq_true rfl) (Nat.le_of_ble_eq_true rfl) (Nat.le_of_ble_eq_true rfl) (Nat.le_of_ble_eq_true rfl) hlocks (fun t hvm hz hq => ⟨(), trivial, Or.inl rfl, ⟨Nat.le_trans hS.1 hz, fun q h1 h2 => (hq q (Nat.lt_of_lt_of_le h1 hS.1)).trans (hS.2.1 q h1 h2)⟩⟩) hS.2.2 (Nat.le_of_ble_eq_true rfl) (Nat.le_of_ble_eq_true rfl)
    ·
      have ic_3 : 0 ≤ p2.toInt := tx_nlt rfl (by decide) c_3
      refine lv_iload_n hx hb dX7_item_14 rfl (lv_at hl 4 rfl) ?_
      refine lv_iconst (v := 1) hx hb dX7_item_15 (by decide) ?_
      refine lv_icmp_le (tgt := 29) hx hb dX7_item_16 (by decide) (fun c_4 => ?_) (fun c_4 => ?_)
      ·
        have ic_4 : p2.toInt ≤ 1 := tx_le rfl (by decide) c_4
        refine lv_iload_n hx hb dX7_item_29 rfl (lv_at hl 3 rfl) ?_
        refine lv_if_lt (tgt := 42) hx hb dX7_item_30 (by decide) (fun c_5 => ?_) (fun c_5 => ?_)
        ·
          have ic_5 : p1.toInt < 0 := tx_lt rfl (by decide) c_5
          obtain ⟨sa, hsa⟩ := hN.stX7_194
          exact vx_throwS hx hb hlt (own := RX7) (cls := "java/lang/IndexOutOfBoundsException") (text := "no such key") (names := ["java/lang/RuntimeException", "java/lang/Exception"]) hown (by decide +kernel) (by decide +kernel) hw2_ hw3_ hsa (tx_hat hN.xw (fun w h => hts w (at_X7_item_42 w h)) ng_RX7_196) og_RX7_196 hZ.1 hZ.2 hS (by rw [hml]; exact hl.1) dX7_item_42 dX7_item_45 dX7_item_46 dX7_item_48 dX7_item_51 (fun x hx9 => (htab x hx9).elim) (Nat.le_of_ble_eq_true rfl) (Nat.le_of_ble_eq_true rfl) (Nat.le_of_ble_eq_true rfl) (Nat.le_of_ble_eq_true rfl) hlocks (fun t hvm hz hq => ⟨(), trivial, Or.inr rfl, ⟨Nat.le_trans hS.1 hz, fun q h1 h2 => (hq q (Nat.lt_of_lt_of_le h1 hS.1)).trans (hS.2.1 q h1 h2)⟩⟩) hS.2.2 (Nat.le_of_ble_eq_true rfl) (Nat.le_of_ble_eq_true rfl)
        ·
          have ic_5 : 0 ≤ p1.toInt := tx_nlt rfl (by decide) c_5
          refine lv_iload_n hx hb dX7_item_33 rfl (lv_at hl 3 rfl) ?_
          refine lv_aload hx hb dX7_item_34 (lv_at hl 0 rfl) ?_
          have hPc := hP.sub (ws' := [(y0, .inr (4, [.ref x0, .int kd, .int wh, .int (nI lim), .int bu])), (x0, .inr (5, [.ref k0, .ref w0, .int (nI nz), .int ch])), (k0, .inl (ck, L, .inl f)), (w0, .inl (cw, L, .inl g))]) [2, 3, 4, 5] rfl
          have hKc := hK.sub (tys' := [(ck, .int), (cw, .int)]) [1, 2] rfl
          refine ro_calli (va_runU (As := []) (rest := [.int p1]) ⟨hx, hb, hml, hown, hts⟩ (c_X3_size_L l  dC dI s.heap.size y0 (.int kd) (.int wh) (.int (nI lim)) (.int bu) x0 k0 w0 ck cw L f g nz ch hR9) (va_cwU 0 hts gX7_item_X3_size_u84X4 rfl rfl rfl rfl (by decide +kernel) ⟨(Nat.le_of_ble_eq_true rfl), (Nat.le_of_ble_eq_true rfl)⟩) ⟨pk_blindR, va_recv hKc hPc (ci := 4) (q0 := 0) rfl rfl, pk_callR hPc hKc⟩ rfl rfl hl.1 rfl (lv_room (Nat.le_of_ble_eq_true rfl)) dX7_item_36 ⟨(Nat.le_of_ble_eq_true rfl), (Nat.le_of_ble_eq_true rfl)⟩) (fun r_6 ur_6 hw => ?_)
          clear hPc hKc
          try dsimp only at hw
          have jr_6 := hw
          refine W.eq (g2 := F0 m 39 ls [.int r_6, .int p1]) rfl ?_
          have hr_6 : -1000 ≤ r_6.toInt ∧ r_6.toInt ≤ nz := by rw [jr_6, nI_toInt (by omega)]; omega
          refine lv_icmp_lt (tgt := 52) hx hb dX7_item_39 (by decide) (fun c_7 => ?_) (fun c_7 => ?_)
          ·
            have ic_7 : p1.toInt < r_6.toInt := tx_lt rfl rfl c_7
            refine lv_aload hx hb dX7_item_52 (lv_at hl 0 rfl) ?_
            refine lv_iload_n hx hb dX7_item_54 rfl (lv_at hl 3 rfl) ?_
            have hPc := hP.sub (ws' := [(y0, .inr (4, [.ref x0, .int kd, .int wh, .int (nI lim), .int bu]))]) [2] rfl
            have hKc := hK.sub (tys' := []) [] rfl
            refine ro_calli (va_runU (As := [.int p1]) (rest := []) ⟨hx, hb, hml, hown, hts⟩ (c_X3_placeOf_L l  dC dI s.heap.size y0 (.ref x0) (.int kd) (.int wh) (.int (nI lim)) (.int bu) p1) (va_cwU 1 hts gX7_item_X3_placeOf_u197X4 rfl rfl rfl rfl (by decide +kernel) ⟨(Nat.le_of_ble_eq_true rfl), (Nat.le_of_ble_eq_true rfl)⟩) ⟨pk_blindR, va_recv hKc hPc (ci := 4) (q0 := 0) rfl rfl, pk_callR hPc hKc⟩ rfl rfl hl.1 rfl (lv_room (Nat.le_of_ble_eq_true rfl)) dX7_item_55 ⟨(Nat.le_of_ble_eq_true rfl), (Nat.le_of_ble_eq_true rfl)⟩) (fun r_8 ur_8 hw => ?_)
            clear hPc hKc
            try dsimp only at hw
            have jr_8 := hw
            refine W.eq (g2 := F0 m 58 ls [.int r_8]) rfl ?_
            refine lv_istore (lv' := [(5, .int r_8), (4, .ref y0), (0, .ref a0), (1, .int (nI o)), (2, .int p1), (3, .int p2)]) hx hb dX7_item_58 hl (by decide) rfl (fun ls hl => ?_)
            refine lv_iload_n hx hb dX7_item_60 rfl (lv_at hl 5 rfl) ?_
            refine lv_if_ne (tgt := 78) hx hb dX7_item_61 (by decide) (fun c_9 => ?_) (fun c_9 => ?_)
            ·
              have ic_9 : ¬ p2.toInt = 0 := tx_ne rfl (by decide) c_9
              refine lv_aload hx hb dX7_item_78 (lv_at hl 1 rfl) ?_
              refine va_get (D := (dC, dI)) (ci := 4) (v := .ref x0) (C := RX4) (T := TX4) (N := 5) hx hb hts hi0_ hown hK hP 2 rfl rfl 0 (by decide) hw4_ (fun _ h9 => h9) rfl dX7_item_80 ?_
              refine lv_iload hx hb dX7_item_83 (lv_at hl 0 rfl) ?_
              have hPc := hP.sub (ws' := [(x0, .inr (5, [.ref k0, .ref w0, .int (nI nz), .int ch])), (k0, .inl (ck, L, .inl f)), (w0, .inl (cw, L, .inl g))]) [3, 4, 5] rfl
              have hKc := hK.sub (tys' := [(ck, .int), (cw, .int)]) [1, 2] rfl
              refine ro_calli (va_runV (As := [.int r_8]) (rest := []) ⟨hx, hb, hml, hown, hts⟩ (c_X5_value l  dC dI s.heap.size x0 k0 w0 ck cw L f g nz ch r_8 hR9) (cwV 1 hts gX7_item_X5_value rfl rfl rfl (by decide +kernel) ⟨(Nat.le_of_ble_eq_true rfl), (Nat.le_of_ble_eq_true rfl)⟩) ⟨pk_blindR, va_recv hKc hPc (ci := 5) (q0 := 0) rfl rfl, pk_callR hPc hKc⟩ rfl rfl hl.1 rfl (lv_room (Nat.le_of_ble_eq_true rfl)) dX7_item_85 ⟨(Nat.le_of_ble_eq_true rfl), (Nat.le_of_ble_eq_true rfl)⟩) (fun r_10 ur_10 hw => ?_)
              clear hPc hKc
              try dsimp only at hw
              have jr_10 := hw
              refine W.eq (g2 := F0 m 88 ls [.int r_10]) rfl ?_
              refine lv_i2l (v := r_10.toInt64) hx hb dX7_item_88 rfl ?_
              refine W.widen (k := 2) (n := 12) (Nat.le_of_ble_eq_true rfl) (Nat.le_of_ble_eq_true rfl) ?_
              refine vx_ret ?_
              exact W.lret (v := r_10.toInt64) hx hb hr (fun t ht hW => ⟨⟨r_10.toInt64, (), rfl, trivial, congrArg Array.size ht⟩, hS.F ht⟩) hS.2.2 dX7_item_89
            ·
              have ic_9 : p2.toInt = 0 := tx_eq rfl (by decide) c_9
              refine lv_aload hx hb dX7_item_64 (lv_at hl 1 rfl) ?_
              refine va_get (D := (dC, dI)) (ci := 4) (v := .ref x0) (C := RX4) (T := TX4) (N := 5) hx hb hts hi0_ hown hK hP 2 rfl rfl 0 (by decide) hw4_ (fun _ h9 => h9) rfl dX7_item_66 ?_
              refine lv_iload hx hb dX7_item_69 (lv_at hl 0 rfl) ?_
              have hPc := hP.sub (ws' := [(x0, .inr (5, [.ref k0, .ref w0, .int (nI nz), .int ch])), (k0, .inl (ck, L, .inl f)), (w0, .inl (cw, L, .inl g))]) [3, 4, 5] rfl
              have hKc := hK.sub (tys' := [(ck, .int), (cw, .int)]) [1, 2] rfl
              refine ro_calli (va_runV (As := [.int r_8]) (rest := []) ⟨hx, hb, hml, hown, hts⟩ (c_X5_key l  dC dI s.heap.size x0 k0 w0 ck cw L f g nz ch r_8 hR9) (cwV 1 hts gX7_item_X5_key rfl rfl rfl (by decide +kernel) ⟨(Nat.le_of_ble_eq_true rfl), (Nat.le_of_ble_eq_true rfl)⟩) ⟨pk_blindR, va_recv hKc hPc (ci := 5) (q0 := 0) rfl rfl, pk_callR hPc hKc⟩ rfl rfl hl.1 rfl (lv_room (Nat.le_of_ble_eq_true rfl)) dX7_item_71 ⟨(Nat.le_of_ble_eq_true rfl), (Nat.le_of_ble_eq_true rfl)⟩) (fun r_11 ur_11 hw => ?_)
              clear hPc hKc
              try dsimp only at hw
              have jr_11 := hw
              refine W.eq (g2 := F0 m 74 ls [.int r_11]) rfl ?_
              refine lv_i2l (v := r_11.toInt64) hx hb dX7_item_74 rfl ?_
              refine lv_goto (tgt := 89) hx hb dX7_item_75 (by decide) ?_
              refine W.widen (k := 2) (n := 12) (Nat.le_of_ble_eq_true rfl) (Nat.le_of_ble_eq_true rfl) ?_
              refine vx_ret ?_
              exact W.lret (v := r_11.toInt64) hx hb hr (fun t ht hW => ⟨⟨r_11.toInt64, (), rfl, trivial, congrArg Array.size ht⟩, hS.F ht⟩) hS.2.2 dX7_item_89
          ·
            have ic_7 : r_6.toInt ≤ p1.toInt := tx_nlt rfl rfl c_7
            obtain ⟨sa, hsa⟩ := hN.stX7_194
            exact vx_throwS hx hb hlt (own := RX7) (cls := "java/lang/IndexOutOfBoundsException") (text := "no such key") (names := ["java/lang/RuntimeException", "java/lang/Exception"]) hown (by decide +kernel) (by decide +kernel) hw2_ hw3_ hsa (tx_hat hN.xw (fun w h => hts w (at_X7_item_42 w h)) ng_RX7_196) og_RX7_196 hZ.1 hZ.2 hS (by rw [hml]; exact hl.1) dX7_item_42 dX7_item_45 dX7_item_46 dX7_item_48 dX7_item_51 (fun x hx9 => (htab x hx9).elim) (Nat.le_of_ble_eq_true rfl) (Nat.le_of_ble_eq_true rfl) (Nat.le_of_ble_eq_true rfl) (Nat.le_of_ble_eq_true rfl) hlocks (fun t hvm hz hq => ⟨(), trivial, Or.inr rfl, ⟨Nat.le_trans hS.1 hz, fun q h1 h2 => (hq q (Nat.lt_of_lt_of_le h1 hS.1)).trans (hS.2.1 q h1 h2)⟩⟩) hS.2.2 (Nat.le_of_ble_eq_true rfl) (Nat.le_of_ble_eq_true rfl)
      ·
        have ic_4 : 1 < p2.toInt := tx_nle rfl (by decide) c_4
        obtain ⟨sa, hsa⟩ := hN.stX7_190
        exact vx_throwS hx hb hlt (own := RX7) (cls := "java/lang/IllegalArgumentException") (text := "no such part") (names := ["java/lang/RuntimeException", "java/lang/Exception"]) hown (by decide +kernel) (by decide +kernel) hw0_ hw1_ hsa (tx_hat hN.xw (fun w h => hts w (at_X7_item_19 w h)) ng_RX7_19) og_RX7_19 hZ.1 hZ.2 hS (by rw [hml]; exact hl.1) dX7_item_19 dX7_item_22 dX7_item_23 dX7_item_25 dX7_item_28 (fun x hx9 => (htab x hx9).elim) (Nat.le_of_ble_eq_true rfl) (Nat.le_of_ble_eq_true rfl) (Nat.le_of_ble_eq_true rfl) (Nat.le_of_ble_eq_true rfl) hlocks (fun t hvm hz hq => ⟨(), trivial, Or.inl rfl, ⟨Nat.le_trans hS.1 hz, fun q h1 h2 => (hq q (Nat.lt_of_lt_of_le h1 hS.1)).trans (hS.2.1 q h1 h2)⟩⟩) hS.2.2 (Nat.le_of_ble_eq_true rfl) (Nat.le_of_ble_eq_true rfl)
set_option maxHeartbeats 4000000 in
set_option maxRecDepth 100000 in
/-- item of S -/
theorem c_X7_item_S (l : Launch) (hlt : l.stackTraces = false) (dC : Nat → ClassId) (dI : Nat → Nat → Nat) (sz : Nat) (a0 : Nat) (qb : Nat) (cq : ClassId) (bq : Nat → Option Nat) (o : Nat) (y0 : Nat) (kd : Int32) (wh : Int32) (od : Int32) (tu : Int32) (lo : Int64) (hi : Int64) (x0 : Nat) (k0 : Nat) (w0 : Nat) (ck : ClassId) (cw : ClassId) (L : Nat) (f : Nat → Int32) (g : Nat → Int32) (nz : Nat) (ch : Int32) (p1 : Int32) (p2 : Int32) (ho9 : o < 16) (hbo : bq o = some y0) (hR9 : rOK L nz) (ho1 : 0 ≤ od.toInt) (ho2 : od.toInt ≤ 3) : vx_Met l yX7_item wqX7_item ({ frames := 7, cells := 2, slots := 12, locals := 240 }) (va_Pc [.ref a0, .int (nI o), .int p1, .int p2] (pk_PreXR (dC, dI) [(a0, .inr (7, [.ref qb])), (qb, .inl (cq, 16, .inr (.inr (.inr (.inr bq))))), (y0, .inr (6, [.ref x0, .int kd, .int wh, .int od, .int tu, .long lo, .long hi])), (x0, .inr (5, [.ref k0, .ref w0, .int (nI nz), .int ch])), (k0, .inl (ck, L, .inl f)), (w0, .inl (cw, L, .inl g))] [(cq, .object "KeyAtlas$Body"), (ck, .int), (cw, .int)] sz)) (va_Ql (fun (x : Int64) (_ : Unit) => True) (fun _ (t : State) => t.heap.size = sz) (roN sz)) (vx_X (fun _ : Unit => True) (fun (E : String) (_ : Unit) (t : State) => E = "java/lang/IllegalArgumentException" ∨ E = "java/lang/IndexOutOfBoundsException") (roN sz)) 2 12 (roN sz) := by
  refine vx_ofW (cc := cX7_item) (maxL := 6) (ret := (some .long)) (by decide) rfl ?_
  intro p e s m args below meth c s₁ B hml htab hv
  obtain ⟨rfl, hsz, hP, hK, hN, hZ⟩ := hv
  have hx := B.exec
  have hb := B.bytes
  have hr := B.returns
  have hts := atoms_spec (ws := wqX7_item) B.pre
  have hown : s.vm.findClass RX7 = some m.cls := findClass_of_methodNamed B.named
  have hlocks := B.notSynchronized
  subst hsz
  generalize hAe : roN s.heap.size = A at hZ ⊢
  have hA : ∀ q : Nat, s.heap.size ≤ q → A q := fun q h => by rw [← hAe]; exact h
  have hS : va_S A s.heap s.heap [] := va_S.rf
  have hP : va_P (dC, dI) vwCl [(a0, .inr (7, [.ref qb])), (qb, .inl (cq, 16, .inr (.inr (.inr (.inr bq))))), (y0, .inr (6, [.ref x0, .int kd, .int wh, .int od, .int tu, .long lo, .long hi])), (x0, .inr (5, [.ref k0, .ref w0, .int (nI nz), .int ch])), (k0, .inl (ck, L, .inl f)), (w0, .inl (cw, L, .inl g))] s.heap := hP
  have hl := lv_entry ([.ref a0, .int (nI o), .int p1, .int p2]) (n := 6) (Nat.le_of_ble_eq_true rfl)
  rw [lg_entry_eq]
  generalize (lg_sl ([.ref a0, .int (nI o), .int p1, .int p2]) ++ List.replicate (6 - (lg_sl ([.ref a0, .int (nI o), .int p1, .int p2])).length) Slot.unset).toArray = ls at hl ⊢
  have hl : lv_has ls 6 [(0, .ref a0), (1, .int (nI o)), (2, .int p1), (3, .int p2)] := hl
  have hw0_ := hts (.classLink RX7 15 "java/lang/IllegalArgumentException") (List.mem_of_getElem? (l := wqX7_item) (i := 1) rfl)
  have hw1_ := hts (.initialized "java/lang/IllegalArgumentException") (List.mem_of_getElem? (l := wqX7_item) (i := 2) rfl)
  have hw2_ := hts (.classLink RX7 192 "java/lang/IndexOutOfBoundsException") (List.mem_of_getElem? (l := wqX7_item) (i := 3) rfl)
  have hw3_ := hts (.initialized "java/lang/IndexOutOfBoundsException") (List.mem_of_getElem? (l := wqX7_item) (i := 4) rfl)
  have hw4_ := hts (.fieldLink RX7 200 "KeyAtlas$Keyed" "rows" "LKeyAtlas$Rows;") (List.mem_of_getElem? (l := wqX7_item) (i := 5) rfl)
  have hi0_ : ∀ w ∈ u_ws RX6 TX6 7, w ∈ wqX7_item := fun w h => List.mem_cons_of_mem _ (List.mem_append_left _ (List.mem_append_left _ (List.mem_append_left _ (List.mem_append_left _ (List.mem_append_left _ (List.mem_append_left _ (List.mem_append_left _ (List.mem_append_right _ h))))))))
  obtain ⟨hL1, hL2, hz1, hz2⟩ := id hR9
  refine lv_aload_n hx hb dX7_item_0 rfl (lv_at hl 0 rfl) ?_
  refine lv_iload_n hx hb dX7_item_1 rfl (lv_at hl 1 rfl) ?_
  have hPc := hP.sub (ws' := [(a0, .inr (7, [.ref qb])), (qb, .inl (cq, 16, .inr (.inr (.inr (.inr bq)))))]) [0, 1] rfl
  have hKc := hK.sub (tys' := [(cq, .object "KeyAtlas$Body")]) [0] rfl
  refine rox_callr (B := (fun (_ : Unit) (a : Nat) (t : State) => t.heap.size = s.heap.size ∧ ∃ j : Nat, j < 16 ∧ nI o = nI j ∧ bq j = some a)) (fun u9 x9 t9 h9 => h9.1) (vx_runV (As := [.int (nI o)]) (rest := []) ⟨hx, hb, hml, hown, hts⟩ (c_X7_bodyAt l hlt dC dI s.heap.size a0 qb cq bq (nI o)) (cwV 1 hts gX7_item_X7_bodyAt rfl rfl rfl (by decide +kernel) ⟨(Nat.le_of_ble_eq_true rfl), (Nat.le_of_ble_eq_true rfl)⟩) ⟨pk_blindXR, va_recv hKc hPc (ci := 7) (q0 := 0) rfl rfl, pk_callXR hPc hKc hN ((hZ.kept hS.2.1).narrow (fun q h9 => hA q (Nat.le_trans hS.1 h9)))⟩ rfl rfl hl.1 rfl (lv_room (Nat.le_of_ble_eq_true rfl)) dX7_item_2 ⟨(Nat.le_of_ble_eq_true rfl), (Nat.le_of_ble_eq_true rfl)⟩) hS (fun q h9 => hA q (Nat.le_trans hS.1 h9)) (fun E ce q9 u9 t H1 locs ht hvm hw hB hz1 hk1 hS hce hcv hcl => ?_) (fun r_1 ur_1 t9 locs hw hB9 hS => ?_)
  ·
    try dsimp only at hB
    exact bq_no ho9 hbo hB.2
  ·
    refine W.tight (k := 0) (n := 0) (Nat.le_refl _) (Nat.le_refl _) ?_
    clear hPc hKc
    try dsimp only at hw
    have jr_1 := hw
    refine W.eq (g2 := F0 m 5 ls [.ref y0]) (by rw [show r_1 = y0 from bq_is ho9 hbo hB9.2]) ?_
    have hPc := hP.sub (ws' := [(y0, .inr (6, [.ref x0, .int kd, .int wh, .int od, .int tu, .long lo, .long hi]))]) [2] rfl
    have hKc := hK.sub (tys' := []) [] rfl
    refine ro_callr (B := (fun (_ : Unit) (a : Nat) (t : State) => t.heap.size = s.heap.size ∧ a = y0)) (fun u9 x9 t9 h9 => h9.1) (va_runS (As := [.ref y0]) (rest := []) ⟨hx, hb, hml, hown, hts⟩ (c_X7_asMap_S l hlt dC dI s.heap.size y0 ([.ref x0, .int kd, .int wh, .int od, .int tu, .long lo, .long hi])) (va_cwS 1 hts gX7_item_X7_asMap rfl rfl rfl (by decide +kernel) ⟨(Nat.le_of_ble_eq_true rfl), (Nat.le_of_ble_eq_true rfl)⟩) ⟨pk_blindRX, pk_callRX hPc hKc hN⟩ rfl rfl hl.1 rfl (lv_room (Nat.le_of_ble_eq_true rfl)) dX7_item_5 ⟨(Nat.le_of_ble_eq_true rfl), (Nat.le_of_ble_eq_true rfl)⟩) (fun r_2 ur_2 t9 hw hB9 => ?_)
    clear hPc hKc
    try dsimp only at hw
    have jr_2 := hw
    refine W.eq (g2 := F0 m 8 ls [.ref y0]) (by rw [show r_2 = y0 from hB9.2]) ?_
    refine lv_astore (lv' := [(4, .ref y0), (0, .ref a0), (1, .int (nI o)), (2, .int p1), (3, .int p2)]) hx hb dX7_item_8 hl (by decide) rfl (fun ls hl => ?_)
    refine lv_iload_n hx hb dX7_item_10 rfl (lv_at hl 4 rfl) ?_
    refine lv_if_lt (tgt := 19) hx hb dX7_item_11 (by decide) (fun c_3 => ?_) (fun c_3 => ?_)
    ·
      have ic_3 : p2.toInt < 0 := tx_lt rfl (by decide) c_3
      obtain ⟨sa, hsa⟩ := hN.stX7_190
      exact vx_throwS hx hb hlt (own := RX7) (cls := "java/lang/IllegalArgumentException") (text := "no such part") (names := ["java/lang/RuntimeException", "java/lang/Exception"]) hown (by decide +kernel) (by decide +kernel) hw0_ hw1_ hsa (tx_hat hN.xw (fun w h => hts w (at_X7_item_19 w h)) ng_RX7_19) og_RX7_19 hZ.1 hZ.2 hS (by rw [hml]; exact hl.1) dX7_item_19 dX7_item_22 dX7_item_23 dX7_item_25 dX7_item_28 (fun x hx9 => (htab x hx9).elim) (Nat.le_of_ble_eq_true rfl) (Nat.le_of_ble_eq_true rfl) (Nat.le_of_ble_eq_true rfl) (Nat.le_of_ble_eq_true rfl) hlocks (fun t hvm hz hq => ⟨(), trivial, Or.inl rfl, ⟨Nat.le_trans hS.1 hz, fun q h1 h2 => (hq q (Nat.lt_of_lt_of_le h1 hS.1)).trans (hS.2.1 q h1 h2)⟩⟩) hS.2.2 (Nat.le_of_ble_eq_true rfl) (Nat.le_of_ble_eq_true rfl)
    ·
      have ic_3 : 0 ≤ p2.toInt := tx_nlt rfl (by decide) c_3
      refine lv_iload_n hx hb dX7_item_14 rfl (lv_at hl 4 rfl) ?_
      refine lv_iconst (v := 1) hx hb dX7_item_15 (by decide) ?_
      refine lv_icmp_le (tgt := 29) hx hb dX7_item_16 (by decide) (fun c_4 => ?_) (fun c_4 => ?_)
      ·
        have ic_4 : p2.toInt ≤ 1 := tx_le rfl (by decide) c_4
        refine lv_iload_n hx hb dX7_item_29 rfl (lv_at hl 3 rfl) ?_
        refine lv_if_lt (tgt := 42) hx hb dX7_item_30 (by decide) (fun c_5 => ?_) (fun c_5 => ?_)
        ·
          have ic_5 : p1.toInt < 0 := tx_lt rfl (by decide) c_5
          obtain ⟨sa, hsa⟩ := hN.stX7_194
          exact vx_throwS hx hb hlt (own := RX7) (cls := "java/lang/IndexOutOfBoundsException") (text := "no such key") (names := ["java/lang/RuntimeException", "java/lang/Exception"]) hown (by decide +kernel) (by decide +kernel) hw2_ hw3_ hsa (tx_hat hN.xw (fun w h => hts w (at_X7_item_42 w h)) ng_RX7_196) og_RX7_196 hZ.1 hZ.2 hS (by rw [hml]; exact hl.1) dX7_item_42 dX7_item_45 dX7_item_46 dX7_item_48 dX7_item_51 (fun x hx9 => (htab x hx9).elim) (Nat.le_of_ble_eq_true rfl) (Nat.le_of_ble_eq_true rfl) (Nat.le_of_ble_eq_true rfl) (Nat.le_of_ble_eq_true rfl) hlocks (fun t hvm hz hq => ⟨(), trivial, Or.inr rfl, ⟨Nat.le_trans hS.1 hz, fun q h1 h2 => (hq q (Nat.lt_of_lt_of_le h1 hS.1)).trans (hS.2.1 q h1 h2)⟩⟩) hS.2.2 (Nat.le_of_ble_eq_true rfl) (Nat.le_of_ble_eq_true rfl)
        ·
          have ic_5 : 0 ≤ p1.toInt := tx_nlt rfl (by decide) c_5
          refine lv_iload_n hx hb dX7_item_33 rfl (lv_at hl 3 rfl) ?_
          refine lv_aload hx hb dX7_item_34 (lv_at hl 0 rfl) ?_
          have hPc := hP.sub (ws' := [(y0, .inr (6, [.ref x0, .int kd, .int wh, .int od, .int tu, .long lo, .long hi])), (x0, .inr (5, [.ref k0, .ref w0, .int (nI nz), .int ch])), (k0, .inl (ck, L, .inl f)), (w0, .inl (cw, L, .inl g))]) [2, 3, 4, 5] rfl
          have hKc := hK.sub (tys' := [(ck, .int), (cw, .int)]) [1, 2] rfl
          refine ro_calli (va_runU (As := []) (rest := [.int p1]) ⟨hx, hb, hml, hown, hts⟩ (c_X6_size l  dC dI s.heap.size y0 kd wh od tu lo hi x0 k0 w0 ck cw L f g nz ch hR9 ho1 ho2) (va_cwO 0 hts gX7_item_X6_size_u84X6 rfl rfl rfl (List.mem_of_getElem? (l := wqX7_item) (i := 30) rfl) (by decide +kernel) ⟨(Nat.le_of_ble_eq_true rfl), (Nat.le_of_ble_eq_true rfl)⟩) ⟨pk_blindR, va_recv hKc hPc (ci := 6) (q0 := 0) rfl rfl, pk_callR hPc hKc⟩ rfl rfl hl.1 rfl (lv_room (Nat.le_of_ble_eq_true rfl)) dX7_item_36 ⟨(Nat.le_of_ble_eq_true rfl), (Nat.le_of_ble_eq_true rfl)⟩) (fun r_6 ur_6 hw => ?_)
          clear hPc hKc
          try dsimp only at hw
          have jr_6 := hw
          refine W.eq (g2 := F0 m 39 ls [.int r_6, .int p1]) rfl ?_
          refine lv_icmp_lt (tgt := 52) hx hb dX7_item_39 (by decide) (fun c_7 => ?_) (fun c_7 => ?_)
          ·
            have ic_7 : p1.toInt < r_6.toInt := tx_lt rfl rfl c_7
            refine lv_aload hx hb dX7_item_52 (lv_at hl 0 rfl) ?_
            refine lv_iload_n hx hb dX7_item_54 rfl (lv_at hl 3 rfl) ?_
            have hPc := hP.sub (ws' := [(y0, .inr (6, [.ref x0, .int kd, .int wh, .int od, .int tu, .long lo, .long hi])), (x0, .inr (5, [.ref k0, .ref w0, .int (nI nz), .int ch])), (k0, .inl (ck, L, .inl f)), (w0, .inl (cw, L, .inl g))]) [2, 3, 4, 5] rfl
            have hKc := hK.sub (tys' := [(ck, .int), (cw, .int)]) [1, 2] rfl
            refine ro_calli (va_runU (As := [.int p1]) (rest := []) ⟨hx, hb, hml, hown, hts⟩ (c_X6_placeOf l  dC dI s.heap.size y0 kd wh od tu lo hi x0 k0 w0 ck cw L f g nz ch p1 hR9 ho1 ho2) (va_cwO 1 hts gX7_item_X6_placeOf_u197X6 rfl rfl rfl (List.mem_of_getElem? (l := wqX7_item) (i := 88) rfl) (by decide +kernel) ⟨(Nat.le_of_ble_eq_true rfl), (Nat.le_of_ble_eq_true rfl)⟩) ⟨pk_blindR, va_recv hKc hPc (ci := 6) (q0 := 0) rfl rfl, pk_callR hPc hKc⟩ rfl rfl hl.1 rfl (lv_room (Nat.le_of_ble_eq_true rfl)) dX7_item_55 ⟨(Nat.le_of_ble_eq_true rfl), (Nat.le_of_ble_eq_true rfl)⟩) (fun r_8 ur_8 hw => ?_)
            clear hPc hKc
            try dsimp only at hw
            have jr_8 := hw
            refine W.eq (g2 := F0 m 58 ls [.int r_8]) rfl ?_
            refine lv_istore (lv' := [(5, .int r_8), (4, .ref y0), (0, .ref a0), (1, .int (nI o)), (2, .int p1), (3, .int p2)]) hx hb dX7_item_58 hl (by decide) rfl (fun ls hl => ?_)
            refine lv_iload_n hx hb dX7_item_60 rfl (lv_at hl 5 rfl) ?_
            refine lv_if_ne (tgt := 78) hx hb dX7_item_61 (by decide) (fun c_9 => ?_) (fun c_9 => ?_)
            ·
              have ic_9 : ¬ p2.toInt = 0 := tx_ne rfl (by decide) c_9
              refine lv_aload hx hb dX7_item_78 (lv_at hl 1 rfl) ?_
              refine va_get (D := (dC, dI)) (ci := 6) (v := .ref x0) (C := RX6) (T := TX6) (N := 7) hx hb hts hi0_ hown hK hP 2 rfl rfl 0 (by decide) hw4_ (fun _ h9 => h9) rfl dX7_item_80 ?_
              refine lv_iload hx hb dX7_item_83 (lv_at hl 0 rfl) ?_
              have hPc := hP.sub (ws' := [(x0, .inr (5, [.ref k0, .ref w0, .int (nI nz), .int ch])), (k0, .inl (ck, L, .inl f)), (w0, .inl (cw, L, .inl g))]) [3, 4, 5] rfl
              have hKc := hK.sub (tys' := [(ck, .int), (cw, .int)]) [1, 2] rfl
              refine ro_calli (va_runV (As := [.int r_8]) (rest := []) ⟨hx, hb, hml, hown, hts⟩ (c_X5_value l  dC dI s.heap.size x0 k0 w0 ck cw L f g nz ch r_8 hR9) (cwV 1 hts gX7_item_X5_value rfl rfl rfl (by decide +kernel) ⟨(Nat.le_of_ble_eq_true rfl), (Nat.le_of_ble_eq_true rfl)⟩) ⟨pk_blindR, va_recv hKc hPc (ci := 5) (q0 := 0) rfl rfl, pk_callR hPc hKc⟩ rfl rfl hl.1 rfl (lv_room (Nat.le_of_ble_eq_true rfl)) dX7_item_85 ⟨(Nat.le_of_ble_eq_true rfl), (Nat.le_of_ble_eq_true rfl)⟩) (fun r_10 ur_10 hw => ?_)
              clear hPc hKc
              try dsimp only at hw
              have jr_10 := hw
              refine W.eq (g2 := F0 m 88 ls [.int r_10]) rfl ?_
              refine lv_i2l (v := r_10.toInt64) hx hb dX7_item_88 rfl ?_
              refine W.widen (k := 2) (n := 12) (Nat.le_of_ble_eq_true rfl) (Nat.le_of_ble_eq_true rfl) ?_
              refine vx_ret ?_
              exact W.lret (v := r_10.toInt64) hx hb hr (fun t ht hW => ⟨⟨r_10.toInt64, (), rfl, trivial, congrArg Array.size ht⟩, hS.F ht⟩) hS.2.2 dX7_item_89
            ·
              have ic_9 : p2.toInt = 0 := tx_eq rfl (by decide) c_9
              refine lv_aload hx hb dX7_item_64 (lv_at hl 1 rfl) ?_
              refine va_get (D := (dC, dI)) (ci := 6) (v := .ref x0) (C := RX6) (T := TX6) (N := 7) hx hb hts hi0_ hown hK hP 2 rfl rfl 0 (by decide) hw4_ (fun _ h9 => h9) rfl dX7_item_66 ?_
              refine lv_iload hx hb dX7_item_69 (lv_at hl 0 rfl) ?_
              have hPc := hP.sub (ws' := [(x0, .inr (5, [.ref k0, .ref w0, .int (nI nz), .int ch])), (k0, .inl (ck, L, .inl f)), (w0, .inl (cw, L, .inl g))]) [3, 4, 5] rfl
              have hKc := hK.sub (tys' := [(ck, .int), (cw, .int)]) [1, 2] rfl
              refine ro_calli (va_runV (As := [.int r_8]) (rest := []) ⟨hx, hb, hml, hown, hts⟩ (c_X5_key l  dC dI s.heap.size x0 k0 w0 ck cw L f g nz ch r_8 hR9) (cwV 1 hts gX7_item_X5_key rfl rfl rfl (by decide +kernel) ⟨(Nat.le_of_ble_eq_true rfl), (Nat.le_of_ble_eq_true rfl)⟩) ⟨pk_blindR, va_recv hKc hPc (ci := 5) (q0 := 0) rfl rfl, pk_callR hPc hKc⟩ rfl rfl hl.1 rfl (lv_room (Nat.le_of_ble_eq_true rfl)) dX7_item_71 ⟨(Nat.le_of_ble_eq_true rfl), (Nat.le_of_ble_eq_true rfl)⟩) (fun r_11 ur_11 hw => ?_)
              clear hPc hKc
              try dsimp only at hw
              have jr_11 := hw
              refine W.eq (g2 := F0 m 74 ls [.int r_11]) rfl ?_
              refine lv_i2l (v := r_11.toInt64) hx hb dX7_item_74 rfl ?_
              refine lv_goto (tgt := 89) hx hb dX7_item_75 (by decide) ?_
              refine W.widen (k := 2) (n := 12) (Nat.le_of_ble_eq_true rfl) (Nat.le_of_ble_eq_true rfl) ?_
              refine vx_ret ?_
              exact W.lret (v := r_11.toInt64) hx hb hr (fun t ht hW => ⟨⟨r_11.toInt64, (), rfl, trivial, congrArg Array.size ht⟩, hS.F ht⟩) hS.2.2 dX7_item_89
          ·
            have ic_7 : r_6.toInt ≤ p1.toInt := tx_nlt rfl rfl c_7
            obtain ⟨sa, hsa⟩ := hN.stX7_194
            exact vx_throwS hx hb hlt (own := RX7) (cls := "java/lang/IndexOutOfBoundsException") (text := "no such key") (names := ["java/lang/RuntimeException", "java/lang/Exception"]) hown (by decide +kernel) (by decide +kernel) hw2_ hw3_ hsa (tx_hat hN.xw (fun w h => hts w (at_X7_item_42 w h)) ng_RX7_196) og_RX7_196 hZ.1 hZ.2 hS (by rw [hml]; exact hl.1) dX7_item_42 dX7_item_45 dX7_item_46 dX7_item_48 dX7_item_51 (fun x hx9 => (htab x hx9).elim) (Nat.le_of_ble_eq_true rfl) (Nat.le_of_ble_eq_true rfl) (Nat.le_of_ble_eq_true rfl) (Nat.le_of_ble_eq_true rfl) hlocks (fun t hvm hz hq => ⟨(), trivial, Or.inr rfl, ⟨Nat.le_trans hS.1 hz, fun q h1 h2 => (hq q (Nat.lt_of_lt_of_le h1 hS.1)).trans (hS.2.1 q h1 h2)⟩⟩) hS.2.2 (Nat.le_of_ble_eq_true rfl) (Nat.le_of_ble_eq_true rfl)
      ·
        have ic_4 : 1 < p2.toInt := tx_nle rfl (by decide) c_4
        obtain ⟨sa, hsa⟩ := hN.stX7_190
        exact vx_throwS hx hb hlt (own := RX7) (cls := "java/lang/IllegalArgumentException") (text := "no such part") (names := ["java/lang/RuntimeException", "java/lang/Exception"]) hown (by decide +kernel) (by decide +kernel) hw0_ hw1_ hsa (tx_hat hN.xw (fun w h => hts w (at_X7_item_19 w h)) ng_RX7_19) og_RX7_19 hZ.1 hZ.2 hS (by rw [hml]; exact hl.1) dX7_item_19 dX7_item_22 dX7_item_23 dX7_item_25 dX7_item_28 (fun x hx9 => (htab x hx9).elim) (Nat.le_of_ble_eq_true rfl) (Nat.le_of_ble_eq_true rfl) (Nat.le_of_ble_eq_true rfl) (Nat.le_of_ble_eq_true rfl) hlocks (fun t hvm hz hq => ⟨(), trivial, Or.inl rfl, ⟨Nat.le_trans hS.1 hz, fun q h1 h2 => (hq q (Nat.lt_of_lt_of_le h1 hS.1)).trans (hS.2.1 q h1 h2)⟩⟩) hS.2.2 (Nat.le_of_ble_eq_true rfl) (Nat.le_of_ble_eq_true rfl)
