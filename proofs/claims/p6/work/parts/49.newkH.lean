theorem dX3_newKeysOf_0 : decode cX3_newKeysOf 0 = .ok (.iconst 0, 1) := by decide +kernel
theorem dX3_newKeysOf_1 : decode cX3_newKeysOf 1 = .ok (.istore_n 2, 1) := by decide +kernel
theorem dX3_newKeysOf_2 : decode cX3_newKeysOf 2 = .ok (.aload_n 1, 1) := by decide +kernel
set_option maxRecDepth 20000 in
theorem ggX3_newKeysOf_X3_size : GoodIn wsX3_newKeysOf wsX3_size := goodIn_r _ [9, 3, 10, 11, 12, 13, 14, 15, 118, 119, 120, 121, 122, 123, 124, 125, 126, 127, 128, 129, 130, 131, 132, 133, 134, 135, 136, 137, 138, 139, 140] rfl (by decide +kernel)
set_option maxRecDepth 20000 in
theorem gX3_newKeysOf_X3_size_u72X2 : GoodIn wsX3_newKeysOf (va_wsU RX3 72 RX2 "KeyAtlas$Keyed" ⟨"KeyAtlas$Keyed", "size", "()I"⟩ yX3_size wsX3_size) := goodIn_app (goodIn_of _ (by decide +kernel)) ggX3_newKeysOf_X3_size
theorem dX3_newKeysOf_3 : decode cX3_newKeysOf 3 = .ok (.invokevirtual 72, 3) := by decide +kernel
theorem dX3_newKeysOf_6 : decode cX3_newKeysOf 6 = .ok (.istore_n 3, 1) := by decide +kernel
theorem dX3_newKeysOf_7 : decode cX3_newKeysOf 7 = .ok (.iconst 0, 1) := by decide +kernel
theorem dX3_newKeysOf_8 : decode cX3_newKeysOf 8 = .ok (.istore 4, 2) := by decide +kernel
theorem dX3_newKeysOf_10 : decode cX3_newKeysOf 10 = .ok (.iload 4, 2) := by decide +kernel
theorem dX3_newKeysOf_12 : decode cX3_newKeysOf 12 = .ok (.iload_n 3, 1) := by decide +kernel
theorem dX3_newKeysOf_13 : decode cX3_newKeysOf 13 = .ok (.if_icmp .ge 55, 3) := by decide +kernel
theorem dX3_newKeysOf_68 : decode cX3_newKeysOf 68 = .ok (.iload_n 2, 1) := by decide +kernel
theorem dX3_newKeysOf_69 : decode cX3_newKeysOf 69 = .ok (.ireturn, 1) := by decide +kernel
theorem dX3_newKeysOf_16 : decode cX3_newKeysOf 16 = .ok (.aload_n 1, 1) := by decide +kernel
theorem dX3_newKeysOf_17 : decode cX3_newKeysOf 17 = .ok (.getfield 9, 3) := by decide +kernel
theorem dX3_newKeysOf_20 : decode cX3_newKeysOf 20 = .ok (.aload_n 1, 1) := by decide +kernel
theorem dX3_newKeysOf_21 : decode cX3_newKeysOf 21 = .ok (.iload 4, 2) := by decide +kernel
set_option maxRecDepth 20000 in
theorem ggX3_newKeysOf_X3_placeOf : GoodIn wsX3_newKeysOf wsX3_placeOf := goodIn_r _ [66] rfl (by decide +kernel)
set_option maxRecDepth 20000 in
theorem gX3_newKeysOf_X3_placeOf_u77X2 : GoodIn wsX3_newKeysOf (va_wsU RX3 77 RX2 "KeyAtlas$Keyed" ⟨"KeyAtlas$Keyed", "placeOf", "(I)I"⟩ yX3_placeOf wsX3_placeOf) := goodIn_app (goodIn_of _ (by decide +kernel)) ggX3_newKeysOf_X3_placeOf
theorem dX3_newKeysOf_23 : decode cX3_newKeysOf 23 = .ok (.invokevirtual 77, 3) := by decide +kernel
set_option maxRecDepth 20000 in
theorem ggX3_newKeysOf_X5_key : GoodIn wsX3_newKeysOf wsX5_key := goodIn_r _ [38, 15, 39, 137, 138, 139, 140] rfl (by decide +kernel)
set_option maxRecDepth 20000 in
theorem gX3_newKeysOf_X5_key : GoodIn wsX3_newKeysOf (wsV RX3 85 RX5 yX5_key wsX5_key) := goodIn_app (goodIn_of _ (by decide +kernel)) ggX3_newKeysOf_X5_key
theorem dX3_newKeysOf_26 : decode cX3_newKeysOf 26 = .ok (.invokevirtual 85, 3) := by decide +kernel
theorem dX3_newKeysOf_29 : decode cX3_newKeysOf 29 = .ok (.istore 5, 2) := by decide +kernel
theorem dX3_newKeysOf_31 : decode cX3_newKeysOf 31 = .ok (.aload_n 0, 1) := by decide +kernel
theorem dX3_newKeysOf_32 : decode cX3_newKeysOf 32 = .ok (.iload 5, 2) := by decide +kernel
set_option maxRecDepth 20000 in
theorem ggX3_newKeysOf_X2_find : GoodIn wsX3_newKeysOf wsX2_find := goodIn_r _ [79, 80, 81, 82, 83, 84, 85, 78, 86, 87, 88, 89, 90, 91, 92, 93, 11, 12, 13, 14, 15, 94, 36, 37, 38, 39, 118, 119, 120, 121, 122, 123, 124, 125, 126, 127, 128, 129, 130, 131, 132, 133, 134, 135, 136, 137, 138, 139, 140] rfl (by decide +kernel)
set_option maxRecDepth 20000 in
theorem gX3_newKeysOf_X2_find_u46X2 : GoodIn wsX3_newKeysOf (va_wsU RX3 46 RX2 "KeyAtlas$Keyed" ⟨"KeyAtlas$Keyed", "find", "(I)I"⟩ yX2_find wsX2_find) := goodIn_app (goodIn_of _ (by decide +kernel)) ggX3_newKeysOf_X2_find
theorem dX3_newKeysOf_34 : decode cX3_newKeysOf 34 = .ok (.invokevirtual 46, 3) := by decide +kernel
theorem dX3_newKeysOf_37 : decode cX3_newKeysOf 37 = .ok (.ifCond .ge 25, 3) := by decide +kernel
theorem dX3_newKeysOf_62 : decode cX3_newKeysOf 62 = .ok (.iinc 4 1, 3) := by decide +kernel
theorem dX3_newKeysOf_65 : decode cX3_newKeysOf 65 = .ok (.goto (-55), 3) := by decide +kernel
theorem dX3_newKeysOf_40 : decode cX3_newKeysOf 40 = .ok (.iinc 2 1, 3) := by decide +kernel
theorem dX3_newKeysOf_43 : decode cX3_newKeysOf 43 = .ok (.aload_n 0, 1) := by decide +kernel
theorem dX3_newKeysOf_44 : decode cX3_newKeysOf 44 = .ok (.iload 5, 2) := by decide +kernel
set_option maxRecDepth 20000 in
theorem ggX3_newKeysOf_X3_mayHold : GoodIn wsX3_newKeysOf wsX3_mayHold := goodIn_r _ [114] rfl (by decide +kernel)
set_option maxRecDepth 20000 in
theorem gX3_newKeysOf_X3_mayHold_u24X2 : GoodIn wsX3_newKeysOf (va_wsU RX3 24 RX2 "KeyAtlas$Keyed" ⟨"KeyAtlas$Keyed", "mayHold", "(I)Z"⟩ yX3_mayHold wsX3_mayHold) := goodIn_app (goodIn_of _ (by decide +kernel)) ggX3_newKeysOf_X3_mayHold
theorem dX3_newKeysOf_46 : decode cX3_newKeysOf 46 = .ok (.invokevirtual 24, 3) := by decide +kernel
theorem dX3_newKeysOf_49 : decode cX3_newKeysOf 49 = .ok (.ifCond .ne 13, 3) := by decide +kernel
theorem dX3_newKeysOf_52 : decode cX3_newKeysOf 52 = .ok (.new 28, 3) := by decide +kernel
theorem dX3_newKeysOf_55 : decode cX3_newKeysOf 55 = .ok (.dup, 1) := by decide +kernel
theorem dX3_newKeysOf_56 : decode cX3_newKeysOf 56 = .ok (.ldc 30, 2) := by decide +kernel
theorem dX3_newKeysOf_58 : decode cX3_newKeysOf 58 = .ok (.invokespecial 32, 3) := by decide +kernel
theorem dX3_newKeysOf_61 : decode cX3_newKeysOf 61 = .ok (.athrow, 1) := by decide +kernel
set_option maxRecDepth 20000 in
theorem gX3_newKeysOf_X3_size_u72X4 : GoodIn wsX3_newKeysOf (va_wsU RX3 72 RX4 "KeyAtlas$Keyed" ⟨"KeyAtlas$Keyed", "size", "()I"⟩ yX3_size wsX3_size) := goodIn_app (goodIn_of _ (by decide +kernel)) ggX3_newKeysOf_X3_size
set_option maxRecDepth 20000 in
theorem gX3_newKeysOf_X3_placeOf_u77X4 : GoodIn wsX3_newKeysOf (va_wsU RX3 77 RX4 "KeyAtlas$Keyed" ⟨"KeyAtlas$Keyed", "placeOf", "(I)I"⟩ yX3_placeOf wsX3_placeOf) := goodIn_app (goodIn_of _ (by decide +kernel)) ggX3_newKeysOf_X3_placeOf
set_option maxRecDepth 20000 in
theorem ggX3_newKeysOf_X6_size : GoodIn wsX3_newKeysOf wsX6_size := goodIn_r _ [21, 22, 23, 24, 20, 25, 26, 27, 28, 29, 30, 11, 12, 13, 14, 15, 31, 32, 33, 34, 35, 36, 37, 38, 39, 40, 41, 42, 43, 44, 45, 46, 47, 48, 49, 50, 51, 52, 53, 54, 55, 56, 57, 58, 59, 60, 61, 130, 131, 132, 133, 134, 135, 136, 118, 119, 120, 121, 122, 123, 124, 125, 126, 127, 128, 129, 137, 138, 139, 140] rfl (by decide +kernel)
set_option maxRecDepth 20000 in
theorem gX3_newKeysOf_X6_size_u72X6 : GoodIn wsX3_newKeysOf (va_wsO RX3 72 RX6 "KeyAtlas$Keyed" ⟨"KeyAtlas$Keyed", "size", "()I"⟩ yX6_size wsX6_size) := goodIn_app (goodIn_of _ (by decide +kernel)) ggX3_newKeysOf_X6_size
set_option maxRecDepth 20000 in
theorem ggX3_newKeysOf_X6_placeOf : GoodIn wsX3_newKeysOf wsX6_placeOf := goodIn_r _ [71, 72, 22, 23, 24, 20, 25, 26, 27, 28, 29, 30, 11, 12, 13, 14, 15, 31, 32, 33, 34, 35, 36, 37, 38, 39, 40, 41, 42, 43, 44, 45, 46, 47, 48, 49, 50, 51, 52, 53, 54, 55, 56, 57, 58, 59, 60, 61, 130, 131, 132, 133, 134, 135, 136, 118, 119, 120, 121, 122, 123, 124, 125, 126, 127, 128, 129, 137, 138, 139, 140] rfl (by decide +kernel)
set_option maxRecDepth 20000 in
theorem gX3_newKeysOf_X6_placeOf_u77X6 : GoodIn wsX3_newKeysOf (va_wsO RX3 77 RX6 "KeyAtlas$Keyed" ⟨"KeyAtlas$Keyed", "placeOf", "(I)I"⟩ yX6_placeOf wsX6_placeOf) := goodIn_app (goodIn_of _ (by decide +kernel)) ggX3_newKeysOf_X6_placeOf
theorem at_X3_newKeysOf_52 : ∀ w ∈ (vx_atS RX3 32 "java/lang/IllegalArgumentException" ["java/lang/RuntimeException", "java/lang/Exception"]).filter goodWord, w ∈ wsX3_newKeysOf := fun w h => by
  unfold wsX3_newKeysOf
  exact List.mem_cons_of_mem _ (List.mem_append_right _ h)
set_option maxHeartbeats 4000000 in
set_option maxRecDepth 100000 in
/-- Keyed.newKeysOf of H and H -/
theorem c_X3_newKeysOf_HH (l : Launch) (hlt : l.stackTraces = false) (dC : Nat → ClassId) (dI : Nat → Nat → Nat) (sz : Nat) (y0 : Nat) (kd : Int32) (wh : Int32) (cap : Nat) (ru : Int32) (tb : Nat) (b0 : Nat) (cb : ClassId) (bf : Nat → Int32) (x0 : Nat) (k0 : Nat) (w0 : Nat) (ck : ClassId) (cw : ClassId) (L : Nat) (f : Nat → Int32) (g : Nat → Int32) (nz : Nat) (ch : Int32) (y1 : Nat) (kd8 : Int32) (wh8 : Int32) (cap8 : Nat) (ru8 : Int32) (tb8 : Nat) (b8 : Nat) (cb8 : ClassId) (bf8 : Nat → Int32) (x1 : Nat) (k8 : Nat) (w8 : Nat) (ck8 : ClassId) (cw8 : ClassId) (L8 : Nat) (f8 : Nat → Int32) (g8 : Nat → Int32) (nz8 : Nat) (ch8 : Int32) (hH9 : hOK tb L nz cap) (hH8 : hOK tb8 L8 nz8 cap8) : vx_Met l yX3_newKeysOf wsX3_newKeysOf ({ frames := 6, cells := 1, slots := 6, locals := 250 }) (va_Pc [.ref y0, .ref y1] (pk_PreXR (dC, dI) [(y0, .inr (3, [.ref x0, .int kd, .int wh, .int (nI cap), .int ru, .int (nI tb), .ref b0])), (x0, .inr (5, [.ref k0, .ref w0, .int (nI nz), .int ch])), (k0, .inl (ck, L, .inl f)), (w0, .inl (cw, L, .inl g)), (b0, .inl (cb, tb, .inl bf)), (y1, .inr (3, [.ref x1, .int kd8, .int wh8, .int (nI cap8), .int ru8, .int (nI tb8), .ref b8])), (x1, .inr (5, [.ref k8, .ref w8, .int (nI nz8), .int ch8])), (k8, .inl (ck8, L8, .inl f8)), (w8, .inl (cw8, L8, .inl g8)), (b8, .inl (cb8, tb8, .inl bf8))] [(ck, .int), (cw, .int), (cb, .boolean), (ck8, .int), (cw8, .int), (cb8, .boolean)] sz)) (va_Qi (fun (x : Int32) (_ : Unit) => True) (fun _ (t : State) => t.heap.size = sz) (roN sz)) (vx_X (fun _ : Unit => True) (fun (E : String) (_ : Unit) (t : State) => E = "java/lang/IllegalArgumentException") (roN sz)) 1 6 (roN sz) := by
  refine vx_ofW (cc := cX3_newKeysOf) (maxL := 6) (ret := (some .int)) (by decide) rfl ?_
  intro p e s m args below meth c s₁ B hml htab hv
  obtain ⟨rfl, hsz, hP, hK, hN, hZ⟩ := hv
  have hx := B.exec
  have hb := B.bytes
  have hr := B.returns
  have hts := atoms_spec (ws := wsX3_newKeysOf) B.pre
  have hown : s.vm.findClass RX3 = some m.cls := findClass_of_methodNamed B.named
  have hlocks := B.notSynchronized
  subst hsz
  generalize hAe : roN s.heap.size = A at hZ ⊢
  have hA : ∀ q : Nat, s.heap.size ≤ q → A q := fun q h => by rw [← hAe]; exact h
  have hS : va_S A s.heap s.heap [] := va_S.rf
  have hP : va_P (dC, dI) vwCl [(y0, .inr (3, [.ref x0, .int kd, .int wh, .int (nI cap), .int ru, .int (nI tb), .ref b0])), (x0, .inr (5, [.ref k0, .ref w0, .int (nI nz), .int ch])), (k0, .inl (ck, L, .inl f)), (w0, .inl (cw, L, .inl g)), (b0, .inl (cb, tb, .inl bf)), (y1, .inr (3, [.ref x1, .int kd8, .int wh8, .int (nI cap8), .int ru8, .int (nI tb8), .ref b8])), (x1, .inr (5, [.ref k8, .ref w8, .int (nI nz8), .int ch8])), (k8, .inl (ck8, L8, .inl f8)), (w8, .inl (cw8, L8, .inl g8)), (b8, .inl (cb8, tb8, .inl bf8))] s.heap := hP
  have hl := lv_entry ([.ref y0, .ref y1]) (n := 6) (Nat.le_of_ble_eq_true rfl)
  rw [lg_entry_eq]
  generalize (lg_sl ([.ref y0, .ref y1]) ++ List.replicate (6 - (lg_sl ([.ref y0, .ref y1])).length) Slot.unset).toArray = ls at hl ⊢
  have hl : lv_has ls 6 [(0, .ref y0), (1, .ref y1)] := hl
  have hw0_ := hts (.fieldLink RX3 9 "KeyAtlas$Keyed" "rows" "LKeyAtlas$Rows;") (List.mem_of_getElem? (l := wsX3_newKeysOf) (i := 3) rfl)
  have hw1_ := hts (.classLink RX3 28 "java/lang/IllegalArgumentException") (List.mem_of_getElem? (l := wsX3_newKeysOf) (i := 1) rfl)
  have hw2_ := hts (.initialized "java/lang/IllegalArgumentException") (List.mem_of_getElem? (l := wsX3_newKeysOf) (i := 2) rfl)
  have hi0_ : ∀ w ∈ u_ws RX2 TX2 7, w ∈ wsX3_newKeysOf := fun w h => List.mem_cons_of_mem _ (List.mem_append_left _ (List.mem_append_left _ (List.mem_append_left _ (List.mem_append_left _ (List.mem_append_right _ h)))))
  have hR9 : rOK L nz := hH9.1
  have htb := hOK_tb hH9
  obtain ⟨hL1, hL2, hz1, hz2⟩ := id hR9
  have hR8 : rOK L8 nz8 := hH8.1
  have htb8 := hOK_tb hH8
  obtain ⟨hL18, hL28, hz18, hz28⟩ := id hR8
  refine lv_iconst (v := 0) hx hb dX3_newKeysOf_0 (by decide) ?_
  refine lv_istore_n (lv' := [(2, .int 0), (0, .ref y0), (1, .ref y1)]) hx hb dX3_newKeysOf_1 rfl hl (by decide) rfl (fun ls hl => ?_)
  refine lv_aload_n hx hb dX3_newKeysOf_2 rfl (lv_at hl 2 rfl) ?_
  have hPc := hP.sub (ws' := [(y1, .inr (3, [.ref x1, .int kd8, .int wh8, .int (nI cap8), .int ru8, .int (nI tb8), .ref b8])), (x1, .inr (5, [.ref k8, .ref w8, .int (nI nz8), .int ch8])), (k8, .inl (ck8, L8, .inl f8)), (w8, .inl (cw8, L8, .inl g8))]) [5, 6, 7, 8] rfl
  have hKc := hK.sub (tys' := [(ck8, .int), (cw8, .int)]) [3, 4] rfl
  refine ro_calli (va_runU (As := []) (rest := []) ⟨hx, hb, hml, hown, hts⟩ (c_X3_size_H l  dC dI s.heap.size y1 (.int kd8) (.int wh8) (.int (nI cap8)) (.int ru8) (.int (nI tb8)) (.ref b8) x1 k8 w8 ck8 cw8 L8 f8 g8 nz8 ch8 hR8) (va_cwU 0 hts gX3_newKeysOf_X3_size_u72X2 rfl rfl rfl rfl (by decide +kernel) ⟨(Nat.le_of_ble_eq_true rfl), (Nat.le_of_ble_eq_true rfl)⟩) ⟨pk_blindR, va_recv hKc hPc (ci := 3) (q0 := 0) rfl rfl, pk_callR hPc hKc⟩ rfl rfl hl.1 rfl (lv_room (Nat.le_of_ble_eq_true rfl)) dX3_newKeysOf_3 ⟨(Nat.le_of_ble_eq_true rfl), (Nat.le_of_ble_eq_true rfl)⟩) (fun r_1 ur_1 hw => ?_)
  clear hPc hKc
  try dsimp only at hw
  have jr_1 := hw
  refine W.eq (g2 := F0 m 6 ls [.int r_1]) rfl ?_
  have hr_1 : -1000 ≤ r_1.toInt ∧ r_1.toInt ≤ nz8 := by rw [jr_1, nI_toInt (by omega)]; omega
  have hsz9 : r_1.toInt ≤ 1000 := by have h9 := hr_1; omega
  refine lv_istore_n (lv' := [(3, .int r_1), (2, .int 0), (0, .ref y0), (1, .ref y1)]) hx hb dX3_newKeysOf_6 rfl hl (by decide) rfl (fun ls hl => ?_)
  refine lv_iconst (v := 0) hx hb dX3_newKeysOf_7 (by decide) ?_
  refine lv_istore (lv' := [(4, .int 0), (3, .int r_1), (2, .int 0), (0, .ref y0), (1, .ref y1)]) hx hb dX3_newKeysOf_8 hl (by decide) rfl (fun ls hl => ?_)
  obtain ⟨i, es_i⟩ : ∃ z : Nat, z = 0 := ⟨_, rfl⟩
  obtain ⟨x9, ex9⟩ : ∃ y : Int32, y = nI i := ⟨_, rfl⟩
  obtain ⟨g9, es_g9⟩ : ∃ z : Int32, z = 0 := ⟨_, rfl⟩
  obtain ⟨n9, en9⟩ : ∃ n : Nat, n = 1001 := ⟨_, rfl⟩
  replace hl : lv_has ls 6 [(4, .int x9), (3, .int r_1), (2, .int g9), (0, .ref y0), (1, .ref y1)] := by subst ex9; subst es_i; subst es_g9; exact hl
  have hi9 : i ≤ 1000 := by subst ex9; subst es_i; subst es_g9; subst en9; exact by omega
  have hn9 : 1001 ≤ i + n9 := by subst ex9; subst es_i; subst es_g9; subst en9; exact by omega
  clear en9 es_i es_g9
  induction n9 generalizing i x9 g9 ls with
  | zero => exact absurd hn9 (by omega)
  | succ n9 ih =>
    subst ex9
    refine lv_iload hx hb dX3_newKeysOf_10 (lv_at hl 0 rfl) ?_
    refine lv_iload_n hx hb dX3_newKeysOf_12 rfl (lv_at hl 1 rfl) ?_
    refine lv_icmp_ge (tgt := 68) hx hb dX3_newKeysOf_13 (by decide) (fun c_2 => ?_) (fun c_2 => ?_)
    ·
      have ic_2 : r_1.toInt ≤ ((i : Nat) : Int) := tx_le rfl (nI_toInt (by omega)) c_2
      refine lv_iload_n hx hb dX3_newKeysOf_68 rfl (lv_at hl 2 rfl) ?_
      refine W.widen (k := 1) (n := 6) (Nat.le_of_ble_eq_true rfl) (Nat.le_of_ble_eq_true rfl) ?_
      refine vx_ret ?_
      exact W.iret (v := g9) hx hb hr (fun t ht hW => ⟨⟨g9, (), rfl, trivial, congrArg Array.size ht⟩, hS.F ht⟩) hS.2.2 dX3_newKeysOf_69
    ·
      have ic_2 : ((i : Nat) : Int) < r_1.toInt := tx_nle rfl (nI_toInt (by omega)) c_2
      refine lv_aload_n hx hb dX3_newKeysOf_16 rfl (lv_at hl 4 rfl) ?_
      refine va_get (D := (dC, dI)) (ci := 3) (v := .ref x1) (C := RX2) (T := TX2) (N := 7) hx hb hts hi0_ hown hK hP 5 rfl rfl 0 (by decide) hw0_ (fun _ h9 => h9) rfl dX3_newKeysOf_17 ?_
      refine lv_aload_n hx hb dX3_newKeysOf_20 rfl (lv_at hl 4 rfl) ?_
      refine lv_iload hx hb dX3_newKeysOf_21 (lv_at hl 0 rfl) ?_
      have hPc := hP.sub (ws' := [(y1, .inr (3, [.ref x1, .int kd8, .int wh8, .int (nI cap8), .int ru8, .int (nI tb8), .ref b8]))]) [5] rfl
      have hKc := hK.sub (tys' := []) [] rfl
      refine ro_calli (va_runU (As := [.int (nI i)]) (rest := [.ref x1]) ⟨hx, hb, hml, hown, hts⟩ (c_X3_placeOf_H l  dC dI s.heap.size y1 (.ref x1) (.int kd8) (.int wh8) (.int (nI cap8)) (.int ru8) (.int (nI tb8)) (.ref b8) (nI i)) (va_cwU 1 hts gX3_newKeysOf_X3_placeOf_u77X2 rfl rfl rfl rfl (by decide +kernel) ⟨(Nat.le_of_ble_eq_true rfl), (Nat.le_of_ble_eq_true rfl)⟩) ⟨pk_blindR, va_recv hKc hPc (ci := 3) (q0 := 0) rfl rfl, pk_callR hPc hKc⟩ rfl rfl hl.1 rfl (lv_room (Nat.le_of_ble_eq_true rfl)) dX3_newKeysOf_23 ⟨(Nat.le_of_ble_eq_true rfl), (Nat.le_of_ble_eq_true rfl)⟩) (fun r_3 ur_3 hw => ?_)
      clear hPc hKc
      try dsimp only at hw
      have jr_3 := hw
      refine W.eq (g2 := F0 m 26 ls [.int r_3, .ref x1]) rfl ?_
      have hPc := hP.sub (ws' := [(x1, .inr (5, [.ref k8, .ref w8, .int (nI nz8), .int ch8])), (k8, .inl (ck8, L8, .inl f8)), (w8, .inl (cw8, L8, .inl g8))]) [6, 7, 8] rfl
      have hKc := hK.sub (tys' := [(ck8, .int), (cw8, .int)]) [3, 4] rfl
      refine ro_calli (va_runV (As := [.int r_3]) (rest := []) ⟨hx, hb, hml, hown, hts⟩ (c_X5_key l  dC dI s.heap.size x1 k8 w8 ck8 cw8 L8 f8 g8 nz8 ch8 r_3 hR8) (cwV 1 hts gX3_newKeysOf_X5_key rfl rfl rfl (by decide +kernel) ⟨(Nat.le_of_ble_eq_true rfl), (Nat.le_of_ble_eq_true rfl)⟩) ⟨pk_blindR, va_recv hKc hPc (ci := 5) (q0 := 0) rfl rfl, pk_callR hPc hKc⟩ rfl rfl hl.1 rfl (lv_room (Nat.le_of_ble_eq_true rfl)) dX3_newKeysOf_26 ⟨(Nat.le_of_ble_eq_true rfl), (Nat.le_of_ble_eq_true rfl)⟩) (fun r_4 ur_4 hw => ?_)
      clear hPc hKc
      try dsimp only at hw
      have jr_4 := hw
      refine W.eq (g2 := F0 m 29 ls [.int r_4]) rfl ?_
      refine lv_istore (lv' := [(5, .int r_4), (4, .int (nI i)), (3, .int r_1), (2, .int g9), (0, .ref y0), (1, .ref y1)]) hx hb dX3_newKeysOf_29 hl (by decide) rfl (fun ls hl => ?_)
      refine lv_aload_n hx hb dX3_newKeysOf_31 rfl (lv_at hl 4 rfl) ?_
      refine lv_iload hx hb dX3_newKeysOf_32 (lv_at hl 0 rfl) ?_
      have hPc := hP.sub (ws' := [(y0, .inr (3, [.ref x0, .int kd, .int wh, .int (nI cap), .int ru, .int (nI tb), .ref b0])), (x0, .inr (5, [.ref k0, .ref w0, .int (nI nz), .int ch])), (k0, .inl (ck, L, .inl f)), (w0, .inl (cw, L, .inl g)), (b0, .inl (cb, tb, .inl bf))]) [0, 1, 2, 3, 4] rfl
      have hKc := hK.sub (tys' := [(ck, .int), (cw, .int), (cb, .boolean)]) [0, 1, 2] rfl
      refine ro_calli (va_runU (As := [.int r_4]) (rest := []) ⟨hx, hb, hml, hown, hts⟩ (c_X2_find l  dC dI s.heap.size y0 kd wh cap ru tb b0 cb bf x0 k0 w0 ck cw L f g nz ch r_4 hR9 htb) (va_cwA 1 hts gX3_newKeysOf_X2_find_u46X2 rfl rfl rfl (hN.xw _ (List.mem_of_getElem? (l := p_xw) (i := 0) rfl)) (by decide +kernel) ⟨(Nat.le_of_ble_eq_true rfl), (Nat.le_of_ble_eq_true rfl)⟩) ⟨pk_blindR, va_recv hKc hPc (ci := 3) (q0 := 0) rfl rfl, pk_callR hPc hKc⟩ rfl rfl hl.1 rfl (lv_room (Nat.le_of_ble_eq_true rfl)) dX3_newKeysOf_34 ⟨(Nat.le_of_ble_eq_true rfl), (Nat.le_of_ble_eq_true rfl)⟩) (fun r_5 ur_5 hw => ?_)
      clear hPc hKc
      try dsimp only at hw
      have jr_5 := hw
      refine W.eq (g2 := F0 m 37 ls [.int r_5]) rfl ?_
      refine lv_if_ge (tgt := 62) hx hb dX3_newKeysOf_37 (by decide) (fun c_6 => ?_) (fun c_6 => ?_)
      ·
        have ic_6 : 0 ≤ r_5.toInt := tx_le (by decide) rfl c_6
        refine lv_iinc (v := nI (i + 1)) (lv' := [(4, .int (nI (i + 1))), (5, .int r_4), (3, .int r_1), (2, .int g9), (0, .ref y0), (1, .ref y1)]) hx hb dX3_newKeysOf_62 hl (k := 1) rfl (by rw [show Int32.ofInt 1 = nI 1 from rfl, nI_add]) (by decide) rfl (fun ls hl => ?_)
        refine lv_goto (tgt := 10) hx hb dX3_newKeysOf_65 (by decide) ?_
        exact ih (i := i + 1) (x9 := nI (i + 1)) (ex9 := rfl) (g9 := g9) (ls := ls) (hi9 := by omega) (hn9 := by omega) (hl := lv_sub hl [0, 2, 3, 4, 5] rfl)
      ·
        have ic_6 : r_5.toInt < 0 := tx_nle (by decide) rfl c_6
        refine lv_iinc (v := g9 + 1) (lv' := [(2, .int (g9 + 1)), (5, .int r_4), (4, .int (nI i)), (3, .int r_1), (0, .ref y0), (1, .ref y1)]) hx hb dX3_newKeysOf_40 hl (k := 3) rfl rfl (by decide) rfl (fun ls hl => ?_)
        refine lv_aload_n hx hb dX3_newKeysOf_43 rfl (lv_at hl 4 rfl) ?_
        refine lv_iload hx hb dX3_newKeysOf_44 (lv_at hl 1 rfl) ?_
        have hPc := hP.sub (ws' := [(y0, .inr (3, [.ref x0, .int kd, .int wh, .int (nI cap), .int ru, .int (nI tb), .ref b0]))]) [0] rfl
        have hKc := hK.sub (tys' := []) [] rfl
        refine ro_calli (va_runU (As := [.int r_4]) (rest := []) ⟨hx, hb, hml, hown, hts⟩ (c_X3_mayHold_H l  dC dI s.heap.size y0 (.ref x0) (.int kd) (.int wh) (.int (nI cap)) (.int ru) (.int (nI tb)) (.ref b0) r_4) (va_cwU 1 hts gX3_newKeysOf_X3_mayHold_u24X2 rfl rfl rfl rfl (by decide +kernel) ⟨(Nat.le_of_ble_eq_true rfl), (Nat.le_of_ble_eq_true rfl)⟩) ⟨pk_blindR, va_recv hKc hPc (ci := 3) (q0 := 0) rfl rfl, pk_callR hPc hKc⟩ rfl rfl hl.1 rfl (lv_room (Nat.le_of_ble_eq_true rfl)) dX3_newKeysOf_46 ⟨(Nat.le_of_ble_eq_true rfl), (Nat.le_of_ble_eq_true rfl)⟩) (fun r_7 ur_7 hw => ?_)
        clear hPc hKc
        try dsimp only at hw
        have jr_7 := hw
        refine W.eq (g2 := F0 m 49 ls [.int r_7]) rfl ?_
        refine lv_if_ne (tgt := 62) hx hb dX3_newKeysOf_49 (by decide) (fun c_8 => ?_) (fun c_8 => ?_)
        ·
          have ic_8 : ¬ r_7.toInt = 0 := tx_ne rfl (by decide) c_8
          refine lv_iinc (v := nI (i + 1)) (lv' := [(4, .int (nI (i + 1))), (2, .int (g9 + 1)), (5, .int r_4), (3, .int r_1), (0, .ref y0), (1, .ref y1)]) hx hb dX3_newKeysOf_62 hl (k := 2) rfl (by rw [show Int32.ofInt 1 = nI 1 from rfl, nI_add]) (by decide) rfl (fun ls hl => ?_)
          refine lv_goto (tgt := 10) hx hb dX3_newKeysOf_65 (by decide) ?_
          exact ih (i := i + 1) (x9 := nI (i + 1)) (ex9 := rfl) (g9 := g9 + 1) (ls := ls) (hi9 := by omega) (hn9 := by omega) (hl := lv_sub hl [0, 3, 1, 4, 5] rfl)
        ·
          have ic_8 : r_7.toInt = 0 := tx_eq rfl (by decide) c_8
          obtain ⟨sa, hsa⟩ := hN.stX3_30
          exact vx_throwS hx hb hlt (own := RX3) (cls := "java/lang/IllegalArgumentException") (text := "key is not of this part") (names := ["java/lang/RuntimeException", "java/lang/Exception"]) hown (by decide +kernel) (by decide +kernel) hw1_ hw2_ hsa (tx_hat hN.xw (fun w h => hts w (at_X3_newKeysOf_52 w h)) ng_RX3_32) og_RX3_32 hZ.1 hZ.2 hS (by rw [hml]; exact hl.1) dX3_newKeysOf_52 dX3_newKeysOf_55 dX3_newKeysOf_56 dX3_newKeysOf_58 dX3_newKeysOf_61 (fun x hx9 => (htab x hx9).elim) (Nat.le_of_ble_eq_true rfl) (Nat.le_of_ble_eq_true rfl) (Nat.le_of_ble_eq_true rfl) (Nat.le_of_ble_eq_true rfl) hlocks (fun t hvm hz hq => ⟨(), trivial, rfl, ⟨Nat.le_trans hS.1 hz, fun q h1 h2 => (hq q (Nat.lt_of_lt_of_le h1 hS.1)).trans (hS.2.1 q h1 h2)⟩⟩) hS.2.2 (Nat.le_of_ble_eq_true rfl) (Nat.le_of_ble_eq_true rfl)
set_option maxHeartbeats 4000000 in
set_option maxRecDepth 100000 in
/-- Keyed.newKeysOf of H and L -/
theorem c_X3_newKeysOf_HL (l : Launch) (hlt : l.stackTraces = false) (dC : Nat → ClassId) (dI : Nat → Nat → Nat) (sz : Nat) (y0 : Nat) (kd : Int32) (wh : Int32) (cap : Nat) (ru : Int32) (tb : Nat) (b0 : Nat) (cb : ClassId) (bf : Nat → Int32) (x0 : Nat) (k0 : Nat) (w0 : Nat) (ck : ClassId) (cw : ClassId) (L : Nat) (f : Nat → Int32) (g : Nat → Int32) (nz : Nat) (ch : Int32) (y1 : Nat) (kd8 : Int32) (wh8 : Int32) (lim8 : Nat) (bu8 : Int32) (x1 : Nat) (k8 : Nat) (w8 : Nat) (ck8 : ClassId) (cw8 : ClassId) (L8 : Nat) (f8 : Nat → Int32) (g8 : Nat → Int32) (nz8 : Nat) (ch8 : Int32) (hH9 : hOK tb L nz cap) (hR8 : rOK L8 nz8) (hlim8 : lim8 ≤ 1000) : vx_Met l yX3_newKeysOf wsX3_newKeysOf ({ frames := 6, cells := 1, slots := 6, locals := 250 }) (va_Pc [.ref y0, .ref y1] (pk_PreXR (dC, dI) [(y0, .inr (3, [.ref x0, .int kd, .int wh, .int (nI cap), .int ru, .int (nI tb), .ref b0])), (x0, .inr (5, [.ref k0, .ref w0, .int (nI nz), .int ch])), (k0, .inl (ck, L, .inl f)), (w0, .inl (cw, L, .inl g)), (b0, .inl (cb, tb, .inl bf)), (y1, .inr (4, [.ref x1, .int kd8, .int wh8, .int (nI lim8), .int bu8])), (x1, .inr (5, [.ref k8, .ref w8, .int (nI nz8), .int ch8])), (k8, .inl (ck8, L8, .inl f8)), (w8, .inl (cw8, L8, .inl g8))] [(ck, .int), (cw, .int), (cb, .boolean), (ck8, .int), (cw8, .int)] sz)) (va_Qi (fun (x : Int32) (_ : Unit) => True) (fun _ (t : State) => t.heap.size = sz) (roN sz)) (vx_X (fun _ : Unit => True) (fun (E : String) (_ : Unit) (t : State) => E = "java/lang/IllegalArgumentException") (roN sz)) 1 6 (roN sz) := by
  refine vx_ofW (cc := cX3_newKeysOf) (maxL := 6) (ret := (some .int)) (by decide) rfl ?_
  intro p e s m args below meth c s₁ B hml htab hv
  obtain ⟨rfl, hsz, hP, hK, hN, hZ⟩ := hv
  have hx := B.exec
  have hb := B.bytes
  have hr := B.returns
  have hts := atoms_spec (ws := wsX3_newKeysOf) B.pre
  have hown : s.vm.findClass RX3 = some m.cls := findClass_of_methodNamed B.named
  have hlocks := B.notSynchronized
  subst hsz
  generalize hAe : roN s.heap.size = A at hZ ⊢
  have hA : ∀ q : Nat, s.heap.size ≤ q → A q := fun q h => by rw [← hAe]; exact h
  have hS : va_S A s.heap s.heap [] := va_S.rf
  have hP : va_P (dC, dI) vwCl [(y0, .inr (3, [.ref x0, .int kd, .int wh, .int (nI cap), .int ru, .int (nI tb), .ref b0])), (x0, .inr (5, [.ref k0, .ref w0, .int (nI nz), .int ch])), (k0, .inl (ck, L, .inl f)), (w0, .inl (cw, L, .inl g)), (b0, .inl (cb, tb, .inl bf)), (y1, .inr (4, [.ref x1, .int kd8, .int wh8, .int (nI lim8), .int bu8])), (x1, .inr (5, [.ref k8, .ref w8, .int (nI nz8), .int ch8])), (k8, .inl (ck8, L8, .inl f8)), (w8, .inl (cw8, L8, .inl g8))] s.heap := hP
  have hl := lv_entry ([.ref y0, .ref y1]) (n := 6) (Nat.le_of_ble_eq_true rfl)
  rw [lg_entry_eq]
  generalize (lg_sl ([.ref y0, .ref y1]) ++ List.replicate (6 - (lg_sl ([.ref y0, .ref y1])).length) Slot.unset).toArray = ls at hl ⊢
  have hl : lv_has ls 6 [(0, .ref y0), (1, .ref y1)] := hl
  have hw0_ := hts (.fieldLink RX3 9 "KeyAtlas$Keyed" "rows" "LKeyAtlas$Rows;") (List.mem_of_getElem? (l := wsX3_newKeysOf) (i := 3) rfl)
  have hw1_ := hts (.classLink RX3 28 "java/lang/IllegalArgumentException") (List.mem_of_getElem? (l := wsX3_newKeysOf) (i := 1) rfl)
  have hw2_ := hts (.initialized "java/lang/IllegalArgumentException") (List.mem_of_getElem? (l := wsX3_newKeysOf) (i := 2) rfl)
  have hi0_ : ∀ w ∈ u_ws RX4 TX4 5, w ∈ wsX3_newKeysOf := fun w h => List.mem_cons_of_mem _ (List.mem_append_left _ (List.mem_append_left _ (List.mem_append_left _ (List.mem_append_right _ h))))
  have hR9 : rOK L nz := hH9.1
  have htb := hOK_tb hH9
  obtain ⟨hL1, hL2, hz1, hz2⟩ := id hR9
  obtain ⟨hL18, hL28, hz18, hz28⟩ := id hR8
  refine lv_iconst (v := 0) hx hb dX3_newKeysOf_0 (by decide) ?_
  refine lv_istore_n (lv' := [(2, .int 0), (0, .ref y0), (1, .ref y1)]) hx hb dX3_newKeysOf_1 rfl hl (by decide) rfl (fun ls hl => ?_)
  refine lv_aload_n hx hb dX3_newKeysOf_2 rfl (lv_at hl 2 rfl) ?_
  have hPc := hP.sub (ws' := [(y1, .inr (4, [.ref x1, .int kd8, .int wh8, .int (nI lim8), .int bu8])), (x1, .inr (5, [.ref k8, .ref w8, .int (nI nz8), .int ch8])), (k8, .inl (ck8, L8, .inl f8)), (w8, .inl (cw8, L8, .inl g8))]) [5, 6, 7, 8] rfl
  have hKc := hK.sub (tys' := [(ck8, .int), (cw8, .int)]) [3, 4] rfl
  refine ro_calli (va_runU (As := []) (rest := []) ⟨hx, hb, hml, hown, hts⟩ (c_X3_size_L l  dC dI s.heap.size y1 (.int kd8) (.int wh8) (.int (nI lim8)) (.int bu8) x1 k8 w8 ck8 cw8 L8 f8 g8 nz8 ch8 hR8) (va_cwU 0 hts gX3_newKeysOf_X3_size_u72X4 rfl rfl rfl rfl (by decide +kernel) ⟨(Nat.le_of_ble_eq_true rfl), (Nat.le_of_ble_eq_true rfl)⟩) ⟨pk_blindR, va_recv hKc hPc (ci := 4) (q0 := 0) rfl rfl, pk_callR hPc hKc⟩ rfl rfl hl.1 rfl (lv_room (Nat.le_of_ble_eq_true rfl)) dX3_newKeysOf_3 ⟨(Nat.le_of_ble_eq_true rfl), (Nat.le_of_ble_eq_true rfl)⟩) (fun r_1 ur_1 hw => ?_)
  clear hPc hKc
  try dsimp only at hw
  have jr_1 := hw
  refine W.eq (g2 := F0 m 6 ls [.int r_1]) rfl ?_
  have hr_1 : -1000 ≤ r_1.toInt ∧ r_1.toInt ≤ nz8 := by rw [jr_1, nI_toInt (by omega)]; omega
  have hsz9 : r_1.toInt ≤ 1000 := by have h9 := hr_1; omega
  refine lv_istore_n (lv' := [(3, .int r_1), (2, .int 0), (0, .ref y0), (1, .ref y1)]) hx hb dX3_newKeysOf_6 rfl hl (by decide) rfl (fun ls hl => ?_)
  refine lv_iconst (v := 0) hx hb dX3_newKeysOf_7 (by decide) ?_
  refine lv_istore (lv' := [(4, .int 0), (3, .int r_1), (2, .int 0), (0, .ref y0), (1, .ref y1)]) hx hb dX3_newKeysOf_8 hl (by decide) rfl (fun ls hl => ?_)
  obtain ⟨i, es_i⟩ : ∃ z : Nat, z = 0 := ⟨_, rfl⟩
  obtain ⟨x9, ex9⟩ : ∃ y : Int32, y = nI i := ⟨_, rfl⟩
  obtain ⟨g9, es_g9⟩ : ∃ z : Int32, z = 0 := ⟨_, rfl⟩
  obtain ⟨n9, en9⟩ : ∃ n : Nat, n = 1001 := ⟨_, rfl⟩
  replace hl : lv_has ls 6 [(4, .int x9), (3, .int r_1), (2, .int g9), (0, .ref y0), (1, .ref y1)] := by subst ex9; subst es_i; subst es_g9; exact hl
  have hi9 : i ≤ 1000 := by subst ex9; subst es_i; subst es_g9; subst en9; exact by omega
  have hn9 : 1001 ≤ i + n9 := by subst ex9; subst es_i; subst es_g9; subst en9; exact by omega
  clear en9 es_i es_g9
  induction n9 generalizing i x9 g9 ls with
  | zero => exact absurd hn9 (by omega)
  | succ n9 ih =>
    subst ex9
    refine lv_iload hx hb dX3_newKeysOf_10 (lv_at hl 0 rfl) ?_
    refine lv_iload_n hx hb dX3_newKeysOf_12 rfl (lv_at hl 1 rfl) ?_
    refine lv_icmp_ge (tgt := 68) hx hb dX3_newKeysOf_13 (by decide) (fun c_2 => ?_) (fun c_2 => ?_)
    ·
      have ic_2 : r_1.toInt ≤ ((i : Nat) : Int) := tx_le rfl (nI_toInt (by omega)) c_2
      refine lv_iload_n hx hb dX3_newKeysOf_68 rfl (lv_at hl 2 rfl) ?_
      refine W.widen (k := 1) (n := 6) (Nat.le_of_ble_eq_true rfl) (Nat.le_of_ble_eq_true rfl) ?_
      refine vx_ret ?_
      exact W.iret (v := g9) hx hb hr (fun t ht hW => ⟨⟨g9, (), rfl, trivial, congrArg Array.size ht⟩, hS.F ht⟩) hS.2.2 dX3_newKeysOf_69
    ·
      have ic_2 : ((i : Nat) : Int) < r_1.toInt := tx_nle rfl (nI_toInt (by omega)) c_2
      refine lv_aload_n hx hb dX3_newKeysOf_16 rfl (lv_at hl 4 rfl) ?_
      refine va_get (D := (dC, dI)) (ci := 4) (v := .ref x1) (C := RX4) (T := TX4) (N := 5) hx hb hts hi0_ hown hK hP 5 rfl rfl 0 (by decide) hw0_ (fun _ h9 => h9) rfl dX3_newKeysOf_17 ?_
      refine lv_aload_n hx hb dX3_newKeysOf_20 rfl (lv_at hl 4 rfl) ?_
      refine lv_iload hx hb dX3_newKeysOf_21 (lv_at hl 0 rfl) ?_
      have hPc := hP.sub (ws' := [(y1, .inr (4, [.ref x1, .int kd8, .int wh8, .int (nI lim8), .int bu8]))]) [5] rfl
      have hKc := hK.sub (tys' := []) [] rfl
      refine ro_calli (va_runU (As := [.int (nI i)]) (rest := [.ref x1]) ⟨hx, hb, hml, hown, hts⟩ (c_X3_placeOf_L l  dC dI s.heap.size y1 (.ref x1) (.int kd8) (.int wh8) (.int (nI lim8)) (.int bu8) (nI i)) (va_cwU 1 hts gX3_newKeysOf_X3_placeOf_u77X4 rfl rfl rfl rfl (by decide +kernel) ⟨(Nat.le_of_ble_eq_true rfl), (Nat.le_of_ble_eq_true rfl)⟩) ⟨pk_blindR, va_recv hKc hPc (ci := 4) (q0 := 0) rfl rfl, pk_callR hPc hKc⟩ rfl rfl hl.1 rfl (lv_room (Nat.le_of_ble_eq_true rfl)) dX3_newKeysOf_23 ⟨(Nat.le_of_ble_eq_true rfl), (Nat.le_of_ble_eq_true rfl)⟩) (fun r_3 ur_3 hw => ?_)
      clear hPc hKc
      try dsimp only at hw
      have jr_3 := hw
      refine W.eq (g2 := F0 m 26 ls [.int r_3, .ref x1]) rfl ?_
      have hPc := hP.sub (ws' := [(x1, .inr (5, [.ref k8, .ref w8, .int (nI nz8), .int ch8])), (k8, .inl (ck8, L8, .inl f8)), (w8, .inl (cw8, L8, .inl g8))]) [6, 7, 8] rfl
      have hKc := hK.sub (tys' := [(ck8, .int), (cw8, .int)]) [3, 4] rfl
      refine ro_calli (va_runV (As := [.int r_3]) (rest := []) ⟨hx, hb, hml, hown, hts⟩ (c_X5_key l  dC dI s.heap.size x1 k8 w8 ck8 cw8 L8 f8 g8 nz8 ch8 r_3 hR8) (cwV 1 hts gX3_newKeysOf_X5_key rfl rfl rfl (by decide +kernel) ⟨(Nat.le_of_ble_eq_true rfl), (Nat.le_of_ble_eq_true rfl)⟩) ⟨pk_blindR, va_recv hKc hPc (ci := 5) (q0 := 0) rfl rfl, pk_callR hPc hKc⟩ rfl rfl hl.1 rfl (lv_room (Nat.le_of_ble_eq_true rfl)) dX3_newKeysOf_26 ⟨(Nat.le_of_ble_eq_true rfl), (Nat.le_of_ble_eq_true rfl)⟩) (fun r_4 ur_4 hw => ?_)
      clear hPc hKc
      try dsimp only at hw
      have jr_4 := hw
      refine W.eq (g2 := F0 m 29 ls [.int r_4]) rfl ?_
      refine lv_istore (lv' := [(5, .int r_4), (4, .int (nI i)), (3, .int r_1), (2, .int g9), (0, .ref y0), (1, .ref y1)]) hx hb dX3_newKeysOf_29 hl (by decide) rfl (fun ls hl => ?_)
      refine lv_aload_n hx hb dX3_newKeysOf_31 rfl (lv_at hl 4 rfl) ?_
      refine lv_iload hx hb dX3_newKeysOf_32 (lv_at hl 0 rfl) ?_
      have hPc := hP.sub (ws' := [(y0, .inr (3, [.ref x0, .int kd, .int wh, .int (nI cap), .int ru, .int (nI tb), .ref b0])), (x0, .inr (5, [.ref k0, .ref w0, .int (nI nz), .int ch])), (k0, .inl (ck, L, .inl f)), (w0, .inl (cw, L, .inl g)), (b0, .inl (cb, tb, .inl bf))]) [0, 1, 2, 3, 4] rfl
      have hKc := hK.sub (tys' := [(ck, .int), (cw, .int), (cb, .boolean)]) [0, 1, 2] rfl
      refine ro_calli (va_runU (As := [.int r_4]) (rest := []) ⟨hx, hb, hml, hown, hts⟩ (c_X2_find l  dC dI s.heap.size y0 kd wh cap ru tb b0 cb bf x0 k0 w0 ck cw L f g nz ch r_4 hR9 htb) (va_cwA 1 hts gX3_newKeysOf_X2_find_u46X2 rfl rfl rfl (hN.xw _ (List.mem_of_getElem? (l := p_xw) (i := 0) rfl)) (by decide +kernel) ⟨(Nat.le_of_ble_eq_true rfl), (Nat.le_of_ble_eq_true rfl)⟩) ⟨pk_blindR, va_recv hKc hPc (ci := 3) (q0 := 0) rfl rfl, pk_callR hPc hKc⟩ rfl rfl hl.1 rfl (lv_room (Nat.le_of_ble_eq_true rfl)) dX3_newKeysOf_34 ⟨(Nat.le_of_ble_eq_true rfl), (Nat.le_of_ble_eq_true rfl)⟩) (fun r_5 ur_5 hw => ?_)
      clear hPc hKc
      try dsimp only at hw
      have jr_5 := hw
      refine W.eq (g2 := F0 m 37 ls [.int r_5]) rfl ?_
      refine lv_if_ge (tgt := 62) hx hb dX3_newKeysOf_37 (by decide) (fun c_6 => ?_) (fun c_6 => ?_)
      ·
        have ic_6 : 0 ≤ r_5.toInt := tx_le (by decide) rfl c_6
        refine lv_iinc (v := nI (i + 1)) (lv' := [(4, .int (nI (i + 1))), (5, .int r_4), (3, .int r_1), (2, .int g9), (0, .ref y0), (1, .ref y1)]) hx hb dX3_newKeysOf_62 hl (k := 1) rfl (by rw [show Int32.ofInt 1 = nI 1 from rfl, nI_add]) (by decide) rfl (fun ls hl => ?_)
        refine lv_goto (tgt := 10) hx hb dX3_newKeysOf_65 (by decide) ?_
        exact ih (i := i + 1) (x9 := nI (i + 1)) (ex9 := rfl) (g9 := g9) (ls := ls) (hi9 := by omega) (hn9 := by omega) (hl := lv_sub hl [0, 2, 3, 4, 5] rfl)
      ·
        have ic_6 : r_5.toInt < 0 := tx_nle (by decide) rfl c_6
        refine lv_iinc (v := g9 + 1) (lv' := [(2, .int (g9 + 1)), (5, .int r_4), (4, .int (nI i)), (3, .int r_1), (0, .ref y0), (1, .ref y1)]) hx hb dX3_newKeysOf_40 hl (k := 3) rfl rfl (by decide) rfl (fun ls hl => ?_)
        refine lv_aload_n hx hb dX3_newKeysOf_43 rfl (lv_at hl 4 rfl) ?_
        refine lv_iload hx hb dX3_newKeysOf_44 (lv_at hl 1 rfl) ?_
        have hPc := hP.sub (ws' := [(y0, .inr (3, [.ref x0, .int kd, .int wh, .int (nI cap), .int ru, .int (nI tb), .ref b0]))]) [0] rfl
        have hKc := hK.sub (tys' := []) [] rfl
        refine ro_calli (va_runU (As := [.int r_4]) (rest := []) ⟨hx, hb, hml, hown, hts⟩ (c_X3_mayHold_H l  dC dI s.heap.size y0 (.ref x0) (.int kd) (.int wh) (.int (nI cap)) (.int ru) (.int (nI tb)) (.ref b0) r_4) (va_cwU 1 hts gX3_newKeysOf_X3_mayHold_u24X2 rfl rfl rfl rfl (by decide +kernel) ⟨(Nat.le_of_ble_eq_true rfl), (Nat.le_of_ble_eq_true rfl)⟩) ⟨pk_blindR, va_recv hKc hPc (ci := 3) (q0 := 0) rfl rfl, pk_callR hPc hKc⟩ rfl rfl hl.1 rfl (lv_room (Nat.le_of_ble_eq_true rfl)) dX3_newKeysOf_46 ⟨(Nat.le_of_ble_eq_true rfl), (Nat.le_of_ble_eq_true rfl)⟩) (fun r_7 ur_7 hw => ?_)
        clear hPc hKc
        try dsimp only at hw
        have jr_7 := hw
        refine W.eq (g2 := F0 m 49 ls [.int r_7]) rfl ?_
        refine lv_if_ne (tgt := 62) hx hb dX3_newKeysOf_49 (by decide) (fun c_8 => ?_) (fun c_8 => ?_)
        ·
          have ic_8 : ¬ r_7.toInt = 0 := tx_ne rfl (by decide) c_8
          refine lv_iinc (v := nI (i + 1)) (lv' := [(4, .int (nI (i + 1))), (2, .int (g9 + 1)), (5, .int r_4), (3, .int r_1), (0, .ref y0), (1, .ref y1)]) hx hb dX3_newKeysOf_62 hl (k := 2) rfl (by rw [show Int32.ofInt 1 = nI 1 from rfl, nI_add]) (by decide) rfl (fun ls hl => ?_)
          refine lv_goto (tgt := 10) hx hb dX3_newKeysOf_65 (by decide) ?_
          exact ih (i := i + 1) (x9 := nI (i + 1)) (ex9 := rfl) (g9 := g9 + 1) (ls := ls) (hi9 := by omega) (hn9 := by omega) (hl := lv_sub hl [0, 3, 1, 4, 5] rfl)
        ·
          have ic_8 : r_7.toInt = 0 := tx_eq rfl (by decide) c_8
          obtain ⟨sa, hsa⟩ := hN.stX3_30
          exact vx_throwS hx hb hlt (own := RX3) (cls := "java/lang/IllegalArgumentException") (text := "key is not of this part") (names := ["java/lang/RuntimeException", "java/lang/Exception"]) hown (by decide +kernel) (by decide +kernel) hw1_ hw2_ hsa (tx_hat hN.xw (fun w h => hts w (at_X3_newKeysOf_52 w h)) ng_RX3_32) og_RX3_32 hZ.1 hZ.2 hS (by rw [hml]; exact hl.1) dX3_newKeysOf_52 dX3_newKeysOf_55 dX3_newKeysOf_56 dX3_newKeysOf_58 dX3_newKeysOf_61 (fun x hx9 => (htab x hx9).elim) (Nat.le_of_ble_eq_true rfl) (Nat.le_of_ble_eq_true rfl) (Nat.le_of_ble_eq_true rfl) (Nat.le_of_ble_eq_true rfl) hlocks (fun t hvm hz hq => ⟨(), trivial, rfl, ⟨Nat.le_trans hS.1 hz, fun q h1 h2 => (hq q (Nat.lt_of_lt_of_le h1 hS.1)).trans (hS.2.1 q h1 h2)⟩⟩) hS.2.2 (Nat.le_of_ble_eq_true rfl) (Nat.le_of_ble_eq_true rfl)
set_option maxHeartbeats 4000000 in
set_option maxRecDepth 100000 in
/-- Keyed.newKeysOf of H and S -/
theorem c_X3_newKeysOf_HS (l : Launch) (hlt : l.stackTraces = false) (dC : Nat → ClassId) (dI : Nat → Nat → Nat) (sz : Nat) (y0 : Nat) (kd : Int32) (wh : Int32) (cap : Nat) (ru : Int32) (tb : Nat) (b0 : Nat) (cb : ClassId) (bf : Nat → Int32) (x0 : Nat) (k0 : Nat) (w0 : Nat) (ck : ClassId) (cw : ClassId) (L : Nat) (f : Nat → Int32) (g : Nat → Int32) (nz : Nat) (ch : Int32) (y1 : Nat) (kd8 : Int32) (wh8 : Int32) (od8 : Int32) (tu8 : Int32) (lo8 : Int64) (hi8 : Int64) (x1 : Nat) (k8 : Nat) (w8 : Nat) (ck8 : ClassId) (cw8 : ClassId) (L8 : Nat) (f8 : Nat → Int32) (g8 : Nat → Int32) (nz8 : Nat) (ch8 : Int32) (hH9 : hOK tb L nz cap) (hR8 : rOK L8 nz8) (ho18 : 0 ≤ od8.toInt) (ho28 : od8.toInt ≤ 3) : vx_Met l yX3_newKeysOf wsX3_newKeysOf ({ frames := 6, cells := 1, slots := 6, locals := 250 }) (va_Pc [.ref y0, .ref y1] (pk_PreXR (dC, dI) [(y0, .inr (3, [.ref x0, .int kd, .int wh, .int (nI cap), .int ru, .int (nI tb), .ref b0])), (x0, .inr (5, [.ref k0, .ref w0, .int (nI nz), .int ch])), (k0, .inl (ck, L, .inl f)), (w0, .inl (cw, L, .inl g)), (b0, .inl (cb, tb, .inl bf)), (y1, .inr (6, [.ref x1, .int kd8, .int wh8, .int od8, .int tu8, .long lo8, .long hi8])), (x1, .inr (5, [.ref k8, .ref w8, .int (nI nz8), .int ch8])), (k8, .inl (ck8, L8, .inl f8)), (w8, .inl (cw8, L8, .inl g8))] [(ck, .int), (cw, .int), (cb, .boolean), (ck8, .int), (cw8, .int)] sz)) (va_Qi (fun (x : Int32) (_ : Unit) => True) (fun _ (t : State) => t.heap.size = sz) (roN sz)) (vx_X (fun _ : Unit => True) (fun (E : String) (_ : Unit) (t : State) => E = "java/lang/IllegalArgumentException") (roN sz)) 1 6 (roN sz) := by
  refine vx_ofW (cc := cX3_newKeysOf) (maxL := 6) (ret := (some .int)) (by decide) rfl ?_
  intro p e s m args below meth c s₁ B hml htab hv
  obtain ⟨rfl, hsz, hP, hK, hN, hZ⟩ := hv
  have hx := B.exec
  have hb := B.bytes
  have hr := B.returns
  have hts := atoms_spec (ws := wsX3_newKeysOf) B.pre
  have hown : s.vm.findClass RX3 = some m.cls := findClass_of_methodNamed B.named
  have hlocks := B.notSynchronized
  subst hsz
  generalize hAe : roN s.heap.size = A at hZ ⊢
  have hA : ∀ q : Nat, s.heap.size ≤ q → A q := fun q h => by rw [← hAe]; exact h
  have hS : va_S A s.heap s.heap [] := va_S.rf
  have hP : va_P (dC, dI) vwCl [(y0, .inr (3, [.ref x0, .int kd, .int wh, .int (nI cap), .int ru, .int (nI tb), .ref b0])), (x0, .inr (5, [.ref k0, .ref w0, .int (nI nz), .int ch])), (k0, .inl (ck, L, .inl f)), (w0, .inl (cw, L, .inl g)), (b0, .inl (cb, tb, .inl bf)), (y1, .inr (6, [.ref x1, .int kd8, .int wh8, .int od8, .int tu8, .long lo8, .long hi8])), (x1, .inr (5, [.ref k8, .ref w8, .int (nI nz8), .int ch8])), (k8, .inl (ck8, L8, .inl f8)), (w8, .inl (cw8, L8, .inl g8))] s.heap := hP
  have hl := lv_entry ([.ref y0, .ref y1]) (n := 6) (Nat.le_of_ble_eq_true rfl)
  rw [lg_entry_eq]
  generalize (lg_sl ([.ref y0, .ref y1]) ++ List.replicate (6 - (lg_sl ([.ref y0, .ref y1])).length) Slot.unset).toArray = ls at hl ⊢
  have hl : lv_has ls 6 [(0, .ref y0), (1, .ref y1)] := hl
  have hw0_ := hts (.fieldLink RX3 9 "KeyAtlas$Keyed" "rows" "LKeyAtlas$Rows;") (List.mem_of_getElem? (l := wsX3_newKeysOf) (i := 3) rfl)
  have hw1_ := hts (.classLink RX3 28 "java/lang/IllegalArgumentException") (List.mem_of_getElem? (l := wsX3_newKeysOf) (i := 1) rfl)
  have hw2_ := hts (.initialized "java/lang/IllegalArgumentException") (List.mem_of_getElem? (l := wsX3_newKeysOf) (i := 2) rfl)
  have hi0_ : ∀ w ∈ u_ws RX6 TX6 7, w ∈ wsX3_newKeysOf := fun w h => List.mem_cons_of_mem _ (List.mem_append_left _ (List.mem_append_left _ (List.mem_append_right _ h)))
  have hR9 : rOK L nz := hH9.1
  have htb := hOK_tb hH9
  obtain ⟨hL1, hL2, hz1, hz2⟩ := id hR9
  obtain ⟨hL18, hL28, hz18, hz28⟩ := id hR8
  refine lv_iconst (v := 0) hx hb dX3_newKeysOf_0 (by decide) ?_
  refine lv_istore_n (lv' := [(2, .int 0), (0, .ref y0), (1, .ref y1)]) hx hb dX3_newKeysOf_1 rfl hl (by decide) rfl (fun ls hl => ?_)
  refine lv_aload_n hx hb dX3_newKeysOf_2 rfl (lv_at hl 2 rfl) ?_
  have hPc := hP.sub (ws' := [(y1, .inr (6, [.ref x1, .int kd8, .int wh8, .int od8, .int tu8, .long lo8, .long hi8])), (x1, .inr (5, [.ref k8, .ref w8, .int (nI nz8), .int ch8])), (k8, .inl (ck8, L8, .inl f8)), (w8, .inl (cw8, L8, .inl g8))]) [5, 6, 7, 8] rfl
  have hKc := hK.sub (tys' := [(ck8, .int), (cw8, .int)]) [3, 4] rfl
  refine ro_calli (va_runU (As := []) (rest := []) ⟨hx, hb, hml, hown, hts⟩ (c_X6_size l  dC dI s.heap.size y1 kd8 wh8 od8 tu8 lo8 hi8 x1 k8 w8 ck8 cw8 L8 f8 g8 nz8 ch8 hR8 ho18 ho28) (va_cwO 0 hts gX3_newKeysOf_X6_size_u72X6 rfl rfl rfl (List.mem_of_getElem? (l := wsX3_newKeysOf) (i := 9) rfl) (by decide +kernel) ⟨(Nat.le_of_ble_eq_true rfl), (Nat.le_of_ble_eq_true rfl)⟩) ⟨pk_blindR, va_recv hKc hPc (ci := 6) (q0 := 0) rfl rfl, pk_callR hPc hKc⟩ rfl rfl hl.1 rfl (lv_room (Nat.le_of_ble_eq_true rfl)) dX3_newKeysOf_3 ⟨(Nat.le_of_ble_eq_true rfl), (Nat.le_of_ble_eq_true rfl)⟩) (fun r_1 ur_1 hw => ?_)
  clear hPc hKc
  try dsimp only at hw
  have jr_1 := hw
  refine W.eq (g2 := F0 m 6 ls [.int r_1]) rfl ?_
  have hsz9 : r_1.toInt ≤ 1000 := by have h9 := jr_1; omega
  refine lv_istore_n (lv' := [(3, .int r_1), (2, .int 0), (0, .ref y0), (1, .ref y1)]) hx hb dX3_newKeysOf_6 rfl hl (by decide) rfl (fun ls hl => ?_)
  refine lv_iconst (v := 0) hx hb dX3_newKeysOf_7 (by decide) ?_
  refine lv_istore (lv' := [(4, .int 0), (3, .int r_1), (2, .int 0), (0, .ref y0), (1, .ref y1)]) hx hb dX3_newKeysOf_8 hl (by decide) rfl (fun ls hl => ?_)
  obtain ⟨i, es_i⟩ : ∃ z : Nat, z = 0 := ⟨_, rfl⟩
  obtain ⟨x9, ex9⟩ : ∃ y : Int32, y = nI i := ⟨_, rfl⟩
  obtain ⟨g9, es_g9⟩ : ∃ z : Int32, z = 0 := ⟨_, rfl⟩
  obtain ⟨n9, en9⟩ : ∃ n : Nat, n = 1001 := ⟨_, rfl⟩
  replace hl : lv_has ls 6 [(4, .int x9), (3, .int r_1), (2, .int g9), (0, .ref y0), (1, .ref y1)] := by subst ex9; subst es_i; subst es_g9; exact hl
  have hi9 : i ≤ 1000 := by subst ex9; subst es_i; subst es_g9; subst en9; exact by omega
  have hn9 : 1001 ≤ i + n9 := by subst ex9; subst es_i; subst es_g9; subst en9; exact by omega
  clear en9 es_i es_g9
  induction n9 generalizing i x9 g9 ls with
  | zero => exact absurd hn9 (by omega)
  | succ n9 ih =>
    subst ex9
    refine lv_iload hx hb dX3_newKeysOf_10 (lv_at hl 0 rfl) ?_
    refine lv_iload_n hx hb dX3_newKeysOf_12 rfl (lv_at hl 1 rfl) ?_
    refine lv_icmp_ge (tgt := 68) hx hb dX3_newKeysOf_13 (by decide) (fun c_2 => ?_) (fun c_2 => ?_)
    ·
      have ic_2 : r_1.toInt ≤ ((i : Nat) : Int) := tx_le rfl (nI_toInt (by omega)) c_2
      refine lv_iload_n hx hb dX3_newKeysOf_68 rfl (lv_at hl 2 rfl) ?_
      refine W.widen (k := 1) (n := 6) (Nat.le_of_ble_eq_true rfl) (Nat.le_of_ble_eq_true rfl) ?_
      refine vx_ret ?_
      exact W.iret (v := g9) hx hb hr (fun t ht hW => ⟨⟨g9, (), rfl, trivial, congrArg Array.size ht⟩, hS.F ht⟩) hS.2.2 dX3_newKeysOf_69
    ·
      have ic_2 : ((i : Nat) : Int) < r_1.toInt := tx_nle rfl (nI_toInt (by omega)) c_2
      refine lv_aload_n hx hb dX3_newKeysOf_16 rfl (lv_at hl 4 rfl) ?_
      refine va_get (D := (dC, dI)) (ci := 6) (v := .ref x1) (C := RX6) (T := TX6) (N := 7) hx hb hts hi0_ hown hK hP 5 rfl rfl 0 (by decide) hw0_ (fun _ h9 => h9) rfl dX3_newKeysOf_17 ?_
      refine lv_aload_n hx hb dX3_newKeysOf_20 rfl (lv_at hl 4 rfl) ?_
      refine lv_iload hx hb dX3_newKeysOf_21 (lv_at hl 0 rfl) ?_
      have hPc := hP.sub (ws' := [(y1, .inr (6, [.ref x1, .int kd8, .int wh8, .int od8, .int tu8, .long lo8, .long hi8])), (x1, .inr (5, [.ref k8, .ref w8, .int (nI nz8), .int ch8])), (k8, .inl (ck8, L8, .inl f8)), (w8, .inl (cw8, L8, .inl g8))]) [5, 6, 7, 8] rfl
      have hKc := hK.sub (tys' := [(ck8, .int), (cw8, .int)]) [3, 4] rfl
      refine ro_calli (va_runU (As := [.int (nI i)]) (rest := [.ref x1]) ⟨hx, hb, hml, hown, hts⟩ (c_X6_placeOf l  dC dI s.heap.size y1 kd8 wh8 od8 tu8 lo8 hi8 x1 k8 w8 ck8 cw8 L8 f8 g8 nz8 ch8 (nI i) hR8 ho18 ho28) (va_cwO 1 hts gX3_newKeysOf_X6_placeOf_u77X6 rfl rfl rfl (List.mem_of_getElem? (l := wsX3_newKeysOf) (i := 66) rfl) (by decide +kernel) ⟨(Nat.le_of_ble_eq_true rfl), (Nat.le_of_ble_eq_true rfl)⟩) ⟨pk_blindR, va_recv hKc hPc (ci := 6) (q0 := 0) rfl rfl, pk_callR hPc hKc⟩ rfl rfl hl.1 rfl (lv_room (Nat.le_of_ble_eq_true rfl)) dX3_newKeysOf_23 ⟨(Nat.le_of_ble_eq_true rfl), (Nat.le_of_ble_eq_true rfl)⟩) (fun r_3 ur_3 hw => ?_)
      clear hPc hKc
      try dsimp only at hw
      have jr_3 := hw
      refine W.eq (g2 := F0 m 26 ls [.int r_3, .ref x1]) rfl ?_
      have hPc := hP.sub (ws' := [(x1, .inr (5, [.ref k8, .ref w8, .int (nI nz8), .int ch8])), (k8, .inl (ck8, L8, .inl f8)), (w8, .inl (cw8, L8, .inl g8))]) [6, 7, 8] rfl
      have hKc := hK.sub (tys' := [(ck8, .int), (cw8, .int)]) [3, 4] rfl
      refine ro_calli (va_runV (As := [.int r_3]) (rest := []) ⟨hx, hb, hml, hown, hts⟩ (c_X5_key l  dC dI s.heap.size x1 k8 w8 ck8 cw8 L8 f8 g8 nz8 ch8 r_3 hR8) (cwV 1 hts gX3_newKeysOf_X5_key rfl rfl rfl (by decide +kernel) ⟨(Nat.le_of_ble_eq_true rfl), (Nat.le_of_ble_eq_true rfl)⟩) ⟨pk_blindR, va_recv hKc hPc (ci := 5) (q0 := 0) rfl rfl, pk_callR hPc hKc⟩ rfl rfl hl.1 rfl (lv_room (Nat.le_of_ble_eq_true rfl)) dX3_newKeysOf_26 ⟨(Nat.le_of_ble_eq_true rfl), (Nat.le_of_ble_eq_true rfl)⟩) (fun r_4 ur_4 hw => ?_)
      clear hPc hKc
      try dsimp only at hw
      have jr_4 := hw
      refine W.eq (g2 := F0 m 29 ls [.int r_4]) rfl ?_
      refine lv_istore (lv' := [(5, .int r_4), (4, .int (nI i)), (3, .int r_1), (2, .int g9), (0, .ref y0), (1, .ref y1)]) hx hb dX3_newKeysOf_29 hl (by decide) rfl (fun ls hl => ?_)
      refine lv_aload_n hx hb dX3_newKeysOf_31 rfl (lv_at hl 4 rfl) ?_
      refine lv_iload hx hb dX3_newKeysOf_32 (lv_at hl 0 rfl) ?_
      have hPc := hP.sub (ws' := [(y0, .inr (3, [.ref x0, .int kd, .int wh, .int (nI cap), .int ru, .int (nI tb), .ref b0])), (x0, .inr (5, [.ref k0, .ref w0, .int (nI nz), .int ch])), (k0, .inl (ck, L, .inl f)), (w0, .inl (cw, L, .inl g)), (b0, .inl (cb, tb, .inl bf))]) [0, 1, 2, 3, 4] rfl
      have hKc := hK.sub (tys' := [(ck, .int), (cw, .int), (cb, .boolean)]) [0, 1, 2] rfl
      refine ro_calli (va_runU (As := [.int r_4]) (rest := []) ⟨hx, hb, hml, hown, hts⟩ (c_X2_find l  dC dI s.heap.size y0 kd wh cap ru tb b0 cb bf x0 k0 w0 ck cw L f g nz ch r_4 hR9 htb) (va_cwA 1 hts gX3_newKeysOf_X2_find_u46X2 rfl rfl rfl (hN.xw _ (List.mem_of_getElem? (l := p_xw) (i := 0) rfl)) (by decide +kernel) ⟨(Nat.le_of_ble_eq_true rfl), (Nat.le_of_ble_eq_true rfl)⟩) ⟨pk_blindR, va_recv hKc hPc (ci := 3) (q0 := 0) rfl rfl, pk_callR hPc hKc⟩ rfl rfl hl.1 rfl (lv_room (Nat.le_of_ble_eq_true rfl)) dX3_newKeysOf_34 ⟨(Nat.le_of_ble_eq_true rfl), (Nat.le_of_ble_eq_true rfl)⟩) (fun r_5 ur_5 hw => ?_)
      clear hPc hKc
      try dsimp only at hw
      have jr_5 := hw
      refine W.eq (g2 := F0 m 37 ls [.int r_5]) rfl ?_
      refine lv_if_ge (tgt := 62) hx hb dX3_newKeysOf_37 (by decide) (fun c_6 => ?_) (fun c_6 => ?_)
      ·
        have ic_6 : 0 ≤ r_5.toInt := tx_le (by decide) rfl c_6
        refine lv_iinc (v := nI (i + 1)) (lv' := [(4, .int (nI (i + 1))), (5, .int r_4), (3, .int r_1), (2, .int g9), (0, .ref y0), (1, .ref y1)]) hx hb dX3_newKeysOf_62 hl (k := 1) rfl (by rw [show Int32.ofInt 1 = nI 1 from rfl, nI_add]) (by decide) rfl (fun ls hl => ?_)
        refine lv_goto (tgt := 10) hx hb dX3_newKeysOf_65 (by decide) ?_
        exact ih (i := i + 1) (x9 := nI (i + 1)) (ex9 := rfl) (g9 := g9) (ls := ls) (hi9 := by omega) (hn9 := by omega) (hl := lv_sub hl [0, 2, 3, 4, 5] rfl)
      ·
        have ic_6 : r_5.toInt < 0 := tx_nle (by decide) rfl c_6
        refine lv_iinc (v := g9 + 1) (lv' := [(2, .int (g9 + 1)), (5, .int r_4), (4, .int (nI i)), (3, .int r_1), (0, .ref y0), (1, .ref y1)]) hx hb dX3_newKeysOf_40 hl (k := 3) rfl rfl (by decide) rfl (fun ls hl => ?_)
        refine lv_aload_n hx hb dX3_newKeysOf_43 rfl (lv_at hl 4 rfl) ?_
        refine lv_iload hx hb dX3_newKeysOf_44 (lv_at hl 1 rfl) ?_
        have hPc := hP.sub (ws' := [(y0, .inr (3, [.ref x0, .int kd, .int wh, .int (nI cap), .int ru, .int (nI tb), .ref b0]))]) [0] rfl
        have hKc := hK.sub (tys' := []) [] rfl
        refine ro_calli (va_runU (As := [.int r_4]) (rest := []) ⟨hx, hb, hml, hown, hts⟩ (c_X3_mayHold_H l  dC dI s.heap.size y0 (.ref x0) (.int kd) (.int wh) (.int (nI cap)) (.int ru) (.int (nI tb)) (.ref b0) r_4) (va_cwU 1 hts gX3_newKeysOf_X3_mayHold_u24X2 rfl rfl rfl rfl (by decide +kernel) ⟨(Nat.le_of_ble_eq_true rfl), (Nat.le_of_ble_eq_true rfl)⟩) ⟨pk_blindR, va_recv hKc hPc (ci := 3) (q0 := 0) rfl rfl, pk_callR hPc hKc⟩ rfl rfl hl.1 rfl (lv_room (Nat.le_of_ble_eq_true rfl)) dX3_newKeysOf_46 ⟨(Nat.le_of_ble_eq_true rfl), (Nat.le_of_ble_eq_true rfl)⟩) (fun r_7 ur_7 hw => ?_)
        clear hPc hKc
        try dsimp only at hw
        have jr_7 := hw
        refine W.eq (g2 := F0 m 49 ls [.int r_7]) rfl ?_
        refine lv_if_ne (tgt := 62) hx hb dX3_newKeysOf_49 (by decide) (fun c_8 => ?_) (fun c_8 => ?_)
        ·
          have ic_8 : ¬ r_7.toInt = 0 := tx_ne rfl (by decide) c_8
          refine lv_iinc (v := nI (i + 1)) (lv' := [(4, .int (nI (i + 1))), (2, .int (g9 + 1)), (5, .int r_4), (3, .int r_1), (0, .ref y0), (1, .ref y1)]) hx hb dX3_newKeysOf_62 hl (k := 2) rfl (by rw [show Int32.ofInt 1 = nI 1 from rfl, nI_add]) (by decide) rfl (fun ls hl => ?_)
          refine lv_goto (tgt := 10) hx hb dX3_newKeysOf_65 (by decide) ?_
          exact ih (i := i + 1) (x9 := nI (i + 1)) (ex9 := rfl) (g9 := g9 + 1) (ls := ls) (hi9 := by omega) (hn9 := by omega) (hl := lv_sub hl [0, 3, 1, 4, 5] rfl)
        ·
          have ic_8 : r_7.toInt = 0 := tx_eq rfl (by decide) c_8
          obtain ⟨sa, hsa⟩ := hN.stX3_30
          exact vx_throwS hx hb hlt (own := RX3) (cls := "java/lang/IllegalArgumentException") (text := "key is not of this part") (names := ["java/lang/RuntimeException", "java/lang/Exception"]) hown (by decide +kernel) (by decide +kernel) hw1_ hw2_ hsa (tx_hat hN.xw (fun w h => hts w (at_X3_newKeysOf_52 w h)) ng_RX3_32) og_RX3_32 hZ.1 hZ.2 hS (by rw [hml]; exact hl.1) dX3_newKeysOf_52 dX3_newKeysOf_55 dX3_newKeysOf_56 dX3_newKeysOf_58 dX3_newKeysOf_61 (fun x hx9 => (htab x hx9).elim) (Nat.le_of_ble_eq_true rfl) (Nat.le_of_ble_eq_true rfl) (Nat.le_of_ble_eq_true rfl) (Nat.le_of_ble_eq_true rfl) hlocks (fun t hvm hz hq => ⟨(), trivial, rfl, ⟨Nat.le_trans hS.1 hz, fun q h1 h2 => (hq q (Nat.lt_of_lt_of_le h1 hS.1)).trans (hS.2.1 q h1 h2)⟩⟩) hS.2.2 (Nat.le_of_ble_eq_true rfl) (Nat.le_of_ble_eq_true rfl)
