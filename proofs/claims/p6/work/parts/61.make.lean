theorem dX7_make_0 : decode cX7_make 0 = .ok (.iload_n 1, 1) := by decide +kernel
theorem dX7_make_1 : decode cX7_make 1 = .ok (.ifCond .lt 8, 3) := by decide +kernel
theorem dX7_make_4 : decode cX7_make 4 = .ok (.iload_n 1, 1) := by decide +kernel
theorem dX7_make_5 : decode cX7_make 5 = .ok (.iconst 2, 1) := by decide +kernel
theorem dX7_make_6 : decode cX7_make 6 = .ok (.if_icmp .le 13, 3) := by decide +kernel
theorem dX7_make_19 : decode cX7_make 19 = .ok (.iload_n 1, 1) := by decide +kernel
theorem dX7_make_20 : decode cX7_make 20 = .ok (.ifCond .ne 17, 3) := by decide +kernel
theorem dX7_make_23 : decode cX7_make 23 = .ok (.iload_n 2, 1) := by decide +kernel
theorem dX7_make_24 : decode cX7_make 24 = .ok (.ifCond .ge 13, 3) := by decide +kernel
theorem dX7_make_37 : decode cX7_make 37 = .ok (.iload_n 1, 1) := by decide +kernel
theorem dX7_make_38 : decode cX7_make 38 = .ok (.iload_n 2, 1) := by decide +kernel
theorem dX7_make_39 : decode cX7_make 39 = .ok (.iload_n 3, 1) := by decide +kernel
set_option maxRecDepth 20000 in
theorem ggX7_make_X7_areInRange : GoodIn wqX7_make wsX7_areInRange := goodIn_r _ [9] rfl (by decide +kernel)
set_option maxRecDepth 20000 in
theorem gX7_make_X7_areInRange : GoodIn wqX7_make (va_wsS RX7 27 yX7_areInRange wsX7_areInRange) := goodIn_app (goodIn_of _ (by decide +kernel)) ggX7_make_X7_areInRange
theorem dX7_make_40 : decode cX7_make 40 = .ok (.invokestatic 27, 3) := by decide +kernel
theorem dX7_make_43 : decode cX7_make 43 = .ok (.ifCond .ne 13, 3) := by decide +kernel
theorem dX7_make_56 : decode cX7_make 56 = .ok (.aload_n 0, 1) := by decide +kernel
theorem dX7_make_57 : decode cX7_make 57 = .ok (.iload_n 1, 1) := by decide +kernel
theorem dX7_make_58 : decode cX7_make 58 = .ok (.iload_n 2, 1) := by decide +kernel
theorem dX7_make_59 : decode cX7_make 59 = .ok (.iload_n 3, 1) := by decide +kernel
set_option maxRecDepth 20000 in
theorem ggX7_make_X7_newMap : GoodIn wqX7_make wsX7_newMap := goodIn_r _ [12, 13, 14, 15, 16, 17, 18, 19, 20, 21, 22, 23, 24, 25, 26, 27, 28, 29, 30, 31, 32, 33, 34, 35, 36, 37, 38, 39, 40, 41, 42, 43, 44, 45, 46, 47, 48, 49, 50, 51, 52, 53, 54, 55, 56, 57, 58, 59, 60, 61, 62, 63, 64, 65, 66, 67, 68, 69, 83, 84, 85, 86, 87, 88, 89, 90, 91, 92, 93, 94, 95, 96, 97, 98, 99, 100, 101, 102, 103, 104, 105, 106, 107, 108, 109, 110, 111] rfl (by decide +kernel)
set_option maxRecDepth 20000 in
theorem gX7_make_X7_newMap : GoodIn wqX7_make (va_wsS RX7 33 yX7_newMap wsX7_newMap) := goodIn_app (goodIn_of _ (by decide +kernel)) ggX7_make_X7_newMap
theorem dX7_make_60 : decode cX7_make 60 = .ok (.invokestatic 33, 3) := by decide +kernel
set_option maxRecDepth 20000 in
theorem ggX7_make_X7_settle : GoodIn wqX7_make wsX7_settle := goodIn_ca (goodIn_r _ [73, 74, 75, 76, 112] rfl (by decide +kernel)) (goodIn_sub (fun _ h => List.mem_cons_of_mem _ (List.mem_append_left _ (List.mem_append_right _ h))) (by decide +kernel))
set_option maxRecDepth 20000 in
theorem gX7_make_X7_settle : GoodIn wqX7_make (wsV RX7 37 RX7 yX7_settle wsX7_settle) := goodIn_app (goodIn_of _ (by decide +kernel)) ggX7_make_X7_settle
theorem dX7_make_63 : decode cX7_make 63 = .ok (.invokevirtual 37, 3) := by decide +kernel
theorem dX7_make_66 : decode cX7_make 66 = .ok (.ireturn, 1) := by decide +kernel
theorem dX7_make_46 : decode cX7_make 46 = .ok (.new 15, 3) := by decide +kernel
theorem dX7_make_49 : decode cX7_make 49 = .ok (.dup, 1) := by decide +kernel
theorem dX7_make_50 : decode cX7_make 50 = .ok (.ldc 31, 2) := by decide +kernel
theorem dX7_make_52 : decode cX7_make 52 = .ok (.invokespecial 19, 3) := by decide +kernel
theorem dX7_make_55 : decode cX7_make 55 = .ok (.athrow, 1) := by decide +kernel
theorem dX7_make_27 : decode cX7_make 27 = .ok (.new 22, 3) := by decide +kernel
theorem dX7_make_30 : decode cX7_make 30 = .ok (.dup, 1) := by decide +kernel
theorem dX7_make_31 : decode cX7_make 31 = .ok (.ldc 24, 2) := by decide +kernel
theorem dX7_make_33 : decode cX7_make 33 = .ok (.invokespecial 26, 3) := by decide +kernel
theorem dX7_make_36 : decode cX7_make 36 = .ok (.athrow, 1) := by decide +kernel
theorem dX7_make_9 : decode cX7_make 9 = .ok (.new 15, 3) := by decide +kernel
theorem dX7_make_12 : decode cX7_make 12 = .ok (.dup, 1) := by decide +kernel
theorem dX7_make_13 : decode cX7_make 13 = .ok (.ldc 17, 2) := by decide +kernel
theorem dX7_make_15 : decode cX7_make 15 = .ok (.invokespecial 19, 3) := by decide +kernel
theorem dX7_make_18 : decode cX7_make 18 = .ok (.athrow, 1) := by decide +kernel
theorem ng_RX7_19 : ∀ w ∈ (vx_atS RX7 19 "java/lang/IllegalArgumentException" ["java/lang/RuntimeException", "java/lang/Exception"]).filter (fun w => !goodWord w), w ∈ p_xw := by decide +kernel
theorem og_RX7_19 : ∀ w ∈ Cond.classLink RX7 15 "java/lang/IllegalArgumentException" :: Cond.initialized "java/lang/IllegalArgumentException" :: vx_atS RX7 19 "java/lang/IllegalArgumentException" ["java/lang/RuntimeException", "java/lang/Exception"], vx_ot w = true := by decide +kernel
theorem at_X7_make_46 : ∀ w ∈ (vx_atS RX7 19 "java/lang/IllegalArgumentException" ["java/lang/RuntimeException", "java/lang/Exception"]).filter goodWord, w ∈ wqX7_make := fun w h => by
  unfold wqX7_make
  exact List.mem_cons_of_mem _ (List.mem_append_left _ (List.mem_append_left _ (List.mem_append_right _ h)))
theorem ng_RX7_26 : ∀ w ∈ (vx_atS RX7 26 "java/lang/NegativeArraySizeException" ["java/lang/RuntimeException", "java/lang/Exception"]).filter (fun w => !goodWord w), w ∈ p_xw := by decide +kernel
theorem og_RX7_26 : ∀ w ∈ Cond.classLink RX7 22 "java/lang/NegativeArraySizeException" :: Cond.initialized "java/lang/NegativeArraySizeException" :: vx_atS RX7 26 "java/lang/NegativeArraySizeException" ["java/lang/RuntimeException", "java/lang/Exception"], vx_ot w = true := by decide +kernel
theorem at_X7_make_27 : ∀ w ∈ (vx_atS RX7 26 "java/lang/NegativeArraySizeException" ["java/lang/RuntimeException", "java/lang/Exception"]).filter goodWord, w ∈ wqX7_make := fun w h => by
  unfold wqX7_make
  exact List.mem_cons_of_mem _ (List.mem_append_right _ h)
theorem at_X7_make_9 : ∀ w ∈ (vx_atS RX7 19 "java/lang/IllegalArgumentException" ["java/lang/RuntimeException", "java/lang/Exception"]).filter goodWord, w ∈ wqX7_make := fun w h => by
  unfold wqX7_make
  exact List.mem_cons_of_mem _ (List.mem_append_left _ (List.mem_append_left _ (List.mem_append_right _ h)))
set_option maxHeartbeats 4000000 in
set_option maxRecDepth 100000 in
/-- make, H -/
theorem c_X7_make_H (l : Launch) (hlt : l.stackTraces = false) (dC : Nat → ClassId) (dI : Nat → Nat → Nat) (sz : Nat) (a0 : Nat) (qb : Nat) (cq : ClassId) (bq : Nat → Option Nat) (p1 : Int32) (p2 : Int32) : vx_Met l yX7_make wqX7_make ({ frames := 7, cells := 6, slots := 49, locals := 140 }) (va_Pc [.ref a0, .int 0, .int p1, .int p2] (pk_PreX (dC, dI) [(a0, .inr (7, [.ref qb])), (qb, .inl (cq, 16, .inr (.inr (.inr (.inr bq)))))] [(cq, .object "KeyAtlas$Body")] sz)) (va_Qi (fun (r : Int32) (u : Nat × Nat × Nat × Nat × Nat × ClassId × ClassId × Nat × ClassId) => r = nI u.1 ∧ u.1 < 16 ∧ bq u.1 = none ∧ (∀ j : Nat, j < u.1 → ¬ bq j = none) ∧ rgH p1 p2) (fun (u : Nat × Nat × Nat × Nat × Nat × ClassId × ClassId × Nat × ClassId) (t : State) => va_P (dC, dI) vwCl [(a0, .inr (7, [.ref qb])), (qb, .inl (cq, 16, .inr (.inr (.inr (.inr (va_up bq u.1 (some u.2.1))))))), (u.2.1, .inr (3, [.ref u.2.2.1, .int 0, .int (-1), .int p1, .int p2, .int (nI 0), .ref u.2.2.2.2.2.2.2.1])), (u.2.2.1, .inr (5, [.ref u.2.2.2.1, .ref u.2.2.2.2.1, .int (nI 0), .int 0])), (u.2.2.2.1, .inl (u.2.2.2.2.2.1, 16, .inl (fun _ => (0 : Int32)))), (u.2.2.2.2.1, .inl (u.2.2.2.2.2.2.1, 16, .inl (fun _ => (0 : Int32)))), (u.2.2.2.2.2.2.2.1, .inl (u.2.2.2.2.2.2.2.2, 0, .inl (fun _ => (0 : Int32))))] t.heap ∧ va_K (dC, dI) vwCl [(cq, .object "KeyAtlas$Body"), (u.2.2.2.2.2.1, .int), (u.2.2.2.2.2.2.1, .int), (u.2.2.2.2.2.2.2.2, .boolean)] t ∧ va_D (va_A [(a0, .inr (7, [.ref qb])), (qb, .inl (cq, 16, .inr (.inr (.inr (.inr bq)))))] sz) [(a0, .inr (7, [.ref qb])), (qb, .inl (cq, 16, .inr (.inr (.inr (.inr (va_up bq u.1 (some u.2.1))))))), (u.2.1, .inr (3, [.ref u.2.2.1, .int 0, .int (-1), .int p1, .int p2, .int (nI 0), .ref u.2.2.2.2.2.2.2.1])), (u.2.2.1, .inr (5, [.ref u.2.2.2.1, .ref u.2.2.2.2.1, .int (nI 0), .int 0])), (u.2.2.2.1, .inl (u.2.2.2.2.2.1, 16, .inl (fun _ => (0 : Int32)))), (u.2.2.2.2.1, .inl (u.2.2.2.2.2.2.1, 16, .inl (fun _ => (0 : Int32)))), (u.2.2.2.2.2.2.2.1, .inl (u.2.2.2.2.2.2.2.2, 0, .inl (fun _ => (0 : Int32))))]) (va_A [(a0, .inr (7, [.ref qb])), (qb, .inl (cq, 16, .inr (.inr (.inr (.inr bq)))))] sz)) (vx_X (fun _ : Unit => True) (fun (E : String) (_ : Unit) (t : State) => ((E = "java/lang/NegativeArraySizeException" ∧ p1.toInt < 0) ∨ (E = "java/lang/IllegalArgumentException" ∧ 0 ≤ p1.toInt ∧ ¬ rgH p1 p2) ∨ (E = "java/lang/IllegalStateException" ∧ rgH p1 p2 ∧ ∀ j : Nat, j < 16 → ¬ bq j = none)) ∧ va_P (dC, dI) vwCl [(a0, .inr (7, [.ref qb])), (qb, .inl (cq, 16, .inr (.inr (.inr (.inr bq)))))] t.heap ∧ va_K (dC, dI) vwCl [(cq, .object "KeyAtlas$Body")] t ∧ va_D (va_A [(a0, .inr (7, [.ref qb])), (qb, .inl (cq, 16, .inr (.inr (.inr (.inr bq)))))] sz) [(a0, .inr (7, [.ref qb])), (qb, .inl (cq, 16, .inr (.inr (.inr (.inr bq)))))]) (va_A [(a0, .inr (7, [.ref qb])), (qb, .inl (cq, 16, .inr (.inr (.inr (.inr bq)))))] sz)) 6 49 (va_A [(a0, .inr (7, [.ref qb])), (qb, .inl (cq, 16, .inr (.inr (.inr (.inr bq)))))] sz) := by
  refine vx_ofW (cc := cX7_make) (maxL := 4) (ret := (some .int)) (by decide) rfl ?_
  intro p e s m args below meth c s₁ B hml htab hv
  obtain ⟨rfl, hsz, hP, hK, hD0, hN, hZ⟩ := hv
  have hx := B.exec
  have hb := B.bytes
  have hr := B.returns
  have hts := atoms_spec (ws := wqX7_make) B.pre
  have hown : s.vm.findClass RX7 = some m.cls := findClass_of_methodNamed B.named
  have hlocks := B.notSynchronized
  subst hsz
  have hD := hD0.self (sz := s.heap.size)
  generalize hAe : va_A [(a0, .inr (7, [.ref qb])), (qb, .inl (cq, 16, .inr (.inr (.inr (.inr bq)))))] s.heap.size = A at hZ hD ⊢
  have hA : ∀ q : Nat, s.heap.size ≤ q → A q := fun q h => by rw [← hAe]; exact Or.inr h
  have hS : va_S A s.heap s.heap [] := va_S.rf
  have hP : va_P (dC, dI) vwCl [(a0, .inr (7, [.ref qb])), (qb, .inl (cq, 16, .inr (.inr (.inr (.inr bq)))))] s.heap := hP
  have hl := lv_entry ([.ref a0, .int 0, .int p1, .int p2]) (n := 4) (Nat.le_of_ble_eq_true rfl)
  rw [lg_entry_eq]
  generalize (lg_sl ([.ref a0, .int 0, .int p1, .int p2]) ++ List.replicate (4 - (lg_sl ([.ref a0, .int 0, .int p1, .int p2])).length) Slot.unset).toArray = ls at hl ⊢
  have hl : lv_has ls 4 [(0, .ref a0), (1, .int 0), (2, .int p1), (3, .int p2)] := hl
  have hw0_ := hts (.classLink RX7 15 "java/lang/IllegalArgumentException") (List.mem_of_getElem? (l := wqX7_make) (i := 1) rfl)
  have hw1_ := hts (.initialized "java/lang/IllegalArgumentException") (List.mem_of_getElem? (l := wqX7_make) (i := 2) rfl)
  have hw2_ := hts (.classLink RX7 22 "java/lang/NegativeArraySizeException") (by decide +kernel)
  have hw3_ := hts (.initialized "java/lang/NegativeArraySizeException") (by decide +kernel)
  refine lv_iload_n hx hb dX7_make_0 rfl (lv_at hl 1 rfl) ?_
  refine lv_if_lt (tgt := 9) hx hb dX7_make_1 (by decide) (fun c_1 => absurd c_1 (by decide)) (fun c_1 => ?_)
  refine lv_iload_n hx hb dX7_make_4 rfl (lv_at hl 1 rfl) ?_
  refine lv_iconst (v := 2) hx hb dX7_make_5 (by decide) ?_
  refine lv_icmp_le (tgt := 19) hx hb dX7_make_6 (by decide) (fun c_2 => ?_) (fun c_2 => absurd c_2 (by decide))
  refine lv_iload_n hx hb dX7_make_19 rfl (lv_at hl 1 rfl) ?_
  refine lv_if_ne (tgt := 37) hx hb dX7_make_20 (by decide) (fun c_3 => absurd c_3 (by decide)) (fun c_3 => ?_)
  refine lv_iload_n hx hb dX7_make_23 rfl (lv_at hl 2 rfl) ?_
  refine lv_if_ge (tgt := 37) hx hb dX7_make_24 (by decide) (fun c_4 => ?_) (fun c_4 => ?_)
  ·
    have ic_4 : 0 ≤ p1.toInt := tx_le (by decide) rfl c_4
    refine lv_iload_n hx hb dX7_make_37 rfl (lv_at hl 1 rfl) ?_
    refine lv_iload_n hx hb dX7_make_38 rfl (lv_at hl 2 rfl) ?_
    refine lv_iload_n hx hb dX7_make_39 rfl (lv_at hl 3 rfl) ?_
    have hPc := hP.sub (ws' := []) [] rfl
    have hKc := hK.sub (tys' := []) [] rfl
    refine ro_calli (va_runS (As := [.int 0, .int p1, .int p2]) (rest := []) ⟨hx, hb, hml, hown, hts⟩ (c_X7_areInRange_H l  dC dI s.heap.size p1 p2) (va_cwS 3 hts gX7_make_X7_areInRange rfl rfl rfl (by decide +kernel) ⟨(Nat.le_of_ble_eq_true rfl), (Nat.le_of_ble_eq_true rfl)⟩) ⟨pk_blindR, pk_callR hPc hKc⟩ rfl rfl hl.1 rfl (lv_room (Nat.le_of_ble_eq_true rfl)) dX7_make_40 ⟨(Nat.le_of_ble_eq_true rfl), (Nat.le_of_ble_eq_true rfl)⟩) (fun r_5 ur_5 hw => ?_)
    clear hPc hKc
    try dsimp only at hw
    have jr_5 := hw
    refine W.eq (g2 := F0 m 43 ls [.int r_5]) rfl ?_
    refine lv_if_ne (tgt := 56) hx hb dX7_make_43 (by decide) (fun c_6 => ?_) (fun c_6 => ?_)
    ·
      have ic_6 : ¬ r_5.toInt = 0 := tx_ne rfl (by decide) c_6
      refine lv_aload_n hx hb dX7_make_56 rfl (lv_at hl 0 rfl) ?_
      refine lv_iload_n hx hb dX7_make_57 rfl (lv_at hl 1 rfl) ?_
      refine lv_iload_n hx hb dX7_make_58 rfl (lv_at hl 2 rfl) ?_
      refine lv_iload_n hx hb dX7_make_59 rfl (lv_at hl 3 rfl) ?_
      have hrg := tx_ry jr_5 ic_6
      have hPc := hP.sub (ws' := []) [] rfl
      have hDc := hD.sub (ws' := []) [] (by decide) rfl
      have hKc := hK.sub (tys' := []) [] rfl
      have hFc := va_free (wc := []) hD hS hA [] rfl
      have hZc := (hZ.kept hS.2.1).narrow hFc
      refine va_callr (va_runS (As := [.int 0, .int p1, .int p2]) (rest := [.ref a0]) ⟨hx, hb, hml, hown, hts⟩ (c_X7_newMap_H l hlt dC dI s.heap.size p1 p2 hrg) (va_cwS 3 hts gX7_make_X7_newMap rfl rfl rfl (by decide +kernel) ⟨(Nat.le_of_ble_eq_true rfl), (Nat.le_of_ble_eq_true rfl)⟩) ⟨pk_blindX, pk_callX hPc hKc hDc hN hZc⟩ rfl rfl hl.1 rfl (lv_room (Nat.le_of_ble_eq_true rfl)) dX7_make_60 ⟨(Nat.le_of_ble_eq_true rfl), (Nat.le_of_ble_eq_true rfl)⟩) hS (fun q _ h => hFc q h) hFc (fun ur_7 r_7 t H1 locs ht hvm hw hB hz1 hk1 hS => ?_)
      try dsimp only at hw
      have jr_7 := hw
      obtain ⟨hP1, hK1, hD1⟩ := hB
      rw [ht] at hP1
      have hK1 := va_K.moved hvm.symm hK1
      obtain ⟨hP, hD⟩ := va_join (wr := [(a0, .inr (7, [.ref qb])), (qb, .inl (cq, 16, .inr (.inr (.inr (.inr bq)))))]) (w1 := [(r_7, .inr (3, [.ref ur_7.1, .int 0, .int (-1), .int p1, .int p2, .int (nI 0), .ref ur_7.2.2.2.2.2.1])), (ur_7.1, .inr (5, [.ref ur_7.2.1, .ref ur_7.2.2.1, .int (nI 0), .int 0])), (ur_7.2.1, .inl (ur_7.2.2.2.1, 16, .inl (fun _ => (0 : Int32)))), (ur_7.2.2.1, .inl (ur_7.2.2.2.2.1, 16, .inl (fun _ => (0 : Int32)))), (ur_7.2.2.2.2.2.1, .inl (ur_7.2.2.2.2.2.2, 0, .inl (fun _ => (0 : Int32))))]) hP hD [] [0, 1] rfl rfl (by decide) (by decide) hk1 hFc hP1 hD1
      have hK := hK.app hK1
      have hK : va_K (dC, dI) vwCl [(cq, .object "KeyAtlas$Body"), (ur_7.2.2.2.1, .int), (ur_7.2.2.2.2.1, .int), (ur_7.2.2.2.2.2.2, .boolean)] s := hK
      clear hk1 hz1 ht hPc hDc hKc hFc
      generalize H1 = H at hP hS ⊢
      replace hP : va_P (dC, dI) vwCl [(a0, .inr (7, [.ref qb])), (qb, .inl (cq, 16, .inr (.inr (.inr (.inr bq))))), (r_7, .inr (3, [.ref ur_7.1, .int 0, .int (-1), .int p1, .int p2, .int (nI 0), .ref ur_7.2.2.2.2.2.1])), (ur_7.1, .inr (5, [.ref ur_7.2.1, .ref ur_7.2.2.1, .int (nI 0), .int 0])), (ur_7.2.1, .inl (ur_7.2.2.2.1, 16, .inl (fun _ => (0 : Int32)))), (ur_7.2.2.1, .inl (ur_7.2.2.2.2.1, 16, .inl (fun _ => (0 : Int32)))), (ur_7.2.2.2.2.2.1, .inl (ur_7.2.2.2.2.2.2, 0, .inl (fun _ => (0 : Int32))))] H := hP
      replace hD : va_D A [(a0, .inr (7, [.ref qb])), (qb, .inl (cq, 16, .inr (.inr (.inr (.inr bq))))), (r_7, .inr (3, [.ref ur_7.1, .int 0, .int (-1), .int p1, .int p2, .int (nI 0), .ref ur_7.2.2.2.2.2.1])), (ur_7.1, .inr (5, [.ref ur_7.2.1, .ref ur_7.2.2.1, .int (nI 0), .int 0])), (ur_7.2.1, .inl (ur_7.2.2.2.1, 16, .inl (fun _ => (0 : Int32)))), (ur_7.2.2.1, .inl (ur_7.2.2.2.2.1, 16, .inl (fun _ => (0 : Int32)))), (ur_7.2.2.2.2.2.1, .inl (ur_7.2.2.2.2.2.2, 0, .inl (fun _ => (0 : Int32))))] := hD
      refine W.widen (k := 5) (n := 43) (Nat.le_of_ble_eq_true rfl) (Nat.le_of_ble_eq_true rfl) ?_
      refine W.eq (g2 := F0 m 63 ls [.ref r_7, .ref a0]) rfl ?_
      have hPc := hP.sub (ws' := [(a0, .inr (7, [.ref qb])), (qb, .inl (cq, 16, .inr (.inr (.inr (.inr bq))))), (r_7, .inr (3, [.ref ur_7.1, .int 0, .int (-1), .int p1, .int p2, .int (nI 0), .ref ur_7.2.2.2.2.2.1]))]) [0, 1, 2] rfl
      have hDc := hD.sub (ws' := [(a0, .inr (7, [.ref qb])), (qb, .inl (cq, 16, .inr (.inr (.inr (.inr bq))))), (r_7, .inr (3, [.ref ur_7.1, .int 0, .int (-1), .int p1, .int p2, .int (nI 0), .ref ur_7.2.2.2.2.2.1]))]) [0, 1, 2] (by decide) rfl
      have hKc := hK.sub (tys' := [(cq, .object "KeyAtlas$Body")]) [0] rfl
      have hFc := va_free (wc := [(a0, .inr (7, [.ref qb])), (qb, .inl (cq, 16, .inr (.inr (.inr (.inr bq))))), (r_7, .inr (3, [.ref ur_7.1, .int 0, .int (-1), .int p1, .int p2, .int (nI 0), .ref ur_7.2.2.2.2.2.1]))]) hD hS hA [0, 1, 2] rfl
      have hZc := (hZ.kept hS.2.1).narrow hFc
      refine vx_calli (vx_runV (As := [.ref r_7]) (rest := []) ⟨hx, hb, hml, hown, hts⟩ (c_X7_settle_H l hlt dC dI H.size a0 qb cq bq r_7 ([.ref ur_7.1, .int 0, .int (-1), .int p1, .int p2, .int (nI 0), .ref ur_7.2.2.2.2.2.1])) (cwV 1 hts gX7_make_X7_settle rfl rfl rfl (by decide +kernel) ⟨(Nat.le_of_ble_eq_true rfl), (Nat.le_of_ble_eq_true rfl)⟩) ⟨pk_blindX, va_recv hKc hPc (ci := 7) (q0 := 0) rfl rfl, pk_callX hPc hKc hDc hN hZc⟩ rfl rfl hl.1 rfl (lv_room (Nat.le_of_ble_eq_true rfl)) dX7_make_63 ⟨(Nat.le_of_ble_eq_true rfl), (Nat.le_of_ble_eq_true rfl)⟩) hS (fun q _ h => hFc q h) hFc (fun q _ h => hFc q h) (fun E ce q9 u9 t H1 locs ht hvm hw hB hz1 hk1 hS hce hcv hcl => ?_) (fun r_8 ur_8 t H1 locs ht hvm hw hB hz1 hk1 hS => ?_)
      ·
        try dsimp only at hB
        have hD9 := hD.sub (ws' := [(a0, .inr (7, [.ref qb])), (qb, .inl (cq, 16, .inr (.inr (.inr (.inr bq)))))]) [0, 1] (by decide) rfl
        obtain ⟨⟨hE8, hf8⟩, hP8, hK8, -⟩ := hB
        have hP8 := hP8.sub (ws' := [(a0, .inr (7, [.ref qb])), (qb, .inl (cq, 16, .inr (.inr (.inr (.inr bq)))))]) [0, 1] rfl
        exact vx_out (fun x hx9 => (htab x hx9).elim) hlocks hce hcv hcl (fun t9 ht9 hal9 => ⟨(), trivial, ⟨Or.inr (Or.inr ⟨hE8, hrg, hf8⟩), by rw [ht9, ← ht]; exact hP8, va_K.moved (hvm.symm.trans hal9) hK8, hD9⟩, hS.F ht9⟩) hS.2.2 (by omega) (by omega)
      ·
        try dsimp only at hw
        have jr_8 := hw
        obtain ⟨hP1, hK1, hD1⟩ := hB
        rw [ht] at hP1
        have hK1 := va_K.moved hvm.symm hK1
        obtain ⟨hP, hD⟩ := va_join (wr := [(ur_7.1, .inr (5, [.ref ur_7.2.1, .ref ur_7.2.2.1, .int (nI 0), .int 0])), (ur_7.2.1, .inl (ur_7.2.2.2.1, 16, .inl (fun _ => (0 : Int32)))), (ur_7.2.2.1, .inl (ur_7.2.2.2.2.1, 16, .inl (fun _ => (0 : Int32)))), (ur_7.2.2.2.2.2.1, .inl (ur_7.2.2.2.2.2.2, 0, .inl (fun _ => (0 : Int32))))]) (w1 := [(a0, .inr (7, [.ref qb])), (qb, .inl (cq, 16, .inr (.inr (.inr (.inr (va_up bq ur_8 (some r_7))))))), (r_7, .inr (3, [.ref ur_7.1, .int 0, .int (-1), .int p1, .int p2, .int (nI 0), .ref ur_7.2.2.2.2.2.1]))]) hP hD [0, 1, 2] [3, 4, 5, 6] rfl rfl (by decide) (by decide) hk1 hFc hP1 hD1
        clear hk1 hz1 ht hPc hDc hKc hFc
        generalize H1 = H at hP hS ⊢
        replace hP : va_P (dC, dI) vwCl [(ur_7.1, .inr (5, [.ref ur_7.2.1, .ref ur_7.2.2.1, .int (nI 0), .int 0])), (ur_7.2.1, .inl (ur_7.2.2.2.1, 16, .inl (fun _ => (0 : Int32)))), (ur_7.2.2.1, .inl (ur_7.2.2.2.2.1, 16, .inl (fun _ => (0 : Int32)))), (ur_7.2.2.2.2.2.1, .inl (ur_7.2.2.2.2.2.2, 0, .inl (fun _ => (0 : Int32)))), (a0, .inr (7, [.ref qb])), (qb, .inl (cq, 16, .inr (.inr (.inr (.inr (va_up bq ur_8 (some r_7))))))), (r_7, .inr (3, [.ref ur_7.1, .int 0, .int (-1), .int p1, .int p2, .int (nI 0), .ref ur_7.2.2.2.2.2.1]))] H := hP
        replace hD : va_D A [(ur_7.1, .inr (5, [.ref ur_7.2.1, .ref ur_7.2.2.1, .int (nI 0), .int 0])), (ur_7.2.1, .inl (ur_7.2.2.2.1, 16, .inl (fun _ => (0 : Int32)))), (ur_7.2.2.1, .inl (ur_7.2.2.2.2.1, 16, .inl (fun _ => (0 : Int32)))), (ur_7.2.2.2.2.2.1, .inl (ur_7.2.2.2.2.2.2, 0, .inl (fun _ => (0 : Int32)))), (a0, .inr (7, [.ref qb])), (qb, .inl (cq, 16, .inr (.inr (.inr (.inr (va_up bq ur_8 (some r_7))))))), (r_7, .inr (3, [.ref ur_7.1, .int 0, .int (-1), .int p1, .int p2, .int (nI 0), .ref ur_7.2.2.2.2.2.1]))] := hD
        refine W.widen (k := 6) (n := 49) (Nat.le_of_ble_eq_true rfl) (Nat.le_of_ble_eq_true rfl) ?_
        refine W.eq (g2 := F0 m 66 ls [.int r_8]) rfl ?_
        have hP9 := hP.sub (ws' := [(a0, .inr (7, [.ref qb])), (qb, .inl (cq, 16, .inr (.inr (.inr (.inr (va_up bq ur_8 (some r_7))))))), (r_7, .inr (3, [.ref ur_7.1, .int 0, .int (-1), .int p1, .int p2, .int (nI 0), .ref ur_7.2.2.2.2.2.1])), (ur_7.1, .inr (5, [.ref ur_7.2.1, .ref ur_7.2.2.1, .int (nI 0), .int 0])), (ur_7.2.1, .inl (ur_7.2.2.2.1, 16, .inl (fun _ => (0 : Int32)))), (ur_7.2.2.1, .inl (ur_7.2.2.2.2.1, 16, .inl (fun _ => (0 : Int32)))), (ur_7.2.2.2.2.2.1, .inl (ur_7.2.2.2.2.2.2, 0, .inl (fun _ => (0 : Int32))))]) [4, 5, 6, 0, 1, 2, 3] rfl
        have hD9 := hD.sub (ws' := [(a0, .inr (7, [.ref qb])), (qb, .inl (cq, 16, .inr (.inr (.inr (.inr (va_up bq ur_8 (some r_7))))))), (r_7, .inr (3, [.ref ur_7.1, .int 0, .int (-1), .int p1, .int p2, .int (nI 0), .ref ur_7.2.2.2.2.2.1])), (ur_7.1, .inr (5, [.ref ur_7.2.1, .ref ur_7.2.2.1, .int (nI 0), .int 0])), (ur_7.2.1, .inl (ur_7.2.2.2.1, 16, .inl (fun _ => (0 : Int32)))), (ur_7.2.2.1, .inl (ur_7.2.2.2.2.1, 16, .inl (fun _ => (0 : Int32)))), (ur_7.2.2.2.2.2.1, .inl (ur_7.2.2.2.2.2.2, 0, .inl (fun _ => (0 : Int32))))]) [4, 5, 6, 0, 1, 2, 3] (by decide) rfl
        have hK9 := hK.sub (tys' := [(cq, .object "KeyAtlas$Body"), (ur_7.2.2.2.1, .int), (ur_7.2.2.2.2.1, .int), (ur_7.2.2.2.2.2.2, .boolean)]) [0, 1, 2, 3] rfl
        refine W.widen (k := 6) (n := 49) (Nat.le_of_ble_eq_true rfl) (Nat.le_of_ble_eq_true rfl) ?_
        refine vx_ret ?_
        exact W.iret (v := r_8) hx hb hr (fun t ht hW => ⟨⟨r_8, (ur_8, r_7, ur_7.1, ur_7.2.1, ur_7.2.2.1, ur_7.2.2.2.1, ur_7.2.2.2.2.1, ur_7.2.2.2.2.2.1, ur_7.2.2.2.2.2.2), rfl, ⟨jr_8.1, jr_8.2.1, jr_8.2.2.1, jr_8.2.2.2, hrg⟩, by rw [ht]; exact hP9, va_K.moved hW.alike hK9, hD9⟩, hS.F ht⟩) hS.2.2 dX7_make_66
    ·
      have ic_6 : r_5.toInt = 0 := tx_eq rfl (by decide) c_6
      have hP9 := hP.sub (ws' := [(a0, .inr (7, [.ref qb])), (qb, .inl (cq, 16, .inr (.inr (.inr (.inr bq)))))]) [0, 1] rfl
      have hD9 := hD.sub (ws' := [(a0, .inr (7, [.ref qb])), (qb, .inl (cq, 16, .inr (.inr (.inr (.inr bq)))))]) [0, 1] (by decide) rfl
      have hK9 := hK.sub (tys' := [(cq, .object "KeyAtlas$Body")]) [0] rfl
      obtain ⟨sa, hsa⟩ := hN.stX7_31
      exact vx_throwS hx hb hlt (own := RX7) (cls := "java/lang/IllegalArgumentException") (text := "a or b out of range") (names := ["java/lang/RuntimeException", "java/lang/Exception"]) hown (by decide +kernel) (by decide +kernel) hw0_ hw1_ hsa (tx_hat hN.xw (fun w h => hts w (at_X7_make_46 w h)) ng_RX7_19) og_RX7_19 hZ.1 hZ.2 hS (by rw [hml]; exact hl.1) dX7_make_46 dX7_make_49 dX7_make_50 dX7_make_52 dX7_make_55 (fun x hx9 => (htab x hx9).elim) (Nat.le_of_ble_eq_true rfl) (Nat.le_of_ble_eq_true rfl) (Nat.le_of_ble_eq_true rfl) (Nat.le_of_ble_eq_true rfl) hlocks (fun t hvm hz hq => ⟨(), trivial, ⟨Or.inr (Or.inl ⟨rfl, by omega, tx_rn jr_5 ic_6⟩), hP9.kept (fun k x hx => hq x.1 (hP9 k x hx).lt), va_K.moved hvm hK9, hD9⟩, ⟨Nat.le_trans hS.1 hz, fun q h1 h2 => (hq q (Nat.lt_of_lt_of_le h1 hS.1)).trans (hS.2.1 q h1 h2)⟩⟩) hS.2.2 (Nat.le_of_ble_eq_true rfl) (Nat.le_of_ble_eq_true rfl)
  ·
    have ic_4 : p1.toInt < 0 := tx_nle (by decide) rfl c_4
    have hP9 := hP.sub (ws' := [(a0, .inr (7, [.ref qb])), (qb, .inl (cq, 16, .inr (.inr (.inr (.inr bq)))))]) [0, 1] rfl
    have hD9 := hD.sub (ws' := [(a0, .inr (7, [.ref qb])), (qb, .inl (cq, 16, .inr (.inr (.inr (.inr bq)))))]) [0, 1] (by decide) rfl
    have hK9 := hK.sub (tys' := [(cq, .object "KeyAtlas$Body")]) [0] rfl
    obtain ⟨sa, hsa⟩ := hN.stX7_24
    exact vx_throwS hx hb hlt (own := RX7) (cls := "java/lang/NegativeArraySizeException") (text := "capacity below 0") (names := ["java/lang/RuntimeException", "java/lang/Exception"]) hown (by decide +kernel) (by decide +kernel) hw2_ hw3_ hsa (tx_hat hN.xw (fun w h => hts w (at_X7_make_27 w h)) ng_RX7_26) og_RX7_26 hZ.1 hZ.2 hS (by rw [hml]; exact hl.1) dX7_make_27 dX7_make_30 dX7_make_31 dX7_make_33 dX7_make_36 (fun x hx9 => (htab x hx9).elim) (Nat.le_of_ble_eq_true rfl) (Nat.le_of_ble_eq_true rfl) (Nat.le_of_ble_eq_true rfl) (Nat.le_of_ble_eq_true rfl) hlocks (fun t hvm hz hq => ⟨(), trivial, ⟨Or.inl ⟨rfl, by omega⟩, hP9.kept (fun k x hx => hq x.1 (hP9 k x hx).lt), va_K.moved hvm hK9, hD9⟩, ⟨Nat.le_trans hS.1 hz, fun q h1 h2 => (hq q (Nat.lt_of_lt_of_le h1 hS.1)).trans (hS.2.1 q h1 h2)⟩⟩) hS.2.2 (Nat.le_of_ble_eq_true rfl) (Nat.le_of_ble_eq_true rfl)
set_option maxHeartbeats 4000000 in
set_option maxRecDepth 100000 in
/-- make, L -/
theorem c_X7_make_L (l : Launch) (hlt : l.stackTraces = false) (dC : Nat → ClassId) (dI : Nat → Nat → Nat) (sz : Nat) (a0 : Nat) (qb : Nat) (cq : ClassId) (bq : Nat → Option Nat) (p1 : Int32) (p2 : Int32) : vx_Met l yX7_make wqX7_make ({ frames := 7, cells := 6, slots := 49, locals := 140 }) (va_Pc [.ref a0, .int 1, .int p1, .int p2] (pk_PreX (dC, dI) [(a0, .inr (7, [.ref qb])), (qb, .inl (cq, 16, .inr (.inr (.inr (.inr bq)))))] [(cq, .object "KeyAtlas$Body")] sz)) (va_Qi (fun (r : Int32) (u : Nat × Nat × Nat × Nat × Nat × ClassId × ClassId) => r = nI u.1 ∧ u.1 < 16 ∧ bq u.1 = none ∧ (∀ j : Nat, j < u.1 → ¬ bq j = none) ∧ rgL p1 p2) (fun (u : Nat × Nat × Nat × Nat × Nat × ClassId × ClassId) (t : State) => va_P (dC, dI) vwCl [(a0, .inr (7, [.ref qb])), (qb, .inl (cq, 16, .inr (.inr (.inr (.inr (va_up bq u.1 (some u.2.1))))))), (u.2.1, .inr (4, [.ref u.2.2.1, .int 1, .int (-1), .int p1, .int (lbu p2)])), (u.2.2.1, .inr (5, [.ref u.2.2.2.1, .ref u.2.2.2.2.1, .int (nI 0), .int 0])), (u.2.2.2.1, .inl (u.2.2.2.2.2.1, 16, .inl (fun _ => (0 : Int32)))), (u.2.2.2.2.1, .inl (u.2.2.2.2.2.2, 16, .inl (fun _ => (0 : Int32))))] t.heap ∧ va_K (dC, dI) vwCl [(cq, .object "KeyAtlas$Body"), (u.2.2.2.2.2.1, .int), (u.2.2.2.2.2.2, .int)] t ∧ va_D (va_A [(a0, .inr (7, [.ref qb])), (qb, .inl (cq, 16, .inr (.inr (.inr (.inr bq)))))] sz) [(a0, .inr (7, [.ref qb])), (qb, .inl (cq, 16, .inr (.inr (.inr (.inr (va_up bq u.1 (some u.2.1))))))), (u.2.1, .inr (4, [.ref u.2.2.1, .int 1, .int (-1), .int p1, .int (lbu p2)])), (u.2.2.1, .inr (5, [.ref u.2.2.2.1, .ref u.2.2.2.2.1, .int (nI 0), .int 0])), (u.2.2.2.1, .inl (u.2.2.2.2.2.1, 16, .inl (fun _ => (0 : Int32)))), (u.2.2.2.2.1, .inl (u.2.2.2.2.2.2, 16, .inl (fun _ => (0 : Int32))))]) (va_A [(a0, .inr (7, [.ref qb])), (qb, .inl (cq, 16, .inr (.inr (.inr (.inr bq)))))] sz)) (vx_X (fun _ : Unit => True) (fun (E : String) (_ : Unit) (t : State) => ((E = "java/lang/NegativeArraySizeException" ∧ False) ∨ (E = "java/lang/IllegalArgumentException" ∧ ¬ rgL p1 p2) ∨ (E = "java/lang/IllegalStateException" ∧ rgL p1 p2 ∧ ∀ j : Nat, j < 16 → ¬ bq j = none)) ∧ va_P (dC, dI) vwCl [(a0, .inr (7, [.ref qb])), (qb, .inl (cq, 16, .inr (.inr (.inr (.inr bq)))))] t.heap ∧ va_K (dC, dI) vwCl [(cq, .object "KeyAtlas$Body")] t ∧ va_D (va_A [(a0, .inr (7, [.ref qb])), (qb, .inl (cq, 16, .inr (.inr (.inr (.inr bq)))))] sz) [(a0, .inr (7, [.ref qb])), (qb, .inl (cq, 16, .inr (.inr (.inr (.inr bq)))))]) (va_A [(a0, .inr (7, [.ref qb])), (qb, .inl (cq, 16, .inr (.inr (.inr (.inr bq)))))] sz)) 6 49 (va_A [(a0, .inr (7, [.ref qb])), (qb, .inl (cq, 16, .inr (.inr (.inr (.inr bq)))))] sz) := by
  refine vx_ofW (cc := cX7_make) (maxL := 4) (ret := (some .int)) (by decide) rfl ?_
  intro p e s m args below meth c s₁ B hml htab hv
  obtain ⟨rfl, hsz, hP, hK, hD0, hN, hZ⟩ := hv
  have hx := B.exec
  have hb := B.bytes
  have hr := B.returns
  have hts := atoms_spec (ws := wqX7_make) B.pre
  have hown : s.vm.findClass RX7 = some m.cls := findClass_of_methodNamed B.named
  have hlocks := B.notSynchronized
  subst hsz
  have hD := hD0.self (sz := s.heap.size)
  generalize hAe : va_A [(a0, .inr (7, [.ref qb])), (qb, .inl (cq, 16, .inr (.inr (.inr (.inr bq)))))] s.heap.size = A at hZ hD ⊢
  have hA : ∀ q : Nat, s.heap.size ≤ q → A q := fun q h => by rw [← hAe]; exact Or.inr h
  have hS : va_S A s.heap s.heap [] := va_S.rf
  have hP : va_P (dC, dI) vwCl [(a0, .inr (7, [.ref qb])), (qb, .inl (cq, 16, .inr (.inr (.inr (.inr bq)))))] s.heap := hP
  have hl := lv_entry ([.ref a0, .int 1, .int p1, .int p2]) (n := 4) (Nat.le_of_ble_eq_true rfl)
  rw [lg_entry_eq]
  generalize (lg_sl ([.ref a0, .int 1, .int p1, .int p2]) ++ List.replicate (4 - (lg_sl ([.ref a0, .int 1, .int p1, .int p2])).length) Slot.unset).toArray = ls at hl ⊢
  have hl : lv_has ls 4 [(0, .ref a0), (1, .int 1), (2, .int p1), (3, .int p2)] := hl
  have hw0_ := hts (.classLink RX7 15 "java/lang/IllegalArgumentException") (List.mem_of_getElem? (l := wqX7_make) (i := 1) rfl)
  have hw1_ := hts (.initialized "java/lang/IllegalArgumentException") (List.mem_of_getElem? (l := wqX7_make) (i := 2) rfl)
  refine lv_iload_n hx hb dX7_make_0 rfl (lv_at hl 1 rfl) ?_
  refine lv_if_lt (tgt := 9) hx hb dX7_make_1 (by decide) (fun c_1 => absurd c_1 (by decide)) (fun c_1 => ?_)
  refine lv_iload_n hx hb dX7_make_4 rfl (lv_at hl 1 rfl) ?_
  refine lv_iconst (v := 2) hx hb dX7_make_5 (by decide) ?_
  refine lv_icmp_le (tgt := 19) hx hb dX7_make_6 (by decide) (fun c_2 => ?_) (fun c_2 => absurd c_2 (by decide))
  refine lv_iload_n hx hb dX7_make_19 rfl (lv_at hl 1 rfl) ?_
  refine lv_if_ne (tgt := 37) hx hb dX7_make_20 (by decide) (fun c_3 => ?_) (fun c_3 => absurd c_3 (by decide))
  refine lv_iload_n hx hb dX7_make_37 rfl (lv_at hl 1 rfl) ?_
  refine lv_iload_n hx hb dX7_make_38 rfl (lv_at hl 2 rfl) ?_
  refine lv_iload_n hx hb dX7_make_39 rfl (lv_at hl 3 rfl) ?_
  have hPc := hP.sub (ws' := []) [] rfl
  have hKc := hK.sub (tys' := []) [] rfl
  refine ro_calli (va_runS (As := [.int 1, .int p1, .int p2]) (rest := []) ⟨hx, hb, hml, hown, hts⟩ (c_X7_areInRange_L l  dC dI s.heap.size p1 p2) (va_cwS 3 hts gX7_make_X7_areInRange rfl rfl rfl (by decide +kernel) ⟨(Nat.le_of_ble_eq_true rfl), (Nat.le_of_ble_eq_true rfl)⟩) ⟨pk_blindR, pk_callR hPc hKc⟩ rfl rfl hl.1 rfl (lv_room (Nat.le_of_ble_eq_true rfl)) dX7_make_40 ⟨(Nat.le_of_ble_eq_true rfl), (Nat.le_of_ble_eq_true rfl)⟩) (fun r_4 ur_4 hw => ?_)
  clear hPc hKc
  try dsimp only at hw
  have jr_4 := hw
  refine W.eq (g2 := F0 m 43 ls [.int r_4]) rfl ?_
  refine lv_if_ne (tgt := 56) hx hb dX7_make_43 (by decide) (fun c_5 => ?_) (fun c_5 => ?_)
  ·
    have ic_5 : ¬ r_4.toInt = 0 := tx_ne rfl (by decide) c_5
    refine lv_aload_n hx hb dX7_make_56 rfl (lv_at hl 0 rfl) ?_
    refine lv_iload_n hx hb dX7_make_57 rfl (lv_at hl 1 rfl) ?_
    refine lv_iload_n hx hb dX7_make_58 rfl (lv_at hl 2 rfl) ?_
    refine lv_iload_n hx hb dX7_make_59 rfl (lv_at hl 3 rfl) ?_
    have hrg := tx_ry jr_4 ic_5
    have hPc := hP.sub (ws' := []) [] rfl
    have hDc := hD.sub (ws' := []) [] (by decide) rfl
    have hKc := hK.sub (tys' := []) [] rfl
    have hFc := va_free (wc := []) hD hS hA [] rfl
    have hZc := (hZ.kept hS.2.1).narrow hFc
    refine va_callr (va_runS (As := [.int 1, .int p1, .int p2]) (rest := [.ref a0]) ⟨hx, hb, hml, hown, hts⟩ (c_X7_newMap_L l hlt dC dI s.heap.size p1 p2 hrg) (va_cwS 3 hts gX7_make_X7_newMap rfl rfl rfl (by decide +kernel) ⟨(Nat.le_of_ble_eq_true rfl), (Nat.le_of_ble_eq_true rfl)⟩) ⟨pk_blindX, pk_callX hPc hKc hDc hN hZc⟩ rfl rfl hl.1 rfl (lv_room (Nat.le_of_ble_eq_true rfl)) dX7_make_60 ⟨(Nat.le_of_ble_eq_true rfl), (Nat.le_of_ble_eq_true rfl)⟩) hS (fun q _ h => hFc q h) hFc (fun ur_6 r_6 t H1 locs ht hvm hw hB hz1 hk1 hS => ?_)
    try dsimp only at hw
    have jr_6 := hw
    obtain ⟨hP1, hK1, hD1⟩ := hB
    rw [ht] at hP1
    have hK1 := va_K.moved hvm.symm hK1
    obtain ⟨hP, hD⟩ := va_join (wr := [(a0, .inr (7, [.ref qb])), (qb, .inl (cq, 16, .inr (.inr (.inr (.inr bq)))))]) (w1 := [(r_6, .inr (4, [.ref ur_6.1, .int 1, .int (-1), .int p1, .int (lbu p2)])), (ur_6.1, .inr (5, [.ref ur_6.2.1, .ref ur_6.2.2.1, .int (nI 0), .int 0])), (ur_6.2.1, .inl (ur_6.2.2.2.1, 16, .inl (fun _ => (0 : Int32)))), (ur_6.2.2.1, .inl (ur_6.2.2.2.2, 16, .inl (fun _ => (0 : Int32))))]) hP hD [] [0, 1] rfl rfl (by decide) (by decide) hk1 hFc hP1 hD1
    have hK := hK.app hK1
    have hK : va_K (dC, dI) vwCl [(cq, .object "KeyAtlas$Body"), (ur_6.2.2.2.1, .int), (ur_6.2.2.2.2, .int)] s := hK
    clear hk1 hz1 ht hPc hDc hKc hFc
    generalize H1 = H at hP hS ⊢
    replace hP : va_P (dC, dI) vwCl [(a0, .inr (7, [.ref qb])), (qb, .inl (cq, 16, .inr (.inr (.inr (.inr bq))))), (r_6, .inr (4, [.ref ur_6.1, .int 1, .int (-1), .int p1, .int (lbu p2)])), (ur_6.1, .inr (5, [.ref ur_6.2.1, .ref ur_6.2.2.1, .int (nI 0), .int 0])), (ur_6.2.1, .inl (ur_6.2.2.2.1, 16, .inl (fun _ => (0 : Int32)))), (ur_6.2.2.1, .inl (ur_6.2.2.2.2, 16, .inl (fun _ => (0 : Int32))))] H := hP
    replace hD : va_D A [(a0, .inr (7, [.ref qb])), (qb, .inl (cq, 16, .inr (.inr (.inr (.inr bq))))), (r_6, .inr (4, [.ref ur_6.1, .int 1, .int (-1), .int p1, .int (lbu p2)])), (ur_6.1, .inr (5, [.ref ur_6.2.1, .ref ur_6.2.2.1, .int (nI 0), .int 0])), (ur_6.2.1, .inl (ur_6.2.2.2.1, 16, .inl (fun _ => (0 : Int32)))), (ur_6.2.2.1, .inl (ur_6.2.2.2.2, 16, .inl (fun _ => (0 : Int32))))] := hD
    refine W.widen (k := 5) (n := 43) (Nat.le_of_ble_eq_true rfl) (Nat.le_of_ble_eq_true rfl) ?_
    refine W.eq (g2 := F0 m 63 ls [.ref r_6, .ref a0]) rfl ?_
    have hPc := hP.sub (ws' := [(a0, .inr (7, [.ref qb])), (qb, .inl (cq, 16, .inr (.inr (.inr (.inr bq))))), (r_6, .inr (4, [.ref ur_6.1, .int 1, .int (-1), .int p1, .int (lbu p2)]))]) [0, 1, 2] rfl
    have hDc := hD.sub (ws' := [(a0, .inr (7, [.ref qb])), (qb, .inl (cq, 16, .inr (.inr (.inr (.inr bq))))), (r_6, .inr (4, [.ref ur_6.1, .int 1, .int (-1), .int p1, .int (lbu p2)]))]) [0, 1, 2] (by decide) rfl
    have hKc := hK.sub (tys' := [(cq, .object "KeyAtlas$Body")]) [0] rfl
    have hFc := va_free (wc := [(a0, .inr (7, [.ref qb])), (qb, .inl (cq, 16, .inr (.inr (.inr (.inr bq))))), (r_6, .inr (4, [.ref ur_6.1, .int 1, .int (-1), .int p1, .int (lbu p2)]))]) hD hS hA [0, 1, 2] rfl
    have hZc := (hZ.kept hS.2.1).narrow hFc
    refine vx_calli (vx_runV (As := [.ref r_6]) (rest := []) ⟨hx, hb, hml, hown, hts⟩ (c_X7_settle_L l hlt dC dI H.size a0 qb cq bq r_6 ([.ref ur_6.1, .int 1, .int (-1), .int p1, .int (lbu p2)])) (cwV 1 hts gX7_make_X7_settle rfl rfl rfl (by decide +kernel) ⟨(Nat.le_of_ble_eq_true rfl), (Nat.le_of_ble_eq_true rfl)⟩) ⟨pk_blindX, va_recv hKc hPc (ci := 7) (q0 := 0) rfl rfl, pk_callX hPc hKc hDc hN hZc⟩ rfl rfl hl.1 rfl (lv_room (Nat.le_of_ble_eq_true rfl)) dX7_make_63 ⟨(Nat.le_of_ble_eq_true rfl), (Nat.le_of_ble_eq_true rfl)⟩) hS (fun q _ h => hFc q h) hFc (fun q _ h => hFc q h) (fun E ce q9 u9 t H1 locs ht hvm hw hB hz1 hk1 hS hce hcv hcl => ?_) (fun r_7 ur_7 t H1 locs ht hvm hw hB hz1 hk1 hS => ?_)
    ·
      try dsimp only at hB
      have hD9 := hD.sub (ws' := [(a0, .inr (7, [.ref qb])), (qb, .inl (cq, 16, .inr (.inr (.inr (.inr bq)))))]) [0, 1] (by decide) rfl
      obtain ⟨⟨hE8, hf8⟩, hP8, hK8, -⟩ := hB
      have hP8 := hP8.sub (ws' := [(a0, .inr (7, [.ref qb])), (qb, .inl (cq, 16, .inr (.inr (.inr (.inr bq)))))]) [0, 1] rfl
      exact vx_out (fun x hx9 => (htab x hx9).elim) hlocks hce hcv hcl (fun t9 ht9 hal9 => ⟨(), trivial, ⟨Or.inr (Or.inr ⟨hE8, hrg, hf8⟩), by rw [ht9, ← ht]; exact hP8, va_K.moved (hvm.symm.trans hal9) hK8, hD9⟩, hS.F ht9⟩) hS.2.2 (by omega) (by omega)
    ·
      try dsimp only at hw
      have jr_7 := hw
      obtain ⟨hP1, hK1, hD1⟩ := hB
      rw [ht] at hP1
      have hK1 := va_K.moved hvm.symm hK1
      obtain ⟨hP, hD⟩ := va_join (wr := [(ur_6.1, .inr (5, [.ref ur_6.2.1, .ref ur_6.2.2.1, .int (nI 0), .int 0])), (ur_6.2.1, .inl (ur_6.2.2.2.1, 16, .inl (fun _ => (0 : Int32)))), (ur_6.2.2.1, .inl (ur_6.2.2.2.2, 16, .inl (fun _ => (0 : Int32))))]) (w1 := [(a0, .inr (7, [.ref qb])), (qb, .inl (cq, 16, .inr (.inr (.inr (.inr (va_up bq ur_7 (some r_6))))))), (r_6, .inr (4, [.ref ur_6.1, .int 1, .int (-1), .int p1, .int (lbu p2)]))]) hP hD [0, 1, 2] [3, 4, 5] rfl rfl (by decide) (by decide) hk1 hFc hP1 hD1
      clear hk1 hz1 ht hPc hDc hKc hFc
      generalize H1 = H at hP hS ⊢
      replace hP : va_P (dC, dI) vwCl [(ur_6.1, .inr (5, [.ref ur_6.2.1, .ref ur_6.2.2.1, .int (nI 0), .int 0])), (ur_6.2.1, .inl (ur_6.2.2.2.1, 16, .inl (fun _ => (0 : Int32)))), (ur_6.2.2.1, .inl (ur_6.2.2.2.2, 16, .inl (fun _ => (0 : Int32)))), (a0, .inr (7, [.ref qb])), (qb, .inl (cq, 16, .inr (.inr (.inr (.inr (va_up bq ur_7 (some r_6))))))), (r_6, .inr (4, [.ref ur_6.1, .int 1, .int (-1), .int p1, .int (lbu p2)]))] H := hP
      replace hD : va_D A [(ur_6.1, .inr (5, [.ref ur_6.2.1, .ref ur_6.2.2.1, .int (nI 0), .int 0])), (ur_6.2.1, .inl (ur_6.2.2.2.1, 16, .inl (fun _ => (0 : Int32)))), (ur_6.2.2.1, .inl (ur_6.2.2.2.2, 16, .inl (fun _ => (0 : Int32)))), (a0, .inr (7, [.ref qb])), (qb, .inl (cq, 16, .inr (.inr (.inr (.inr (va_up bq ur_7 (some r_6))))))), (r_6, .inr (4, [.ref ur_6.1, .int 1, .int (-1), .int p1, .int (lbu p2)]))] := hD
      refine W.widen (k := 6) (n := 49) (Nat.le_of_ble_eq_true rfl) (Nat.le_of_ble_eq_true rfl) ?_
      refine W.eq (g2 := F0 m 66 ls [.int r_7]) rfl ?_
      have hP9 := hP.sub (ws' := [(a0, .inr (7, [.ref qb])), (qb, .inl (cq, 16, .inr (.inr (.inr (.inr (va_up bq ur_7 (some r_6))))))), (r_6, .inr (4, [.ref ur_6.1, .int 1, .int (-1), .int p1, .int (lbu p2)])), (ur_6.1, .inr (5, [.ref ur_6.2.1, .ref ur_6.2.2.1, .int (nI 0), .int 0])), (ur_6.2.1, .inl (ur_6.2.2.2.1, 16, .inl (fun _ => (0 : Int32)))), (ur_6.2.2.1, .inl (ur_6.2.2.2.2, 16, .inl (fun _ => (0 : Int32))))]) [3, 4, 5, 0, 1, 2] rfl
      have hD9 := hD.sub (ws' := [(a0, .inr (7, [.ref qb])), (qb, .inl (cq, 16, .inr (.inr (.inr (.inr (va_up bq ur_7 (some r_6))))))), (r_6, .inr (4, [.ref ur_6.1, .int 1, .int (-1), .int p1, .int (lbu p2)])), (ur_6.1, .inr (5, [.ref ur_6.2.1, .ref ur_6.2.2.1, .int (nI 0), .int 0])), (ur_6.2.1, .inl (ur_6.2.2.2.1, 16, .inl (fun _ => (0 : Int32)))), (ur_6.2.2.1, .inl (ur_6.2.2.2.2, 16, .inl (fun _ => (0 : Int32))))]) [3, 4, 5, 0, 1, 2] (by decide) rfl
      have hK9 := hK.sub (tys' := [(cq, .object "KeyAtlas$Body"), (ur_6.2.2.2.1, .int), (ur_6.2.2.2.2, .int)]) [0, 1, 2] rfl
      refine W.widen (k := 6) (n := 49) (Nat.le_of_ble_eq_true rfl) (Nat.le_of_ble_eq_true rfl) ?_
      refine vx_ret ?_
      exact W.iret (v := r_7) hx hb hr (fun t ht hW => ⟨⟨r_7, (ur_7, r_6, ur_6.1, ur_6.2.1, ur_6.2.2.1, ur_6.2.2.2.1, ur_6.2.2.2.2), rfl, ⟨jr_7.1, jr_7.2.1, jr_7.2.2.1, jr_7.2.2.2, hrg⟩, by rw [ht]; exact hP9, va_K.moved hW.alike hK9, hD9⟩, hS.F ht⟩) hS.2.2 dX7_make_66
  ·
    have ic_5 : r_4.toInt = 0 := tx_eq rfl (by decide) c_5
    have hP9 := hP.sub (ws' := [(a0, .inr (7, [.ref qb])), (qb, .inl (cq, 16, .inr (.inr (.inr (.inr bq)))))]) [0, 1] rfl
    have hD9 := hD.sub (ws' := [(a0, .inr (7, [.ref qb])), (qb, .inl (cq, 16, .inr (.inr (.inr (.inr bq)))))]) [0, 1] (by decide) rfl
    have hK9 := hK.sub (tys' := [(cq, .object "KeyAtlas$Body")]) [0] rfl
    obtain ⟨sa, hsa⟩ := hN.stX7_31
    exact vx_throwS hx hb hlt (own := RX7) (cls := "java/lang/IllegalArgumentException") (text := "a or b out of range") (names := ["java/lang/RuntimeException", "java/lang/Exception"]) hown (by decide +kernel) (by decide +kernel) hw0_ hw1_ hsa (tx_hat hN.xw (fun w h => hts w (at_X7_make_46 w h)) ng_RX7_19) og_RX7_19 hZ.1 hZ.2 hS (by rw [hml]; exact hl.1) dX7_make_46 dX7_make_49 dX7_make_50 dX7_make_52 dX7_make_55 (fun x hx9 => (htab x hx9).elim) (Nat.le_of_ble_eq_true rfl) (Nat.le_of_ble_eq_true rfl) (Nat.le_of_ble_eq_true rfl) (Nat.le_of_ble_eq_true rfl) hlocks (fun t hvm hz hq => ⟨(), trivial, ⟨Or.inr (Or.inl ⟨rfl, tx_rn jr_4 ic_5⟩), hP9.kept (fun k x hx => hq x.1 (hP9 k x hx).lt), va_K.moved hvm hK9, hD9⟩, ⟨Nat.le_trans hS.1 hz, fun q h1 h2 => (hq q (Nat.lt_of_lt_of_le h1 hS.1)).trans (hS.2.1 q h1 h2)⟩⟩) hS.2.2 (Nat.le_of_ble_eq_true rfl) (Nat.le_of_ble_eq_true rfl)
set_option maxHeartbeats 4000000 in
set_option maxRecDepth 100000 in
/-- make, S -/
theorem c_X7_make_S (l : Launch) (hlt : l.stackTraces = false) (dC : Nat → ClassId) (dI : Nat → Nat → Nat) (sz : Nat) (a0 : Nat) (qb : Nat) (cq : ClassId) (bq : Nat → Option Nat) (p1 : Int32) (p2 : Int32) : vx_Met l yX7_make wqX7_make ({ frames := 7, cells := 6, slots := 49, locals := 140 }) (va_Pc [.ref a0, .int 2, .int p1, .int p2] (pk_PreX (dC, dI) [(a0, .inr (7, [.ref qb])), (qb, .inl (cq, 16, .inr (.inr (.inr (.inr bq)))))] [(cq, .object "KeyAtlas$Body")] sz)) (va_Qi (fun (r : Int32) (u : Nat × Nat × Nat × Nat × Nat × ClassId × ClassId) => r = nI u.1 ∧ u.1 < 16 ∧ bq u.1 = none ∧ (∀ j : Nat, j < u.1 → ¬ bq j = none) ∧ rgS p1 p2) (fun (u : Nat × Nat × Nat × Nat × Nat × ClassId × ClassId) (t : State) => va_P (dC, dI) vwCl [(a0, .inr (7, [.ref qb])), (qb, .inl (cq, 16, .inr (.inr (.inr (.inr (va_up bq u.1 (some u.2.1))))))), (u.2.1, .inr (6, [.ref u.2.2.1, .int 2, .int (-1), .int p1, .int 0, .long (-9223372036854775808), .long 9223372036854775807])), (u.2.2.1, .inr (5, [.ref u.2.2.2.1, .ref u.2.2.2.2.1, .int (nI 0), .int 0])), (u.2.2.2.1, .inl (u.2.2.2.2.2.1, 16, .inl (fun _ => (0 : Int32)))), (u.2.2.2.2.1, .inl (u.2.2.2.2.2.2, 16, .inl (fun _ => (0 : Int32))))] t.heap ∧ va_K (dC, dI) vwCl [(cq, .object "KeyAtlas$Body"), (u.2.2.2.2.2.1, .int), (u.2.2.2.2.2.2, .int)] t ∧ va_D (va_A [(a0, .inr (7, [.ref qb])), (qb, .inl (cq, 16, .inr (.inr (.inr (.inr bq)))))] sz) [(a0, .inr (7, [.ref qb])), (qb, .inl (cq, 16, .inr (.inr (.inr (.inr (va_up bq u.1 (some u.2.1))))))), (u.2.1, .inr (6, [.ref u.2.2.1, .int 2, .int (-1), .int p1, .int 0, .long (-9223372036854775808), .long 9223372036854775807])), (u.2.2.1, .inr (5, [.ref u.2.2.2.1, .ref u.2.2.2.2.1, .int (nI 0), .int 0])), (u.2.2.2.1, .inl (u.2.2.2.2.2.1, 16, .inl (fun _ => (0 : Int32)))), (u.2.2.2.2.1, .inl (u.2.2.2.2.2.2, 16, .inl (fun _ => (0 : Int32))))]) (va_A [(a0, .inr (7, [.ref qb])), (qb, .inl (cq, 16, .inr (.inr (.inr (.inr bq)))))] sz)) (vx_X (fun _ : Unit => True) (fun (E : String) (_ : Unit) (t : State) => ((E = "java/lang/NegativeArraySizeException" ∧ False) ∨ (E = "java/lang/IllegalArgumentException" ∧ ¬ rgS p1 p2) ∨ (E = "java/lang/IllegalStateException" ∧ rgS p1 p2 ∧ ∀ j : Nat, j < 16 → ¬ bq j = none)) ∧ va_P (dC, dI) vwCl [(a0, .inr (7, [.ref qb])), (qb, .inl (cq, 16, .inr (.inr (.inr (.inr bq)))))] t.heap ∧ va_K (dC, dI) vwCl [(cq, .object "KeyAtlas$Body")] t ∧ va_D (va_A [(a0, .inr (7, [.ref qb])), (qb, .inl (cq, 16, .inr (.inr (.inr (.inr bq)))))] sz) [(a0, .inr (7, [.ref qb])), (qb, .inl (cq, 16, .inr (.inr (.inr (.inr bq)))))]) (va_A [(a0, .inr (7, [.ref qb])), (qb, .inl (cq, 16, .inr (.inr (.inr (.inr bq)))))] sz)) 6 49 (va_A [(a0, .inr (7, [.ref qb])), (qb, .inl (cq, 16, .inr (.inr (.inr (.inr bq)))))] sz) := by
  refine vx_ofW (cc := cX7_make) (maxL := 4) (ret := (some .int)) (by decide) rfl ?_
  intro p e s m args below meth c s₁ B hml htab hv
  obtain ⟨rfl, hsz, hP, hK, hD0, hN, hZ⟩ := hv
  have hx := B.exec
  have hb := B.bytes
  have hr := B.returns
  have hts := atoms_spec (ws := wqX7_make) B.pre
  have hown : s.vm.findClass RX7 = some m.cls := findClass_of_methodNamed B.named
  have hlocks := B.notSynchronized
  subst hsz
  have hD := hD0.self (sz := s.heap.size)
  generalize hAe : va_A [(a0, .inr (7, [.ref qb])), (qb, .inl (cq, 16, .inr (.inr (.inr (.inr bq)))))] s.heap.size = A at hZ hD ⊢
  have hA : ∀ q : Nat, s.heap.size ≤ q → A q := fun q h => by rw [← hAe]; exact Or.inr h
  have hS : va_S A s.heap s.heap [] := va_S.rf
  have hP : va_P (dC, dI) vwCl [(a0, .inr (7, [.ref qb])), (qb, .inl (cq, 16, .inr (.inr (.inr (.inr bq)))))] s.heap := hP
  have hl := lv_entry ([.ref a0, .int 2, .int p1, .int p2]) (n := 4) (Nat.le_of_ble_eq_true rfl)
  rw [lg_entry_eq]
  generalize (lg_sl ([.ref a0, .int 2, .int p1, .int p2]) ++ List.replicate (4 - (lg_sl ([.ref a0, .int 2, .int p1, .int p2])).length) Slot.unset).toArray = ls at hl ⊢
  have hl : lv_has ls 4 [(0, .ref a0), (1, .int 2), (2, .int p1), (3, .int p2)] := hl
  have hw0_ := hts (.classLink RX7 15 "java/lang/IllegalArgumentException") (List.mem_of_getElem? (l := wqX7_make) (i := 1) rfl)
  have hw1_ := hts (.initialized "java/lang/IllegalArgumentException") (List.mem_of_getElem? (l := wqX7_make) (i := 2) rfl)
  refine lv_iload_n hx hb dX7_make_0 rfl (lv_at hl 1 rfl) ?_
  refine lv_if_lt (tgt := 9) hx hb dX7_make_1 (by decide) (fun c_1 => absurd c_1 (by decide)) (fun c_1 => ?_)
  refine lv_iload_n hx hb dX7_make_4 rfl (lv_at hl 1 rfl) ?_
  refine lv_iconst (v := 2) hx hb dX7_make_5 (by decide) ?_
  refine lv_icmp_le (tgt := 19) hx hb dX7_make_6 (by decide) (fun c_2 => ?_) (fun c_2 => absurd c_2 (by decide))
  refine lv_iload_n hx hb dX7_make_19 rfl (lv_at hl 1 rfl) ?_
  refine lv_if_ne (tgt := 37) hx hb dX7_make_20 (by decide) (fun c_3 => ?_) (fun c_3 => absurd c_3 (by decide))
  refine lv_iload_n hx hb dX7_make_37 rfl (lv_at hl 1 rfl) ?_
  refine lv_iload_n hx hb dX7_make_38 rfl (lv_at hl 2 rfl) ?_
  refine lv_iload_n hx hb dX7_make_39 rfl (lv_at hl 3 rfl) ?_
  have hPc := hP.sub (ws' := []) [] rfl
  have hKc := hK.sub (tys' := []) [] rfl
  refine ro_calli (va_runS (As := [.int 2, .int p1, .int p2]) (rest := []) ⟨hx, hb, hml, hown, hts⟩ (c_X7_areInRange_S l  dC dI s.heap.size p1 p2) (va_cwS 3 hts gX7_make_X7_areInRange rfl rfl rfl (by decide +kernel) ⟨(Nat.le_of_ble_eq_true rfl), (Nat.le_of_ble_eq_true rfl)⟩) ⟨pk_blindR, pk_callR hPc hKc⟩ rfl rfl hl.1 rfl (lv_room (Nat.le_of_ble_eq_true rfl)) dX7_make_40 ⟨(Nat.le_of_ble_eq_true rfl), (Nat.le_of_ble_eq_true rfl)⟩) (fun r_4 ur_4 hw => ?_)
  clear hPc hKc
  try dsimp only at hw
  have jr_4 := hw
  refine W.eq (g2 := F0 m 43 ls [.int r_4]) rfl ?_
  refine lv_if_ne (tgt := 56) hx hb dX7_make_43 (by decide) (fun c_5 => ?_) (fun c_5 => ?_)
  ·
    have ic_5 : ¬ r_4.toInt = 0 := tx_ne rfl (by decide) c_5
    refine lv_aload_n hx hb dX7_make_56 rfl (lv_at hl 0 rfl) ?_
    refine lv_iload_n hx hb dX7_make_57 rfl (lv_at hl 1 rfl) ?_
    refine lv_iload_n hx hb dX7_make_58 rfl (lv_at hl 2 rfl) ?_
    refine lv_iload_n hx hb dX7_make_59 rfl (lv_at hl 3 rfl) ?_
    have hrg := tx_ry jr_4 ic_5
    have hPc := hP.sub (ws' := []) [] rfl
    have hDc := hD.sub (ws' := []) [] (by decide) rfl
    have hKc := hK.sub (tys' := []) [] rfl
    have hFc := va_free (wc := []) hD hS hA [] rfl
    have hZc := (hZ.kept hS.2.1).narrow hFc
    refine va_callr (va_runS (As := [.int 2, .int p1, .int p2]) (rest := [.ref a0]) ⟨hx, hb, hml, hown, hts⟩ (c_X7_newMap_S l hlt dC dI s.heap.size p1 p2 hrg) (va_cwS 3 hts gX7_make_X7_newMap rfl rfl rfl (by decide +kernel) ⟨(Nat.le_of_ble_eq_true rfl), (Nat.le_of_ble_eq_true rfl)⟩) ⟨pk_blindX, pk_callX hPc hKc hDc hN hZc⟩ rfl rfl hl.1 rfl (lv_room (Nat.le_of_ble_eq_true rfl)) dX7_make_60 ⟨(Nat.le_of_ble_eq_true rfl), (Nat.le_of_ble_eq_true rfl)⟩) hS (fun q _ h => hFc q h) hFc (fun ur_6 r_6 t H1 locs ht hvm hw hB hz1 hk1 hS => ?_)
    try dsimp only at hw
    have jr_6 := hw
    obtain ⟨hP1, hK1, hD1⟩ := hB
    rw [ht] at hP1
    have hK1 := va_K.moved hvm.symm hK1
    obtain ⟨hP, hD⟩ := va_join (wr := [(a0, .inr (7, [.ref qb])), (qb, .inl (cq, 16, .inr (.inr (.inr (.inr bq)))))]) (w1 := [(r_6, .inr (6, [.ref ur_6.1, .int 2, .int (-1), .int p1, .int 0, .long (-9223372036854775808), .long 9223372036854775807])), (ur_6.1, .inr (5, [.ref ur_6.2.1, .ref ur_6.2.2.1, .int (nI 0), .int 0])), (ur_6.2.1, .inl (ur_6.2.2.2.1, 16, .inl (fun _ => (0 : Int32)))), (ur_6.2.2.1, .inl (ur_6.2.2.2.2, 16, .inl (fun _ => (0 : Int32))))]) hP hD [] [0, 1] rfl rfl (by decide) (by decide) hk1 hFc hP1 hD1
    have hK := hK.app hK1
    have hK : va_K (dC, dI) vwCl [(cq, .object "KeyAtlas$Body"), (ur_6.2.2.2.1, .int), (ur_6.2.2.2.2, .int)] s := hK
    clear hk1 hz1 ht hPc hDc hKc hFc
    generalize H1 = H at hP hS ⊢
    replace hP : va_P (dC, dI) vwCl [(a0, .inr (7, [.ref qb])), (qb, .inl (cq, 16, .inr (.inr (.inr (.inr bq))))), (r_6, .inr (6, [.ref ur_6.1, .int 2, .int (-1), .int p1, .int 0, .long (-9223372036854775808), .long 9223372036854775807])), (ur_6.1, .inr (5, [.ref ur_6.2.1, .ref ur_6.2.2.1, .int (nI 0), .int 0])), (ur_6.2.1, .inl (ur_6.2.2.2.1, 16, .inl (fun _ => (0 : Int32)))), (ur_6.2.2.1, .inl (ur_6.2.2.2.2, 16, .inl (fun _ => (0 : Int32))))] H := hP
    replace hD : va_D A [(a0, .inr (7, [.ref qb])), (qb, .inl (cq, 16, .inr (.inr (.inr (.inr bq))))), (r_6, .inr (6, [.ref ur_6.1, .int 2, .int (-1), .int p1, .int 0, .long (-9223372036854775808), .long 9223372036854775807])), (ur_6.1, .inr (5, [.ref ur_6.2.1, .ref ur_6.2.2.1, .int (nI 0), .int 0])), (ur_6.2.1, .inl (ur_6.2.2.2.1, 16, .inl (fun _ => (0 : Int32)))), (ur_6.2.2.1, .inl (ur_6.2.2.2.2, 16, .inl (fun _ => (0 : Int32))))] := hD
    refine W.widen (k := 5) (n := 43) (Nat.le_of_ble_eq_true rfl) (Nat.le_of_ble_eq_true rfl) ?_
    refine W.eq (g2 := F0 m 63 ls [.ref r_6, .ref a0]) rfl ?_
    have hPc := hP.sub (ws' := [(a0, .inr (7, [.ref qb])), (qb, .inl (cq, 16, .inr (.inr (.inr (.inr bq))))), (r_6, .inr (6, [.ref ur_6.1, .int 2, .int (-1), .int p1, .int 0, .long (-9223372036854775808), .long 9223372036854775807]))]) [0, 1, 2] rfl
    have hDc := hD.sub (ws' := [(a0, .inr (7, [.ref qb])), (qb, .inl (cq, 16, .inr (.inr (.inr (.inr bq))))), (r_6, .inr (6, [.ref ur_6.1, .int 2, .int (-1), .int p1, .int 0, .long (-9223372036854775808), .long 9223372036854775807]))]) [0, 1, 2] (by decide) rfl
    have hKc := hK.sub (tys' := [(cq, .object "KeyAtlas$Body")]) [0] rfl
    have hFc := va_free (wc := [(a0, .inr (7, [.ref qb])), (qb, .inl (cq, 16, .inr (.inr (.inr (.inr bq))))), (r_6, .inr (6, [.ref ur_6.1, .int 2, .int (-1), .int p1, .int 0, .long (-9223372036854775808), .long 9223372036854775807]))]) hD hS hA [0, 1, 2] rfl
    have hZc := (hZ.kept hS.2.1).narrow hFc
    refine vx_calli (vx_runV (As := [.ref r_6]) (rest := []) ⟨hx, hb, hml, hown, hts⟩ (c_X7_settle_S l hlt dC dI H.size a0 qb cq bq r_6 ([.ref ur_6.1, .int 2, .int (-1), .int p1, .int 0, .long (-9223372036854775808), .long 9223372036854775807])) (cwV 1 hts gX7_make_X7_settle rfl rfl rfl (by decide +kernel) ⟨(Nat.le_of_ble_eq_true rfl), (Nat.le_of_ble_eq_true rfl)⟩) ⟨pk_blindX, va_recv hKc hPc (ci := 7) (q0 := 0) rfl rfl, pk_callX hPc hKc hDc hN hZc⟩ rfl rfl hl.1 rfl (lv_room (Nat.le_of_ble_eq_true rfl)) dX7_make_63 ⟨(Nat.le_of_ble_eq_true rfl), (Nat.le_of_ble_eq_true rfl)⟩) hS (fun q _ h => hFc q h) hFc (fun q _ h => hFc q h) (fun E ce q9 u9 t H1 locs ht hvm hw hB hz1 hk1 hS hce hcv hcl => ?_) (fun r_7 ur_7 t H1 locs ht hvm hw hB hz1 hk1 hS => ?_)
    ·
      try dsimp only at hB
      have hD9 := hD.sub (ws' := [(a0, .inr (7, [.ref qb])), (qb, .inl (cq, 16, .inr (.inr (.inr (.inr bq)))))]) [0, 1] (by decide) rfl
      obtain ⟨⟨hE8, hf8⟩, hP8, hK8, -⟩ := hB
      have hP8 := hP8.sub (ws' := [(a0, .inr (7, [.ref qb])), (qb, .inl (cq, 16, .inr (.inr (.inr (.inr bq)))))]) [0, 1] rfl
      exact vx_out (fun x hx9 => (htab x hx9).elim) hlocks hce hcv hcl (fun t9 ht9 hal9 => ⟨(), trivial, ⟨Or.inr (Or.inr ⟨hE8, hrg, hf8⟩), by rw [ht9, ← ht]; exact hP8, va_K.moved (hvm.symm.trans hal9) hK8, hD9⟩, hS.F ht9⟩) hS.2.2 (by omega) (by omega)
    ·
      try dsimp only at hw
      have jr_7 := hw
      obtain ⟨hP1, hK1, hD1⟩ := hB
      rw [ht] at hP1
      have hK1 := va_K.moved hvm.symm hK1
      obtain ⟨hP, hD⟩ := va_join (wr := [(ur_6.1, .inr (5, [.ref ur_6.2.1, .ref ur_6.2.2.1, .int (nI 0), .int 0])), (ur_6.2.1, .inl (ur_6.2.2.2.1, 16, .inl (fun _ => (0 : Int32)))), (ur_6.2.2.1, .inl (ur_6.2.2.2.2, 16, .inl (fun _ => (0 : Int32))))]) (w1 := [(a0, .inr (7, [.ref qb])), (qb, .inl (cq, 16, .inr (.inr (.inr (.inr (va_up bq ur_7 (some r_6))))))), (r_6, .inr (6, [.ref ur_6.1, .int 2, .int (-1), .int p1, .int 0, .long (-9223372036854775808), .long 9223372036854775807]))]) hP hD [0, 1, 2] [3, 4, 5] rfl rfl (by decide) (by decide) hk1 hFc hP1 hD1
      clear hk1 hz1 ht hPc hDc hKc hFc
      generalize H1 = H at hP hS ⊢
      replace hP : va_P (dC, dI) vwCl [(ur_6.1, .inr (5, [.ref ur_6.2.1, .ref ur_6.2.2.1, .int (nI 0), .int 0])), (ur_6.2.1, .inl (ur_6.2.2.2.1, 16, .inl (fun _ => (0 : Int32)))), (ur_6.2.2.1, .inl (ur_6.2.2.2.2, 16, .inl (fun _ => (0 : Int32)))), (a0, .inr (7, [.ref qb])), (qb, .inl (cq, 16, .inr (.inr (.inr (.inr (va_up bq ur_7 (some r_6))))))), (r_6, .inr (6, [.ref ur_6.1, .int 2, .int (-1), .int p1, .int 0, .long (-9223372036854775808), .long 9223372036854775807]))] H := hP
      replace hD : va_D A [(ur_6.1, .inr (5, [.ref ur_6.2.1, .ref ur_6.2.2.1, .int (nI 0), .int 0])), (ur_6.2.1, .inl (ur_6.2.2.2.1, 16, .inl (fun _ => (0 : Int32)))), (ur_6.2.2.1, .inl (ur_6.2.2.2.2, 16, .inl (fun _ => (0 : Int32)))), (a0, .inr (7, [.ref qb])), (qb, .inl (cq, 16, .inr (.inr (.inr (.inr (va_up bq ur_7 (some r_6))))))), (r_6, .inr (6, [.ref ur_6.1, .int 2, .int (-1), .int p1, .int 0, .long (-9223372036854775808), .long 9223372036854775807]))] := hD
      refine W.widen (k := 6) (n := 49) (Nat.le_of_ble_eq_true rfl) (Nat.le_of_ble_eq_true rfl) ?_
      refine W.eq (g2 := F0 m 66 ls [.int r_7]) rfl ?_
      have hP9 := hP.sub (ws' := [(a0, .inr (7, [.ref qb])), (qb, .inl (cq, 16, .inr (.inr (.inr (.inr (va_up bq ur_7 (some r_6))))))), (r_6, .inr (6, [.ref ur_6.1, .int 2, .int (-1), .int p1, .int 0, .long (-9223372036854775808), .long 9223372036854775807])), (ur_6.1, .inr (5, [.ref ur_6.2.1, .ref ur_6.2.2.1, .int (nI 0), .int 0])), (ur_6.2.1, .inl (ur_6.2.2.2.1, 16, .inl (fun _ => (0 : Int32)))), (ur_6.2.2.1, .inl (ur_6.2.2.2.2, 16, .inl (fun _ => (0 : Int32))))]) [3, 4, 5, 0, 1, 2] rfl
      have hD9 := hD.sub (ws' := [(a0, .inr (7, [.ref qb])), (qb, .inl (cq, 16, .inr (.inr (.inr (.inr (va_up bq ur_7 (some r_6))))))), (r_6, .inr (6, [.ref ur_6.1, .int 2, .int (-1), .int p1, .int 0, .long (-9223372036854775808), .long 9223372036854775807])), (ur_6.1, .inr (5, [.ref ur_6.2.1, .ref ur_6.2.2.1, .int (nI 0), .int 0])), (ur_6.2.1, .inl (ur_6.2.2.2.1, 16, .inl (fun _ => (0 : Int32)))), (ur_6.2.2.1, .inl (ur_6.2.2.2.2, 16, .inl (fun _ => (0 : Int32))))]) [3, 4, 5, 0, 1, 2] (by decide) rfl
      have hK9 := hK.sub (tys' := [(cq, .object "KeyAtlas$Body"), (ur_6.2.2.2.1, .int), (ur_6.2.2.2.2, .int)]) [0, 1, 2] rfl
      refine W.widen (k := 6) (n := 49) (Nat.le_of_ble_eq_true rfl) (Nat.le_of_ble_eq_true rfl) ?_
      refine vx_ret ?_
      exact W.iret (v := r_7) hx hb hr (fun t ht hW => ⟨⟨r_7, (ur_7, r_6, ur_6.1, ur_6.2.1, ur_6.2.2.1, ur_6.2.2.2.1, ur_6.2.2.2.2), rfl, ⟨jr_7.1, jr_7.2.1, jr_7.2.2.1, jr_7.2.2.2, hrg⟩, by rw [ht]; exact hP9, va_K.moved hW.alike hK9, hD9⟩, hS.F ht⟩) hS.2.2 dX7_make_66
  ·
    have ic_5 : r_4.toInt = 0 := tx_eq rfl (by decide) c_5
    have hP9 := hP.sub (ws' := [(a0, .inr (7, [.ref qb])), (qb, .inl (cq, 16, .inr (.inr (.inr (.inr bq)))))]) [0, 1] rfl
    have hD9 := hD.sub (ws' := [(a0, .inr (7, [.ref qb])), (qb, .inl (cq, 16, .inr (.inr (.inr (.inr bq)))))]) [0, 1] (by decide) rfl
    have hK9 := hK.sub (tys' := [(cq, .object "KeyAtlas$Body")]) [0] rfl
    obtain ⟨sa, hsa⟩ := hN.stX7_31
    exact vx_throwS hx hb hlt (own := RX7) (cls := "java/lang/IllegalArgumentException") (text := "a or b out of range") (names := ["java/lang/RuntimeException", "java/lang/Exception"]) hown (by decide +kernel) (by decide +kernel) hw0_ hw1_ hsa (tx_hat hN.xw (fun w h => hts w (at_X7_make_46 w h)) ng_RX7_19) og_RX7_19 hZ.1 hZ.2 hS (by rw [hml]; exact hl.1) dX7_make_46 dX7_make_49 dX7_make_50 dX7_make_52 dX7_make_55 (fun x hx9 => (htab x hx9).elim) (Nat.le_of_ble_eq_true rfl) (Nat.le_of_ble_eq_true rfl) (Nat.le_of_ble_eq_true rfl) (Nat.le_of_ble_eq_true rfl) hlocks (fun t hvm hz hq => ⟨(), trivial, ⟨Or.inr (Or.inl ⟨rfl, tx_rn jr_4 ic_5⟩), hP9.kept (fun k x hx => hq x.1 (hP9 k x hx).lt), va_K.moved hvm hK9, hD9⟩, ⟨Nat.le_trans hS.1 hz, fun q h1 h2 => (hq q (Nat.lt_of_lt_of_le h1 hS.1)).trans (hS.2.1 q h1 h2)⟩⟩) hS.2.2 (Nat.le_of_ble_eq_true rfl) (Nat.le_of_ble_eq_true rfl)
set_option maxHeartbeats 4000000 in
set_option maxRecDepth 100000 in
/-- make, no kind -/
theorem c_X7_make_no (l : Launch) (hlt : l.stackTraces = false) (dC : Nat → ClassId) (dI : Nat → Nat → Nat) (sz : Nat) (a0 : Nat) (qb : Nat) (cq : ClassId) (bq : Nat → Option Nat) (p0 : Int32) (p1 : Int32) (p2 : Int32) (hk0 : p0.toInt < 0 ∨ 2 < p0.toInt) : vx_Met l yX7_make wqX7_make ({ frames := 6, cells := 1, slots := 6, locals := 100 }) (va_Pc [.ref a0, .int p0, .int p1, .int p2] (pk_PreXR (dC, dI) [] [] sz)) (va_Qi (fun (_ : Int32) (_ : Unit) => False) (fun _ (t : State) => t.heap.size = sz) (roN sz)) (vx_X (fun _ : Unit => True) (fun (E : String) (_ : Unit) (t : State) => E = "java/lang/IllegalArgumentException") (roN sz)) 1 6 (roN sz) := by
  refine vx_ofW (cc := cX7_make) (maxL := 4) (ret := (some .int)) (by decide) rfl ?_
  intro p e s m args below meth c s₁ B hml htab hv
  obtain ⟨rfl, hsz, hP, hK, hN, hZ⟩ := hv
  have hx := B.exec
  have hb := B.bytes
  have hr := B.returns
  have hts := atoms_spec (ws := wqX7_make) B.pre
  have hown : s.vm.findClass RX7 = some m.cls := findClass_of_methodNamed B.named
  have hlocks := B.notSynchronized
  subst hsz
  generalize hAe : roN s.heap.size = A at hZ ⊢
  have hA : ∀ q : Nat, s.heap.size ≤ q → A q := fun q h => by rw [← hAe]; exact h
  have hS : va_S A s.heap s.heap [] := va_S.rf
  have hP : va_P (dC, dI) vwCl [] s.heap := hP
  have hl := lv_entry ([.ref a0, .int p0, .int p1, .int p2]) (n := 4) (Nat.le_of_ble_eq_true rfl)
  rw [lg_entry_eq]
  generalize (lg_sl ([.ref a0, .int p0, .int p1, .int p2]) ++ List.replicate (4 - (lg_sl ([.ref a0, .int p0, .int p1, .int p2])).length) Slot.unset).toArray = ls at hl ⊢
  have hl : lv_has ls 4 [(0, .ref a0), (1, .int p0), (2, .int p1), (3, .int p2)] := hl
  have hw0_ := hts (.classLink RX7 15 "java/lang/IllegalArgumentException") (List.mem_of_getElem? (l := wqX7_make) (i := 1) rfl)
  have hw1_ := hts (.initialized "java/lang/IllegalArgumentException") (List.mem_of_getElem? (l := wqX7_make) (i := 2) rfl)
  refine lv_iload_n hx hb dX7_make_0 rfl (lv_at hl 1 rfl) ?_
  refine lv_if_lt (tgt := 9) hx hb dX7_make_1 (by decide) (fun c_1 => ?_) (fun c_1 => ?_)
  ·
    have ic_1 : p0.toInt < 0 := tx_lt rfl (by decide) c_1
    obtain ⟨sa, hsa⟩ := hN.stX7_17
    exact vx_throwS hx hb hlt (own := RX7) (cls := "java/lang/IllegalArgumentException") (text := "no such kind") (names := ["java/lang/RuntimeException", "java/lang/Exception"]) hown (by decide +kernel) (by decide +kernel) hw0_ hw1_ hsa (tx_hat hN.xw (fun w h => hts w (at_X7_make_9 w h)) ng_RX7_19) og_RX7_19 hZ.1 hZ.2 hS (by rw [hml]; exact hl.1) dX7_make_9 dX7_make_12 dX7_make_13 dX7_make_15 dX7_make_18 (fun x hx9 => (htab x hx9).elim) (Nat.le_of_ble_eq_true rfl) (Nat.le_of_ble_eq_true rfl) (Nat.le_of_ble_eq_true rfl) (Nat.le_of_ble_eq_true rfl) hlocks (fun t hvm hz hq => ⟨(), trivial, rfl, ⟨Nat.le_trans hS.1 hz, fun q h1 h2 => (hq q (Nat.lt_of_lt_of_le h1 hS.1)).trans (hS.2.1 q h1 h2)⟩⟩) hS.2.2 (Nat.le_of_ble_eq_true rfl) (Nat.le_of_ble_eq_true rfl)
  ·
    have ic_1 : 0 ≤ p0.toInt := tx_nlt rfl (by decide) c_1
    refine lv_iload_n hx hb dX7_make_4 rfl (lv_at hl 1 rfl) ?_
    refine lv_iconst (v := 2) hx hb dX7_make_5 (by decide) ?_
    refine lv_icmp_le (tgt := 19) hx hb dX7_make_6 (by decide) (fun c_2 => ?_) (fun c_2 => ?_)
    ·
      have ic_2 : p0.toInt ≤ 2 := tx_le rfl (by decide) c_2
      exfalso
      omega
    ·
      have ic_2 : 2 < p0.toInt := tx_nle rfl (by decide) c_2
      obtain ⟨sa, hsa⟩ := hN.stX7_17
      exact vx_throwS hx hb hlt (own := RX7) (cls := "java/lang/IllegalArgumentException") (text := "no such kind") (names := ["java/lang/RuntimeException", "java/lang/Exception"]) hown (by decide +kernel) (by decide +kernel) hw0_ hw1_ hsa (tx_hat hN.xw (fun w h => hts w (at_X7_make_9 w h)) ng_RX7_19) og_RX7_19 hZ.1 hZ.2 hS (by rw [hml]; exact hl.1) dX7_make_9 dX7_make_12 dX7_make_13 dX7_make_15 dX7_make_18 (fun x hx9 => (htab x hx9).elim) (Nat.le_of_ble_eq_true rfl) (Nat.le_of_ble_eq_true rfl) (Nat.le_of_ble_eq_true rfl) (Nat.le_of_ble_eq_true rfl) hlocks (fun t hvm hz hq => ⟨(), trivial, rfl, ⟨Nat.le_trans hS.1 hz, fun q h1 h2 => (hq q (Nat.lt_of_lt_of_le h1 hS.1)).trans (hS.2.1 q h1 h2)⟩⟩) hS.2.2 (Nat.le_of_ble_eq_true rfl) (Nat.le_of_ble_eq_true rfl)
