theorem dX7_count_0 : decode cX7_count 0 = .ok (.iload_n 1, 1) := by decide +kernel
theorem dX7_count_1 : decode cX7_count 1 = .ok (.ifCond .ne 8, 3) := by decide +kernel
theorem dX7_count_9 : decode cX7_count 9 = .ok (.iload_n 1, 1) := by decide +kernel
theorem dX7_count_10 : decode cX7_count 10 = .ok (.bipush 10, 2) := by decide +kernel
theorem dX7_count_12 : decode cX7_count 12 = .ok (.if_icmp .lt 18, 3) := by decide +kernel
theorem dX7_count_30 : decode cX7_count 30 = .ok (.iload_n 1, 1) := by decide +kernel
theorem dX7_count_31 : decode cX7_count 31 = .ok (.bipush 30, 2) := by decide +kernel
theorem dX7_count_33 : decode cX7_count 33 = .ok (.if_icmp .lt 18, 3) := by decide +kernel
theorem dX7_count_51 : decode cX7_count 51 = .ok (.new 15, 3) := by decide +kernel
theorem dX7_count_54 : decode cX7_count 54 = .ok (.dup, 1) := by decide +kernel
theorem dX7_count_55 : decode cX7_count 55 = .ok (.ldc 221, 2) := by decide +kernel
theorem dX7_count_57 : decode cX7_count 57 = .ok (.invokespecial 19, 3) := by decide +kernel
theorem dX7_count_60 : decode cX7_count 60 = .ok (.athrow, 1) := by decide +kernel
theorem dX7_count_36 : decode cX7_count 36 = .ok (.iload_n 1, 1) := by decide +kernel
theorem dX7_count_37 : decode cX7_count 37 = .ok (.bipush 46, 2) := by decide +kernel
theorem dX7_count_39 : decode cX7_count 39 = .ok (.if_icmp .ge 12, 3) := by decide +kernel
theorem dX7_count_42 : decode cX7_count 42 = .ok (.aload_n 0, 1) := by decide +kernel
theorem dX7_count_43 : decode cX7_count 43 = .ok (.iload_n 1, 1) := by decide +kernel
theorem dX7_count_44 : decode cX7_count 44 = .ok (.bipush 30, 2) := by decide +kernel
theorem dX7_count_46 : decode cX7_count 46 = .ok (.isub, 1) := by decide +kernel
set_option maxRecDepth 20000 in
theorem ggX7_count_X7_sizeOf : GoodIn wsX7_count wsX7_sizeOf := goodIn_r _ [21, 22, 14, 15, 16, 6, 17, 8, 23, 24, 25, 26, 27, 28, 29, 30, 31, 32, 33, 34, 35, 36, 37, 38, 39, 40, 41, 42, 43, 44, 45, 46, 47, 48, 49, 50, 51, 52, 53, 54, 55, 56, 57, 58, 59, 60, 61, 62, 63, 64, 65, 66, 67, 68, 69, 70, 71, 72, 73, 74, 75, 76, 77, 78, 79, 80, 81, 82, 89, 90, 91, 92, 93, 94, 95, 96, 97, 98, 99, 100, 101, 102, 103, 104, 105, 106, 107, 108, 109, 110, 111] rfl (by decide +kernel)
set_option maxRecDepth 20000 in
theorem gX7_count_X7_sizeOf : GoodIn wsX7_count (wsV RX7 218 RX7 yX7_sizeOf wsX7_sizeOf) := goodIn_app (goodIn_of _ (by decide +kernel)) ggX7_count_X7_sizeOf
theorem dX7_count_47 : decode cX7_count 47 = .ok (.invokevirtual 218, 3) := by decide +kernel
theorem dX7_count_50 : decode cX7_count 50 = .ok (.ireturn, 1) := by decide +kernel
theorem dX7_count_15 : decode cX7_count 15 = .ok (.iload_n 1, 1) := by decide +kernel
theorem dX7_count_16 : decode cX7_count 16 = .ok (.bipush 26, 2) := by decide +kernel
theorem dX7_count_18 : decode cX7_count 18 = .ok (.if_icmp .ge 12, 3) := by decide +kernel
theorem dX7_count_21 : decode cX7_count 21 = .ok (.aload_n 0, 1) := by decide +kernel
theorem dX7_count_22 : decode cX7_count 22 = .ok (.iload_n 1, 1) := by decide +kernel
theorem dX7_count_23 : decode cX7_count 23 = .ok (.bipush 10, 2) := by decide +kernel
theorem dX7_count_25 : decode cX7_count 25 = .ok (.isub, 1) := by decide +kernel
set_option maxRecDepth 20000 in
theorem ggX7_count_X7_kindOf : GoodIn wsX7_count wsX7_kindOf := goodIn_r _ [12, 13, 14, 15, 16, 6, 17, 8, 83, 84, 85, 86, 87, 88, 89, 90, 91, 92, 93, 94, 95, 96, 97, 98, 99, 100, 101, 102, 103, 104, 105, 106, 107, 82] rfl (by decide +kernel)
set_option maxRecDepth 20000 in
theorem gX7_count_X7_kindOf : GoodIn wsX7_count (wsV RX7 215 RX7 yX7_kindOf wsX7_kindOf) := goodIn_app (goodIn_of _ (by decide +kernel)) ggX7_count_X7_kindOf
theorem dX7_count_26 : decode cX7_count 26 = .ok (.invokevirtual 215, 3) := by decide +kernel
theorem dX7_count_29 : decode cX7_count 29 = .ok (.ireturn, 1) := by decide +kernel
theorem dX7_count_4 : decode cX7_count 4 = .ok (.aload_n 0, 1) := by decide +kernel
set_option maxRecDepth 20000 in
theorem ggX7_count_X7_howManyBodies : GoodIn wsX7_count wsX7_howManyBodies := goodIn_r _ [7, 8, 82] rfl (by decide +kernel)
set_option maxRecDepth 20000 in
theorem gX7_count_X7_howManyBodies : GoodIn wsX7_count (wsV RX7 212 RX7 yX7_howManyBodies wsX7_howManyBodies) := goodIn_app (goodIn_of _ (by decide +kernel)) ggX7_count_X7_howManyBodies
theorem dX7_count_5 : decode cX7_count 5 = .ok (.invokevirtual 212, 3) := by decide +kernel
theorem dX7_count_8 : decode cX7_count 8 = .ok (.ireturn, 1) := by decide +kernel
theorem at_X7_count_51 : ∀ w ∈ (vx_atS RX7 19 "java/lang/IllegalArgumentException" ["java/lang/RuntimeException", "java/lang/Exception"]).filter goodWord, w ∈ wsX7_count := fun w h => by
  unfold wsX7_count
  exact List.mem_cons_of_mem _ (List.mem_append_right _ h)
set_option maxHeartbeats 4000000 in
set_option maxRecDepth 100000 in
/-- count: no object is asked -/
theorem c_X7_count_none (l : Launch) (hlt : l.stackTraces = false) (dC : Nat → ClassId) (dI : Nat → Nat → Nat) (sz : Nat) (a0 : Nat) (qb : Nat) (cq : ClassId) (bq : Nat → Option Nat) (p0 : Int32) (hn1 : ∀ j : Nat, j < 16 → p0 = nI (10 + j) → bq j = none) (hn2 : ∀ j : Nat, j < 16 → p0 = nI (30 + j) → bq j = none) : vx_Met l yX7_count wsX7_count ({ frames := 6, cells := 1, slots := 6, locals := 100 }) (va_Pc [.ref a0, .int p0] (pk_PreXR (dC, dI) [(a0, .inr (7, [.ref qb])), (qb, .inl (cq, 16, .inr (.inr (.inr (.inr bq)))))] [(cq, .object "KeyAtlas$Body")] sz)) (va_Qi (fun (_ : Int32) (_ : Unit) => True) (fun _ (t : State) => t.heap.size = sz) (roN sz)) (vx_X (fun _ : Unit => True) (fun (E : String) (_ : Unit) (t : State) => E = "java/lang/IllegalArgumentException") (roN sz)) 1 6 (roN sz) := by
  refine vx_ofW (cc := cX7_count) (maxL := 2) (ret := (some .int)) (by decide) rfl ?_
  intro p e s m args below meth c s₁ B hml htab hv
  obtain ⟨rfl, hsz, hP, hK, hN, hZ⟩ := hv
  have hx := B.exec
  have hb := B.bytes
  have hr := B.returns
  have hts := atoms_spec (ws := wsX7_count) B.pre
  have hown : s.vm.findClass RX7 = some m.cls := findClass_of_methodNamed B.named
  have hlocks := B.notSynchronized
  subst hsz
  generalize hAe : roN s.heap.size = A at hZ ⊢
  have hA : ∀ q : Nat, s.heap.size ≤ q → A q := fun q h => by rw [← hAe]; exact h
  have hS : va_S A s.heap s.heap [] := va_S.rf
  have hP : va_P (dC, dI) vwCl [(a0, .inr (7, [.ref qb])), (qb, .inl (cq, 16, .inr (.inr (.inr (.inr bq)))))] s.heap := hP
  have hl := lv_entry ([.ref a0, .int p0]) (n := 2) (Nat.le_of_ble_eq_true rfl)
  rw [lg_entry_eq]
  generalize (lg_sl ([.ref a0, .int p0]) ++ List.replicate (2 - (lg_sl ([.ref a0, .int p0])).length) Slot.unset).toArray = ls at hl ⊢
  have hl : lv_has ls 2 [(0, .ref a0), (1, .int p0)] := hl
  have hw0_ := hts (.classLink RX7 15 "java/lang/IllegalArgumentException") (List.mem_of_getElem? (l := wsX7_count) (i := 1) rfl)
  have hw1_ := hts (.initialized "java/lang/IllegalArgumentException") (List.mem_of_getElem? (l := wsX7_count) (i := 2) rfl)
  refine lv_iload_n hx hb dX7_count_0 rfl (lv_at hl 1 rfl) ?_
  refine lv_if_ne (tgt := 9) hx hb dX7_count_1 (by decide) (fun c_1 => ?_) (fun c_1 => ?_)
  ·
    have ic_1 : ¬ p0.toInt = 0 := tx_ne rfl (by decide) c_1
    refine lv_iload_n hx hb dX7_count_9 rfl (lv_at hl 1 rfl) ?_
    refine lv_bipush (v := 10) hx hb dX7_count_10 (by decide) ?_
    refine lv_icmp_lt (tgt := 30) hx hb dX7_count_12 (by decide) (fun c_2 => ?_) (fun c_2 => ?_)
    ·
      have ic_2 : p0.toInt < 10 := tx_lt rfl (by decide) c_2
      refine lv_iload_n hx hb dX7_count_30 rfl (lv_at hl 1 rfl) ?_
      refine lv_bipush (v := 30) hx hb dX7_count_31 (by decide) ?_
      refine lv_icmp_lt (tgt := 51) hx hb dX7_count_33 (by decide) (fun c_3 => ?_) (fun c_3 => ?_)
      ·
        have ic_3 : p0.toInt < 30 := tx_lt rfl (by decide) c_3
        obtain ⟨sa, hsa⟩ := hN.stX7_221
        exact vx_throwS hx hb hlt (own := RX7) (cls := "java/lang/IllegalArgumentException") (text := "nothing is counted by that number") (names := ["java/lang/RuntimeException", "java/lang/Exception"]) hown (by decide +kernel) (by decide +kernel) hw0_ hw1_ hsa (tx_hat hN.xw (fun w h => hts w (at_X7_count_51 w h)) ng_RX7_19) og_RX7_19 hZ.1 hZ.2 hS (by rw [hml]; exact hl.1) dX7_count_51 dX7_count_54 dX7_count_55 dX7_count_57 dX7_count_60 (fun x hx9 => (htab x hx9).elim) (Nat.le_of_ble_eq_true rfl) (Nat.le_of_ble_eq_true rfl) (Nat.le_of_ble_eq_true rfl) (Nat.le_of_ble_eq_true rfl) hlocks (fun t hvm hz hq => ⟨(), trivial, rfl, ⟨Nat.le_trans hS.1 hz, fun q h1 h2 => (hq q (Nat.lt_of_lt_of_le h1 hS.1)).trans (hS.2.1 q h1 h2)⟩⟩) hS.2.2 (Nat.le_of_ble_eq_true rfl) (Nat.le_of_ble_eq_true rfl)
      ·
        have ic_3 : 30 ≤ p0.toInt := tx_nlt rfl (by decide) c_3
        refine lv_iload_n hx hb dX7_count_36 rfl (lv_at hl 1 rfl) ?_
        refine lv_bipush (v := 46) hx hb dX7_count_37 (by decide) ?_
        refine lv_icmp_ge (tgt := 51) hx hb dX7_count_39 (by decide) (fun c_4 => ?_) (fun c_4 => ?_)
        ·
          have ic_4 : 46 ≤ p0.toInt := tx_le (by decide) rfl c_4
          obtain ⟨sa, hsa⟩ := hN.stX7_221
          exact vx_throwS hx hb hlt (own := RX7) (cls := "java/lang/IllegalArgumentException") (text := "nothing is counted by that number") (names := ["java/lang/RuntimeException", "java/lang/Exception"]) hown (by decide +kernel) (by decide +kernel) hw0_ hw1_ hsa (tx_hat hN.xw (fun w h => hts w (at_X7_count_51 w h)) ng_RX7_19) og_RX7_19 hZ.1 hZ.2 hS (by rw [hml]; exact hl.1) dX7_count_51 dX7_count_54 dX7_count_55 dX7_count_57 dX7_count_60 (fun x hx9 => (htab x hx9).elim) (Nat.le_of_ble_eq_true rfl) (Nat.le_of_ble_eq_true rfl) (Nat.le_of_ble_eq_true rfl) (Nat.le_of_ble_eq_true rfl) hlocks (fun t hvm hz hq => ⟨(), trivial, rfl, ⟨Nat.le_trans hS.1 hz, fun q h1 h2 => (hq q (Nat.lt_of_lt_of_le h1 hS.1)).trans (hS.2.1 q h1 h2)⟩⟩) hS.2.2 (Nat.le_of_ble_eq_true rfl) (Nat.le_of_ble_eq_true rfl)
        ·
          have ic_4 : p0.toInt < 46 := tx_nle (by decide) rfl c_4
          refine lv_aload_n hx hb dX7_count_42 rfl (lv_at hl 0 rfl) ?_
          refine lv_iload_n hx hb dX7_count_43 rfl (lv_at hl 1 rfl) ?_
          obtain ⟨k9, hk9, rfl⟩ := nI_nat (x := p0) (n := 100) (by omega) (by omega) (by omega)
          have hk8 : (nI k9).toInt = (k9 : Int) := nI_toInt (by omega)
          refine lv_bipush (v := 30) hx hb dX7_count_44 (by decide) ?_
          refine lv_isub hx hb dX7_count_46 ?_
          refine lv_topi (fun z_5 ez_5 => ?_)
          obtain rfl : z_5 = nI (k9 - 30) := ez_5.trans (by rw [show (30 : Int32) = nI 30 from rfl, pk_sub (by omega)])
          have hPc := hP.sub (ws' := [(a0, .inr (7, [.ref qb])), (qb, .inl (cq, 16, .inr (.inr (.inr (.inr bq)))))]) [0, 1] rfl
          have hKc := hK.sub (tys' := [(cq, .object "KeyAtlas$Body")]) [0] rfl
          refine ro_calli (va_runV (As := [.int (nI (k9 - 30))]) (rest := []) ⟨hx, hb, hml, hown, hts⟩ (c_X7_sizeOf_none l hlt dC dI s.heap.size a0 qb cq bq (nI (k9 - 30)) (ct_no (b := 30) (by omega) (by omega) hn2)) (cwV 1 hts gX7_count_X7_sizeOf rfl rfl rfl (by decide +kernel) ⟨(Nat.le_of_ble_eq_true rfl), (Nat.le_of_ble_eq_true rfl)⟩) ⟨pk_blindRX, va_recv hKc hPc (ci := 7) (q0 := 0) rfl rfl, pk_callRX hPc hKc hN⟩ rfl rfl hl.1 rfl (lv_room (Nat.le_of_ble_eq_true rfl)) dX7_count_47 ⟨(Nat.le_of_ble_eq_true rfl), (Nat.le_of_ble_eq_true rfl)⟩) (fun r_6 ur_6 hw => ?_)
          clear hPc hKc
          try dsimp only at hw
          have jr_6 := hw
          refine W.eq (g2 := F0 m 50 ls [.int r_6]) rfl ?_
          refine W.widen (k := 1) (n := 6) (Nat.le_of_ble_eq_true rfl) (Nat.le_of_ble_eq_true rfl) ?_
          refine vx_ret ?_
          exact W.iret (v := r_6) hx hb hr (fun t ht hW => ⟨⟨r_6, (), rfl, trivial, congrArg Array.size ht⟩, hS.F ht⟩) hS.2.2 dX7_count_50
    ·
      have ic_2 : 10 ≤ p0.toInt := tx_nlt rfl (by decide) c_2
      refine lv_iload_n hx hb dX7_count_15 rfl (lv_at hl 1 rfl) ?_
      refine lv_bipush (v := 26) hx hb dX7_count_16 (by decide) ?_
      refine lv_icmp_ge (tgt := 30) hx hb dX7_count_18 (by decide) (fun c_7 => ?_) (fun c_7 => ?_)
      ·
        have ic_7 : 26 ≤ p0.toInt := tx_le (by decide) rfl c_7
        refine lv_iload_n hx hb dX7_count_30 rfl (lv_at hl 1 rfl) ?_
        refine lv_bipush (v := 30) hx hb dX7_count_31 (by decide) ?_
        refine lv_icmp_lt (tgt := 51) hx hb dX7_count_33 (by decide) (fun c_8 => ?_) (fun c_8 => ?_)
        ·
          have ic_8 : p0.toInt < 30 := tx_lt rfl (by decide) c_8
          obtain ⟨sa, hsa⟩ := hN.stX7_221
          exact vx_throwS hx hb hlt (own := RX7) (cls := "java/lang/IllegalArgumentException") (text := "nothing is counted by that number") (names := ["java/lang/RuntimeException", "java/lang/Exception"]) hown (by decide +kernel) (by decide +kernel) hw0_ hw1_ hsa (tx_hat hN.xw (fun w h => hts w (at_X7_count_51 w h)) ng_RX7_19) og_RX7_19 hZ.1 hZ.2 hS (by rw [hml]; exact hl.1) dX7_count_51 dX7_count_54 dX7_count_55 dX7_count_57 dX7_count_60 (fun x hx9 => (htab x hx9).elim) (Nat.le_of_ble_eq_true rfl) (Nat.le_of_ble_eq_true rfl) (Nat.le_of_ble_eq_true rfl) (Nat.le_of_ble_eq_true rfl) hlocks (fun t hvm hz hq => ⟨(), trivial, rfl, ⟨Nat.le_trans hS.1 hz, fun q h1 h2 => (hq q (Nat.lt_of_lt_of_le h1 hS.1)).trans (hS.2.1 q h1 h2)⟩⟩) hS.2.2 (Nat.le_of_ble_eq_true rfl) (Nat.le_of_ble_eq_true rfl)
        ·
          have ic_8 : 30 ≤ p0.toInt := tx_nlt rfl (by decide) c_8
          refine lv_iload_n hx hb dX7_count_36 rfl (lv_at hl 1 rfl) ?_
          refine lv_bipush (v := 46) hx hb dX7_count_37 (by decide) ?_
          refine lv_icmp_ge (tgt := 51) hx hb dX7_count_39 (by decide) (fun c_9 => ?_) (fun c_9 => ?_)
          ·
            have ic_9 : 46 ≤ p0.toInt := tx_le (by decide) rfl c_9
            obtain ⟨sa, hsa⟩ := hN.stX7_221
            exact vx_throwS hx hb hlt (own := RX7) (cls := "java/lang/IllegalArgumentException") (text := "nothing is counted by that number") (names := ["java/lang/RuntimeException", "java/lang/Exception"]) hown (by decide +kernel) (by decide +kernel) hw0_ hw1_ hsa (tx_hat hN.xw (fun w h => hts w (at_X7_count_51 w h)) ng_RX7_19) og_RX7_19 hZ.1 hZ.2 hS (by rw [hml]; exact hl.1) dX7_count_51 dX7_count_54 dX7_count_55 dX7_count_57 dX7_count_60 (fun x hx9 => (htab x hx9).elim) (Nat.le_of_ble_eq_true rfl) (Nat.le_of_ble_eq_true rfl) (Nat.le_of_ble_eq_true rfl) (Nat.le_of_ble_eq_true rfl) hlocks (fun t hvm hz hq => ⟨(), trivial, rfl, ⟨Nat.le_trans hS.1 hz, fun q h1 h2 => (hq q (Nat.lt_of_lt_of_le h1 hS.1)).trans (hS.2.1 q h1 h2)⟩⟩) hS.2.2 (Nat.le_of_ble_eq_true rfl) (Nat.le_of_ble_eq_true rfl)
          ·
            have ic_9 : p0.toInt < 46 := tx_nle (by decide) rfl c_9
            refine lv_aload_n hx hb dX7_count_42 rfl (lv_at hl 0 rfl) ?_
            refine lv_iload_n hx hb dX7_count_43 rfl (lv_at hl 1 rfl) ?_
            obtain ⟨k9, hk9, rfl⟩ := nI_nat (x := p0) (n := 100) (by omega) (by omega) (by omega)
            have hk8 : (nI k9).toInt = (k9 : Int) := nI_toInt (by omega)
            refine lv_bipush (v := 30) hx hb dX7_count_44 (by decide) ?_
            refine lv_isub hx hb dX7_count_46 ?_
            refine lv_topi (fun z_10 ez_10 => ?_)
            obtain rfl : z_10 = nI (k9 - 30) := ez_10.trans (by rw [show (30 : Int32) = nI 30 from rfl, pk_sub (by omega)])
            have hPc := hP.sub (ws' := [(a0, .inr (7, [.ref qb])), (qb, .inl (cq, 16, .inr (.inr (.inr (.inr bq)))))]) [0, 1] rfl
            have hKc := hK.sub (tys' := [(cq, .object "KeyAtlas$Body")]) [0] rfl
            refine ro_calli (va_runV (As := [.int (nI (k9 - 30))]) (rest := []) ⟨hx, hb, hml, hown, hts⟩ (c_X7_sizeOf_none l hlt dC dI s.heap.size a0 qb cq bq (nI (k9 - 30)) (ct_no (b := 30) (by omega) (by omega) hn2)) (cwV 1 hts gX7_count_X7_sizeOf rfl rfl rfl (by decide +kernel) ⟨(Nat.le_of_ble_eq_true rfl), (Nat.le_of_ble_eq_true rfl)⟩) ⟨pk_blindRX, va_recv hKc hPc (ci := 7) (q0 := 0) rfl rfl, pk_callRX hPc hKc hN⟩ rfl rfl hl.1 rfl (lv_room (Nat.le_of_ble_eq_true rfl)) dX7_count_47 ⟨(Nat.le_of_ble_eq_true rfl), (Nat.le_of_ble_eq_true rfl)⟩) (fun r_11 ur_11 hw => ?_)
            clear hPc hKc
            try dsimp only at hw
            have jr_11 := hw
            refine W.eq (g2 := F0 m 50 ls [.int r_11]) rfl ?_
            refine W.widen (k := 1) (n := 6) (Nat.le_of_ble_eq_true rfl) (Nat.le_of_ble_eq_true rfl) ?_
            refine vx_ret ?_
            exact W.iret (v := r_11) hx hb hr (fun t ht hW => ⟨⟨r_11, (), rfl, trivial, congrArg Array.size ht⟩, hS.F ht⟩) hS.2.2 dX7_count_50
      ·
        have ic_7 : p0.toInt < 26 := tx_nle (by decide) rfl c_7
        refine lv_aload_n hx hb dX7_count_21 rfl (lv_at hl 0 rfl) ?_
        refine lv_iload_n hx hb dX7_count_22 rfl (lv_at hl 1 rfl) ?_
        obtain ⟨k9, hk9, rfl⟩ := nI_nat (x := p0) (n := 100) (by omega) (by omega) (by omega)
        have hk8 : (nI k9).toInt = (k9 : Int) := nI_toInt (by omega)
        refine lv_bipush (v := 10) hx hb dX7_count_23 (by decide) ?_
        refine lv_isub hx hb dX7_count_25 ?_
        refine lv_topi (fun z_12 ez_12 => ?_)
        obtain rfl : z_12 = nI (k9 - 10) := ez_12.trans (by rw [show (10 : Int32) = nI 10 from rfl, pk_sub (by omega)])
        have hPc := hP.sub (ws' := [(a0, .inr (7, [.ref qb])), (qb, .inl (cq, 16, .inr (.inr (.inr (.inr bq)))))]) [0, 1] rfl
        have hKc := hK.sub (tys' := [(cq, .object "KeyAtlas$Body")]) [0] rfl
        refine ro_calli (va_runV (As := [.int (nI (k9 - 10))]) (rest := []) ⟨hx, hb, hml, hown, hts⟩ (c_X7_kindOf_none l hlt dC dI s.heap.size a0 qb cq bq (nI (k9 - 10)) (ct_no (b := 10) (by omega) (by omega) hn1)) (cwV 1 hts gX7_count_X7_kindOf rfl rfl rfl (by decide +kernel) ⟨(Nat.le_of_ble_eq_true rfl), (Nat.le_of_ble_eq_true rfl)⟩) ⟨pk_blindRX, va_recv hKc hPc (ci := 7) (q0 := 0) rfl rfl, pk_callRX hPc hKc hN⟩ rfl rfl hl.1 rfl (lv_room (Nat.le_of_ble_eq_true rfl)) dX7_count_26 ⟨(Nat.le_of_ble_eq_true rfl), (Nat.le_of_ble_eq_true rfl)⟩) (fun r_13 ur_13 hw => ?_)
        clear hPc hKc
        try dsimp only at hw
        have jr_13 := hw
        refine W.eq (g2 := F0 m 29 ls [.int r_13]) rfl ?_
        refine W.widen (k := 1) (n := 6) (Nat.le_of_ble_eq_true rfl) (Nat.le_of_ble_eq_true rfl) ?_
        refine vx_ret ?_
        exact W.iret (v := r_13) hx hb hr (fun t ht hW => ⟨⟨r_13, (), rfl, trivial, congrArg Array.size ht⟩, hS.F ht⟩) hS.2.2 dX7_count_29
  ·
    have ic_1 : p0.toInt = 0 := tx_eq rfl (by decide) c_1
    refine lv_aload_n hx hb dX7_count_4 rfl (lv_at hl 0 rfl) ?_
    have hPc := hP.sub (ws' := [(a0, .inr (7, [.ref qb])), (qb, .inl (cq, 16, .inr (.inr (.inr (.inr bq)))))]) [0, 1] rfl
    have hKc := hK.sub (tys' := [(cq, .object "KeyAtlas$Body")]) [0] rfl
    refine ro_calli (va_runV (As := []) (rest := []) ⟨hx, hb, hml, hown, hts⟩ (c_X7_howManyBodies l  dC dI s.heap.size a0 qb cq bq) (cwV 0 hts gX7_count_X7_howManyBodies rfl rfl rfl (by decide +kernel) ⟨(Nat.le_of_ble_eq_true rfl), (Nat.le_of_ble_eq_true rfl)⟩) ⟨pk_blindR, va_recv hKc hPc (ci := 7) (q0 := 0) rfl rfl, pk_callR hPc hKc⟩ rfl rfl hl.1 rfl (lv_room (Nat.le_of_ble_eq_true rfl)) dX7_count_5 ⟨(Nat.le_of_ble_eq_true rfl), (Nat.le_of_ble_eq_true rfl)⟩) (fun r_14 ur_14 hw => ?_)
    clear hPc hKc
    try dsimp only at hw
    have jr_14 := hw
    refine W.eq (g2 := F0 m 8 ls [.int r_14]) rfl ?_
    refine W.widen (k := 1) (n := 6) (Nat.le_of_ble_eq_true rfl) (Nat.le_of_ble_eq_true rfl) ?_
    refine vx_ret ?_
    exact W.iret (v := r_14) hx hb hr (fun t ht hW => ⟨⟨r_14, (), rfl, trivial, congrArg Array.size ht⟩, hS.F ht⟩) hS.2.2 dX7_count_8
set_option maxHeartbeats 4000000 in
set_option maxRecDepth 100000 in
/-- count 10 of H -/
theorem c_X7_count10_H (l : Launch) (hlt : l.stackTraces = false) (dC : Nat → ClassId) (dI : Nat → Nat → Nat) (sz : Nat) (a0 : Nat) (qb : Nat) (cq : ClassId) (bq : Nat → Option Nat) (o : Nat) (y0 : Nat) (kd : Int32) (v0 : Value) (v2 : Value) (v3 : Value) (v4 : Value) (v5 : Value) (v6 : Value) (ho9 : o < 16) (hbo : bq o = some y0) : vx_Met l yX7_count wsX7_count ({ frames := 8, cells := 1, slots := 6, locals := 280 }) (va_Pc [.ref a0, .int (nI (10 + o))] (pk_PreXR (dC, dI) [(a0, .inr (7, [.ref qb])), (qb, .inl (cq, 16, .inr (.inr (.inr (.inr bq))))), (y0, .inr (3, [v0, .int kd, v2, v3, v4, v5, v6]))] [(cq, .object "KeyAtlas$Body")] sz)) (va_Qi (fun (_ : Int32) (_ : Unit) => True) (fun _ (t : State) => t.heap.size = sz) (roN sz)) (vx_X (fun _ : Unit => True) (fun (E : String) (_ : Unit) (t : State) => E = "java/lang/IllegalArgumentException") (roN sz)) 1 6 (roN sz) := by
  refine vx_ofW (cc := cX7_count) (maxL := 2) (ret := (some .int)) (by decide) rfl ?_
  intro p e s m args below meth c s₁ B hml htab hv
  obtain ⟨rfl, hsz, hP, hK, hN, hZ⟩ := hv
  have hx := B.exec
  have hb := B.bytes
  have hr := B.returns
  have hts := atoms_spec (ws := wsX7_count) B.pre
  have hown : s.vm.findClass RX7 = some m.cls := findClass_of_methodNamed B.named
  have hlocks := B.notSynchronized
  subst hsz
  generalize hAe : roN s.heap.size = A at hZ ⊢
  have hA : ∀ q : Nat, s.heap.size ≤ q → A q := fun q h => by rw [← hAe]; exact h
  have hS : va_S A s.heap s.heap [] := va_S.rf
  have hP : va_P (dC, dI) vwCl [(a0, .inr (7, [.ref qb])), (qb, .inl (cq, 16, .inr (.inr (.inr (.inr bq))))), (y0, .inr (3, [v0, .int kd, v2, v3, v4, v5, v6]))] s.heap := hP
  have hl := lv_entry ([.ref a0, .int (nI (10 + o))]) (n := 2) (Nat.le_of_ble_eq_true rfl)
  rw [lg_entry_eq]
  generalize (lg_sl ([.ref a0, .int (nI (10 + o))]) ++ List.replicate (2 - (lg_sl ([.ref a0, .int (nI (10 + o))])).length) Slot.unset).toArray = ls at hl ⊢
  have hl : lv_has ls 2 [(0, .ref a0), (1, .int (nI (10 + o)))] := hl

  have hoi_ : (nI (10 + o)).toInt = ((10 + o : Nat) : Int) := nI_toInt (by omega)
  refine lv_iload_n hx hb dX7_count_0 rfl (lv_at hl 1 rfl) ?_
  refine lv_if_ne (tgt := 9) hx hb dX7_count_1 (by decide) (fun c_1 => ?_) (fun c_1 => ?_)
  ·
    have ic_1 : ¬ ((10 + o : Nat) : Int) = 0 := tx_ne (nI_toInt (by omega)) (by decide) c_1
    refine lv_iload_n hx hb dX7_count_9 rfl (lv_at hl 1 rfl) ?_
    refine lv_bipush (v := 10) hx hb dX7_count_10 (by decide) ?_
    refine lv_icmp_lt (tgt := 30) hx hb dX7_count_12 (by decide) (fun c_2 => ?_) (fun c_2 => ?_)
    ·
      have ic_2 : ((10 + o : Nat) : Int) < 10 := tx_lt (nI_toInt (by omega)) (by decide) c_2
      exfalso
      omega
    ·
      have ic_2 : 10 ≤ ((10 + o : Nat) : Int) := tx_nlt (nI_toInt (by omega)) (by decide) c_2
      refine lv_iload_n hx hb dX7_count_15 rfl (lv_at hl 1 rfl) ?_
      refine lv_bipush (v := 26) hx hb dX7_count_16 (by decide) ?_
      refine lv_icmp_ge (tgt := 30) hx hb dX7_count_18 (by decide) (fun c_3 => ?_) (fun c_3 => ?_)
      ·
        have ic_3 : 26 ≤ ((10 + o : Nat) : Int) := tx_le (by decide) (nI_toInt (by omega)) c_3
        exfalso
        omega
      ·
        have ic_3 : ((10 + o : Nat) : Int) < 26 := tx_nle (by decide) (nI_toInt (by omega)) c_3
        refine lv_aload_n hx hb dX7_count_21 rfl (lv_at hl 0 rfl) ?_
        refine lv_iload_n hx hb dX7_count_22 rfl (lv_at hl 1 rfl) ?_
        refine lv_bipush (v := 10) hx hb dX7_count_23 (by decide) ?_
        refine lv_isub hx hb dX7_count_25 ?_
        refine lv_topi (fun z_ ez_ => ?_)
        obtain rfl : z_ = nI o := ez_.trans (by rw [show (10 : Int32) = nI 10 from rfl, pk_sub (by omega), show 10 + o - 10 = o by omega])
        have hPc := hP.sub (ws' := [(a0, .inr (7, [.ref qb])), (qb, .inl (cq, 16, .inr (.inr (.inr (.inr bq))))), (y0, .inr (3, [v0, .int kd, v2, v3, v4, v5, v6]))]) [0, 1, 2] rfl
        have hKc := hK.sub (tys' := [(cq, .object "KeyAtlas$Body")]) [0] rfl
        refine ro_calli (va_runV (As := [.int (nI o)]) (rest := []) ⟨hx, hb, hml, hown, hts⟩ (c_X7_kindOf_H l hlt dC dI s.heap.size a0 qb cq bq o y0 kd v0 v2 v3 v4 v5 v6 ho9 hbo) (cwV 1 hts gX7_count_X7_kindOf rfl rfl rfl (by decide +kernel) ⟨(Nat.le_of_ble_eq_true rfl), (Nat.le_of_ble_eq_true rfl)⟩) ⟨pk_blindRX, va_recv hKc hPc (ci := 7) (q0 := 0) rfl rfl, pk_callRX hPc hKc hN⟩ rfl rfl hl.1 rfl (lv_room (Nat.le_of_ble_eq_true rfl)) dX7_count_26 ⟨(Nat.le_of_ble_eq_true rfl), (Nat.le_of_ble_eq_true rfl)⟩) (fun r_4 ur_4 hw => ?_)
        clear hPc hKc
        try dsimp only at hw
        have jr_4 := hw
        refine W.eq (g2 := F0 m 29 ls [.int r_4]) rfl ?_
        refine W.widen (k := 1) (n := 6) (Nat.le_of_ble_eq_true rfl) (Nat.le_of_ble_eq_true rfl) ?_
        refine vx_ret ?_
        exact W.iret (v := r_4) hx hb hr (fun t ht hW => ⟨⟨r_4, (), rfl, trivial, congrArg Array.size ht⟩, hS.F ht⟩) hS.2.2 dX7_count_29
  ·
    have ic_1 : ((10 + o : Nat) : Int) = 0 := tx_eq (nI_toInt (by omega)) (by decide) c_1
    exfalso
    omega
set_option maxHeartbeats 4000000 in
set_option maxRecDepth 100000 in
/-- count 30 of H -/
theorem c_X7_count30_H (l : Launch) (hlt : l.stackTraces = false) (dC : Nat → ClassId) (dI : Nat → Nat → Nat) (sz : Nat) (a0 : Nat) (qb : Nat) (cq : ClassId) (bq : Nat → Option Nat) (o : Nat) (y0 : Nat) (kd : Int32) (wh : Int32) (cap : Nat) (ru : Int32) (tb : Nat) (b0 : Nat) (cb : ClassId) (bf : Nat → Int32) (x0 : Nat) (k0 : Nat) (w0 : Nat) (ck : ClassId) (cw : ClassId) (L : Nat) (f : Nat → Int32) (g : Nat → Int32) (nz : Nat) (ch : Int32) (ho9 : o < 16) (hbo : bq o = some y0) (hH9 : hOK tb L nz cap) : vx_Met l yX7_count wsX7_count ({ frames := 8, cells := 1, slots := 6, locals := 280 }) (va_Pc [.ref a0, .int (nI (30 + o))] (pk_PreXR (dC, dI) [(a0, .inr (7, [.ref qb])), (qb, .inl (cq, 16, .inr (.inr (.inr (.inr bq))))), (y0, .inr (3, [.ref x0, .int kd, .int wh, .int (nI cap), .int ru, .int (nI tb), .ref b0])), (x0, .inr (5, [.ref k0, .ref w0, .int (nI nz), .int ch])), (k0, .inl (ck, L, .inl f)), (w0, .inl (cw, L, .inl g)), (b0, .inl (cb, tb, .inl bf))] [(cq, .object "KeyAtlas$Body"), (ck, .int), (cw, .int), (cb, .boolean)] sz)) (va_Qi (fun (_ : Int32) (_ : Unit) => True) (fun _ (t : State) => t.heap.size = sz) (roN sz)) (vx_X (fun _ : Unit => True) (fun (E : String) (_ : Unit) (t : State) => E = "java/lang/IllegalArgumentException") (roN sz)) 1 6 (roN sz) := by
  refine vx_ofW (cc := cX7_count) (maxL := 2) (ret := (some .int)) (by decide) rfl ?_
  intro p e s m args below meth c s₁ B hml htab hv
  obtain ⟨rfl, hsz, hP, hK, hN, hZ⟩ := hv
  have hx := B.exec
  have hb := B.bytes
  have hr := B.returns
  have hts := atoms_spec (ws := wsX7_count) B.pre
  have hown : s.vm.findClass RX7 = some m.cls := findClass_of_methodNamed B.named
  have hlocks := B.notSynchronized
  subst hsz
  generalize hAe : roN s.heap.size = A at hZ ⊢
  have hA : ∀ q : Nat, s.heap.size ≤ q → A q := fun q h => by rw [← hAe]; exact h
  have hS : va_S A s.heap s.heap [] := va_S.rf
  have hP : va_P (dC, dI) vwCl [(a0, .inr (7, [.ref qb])), (qb, .inl (cq, 16, .inr (.inr (.inr (.inr bq))))), (y0, .inr (3, [.ref x0, .int kd, .int wh, .int (nI cap), .int ru, .int (nI tb), .ref b0])), (x0, .inr (5, [.ref k0, .ref w0, .int (nI nz), .int ch])), (k0, .inl (ck, L, .inl f)), (w0, .inl (cw, L, .inl g)), (b0, .inl (cb, tb, .inl bf))] s.heap := hP
  have hl := lv_entry ([.ref a0, .int (nI (30 + o))]) (n := 2) (Nat.le_of_ble_eq_true rfl)
  rw [lg_entry_eq]
  generalize (lg_sl ([.ref a0, .int (nI (30 + o))]) ++ List.replicate (2 - (lg_sl ([.ref a0, .int (nI (30 + o))])).length) Slot.unset).toArray = ls at hl ⊢
  have hl : lv_has ls 2 [(0, .ref a0), (1, .int (nI (30 + o)))] := hl

  have hoi_ : (nI (30 + o)).toInt = ((30 + o : Nat) : Int) := nI_toInt (by omega)
  refine lv_iload_n hx hb dX7_count_0 rfl (lv_at hl 1 rfl) ?_
  refine lv_if_ne (tgt := 9) hx hb dX7_count_1 (by decide) (fun c_1 => ?_) (fun c_1 => ?_)
  ·
    have ic_1 : ¬ ((30 + o : Nat) : Int) = 0 := tx_ne (nI_toInt (by omega)) (by decide) c_1
    refine lv_iload_n hx hb dX7_count_9 rfl (lv_at hl 1 rfl) ?_
    refine lv_bipush (v := 10) hx hb dX7_count_10 (by decide) ?_
    refine lv_icmp_lt (tgt := 30) hx hb dX7_count_12 (by decide) (fun c_2 => ?_) (fun c_2 => ?_)
    ·
      have ic_2 : ((30 + o : Nat) : Int) < 10 := tx_lt (nI_toInt (by omega)) (by decide) c_2
      refine lv_iload_n hx hb dX7_count_30 rfl (lv_at hl 1 rfl) ?_
      refine lv_bipush (v := 30) hx hb dX7_count_31 (by decide) ?_
      refine lv_icmp_lt (tgt := 51) hx hb dX7_count_33 (by decide) (fun c_3 => ?_) (fun c_3 => ?_)
      ·
        have ic_3 : ((30 + o : Nat) : Int) < 30 := tx_lt (nI_toInt (by omega)) (by decide) c_3
        exfalso
        omega
      ·
        have ic_3 : 30 ≤ ((30 + o : Nat) : Int) := tx_nlt (nI_toInt (by omega)) (by decide) c_3
        refine lv_iload_n hx hb dX7_count_36 rfl (lv_at hl 1 rfl) ?_
        refine lv_bipush (v := 46) hx hb dX7_count_37 (by decide) ?_
        refine lv_icmp_ge (tgt := 51) hx hb dX7_count_39 (by decide) (fun c_4 => ?_) (fun c_4 => ?_)
        ·
          have ic_4 : 46 ≤ ((30 + o : Nat) : Int) := tx_le (by decide) (nI_toInt (by omega)) c_4
          exfalso
          omega
        ·
          have ic_4 : ((30 + o : Nat) : Int) < 46 := tx_nle (by decide) (nI_toInt (by omega)) c_4
          refine lv_aload_n hx hb dX7_count_42 rfl (lv_at hl 0 rfl) ?_
          refine lv_iload_n hx hb dX7_count_43 rfl (lv_at hl 1 rfl) ?_
          refine lv_bipush (v := 30) hx hb dX7_count_44 (by decide) ?_
          refine lv_isub hx hb dX7_count_46 ?_
          refine lv_topi (fun z_ ez_ => ?_)
          obtain rfl : z_ = nI o := ez_.trans (by rw [show (30 : Int32) = nI 30 from rfl, pk_sub (by omega), show 30 + o - 30 = o by omega])
          have hPc := hP.sub (ws' := [(a0, .inr (7, [.ref qb])), (qb, .inl (cq, 16, .inr (.inr (.inr (.inr bq))))), (y0, .inr (3, [.ref x0, .int kd, .int wh, .int (nI cap), .int ru, .int (nI tb), .ref b0])), (x0, .inr (5, [.ref k0, .ref w0, .int (nI nz), .int ch])), (k0, .inl (ck, L, .inl f)), (w0, .inl (cw, L, .inl g)), (b0, .inl (cb, tb, .inl bf))]) [0, 1, 2, 3, 4, 5, 6] rfl
          have hKc := hK.sub (tys' := [(cq, .object "KeyAtlas$Body"), (ck, .int), (cw, .int), (cb, .boolean)]) [0, 1, 2, 3] rfl
          refine ro_calli (va_runV (As := [.int (nI o)]) (rest := []) ⟨hx, hb, hml, hown, hts⟩ (c_X7_sizeOf_H l hlt dC dI s.heap.size a0 qb cq bq o y0 kd wh cap ru tb b0 cb bf x0 k0 w0 ck cw L f g nz ch ho9 hbo hH9) (cwV 1 hts gX7_count_X7_sizeOf rfl rfl rfl (by decide +kernel) ⟨(Nat.le_of_ble_eq_true rfl), (Nat.le_of_ble_eq_true rfl)⟩) ⟨pk_blindRX, va_recv hKc hPc (ci := 7) (q0 := 0) rfl rfl, pk_callRX hPc hKc hN⟩ rfl rfl hl.1 rfl (lv_room (Nat.le_of_ble_eq_true rfl)) dX7_count_47 ⟨(Nat.le_of_ble_eq_true rfl), (Nat.le_of_ble_eq_true rfl)⟩) (fun r_5 ur_5 hw => ?_)
          clear hPc hKc
          try dsimp only at hw
          have jr_5 := hw
          refine W.eq (g2 := F0 m 50 ls [.int r_5]) rfl ?_
          refine W.widen (k := 1) (n := 6) (Nat.le_of_ble_eq_true rfl) (Nat.le_of_ble_eq_true rfl) ?_
          refine vx_ret ?_
          exact W.iret (v := r_5) hx hb hr (fun t ht hW => ⟨⟨r_5, (), rfl, trivial, congrArg Array.size ht⟩, hS.F ht⟩) hS.2.2 dX7_count_50
    ·
      have ic_2 : 10 ≤ ((30 + o : Nat) : Int) := tx_nlt (nI_toInt (by omega)) (by decide) c_2
      refine lv_iload_n hx hb dX7_count_15 rfl (lv_at hl 1 rfl) ?_
      refine lv_bipush (v := 26) hx hb dX7_count_16 (by decide) ?_
      refine lv_icmp_ge (tgt := 30) hx hb dX7_count_18 (by decide) (fun c_6 => ?_) (fun c_6 => ?_)
      ·
        have ic_6 : 26 ≤ ((30 + o : Nat) : Int) := tx_le (by decide) (nI_toInt (by omega)) c_6
        refine lv_iload_n hx hb dX7_count_30 rfl (lv_at hl 1 rfl) ?_
        refine lv_bipush (v := 30) hx hb dX7_count_31 (by decide) ?_
        refine lv_icmp_lt (tgt := 51) hx hb dX7_count_33 (by decide) (fun c_7 => ?_) (fun c_7 => ?_)
        ·
          have ic_7 : ((30 + o : Nat) : Int) < 30 := tx_lt (nI_toInt (by omega)) (by decide) c_7
          exfalso
          omega
        ·
          have ic_7 : 30 ≤ ((30 + o : Nat) : Int) := tx_nlt (nI_toInt (by omega)) (by decide) c_7
          refine lv_iload_n hx hb dX7_count_36 rfl (lv_at hl 1 rfl) ?_
          refine lv_bipush (v := 46) hx hb dX7_count_37 (by decide) ?_
          refine lv_icmp_ge (tgt := 51) hx hb dX7_count_39 (by decide) (fun c_8 => ?_) (fun c_8 => ?_)
          ·
            have ic_8 : 46 ≤ ((30 + o : Nat) : Int) := tx_le (by decide) (nI_toInt (by omega)) c_8
            exfalso
            omega
          ·
            have ic_8 : ((30 + o : Nat) : Int) < 46 := tx_nle (by decide) (nI_toInt (by omega)) c_8
            refine lv_aload_n hx hb dX7_count_42 rfl (lv_at hl 0 rfl) ?_
            refine lv_iload_n hx hb dX7_count_43 rfl (lv_at hl 1 rfl) ?_
            refine lv_bipush (v := 30) hx hb dX7_count_44 (by decide) ?_
            refine lv_isub hx hb dX7_count_46 ?_
            refine lv_topi (fun z_ ez_ => ?_)
            obtain rfl : z_ = nI o := ez_.trans (by rw [show (30 : Int32) = nI 30 from rfl, pk_sub (by omega), show 30 + o - 30 = o by omega])
            have hPc := hP.sub (ws' := [(a0, .inr (7, [.ref qb])), (qb, .inl (cq, 16, .inr (.inr (.inr (.inr bq))))), (y0, .inr (3, [.ref x0, .int kd, .int wh, .int (nI cap), .int ru, .int (nI tb), .ref b0])), (x0, .inr (5, [.ref k0, .ref w0, .int (nI nz), .int ch])), (k0, .inl (ck, L, .inl f)), (w0, .inl (cw, L, .inl g)), (b0, .inl (cb, tb, .inl bf))]) [0, 1, 2, 3, 4, 5, 6] rfl
            have hKc := hK.sub (tys' := [(cq, .object "KeyAtlas$Body"), (ck, .int), (cw, .int), (cb, .boolean)]) [0, 1, 2, 3] rfl
            refine ro_calli (va_runV (As := [.int (nI o)]) (rest := []) ⟨hx, hb, hml, hown, hts⟩ (c_X7_sizeOf_H l hlt dC dI s.heap.size a0 qb cq bq o y0 kd wh cap ru tb b0 cb bf x0 k0 w0 ck cw L f g nz ch ho9 hbo hH9) (cwV 1 hts gX7_count_X7_sizeOf rfl rfl rfl (by decide +kernel) ⟨(Nat.le_of_ble_eq_true rfl), (Nat.le_of_ble_eq_true rfl)⟩) ⟨pk_blindRX, va_recv hKc hPc (ci := 7) (q0 := 0) rfl rfl, pk_callRX hPc hKc hN⟩ rfl rfl hl.1 rfl (lv_room (Nat.le_of_ble_eq_true rfl)) dX7_count_47 ⟨(Nat.le_of_ble_eq_true rfl), (Nat.le_of_ble_eq_true rfl)⟩) (fun r_9 ur_9 hw => ?_)
            clear hPc hKc
            try dsimp only at hw
            have jr_9 := hw
            refine W.eq (g2 := F0 m 50 ls [.int r_9]) rfl ?_
            refine W.widen (k := 1) (n := 6) (Nat.le_of_ble_eq_true rfl) (Nat.le_of_ble_eq_true rfl) ?_
            refine vx_ret ?_
            exact W.iret (v := r_9) hx hb hr (fun t ht hW => ⟨⟨r_9, (), rfl, trivial, congrArg Array.size ht⟩, hS.F ht⟩) hS.2.2 dX7_count_50
      ·
        have ic_6 : ((30 + o : Nat) : Int) < 26 := tx_nle (by decide) (nI_toInt (by omega)) c_6
        exfalso
        omega
  ·
    have ic_1 : ((30 + o : Nat) : Int) = 0 := tx_eq (nI_toInt (by omega)) (by decide) c_1
    exfalso
    omega
set_option maxHeartbeats 4000000 in
set_option maxRecDepth 100000 in
/-- count 10 of L -/
theorem c_X7_count10_L (l : Launch) (hlt : l.stackTraces = false) (dC : Nat → ClassId) (dI : Nat → Nat → Nat) (sz : Nat) (a0 : Nat) (qb : Nat) (cq : ClassId) (bq : Nat → Option Nat) (o : Nat) (y0 : Nat) (kd : Int32) (v0 : Value) (v2 : Value) (v3 : Value) (v4 : Value) (ho9 : o < 16) (hbo : bq o = some y0) : vx_Met l yX7_count wsX7_count ({ frames := 8, cells := 1, slots := 6, locals := 280 }) (va_Pc [.ref a0, .int (nI (10 + o))] (pk_PreXR (dC, dI) [(a0, .inr (7, [.ref qb])), (qb, .inl (cq, 16, .inr (.inr (.inr (.inr bq))))), (y0, .inr (4, [v0, .int kd, v2, v3, v4]))] [(cq, .object "KeyAtlas$Body")] sz)) (va_Qi (fun (_ : Int32) (_ : Unit) => True) (fun _ (t : State) => t.heap.size = sz) (roN sz)) (vx_X (fun _ : Unit => True) (fun (E : String) (_ : Unit) (t : State) => E = "java/lang/IllegalArgumentException") (roN sz)) 1 6 (roN sz) := by
  refine vx_ofW (cc := cX7_count) (maxL := 2) (ret := (some .int)) (by decide) rfl ?_
  intro p e s m args below meth c s₁ B hml htab hv
  obtain ⟨rfl, hsz, hP, hK, hN, hZ⟩ := hv
  have hx := B.exec
  have hb := B.bytes
  have hr := B.returns
  have hts := atoms_spec (ws := wsX7_count) B.pre
  have hown : s.vm.findClass RX7 = some m.cls := findClass_of_methodNamed B.named
  have hlocks := B.notSynchronized
  subst hsz
  generalize hAe : roN s.heap.size = A at hZ ⊢
  have hA : ∀ q : Nat, s.heap.size ≤ q → A q := fun q h => by rw [← hAe]; exact h
  have hS : va_S A s.heap s.heap [] := va_S.rf
  have hP : va_P (dC, dI) vwCl [(a0, .inr (7, [.ref qb])), (qb, .inl (cq, 16, .inr (.inr (.inr (.inr bq))))), (y0, .inr (4, [v0, .int kd, v2, v3, v4]))] s.heap := hP
  have hl := lv_entry ([.ref a0, .int (nI (10 + o))]) (n := 2) (Nat.le_of_ble_eq_true rfl)
  rw [lg_entry_eq]
  generalize (lg_sl ([.ref a0, .int (nI (10 + o))]) ++ List.replicate (2 - (lg_sl ([.ref a0, .int (nI (10 + o))])).length) Slot.unset).toArray = ls at hl ⊢
  have hl : lv_has ls 2 [(0, .ref a0), (1, .int (nI (10 + o)))] := hl

  have hoi_ : (nI (10 + o)).toInt = ((10 + o : Nat) : Int) := nI_toInt (by omega)
  refine lv_iload_n hx hb dX7_count_0 rfl (lv_at hl 1 rfl) ?_
  refine lv_if_ne (tgt := 9) hx hb dX7_count_1 (by decide) (fun c_1 => ?_) (fun c_1 => ?_)
  ·
    have ic_1 : ¬ ((10 + o : Nat) : Int) = 0 := tx_ne (nI_toInt (by omega)) (by decide) c_1
    refine lv_iload_n hx hb dX7_count_9 rfl (lv_at hl 1 rfl) ?_
    refine lv_bipush (v := 10) hx hb dX7_count_10 (by decide) ?_
    refine lv_icmp_lt (tgt := 30) hx hb dX7_count_12 (by decide) (fun c_2 => ?_) (fun c_2 => ?_)
    ·
      have ic_2 : ((10 + o : Nat) : Int) < 10 := tx_lt (nI_toInt (by omega)) (by decide) c_2
      exfalso
      omega
    ·
      have ic_2 : 10 ≤ ((10 + o : Nat) : Int) := tx_nlt (nI_toInt (by omega)) (by decide) c_2
      refine lv_iload_n hx hb dX7_count_15 rfl (lv_at hl 1 rfl) ?_
      refine lv_bipush (v := 26) hx hb dX7_count_16 (by decide) ?_
      refine lv_icmp_ge (tgt := 30) hx hb dX7_count_18 (by decide) (fun c_3 => ?_) (fun c_3 => ?_)
      ·
        have ic_3 : 26 ≤ ((10 + o : Nat) : Int) := tx_le (by decide) (nI_toInt (by omega)) c_3
        exfalso
        omega
      ·
        have ic_3 : ((10 + o : Nat) : Int) < 26 := tx_nle (by decide) (nI_toInt (by omega)) c_3
        refine lv_aload_n hx hb dX7_count_21 rfl (lv_at hl 0 rfl) ?_
        refine lv_iload_n hx hb dX7_count_22 rfl (lv_at hl 1 rfl) ?_
        refine lv_bipush (v := 10) hx hb dX7_count_23 (by decide) ?_
        refine lv_isub hx hb dX7_count_25 ?_
        refine lv_topi (fun z_ ez_ => ?_)
        obtain rfl : z_ = nI o := ez_.trans (by rw [show (10 : Int32) = nI 10 from rfl, pk_sub (by omega), show 10 + o - 10 = o by omega])
        have hPc := hP.sub (ws' := [(a0, .inr (7, [.ref qb])), (qb, .inl (cq, 16, .inr (.inr (.inr (.inr bq))))), (y0, .inr (4, [v0, .int kd, v2, v3, v4]))]) [0, 1, 2] rfl
        have hKc := hK.sub (tys' := [(cq, .object "KeyAtlas$Body")]) [0] rfl
        refine ro_calli (va_runV (As := [.int (nI o)]) (rest := []) ⟨hx, hb, hml, hown, hts⟩ (c_X7_kindOf_L l hlt dC dI s.heap.size a0 qb cq bq o y0 kd v0 v2 v3 v4 ho9 hbo) (cwV 1 hts gX7_count_X7_kindOf rfl rfl rfl (by decide +kernel) ⟨(Nat.le_of_ble_eq_true rfl), (Nat.le_of_ble_eq_true rfl)⟩) ⟨pk_blindRX, va_recv hKc hPc (ci := 7) (q0 := 0) rfl rfl, pk_callRX hPc hKc hN⟩ rfl rfl hl.1 rfl (lv_room (Nat.le_of_ble_eq_true rfl)) dX7_count_26 ⟨(Nat.le_of_ble_eq_true rfl), (Nat.le_of_ble_eq_true rfl)⟩) (fun r_4 ur_4 hw => ?_)
        clear hPc hKc
        try dsimp only at hw
        have jr_4 := hw
        refine W.eq (g2 := F0 m 29 ls [.int r_4]) rfl ?_
        refine W.widen (k := 1) (n := 6) (Nat.le_of_ble_eq_true rfl) (Nat.le_of_ble_eq_true rfl) ?_
        refine vx_ret ?_
        exact W.iret (v := r_4) hx hb hr (fun t ht hW => ⟨⟨r_4, (), rfl, trivial, congrArg Array.size ht⟩, hS.F ht⟩) hS.2.2 dX7_count_29
  ·
    have ic_1 : ((10 + o : Nat) : Int) = 0 := tx_eq (nI_toInt (by omega)) (by decide) c_1
    exfalso
    omega
set_option maxHeartbeats 4000000 in
set_option maxRecDepth 100000 in
/-- count 30 of L -/
theorem c_X7_count30_L (l : Launch) (hlt : l.stackTraces = false) (dC : Nat → ClassId) (dI : Nat → Nat → Nat) (sz : Nat) (a0 : Nat) (qb : Nat) (cq : ClassId) (bq : Nat → Option Nat) (o : Nat) (y0 : Nat) (kd : Int32) (wh : Int32) (lim : Nat) (bu : Int32) (x0 : Nat) (k0 : Nat) (w0 : Nat) (ck : ClassId) (cw : ClassId) (L : Nat) (f : Nat → Int32) (g : Nat → Int32) (nz : Nat) (ch : Int32) (ho9 : o < 16) (hbo : bq o = some y0) (hR9 : rOK L nz) (hlim : lim ≤ 1000) : vx_Met l yX7_count wsX7_count ({ frames := 8, cells := 1, slots := 6, locals := 280 }) (va_Pc [.ref a0, .int (nI (30 + o))] (pk_PreXR (dC, dI) [(a0, .inr (7, [.ref qb])), (qb, .inl (cq, 16, .inr (.inr (.inr (.inr bq))))), (y0, .inr (4, [.ref x0, .int kd, .int wh, .int (nI lim), .int bu])), (x0, .inr (5, [.ref k0, .ref w0, .int (nI nz), .int ch])), (k0, .inl (ck, L, .inl f)), (w0, .inl (cw, L, .inl g))] [(cq, .object "KeyAtlas$Body"), (ck, .int), (cw, .int)] sz)) (va_Qi (fun (_ : Int32) (_ : Unit) => True) (fun _ (t : State) => t.heap.size = sz) (roN sz)) (vx_X (fun _ : Unit => True) (fun (E : String) (_ : Unit) (t : State) => E = "java/lang/IllegalArgumentException") (roN sz)) 1 6 (roN sz) := by
  refine vx_ofW (cc := cX7_count) (maxL := 2) (ret := (some .int)) (by decide) rfl ?_
  intro p e s m args below meth c s₁ B hml htab hv
  obtain ⟨rfl, hsz, hP, hK, hN, hZ⟩ := hv
  have hx := B.exec
  have hb := B.bytes
  have hr := B.returns
  have hts := atoms_spec (ws := wsX7_count) B.pre
  have hown : s.vm.findClass RX7 = some m.cls := findClass_of_methodNamed B.named
  have hlocks := B.notSynchronized
  subst hsz
  generalize hAe : roN s.heap.size = A at hZ ⊢
  have hA : ∀ q : Nat, s.heap.size ≤ q → A q := fun q h => by rw [← hAe]; exact h
  have hS : va_S A s.heap s.heap [] := va_S.rf
  have hP : va_P (dC, dI) vwCl [(a0, .inr (7, [.ref qb])), (qb, .inl (cq, 16, .inr (.inr (.inr (.inr bq))))), (y0, .inr (4, [.ref x0, .int kd, .int wh, .int (nI lim), .int bu])), (x0, .inr (5, [.ref k0, .ref w0, .int (nI nz), .int ch])), (k0, .inl (ck, L, .inl f)), (w0, .inl (cw, L, .inl g))] s.heap := hP
  have hl := lv_entry ([.ref a0, .int (nI (30 + o))]) (n := 2) (Nat.le_of_ble_eq_true rfl)
  rw [lg_entry_eq]
  generalize (lg_sl ([.ref a0, .int (nI (30 + o))]) ++ List.replicate (2 - (lg_sl ([.ref a0, .int (nI (30 + o))])).length) Slot.unset).toArray = ls at hl ⊢
  have hl : lv_has ls 2 [(0, .ref a0), (1, .int (nI (30 + o)))] := hl

  have hoi_ : (nI (30 + o)).toInt = ((30 + o : Nat) : Int) := nI_toInt (by omega)
  refine lv_iload_n hx hb dX7_count_0 rfl (lv_at hl 1 rfl) ?_
  refine lv_if_ne (tgt := 9) hx hb dX7_count_1 (by decide) (fun c_1 => ?_) (fun c_1 => ?_)
  ·
    have ic_1 : ¬ ((30 + o : Nat) : Int) = 0 := tx_ne (nI_toInt (by omega)) (by decide) c_1
    refine lv_iload_n hx hb dX7_count_9 rfl (lv_at hl 1 rfl) ?_
    refine lv_bipush (v := 10) hx hb dX7_count_10 (by decide) ?_
    refine lv_icmp_lt (tgt := 30) hx hb dX7_count_12 (by decide) (fun c_2 => ?_) (fun c_2 => ?_)
    ·
      have ic_2 : ((30 + o : Nat) : Int) < 10 := tx_lt (nI_toInt (by omega)) (by decide) c_2
      refine lv_iload_n hx hb dX7_count_30 rfl (lv_at hl 1 rfl) ?_
      refine lv_bipush (v := 30) hx hb dX7_count_31 (by decide) ?_
      refine lv_icmp_lt (tgt := 51) hx hb dX7_count_33 (by decide) (fun c_3 => ?_) (fun c_3 => ?_)
      ·
        have ic_3 : ((30 + o : Nat) : Int) < 30 := tx_lt (nI_toInt (by omega)) (by decide) c_3
        exfalso
        omega
      ·
        have ic_3 : 30 ≤ ((30 + o : Nat) : Int) := tx_nlt (nI_toInt (by omega)) (by decide) c_3
        refine lv_iload_n hx hb dX7_count_36 rfl (lv_at hl 1 rfl) ?_
        refine lv_bipush (v := 46) hx hb dX7_count_37 (by decide) ?_
        refine lv_icmp_ge (tgt := 51) hx hb dX7_count_39 (by decide) (fun c_4 => ?_) (fun c_4 => ?_)
        ·
          have ic_4 : 46 ≤ ((30 + o : Nat) : Int) := tx_le (by decide) (nI_toInt (by omega)) c_4
          exfalso
          omega
        ·
          have ic_4 : ((30 + o : Nat) : Int) < 46 := tx_nle (by decide) (nI_toInt (by omega)) c_4
          refine lv_aload_n hx hb dX7_count_42 rfl (lv_at hl 0 rfl) ?_
          refine lv_iload_n hx hb dX7_count_43 rfl (lv_at hl 1 rfl) ?_
          refine lv_bipush (v := 30) hx hb dX7_count_44 (by decide) ?_
          refine lv_isub hx hb dX7_count_46 ?_
          refine lv_topi (fun z_ ez_ => ?_)
          obtain rfl : z_ = nI o := ez_.trans (by rw [show (30 : Int32) = nI 30 from rfl, pk_sub (by omega), show 30 + o - 30 = o by omega])
          have hPc := hP.sub (ws' := [(a0, .inr (7, [.ref qb])), (qb, .inl (cq, 16, .inr (.inr (.inr (.inr bq))))), (y0, .inr (4, [.ref x0, .int kd, .int wh, .int (nI lim), .int bu])), (x0, .inr (5, [.ref k0, .ref w0, .int (nI nz), .int ch])), (k0, .inl (ck, L, .inl f)), (w0, .inl (cw, L, .inl g))]) [0, 1, 2, 3, 4, 5] rfl
          have hKc := hK.sub (tys' := [(cq, .object "KeyAtlas$Body"), (ck, .int), (cw, .int)]) [0, 1, 2] rfl
          refine ro_calli (va_runV (As := [.int (nI o)]) (rest := []) ⟨hx, hb, hml, hown, hts⟩ (c_X7_sizeOf_L l hlt dC dI s.heap.size a0 qb cq bq o y0 kd wh lim bu x0 k0 w0 ck cw L f g nz ch ho9 hbo hR9 hlim) (cwV 1 hts gX7_count_X7_sizeOf rfl rfl rfl (by decide +kernel) ⟨(Nat.le_of_ble_eq_true rfl), (Nat.le_of_ble_eq_true rfl)⟩) ⟨pk_blindRX, va_recv hKc hPc (ci := 7) (q0 := 0) rfl rfl, pk_callRX hPc hKc hN⟩ rfl rfl hl.1 rfl (lv_room (Nat.le_of_ble_eq_true rfl)) dX7_count_47 ⟨(Nat.le_of_ble_eq_true rfl), (Nat.le_of_ble_eq_true rfl)⟩) (fun r_5 ur_5 hw => ?_)
          clear hPc hKc
          try dsimp only at hw
          have jr_5 := hw
          refine W.eq (g2 := F0 m 50 ls [.int r_5]) rfl ?_
          refine W.widen (k := 1) (n := 6) (Nat.le_of_ble_eq_true rfl) (Nat.le_of_ble_eq_true rfl) ?_
          refine vx_ret ?_
          exact W.iret (v := r_5) hx hb hr (fun t ht hW => ⟨⟨r_5, (), rfl, trivial, congrArg Array.size ht⟩, hS.F ht⟩) hS.2.2 dX7_count_50
    ·
      have ic_2 : 10 ≤ ((30 + o : Nat) : Int) := tx_nlt (nI_toInt (by omega)) (by decide) c_2
      refine lv_iload_n hx hb dX7_count_15 rfl (lv_at hl 1 rfl) ?_
      refine lv_bipush (v := 26) hx hb dX7_count_16 (by decide) ?_
      refine lv_icmp_ge (tgt := 30) hx hb dX7_count_18 (by decide) (fun c_6 => ?_) (fun c_6 => ?_)
      ·
        have ic_6 : 26 ≤ ((30 + o : Nat) : Int) := tx_le (by decide) (nI_toInt (by omega)) c_6
        refine lv_iload_n hx hb dX7_count_30 rfl (lv_at hl 1 rfl) ?_
        refine lv_bipush (v := 30) hx hb dX7_count_31 (by decide) ?_
        refine lv_icmp_lt (tgt := 51) hx hb dX7_count_33 (by decide) (fun c_7 => ?_) (fun c_7 => ?_)
        ·
          have ic_7 : ((30 + o : Nat) : Int) < 30 := tx_lt (nI_toInt (by omega)) (by decide) c_7
          exfalso
          omega
        ·
          have ic_7 : 30 ≤ ((30 + o : Nat) : Int) := tx_nlt (nI_toInt (by omega)) (by decide) c_7
          refine lv_iload_n hx hb dX7_count_36 rfl (lv_at hl 1 rfl) ?_
          refine lv_bipush (v := 46) hx hb dX7_count_37 (by decide) ?_
          refine lv_icmp_ge (tgt := 51) hx hb dX7_count_39 (by decide) (fun c_8 => ?_) (fun c_8 => ?_)
          ·
            have ic_8 : 46 ≤ ((30 + o : Nat) : Int) := tx_le (by decide) (nI_toInt (by omega)) c_8
            exfalso
            omega
          ·
            have ic_8 : ((30 + o : Nat) : Int) < 46 := tx_nle (by decide) (nI_toInt (by omega)) c_8
            refine lv_aload_n hx hb dX7_count_42 rfl (lv_at hl 0 rfl) ?_
            refine lv_iload_n hx hb dX7_count_43 rfl (lv_at hl 1 rfl) ?_
            refine lv_bipush (v := 30) hx hb dX7_count_44 (by decide) ?_
            refine lv_isub hx hb dX7_count_46 ?_
            refine lv_topi (fun z_ ez_ => ?_)
            obtain rfl : z_ = nI o := ez_.trans (by rw [show (30 : Int32) = nI 30 from rfl, pk_sub (by omega), show 30 + o - 30 = o by omega])
            have hPc := hP.sub (ws' := [(a0, .inr (7, [.ref qb])), (qb, .inl (cq, 16, .inr (.inr (.inr (.inr bq))))), (y0, .inr (4, [.ref x0, .int kd, .int wh, .int (nI lim), .int bu])), (x0, .inr (5, [.ref k0, .ref w0, .int (nI nz), .int ch])), (k0, .inl (ck, L, .inl f)), (w0, .inl (cw, L, .inl g))]) [0, 1, 2, 3, 4, 5] rfl
            have hKc := hK.sub (tys' := [(cq, .object "KeyAtlas$Body"), (ck, .int), (cw, .int)]) [0, 1, 2] rfl
            refine ro_calli (va_runV (As := [.int (nI o)]) (rest := []) ⟨hx, hb, hml, hown, hts⟩ (c_X7_sizeOf_L l hlt dC dI s.heap.size a0 qb cq bq o y0 kd wh lim bu x0 k0 w0 ck cw L f g nz ch ho9 hbo hR9 hlim) (cwV 1 hts gX7_count_X7_sizeOf rfl rfl rfl (by decide +kernel) ⟨(Nat.le_of_ble_eq_true rfl), (Nat.le_of_ble_eq_true rfl)⟩) ⟨pk_blindRX, va_recv hKc hPc (ci := 7) (q0 := 0) rfl rfl, pk_callRX hPc hKc hN⟩ rfl rfl hl.1 rfl (lv_room (Nat.le_of_ble_eq_true rfl)) dX7_count_47 ⟨(Nat.le_of_ble_eq_true rfl), (Nat.le_of_ble_eq_true rfl)⟩) (fun r_9 ur_9 hw => ?_)
            clear hPc hKc
            try dsimp only at hw
            have jr_9 := hw
            refine W.eq (g2 := F0 m 50 ls [.int r_9]) rfl ?_
            refine W.widen (k := 1) (n := 6) (Nat.le_of_ble_eq_true rfl) (Nat.le_of_ble_eq_true rfl) ?_
            refine vx_ret ?_
            exact W.iret (v := r_9) hx hb hr (fun t ht hW => ⟨⟨r_9, (), rfl, trivial, congrArg Array.size ht⟩, hS.F ht⟩) hS.2.2 dX7_count_50
      ·
        have ic_6 : ((30 + o : Nat) : Int) < 26 := tx_nle (by decide) (nI_toInt (by omega)) c_6
        exfalso
        omega
  ·
    have ic_1 : ((30 + o : Nat) : Int) = 0 := tx_eq (nI_toInt (by omega)) (by decide) c_1
    exfalso
    omega
set_option maxHeartbeats 4000000 in
set_option maxRecDepth 100000 in
/-- count 10 of S -/
theorem c_X7_count10_S (l : Launch) (hlt : l.stackTraces = false) (dC : Nat → ClassId) (dI : Nat → Nat → Nat) (sz : Nat) (a0 : Nat) (qb : Nat) (cq : ClassId) (bq : Nat → Option Nat) (o : Nat) (y0 : Nat) (kd : Int32) (v0 : Value) (v2 : Value) (v3 : Value) (v4 : Value) (v5 : Value) (v6 : Value) (ho9 : o < 16) (hbo : bq o = some y0) : vx_Met l yX7_count wsX7_count ({ frames := 8, cells := 1, slots := 6, locals := 280 }) (va_Pc [.ref a0, .int (nI (10 + o))] (pk_PreXR (dC, dI) [(a0, .inr (7, [.ref qb])), (qb, .inl (cq, 16, .inr (.inr (.inr (.inr bq))))), (y0, .inr (6, [v0, .int kd, v2, v3, v4, v5, v6]))] [(cq, .object "KeyAtlas$Body")] sz)) (va_Qi (fun (_ : Int32) (_ : Unit) => True) (fun _ (t : State) => t.heap.size = sz) (roN sz)) (vx_X (fun _ : Unit => True) (fun (E : String) (_ : Unit) (t : State) => E = "java/lang/IllegalArgumentException") (roN sz)) 1 6 (roN sz) := by
  refine vx_ofW (cc := cX7_count) (maxL := 2) (ret := (some .int)) (by decide) rfl ?_
  intro p e s m args below meth c s₁ B hml htab hv
  obtain ⟨rfl, hsz, hP, hK, hN, hZ⟩ := hv
  have hx := B.exec
  have hb := B.bytes
  have hr := B.returns
  have hts := atoms_spec (ws := wsX7_count) B.pre
  have hown : s.vm.findClass RX7 = some m.cls := findClass_of_methodNamed B.named
  have hlocks := B.notSynchronized
  subst hsz
  generalize hAe : roN s.heap.size = A at hZ ⊢
  have hA : ∀ q : Nat, s.heap.size ≤ q → A q := fun q h => by rw [← hAe]; exact h
  have hS : va_S A s.heap s.heap [] := va_S.rf
  have hP : va_P (dC, dI) vwCl [(a0, .inr (7, [.ref qb])), (qb, .inl (cq, 16, .inr (.inr (.inr (.inr bq))))), (y0, .inr (6, [v0, .int kd, v2, v3, v4, v5, v6]))] s.heap := hP
  have hl := lv_entry ([.ref a0, .int (nI (10 + o))]) (n := 2) (Nat.le_of_ble_eq_true rfl)
  rw [lg_entry_eq]
  generalize (lg_sl ([.ref a0, .int (nI (10 + o))]) ++ List.replicate (2 - (lg_sl ([.ref a0, .int (nI (10 + o))])).length) Slot.unset).toArray = ls at hl ⊢
  have hl : lv_has ls 2 [(0, .ref a0), (1, .int (nI (10 + o)))] := hl

  have hoi_ : (nI (10 + o)).toInt = ((10 + o : Nat) : Int) := nI_toInt (by omega)
  refine lv_iload_n hx hb dX7_count_0 rfl (lv_at hl 1 rfl) ?_
  refine lv_if_ne (tgt := 9) hx hb dX7_count_1 (by decide) (fun c_1 => ?_) (fun c_1 => ?_)
  ·
    have ic_1 : ¬ ((10 + o : Nat) : Int) = 0 := tx_ne (nI_toInt (by omega)) (by decide) c_1
    refine lv_iload_n hx hb dX7_count_9 rfl (lv_at hl 1 rfl) ?_
    refine lv_bipush (v := 10) hx hb dX7_count_10 (by decide) ?_
    refine lv_icmp_lt (tgt := 30) hx hb dX7_count_12 (by decide) (fun c_2 => ?_) (fun c_2 => ?_)
    ·
      have ic_2 : ((10 + o : Nat) : Int) < 10 := tx_lt (nI_toInt (by omega)) (by decide) c_2
      exfalso
      omega
    ·
      have ic_2 : 10 ≤ ((10 + o : Nat) : Int) := tx_nlt (nI_toInt (by omega)) (by decide) c_2
      refine lv_iload_n hx hb dX7_count_15 rfl (lv_at hl 1 rfl) ?_
      refine lv_bipush (v := 26) hx hb dX7_count_16 (by decide) ?_
      refine lv_icmp_ge (tgt := 30) hx hb dX7_count_18 (by decide) (fun c_3 => ?_) (fun c_3 => ?_)
      ·
        have ic_3 : 26 ≤ ((10 + o : Nat) : Int) := tx_le (by decide) (nI_toInt (by omega)) c_3
        exfalso
        omega
      ·
        have ic_3 : ((10 + o : Nat) : Int) < 26 := tx_nle (by decide) (nI_toInt (by omega)) c_3
        refine lv_aload_n hx hb dX7_count_21 rfl (lv_at hl 0 rfl) ?_
        refine lv_iload_n hx hb dX7_count_22 rfl (lv_at hl 1 rfl) ?_
        refine lv_bipush (v := 10) hx hb dX7_count_23 (by decide) ?_
        refine lv_isub hx hb dX7_count_25 ?_
        refine lv_topi (fun z_ ez_ => ?_)
        obtain rfl : z_ = nI o := ez_.trans (by rw [show (10 : Int32) = nI 10 from rfl, pk_sub (by omega), show 10 + o - 10 = o by omega])
        have hPc := hP.sub (ws' := [(a0, .inr (7, [.ref qb])), (qb, .inl (cq, 16, .inr (.inr (.inr (.inr bq))))), (y0, .inr (6, [v0, .int kd, v2, v3, v4, v5, v6]))]) [0, 1, 2] rfl
        have hKc := hK.sub (tys' := [(cq, .object "KeyAtlas$Body")]) [0] rfl
        refine ro_calli (va_runV (As := [.int (nI o)]) (rest := []) ⟨hx, hb, hml, hown, hts⟩ (c_X7_kindOf_S l hlt dC dI s.heap.size a0 qb cq bq o y0 kd v0 v2 v3 v4 v5 v6 ho9 hbo) (cwV 1 hts gX7_count_X7_kindOf rfl rfl rfl (by decide +kernel) ⟨(Nat.le_of_ble_eq_true rfl), (Nat.le_of_ble_eq_true rfl)⟩) ⟨pk_blindRX, va_recv hKc hPc (ci := 7) (q0 := 0) rfl rfl, pk_callRX hPc hKc hN⟩ rfl rfl hl.1 rfl (lv_room (Nat.le_of_ble_eq_true rfl)) dX7_count_26 ⟨(Nat.le_of_ble_eq_true rfl), (Nat.le_of_ble_eq_true rfl)⟩) (fun r_4 ur_4 hw => ?_)
        clear hPc hKc
        try dsimp only at hw
        have jr_4 := hw
        refine W.eq (g2 := F0 m 29 ls [.int r_4]) rfl ?_
        refine W.widen (k := 1) (n := 6) (Nat.le_of_ble_eq_true rfl) (Nat.le_of_ble_eq_true rfl) ?_
        refine vx_ret ?_
        exact W.iret (v := r_4) hx hb hr (fun t ht hW => ⟨⟨r_4, (), rfl, trivial, congrArg Array.size ht⟩, hS.F ht⟩) hS.2.2 dX7_count_29
  ·
    have ic_1 : ((10 + o : Nat) : Int) = 0 := tx_eq (nI_toInt (by omega)) (by decide) c_1
    exfalso
    omega
set_option maxHeartbeats 4000000 in
set_option maxRecDepth 100000 in
/-- count 30 of S -/
theorem c_X7_count30_S (l : Launch) (hlt : l.stackTraces = false) (dC : Nat → ClassId) (dI : Nat → Nat → Nat) (sz : Nat) (a0 : Nat) (qb : Nat) (cq : ClassId) (bq : Nat → Option Nat) (o : Nat) (y0 : Nat) (kd : Int32) (wh : Int32) (od : Int32) (tu : Int32) (lo : Int64) (hi : Int64) (x0 : Nat) (k0 : Nat) (w0 : Nat) (ck : ClassId) (cw : ClassId) (L : Nat) (f : Nat → Int32) (g : Nat → Int32) (nz : Nat) (ch : Int32) (ho9 : o < 16) (hbo : bq o = some y0) (hR9 : rOK L nz) (ho1 : 0 ≤ od.toInt) (ho2 : od.toInt ≤ 3) : vx_Met l yX7_count wsX7_count ({ frames := 8, cells := 1, slots := 6, locals := 280 }) (va_Pc [.ref a0, .int (nI (30 + o))] (pk_PreXR (dC, dI) [(a0, .inr (7, [.ref qb])), (qb, .inl (cq, 16, .inr (.inr (.inr (.inr bq))))), (y0, .inr (6, [.ref x0, .int kd, .int wh, .int od, .int tu, .long lo, .long hi])), (x0, .inr (5, [.ref k0, .ref w0, .int (nI nz), .int ch])), (k0, .inl (ck, L, .inl f)), (w0, .inl (cw, L, .inl g))] [(cq, .object "KeyAtlas$Body"), (ck, .int), (cw, .int)] sz)) (va_Qi (fun (_ : Int32) (_ : Unit) => True) (fun _ (t : State) => t.heap.size = sz) (roN sz)) (vx_X (fun _ : Unit => True) (fun (E : String) (_ : Unit) (t : State) => E = "java/lang/IllegalArgumentException") (roN sz)) 1 6 (roN sz) := by
  refine vx_ofW (cc := cX7_count) (maxL := 2) (ret := (some .int)) (by decide) rfl ?_
  intro p e s m args below meth c s₁ B hml htab hv
  obtain ⟨rfl, hsz, hP, hK, hN, hZ⟩ := hv
  have hx := B.exec
  have hb := B.bytes
  have hr := B.returns
  have hts := atoms_spec (ws := wsX7_count) B.pre
  have hown : s.vm.findClass RX7 = some m.cls := findClass_of_methodNamed B.named
  have hlocks := B.notSynchronized
  subst hsz
  generalize hAe : roN s.heap.size = A at hZ ⊢
  have hA : ∀ q : Nat, s.heap.size ≤ q → A q := fun q h => by rw [← hAe]; exact h
  have hS : va_S A s.heap s.heap [] := va_S.rf
  have hP : va_P (dC, dI) vwCl [(a0, .inr (7, [.ref qb])), (qb, .inl (cq, 16, .inr (.inr (.inr (.inr bq))))), (y0, .inr (6, [.ref x0, .int kd, .int wh, .int od, .int tu, .long lo, .long hi])), (x0, .inr (5, [.ref k0, .ref w0, .int (nI nz), .int ch])), (k0, .inl (ck, L, .inl f)), (w0, .inl (cw, L, .inl g))] s.heap := hP
  have hl := lv_entry ([.ref a0, .int (nI (30 + o))]) (n := 2) (Nat.le_of_ble_eq_true rfl)
  rw [lg_entry_eq]
  generalize (lg_sl ([.ref a0, .int (nI (30 + o))]) ++ List.replicate (2 - (lg_sl ([.ref a0, .int (nI (30 + o))])).length) Slot.unset).toArray = ls at hl ⊢
  have hl : lv_has ls 2 [(0, .ref a0), (1, .int (nI (30 + o)))] := hl

  have hoi_ : (nI (30 + o)).toInt = ((30 + o : Nat) : Int) := nI_toInt (by omega)
  refine lv_iload_n hx hb dX7_count_0 rfl (lv_at hl 1 rfl) ?_
  refine lv_if_ne (tgt := 9) hx hb dX7_count_1 (by decide) (fun c_1 => ?_) (fun c_1 => ?_)
  ·
    have ic_1 : ¬ ((30 + o : Nat) : Int) = 0 := tx_ne (nI_toInt (by omega)) (by decide) c_1
    refine lv_iload_n hx hb dX7_count_9 rfl (lv_at hl 1 rfl) ?_
    refine lv_bipush (v := 10) hx hb dX7_count_10 (by decide) ?_
    refine lv_icmp_lt (tgt := 30) hx hb dX7_count_12 (by decide) (fun c_2 => ?_) (fun c_2 => ?_)
    ·
      have ic_2 : ((30 + o : Nat) : Int) < 10 := tx_lt (nI_toInt (by omega)) (by decide) c_2
      refine lv_iload_n hx hb dX7_count_30 rfl (lv_at hl 1 rfl) ?_
      refine lv_bipush (v := 30) hx hb dX7_count_31 (by decide) ?_
      refine lv_icmp_lt (tgt := 51) hx hb dX7_count_33 (by decide) (fun c_3 => ?_) (fun c_3 => ?_)
      ·
        have ic_3 : ((30 + o : Nat) : Int) < 30 := tx_lt (nI_toInt (by omega)) (by decide) c_3
        exfalso
        omega
      ·
        have ic_3 : 30 ≤ ((30 + o : Nat) : Int) := tx_nlt (nI_toInt (by omega)) (by decide) c_3
        refine lv_iload_n hx hb dX7_count_36 rfl (lv_at hl 1 rfl) ?_
        refine lv_bipush (v := 46) hx hb dX7_count_37 (by decide) ?_
        refine lv_icmp_ge (tgt := 51) hx hb dX7_count_39 (by decide) (fun c_4 => ?_) (fun c_4 => ?_)
        ·
          have ic_4 : 46 ≤ ((30 + o : Nat) : Int) := tx_le (by decide) (nI_toInt (by omega)) c_4
          exfalso
          omega
        ·
          have ic_4 : ((30 + o : Nat) : Int) < 46 := tx_nle (by decide) (nI_toInt (by omega)) c_4
          refine lv_aload_n hx hb dX7_count_42 rfl (lv_at hl 0 rfl) ?_
          refine lv_iload_n hx hb dX7_count_43 rfl (lv_at hl 1 rfl) ?_
          refine lv_bipush (v := 30) hx hb dX7_count_44 (by decide) ?_
          refine lv_isub hx hb dX7_count_46 ?_
          refine lv_topi (fun z_ ez_ => ?_)
          obtain rfl : z_ = nI o := ez_.trans (by rw [show (30 : Int32) = nI 30 from rfl, pk_sub (by omega), show 30 + o - 30 = o by omega])
          have hPc := hP.sub (ws' := [(a0, .inr (7, [.ref qb])), (qb, .inl (cq, 16, .inr (.inr (.inr (.inr bq))))), (y0, .inr (6, [.ref x0, .int kd, .int wh, .int od, .int tu, .long lo, .long hi])), (x0, .inr (5, [.ref k0, .ref w0, .int (nI nz), .int ch])), (k0, .inl (ck, L, .inl f)), (w0, .inl (cw, L, .inl g))]) [0, 1, 2, 3, 4, 5] rfl
          have hKc := hK.sub (tys' := [(cq, .object "KeyAtlas$Body"), (ck, .int), (cw, .int)]) [0, 1, 2] rfl
          refine ro_calli (va_runV (As := [.int (nI o)]) (rest := []) ⟨hx, hb, hml, hown, hts⟩ (c_X7_sizeOf_S l hlt dC dI s.heap.size a0 qb cq bq o y0 kd wh od tu lo hi x0 k0 w0 ck cw L f g nz ch ho9 hbo hR9 ho1 ho2) (cwV 1 hts gX7_count_X7_sizeOf rfl rfl rfl (by decide +kernel) ⟨(Nat.le_of_ble_eq_true rfl), (Nat.le_of_ble_eq_true rfl)⟩) ⟨pk_blindRX, va_recv hKc hPc (ci := 7) (q0 := 0) rfl rfl, pk_callRX hPc hKc hN⟩ rfl rfl hl.1 rfl (lv_room (Nat.le_of_ble_eq_true rfl)) dX7_count_47 ⟨(Nat.le_of_ble_eq_true rfl), (Nat.le_of_ble_eq_true rfl)⟩) (fun r_5 ur_5 hw => ?_)
          clear hPc hKc
          try dsimp only at hw
          have jr_5 := hw
          refine W.eq (g2 := F0 m 50 ls [.int r_5]) rfl ?_
          refine W.widen (k := 1) (n := 6) (Nat.le_of_ble_eq_true rfl) (Nat.le_of_ble_eq_true rfl) ?_
          refine vx_ret ?_
          exact W.iret (v := r_5) hx hb hr (fun t ht hW => ⟨⟨r_5, (), rfl, trivial, congrArg Array.size ht⟩, hS.F ht⟩) hS.2.2 dX7_count_50
    ·
      have ic_2 : 10 ≤ ((30 + o : Nat) : Int) := tx_nlt (nI_toInt (by omega)) (by decide) c_2
      refine lv_iload_n hx hb dX7_count_15 rfl (lv_at hl 1 rfl) ?_
      refine lv_bipush (v := 26) hx hb dX7_count_16 (by decide) ?_
      refine lv_icmp_ge (tgt := 30) hx hb dX7_count_18 (by decide) (fun c_6 => ?_) (fun c_6 => ?_)
      ·
        have ic_6 : 26 ≤ ((30 + o : Nat) : Int) := tx_le (by decide) (nI_toInt (by omega)) c_6
        refine lv_iload_n hx hb dX7_count_30 rfl (lv_at hl 1 rfl) ?_
        refine lv_bipush (v := 30) hx hb dX7_count_31 (by decide) ?_
        refine lv_icmp_lt (tgt := 51) hx hb dX7_count_33 (by decide) (fun c_7 => ?_) (fun c_7 => ?_)
        ·
          have ic_7 : ((30 + o : Nat) : Int) < 30 := tx_lt (nI_toInt (by omega)) (by decide) c_7
          exfalso
          omega
        ·
          have ic_7 : 30 ≤ ((30 + o : Nat) : Int) := tx_nlt (nI_toInt (by omega)) (by decide) c_7
          refine lv_iload_n hx hb dX7_count_36 rfl (lv_at hl 1 rfl) ?_
          refine lv_bipush (v := 46) hx hb dX7_count_37 (by decide) ?_
          refine lv_icmp_ge (tgt := 51) hx hb dX7_count_39 (by decide) (fun c_8 => ?_) (fun c_8 => ?_)
          ·
            have ic_8 : 46 ≤ ((30 + o : Nat) : Int) := tx_le (by decide) (nI_toInt (by omega)) c_8
            exfalso
            omega
          ·
            have ic_8 : ((30 + o : Nat) : Int) < 46 := tx_nle (by decide) (nI_toInt (by omega)) c_8
            refine lv_aload_n hx hb dX7_count_42 rfl (lv_at hl 0 rfl) ?_
            refine lv_iload_n hx hb dX7_count_43 rfl (lv_at hl 1 rfl) ?_
            refine lv_bipush (v := 30) hx hb dX7_count_44 (by decide) ?_
            refine lv_isub hx hb dX7_count_46 ?_
            refine lv_topi (fun z_ ez_ => ?_)
            obtain rfl : z_ = nI o := ez_.trans (by rw [show (30 : Int32) = nI 30 from rfl, pk_sub (by omega), show 30 + o - 30 = o by omega])
            have hPc := hP.sub (ws' := [(a0, .inr (7, [.ref qb])), (qb, .inl (cq, 16, .inr (.inr (.inr (.inr bq))))), (y0, .inr (6, [.ref x0, .int kd, .int wh, .int od, .int tu, .long lo, .long hi])), (x0, .inr (5, [.ref k0, .ref w0, .int (nI nz), .int ch])), (k0, .inl (ck, L, .inl f)), (w0, .inl (cw, L, .inl g))]) [0, 1, 2, 3, 4, 5] rfl
            have hKc := hK.sub (tys' := [(cq, .object "KeyAtlas$Body"), (ck, .int), (cw, .int)]) [0, 1, 2] rfl
            refine ro_calli (va_runV (As := [.int (nI o)]) (rest := []) ⟨hx, hb, hml, hown, hts⟩ (c_X7_sizeOf_S l hlt dC dI s.heap.size a0 qb cq bq o y0 kd wh od tu lo hi x0 k0 w0 ck cw L f g nz ch ho9 hbo hR9 ho1 ho2) (cwV 1 hts gX7_count_X7_sizeOf rfl rfl rfl (by decide +kernel) ⟨(Nat.le_of_ble_eq_true rfl), (Nat.le_of_ble_eq_true rfl)⟩) ⟨pk_blindRX, va_recv hKc hPc (ci := 7) (q0 := 0) rfl rfl, pk_callRX hPc hKc hN⟩ rfl rfl hl.1 rfl (lv_room (Nat.le_of_ble_eq_true rfl)) dX7_count_47 ⟨(Nat.le_of_ble_eq_true rfl), (Nat.le_of_ble_eq_true rfl)⟩) (fun r_9 ur_9 hw => ?_)
            clear hPc hKc
            try dsimp only at hw
            have jr_9 := hw
            refine W.eq (g2 := F0 m 50 ls [.int r_9]) rfl ?_
            refine W.widen (k := 1) (n := 6) (Nat.le_of_ble_eq_true rfl) (Nat.le_of_ble_eq_true rfl) ?_
            refine vx_ret ?_
            exact W.iret (v := r_9) hx hb hr (fun t ht hW => ⟨⟨r_9, (), rfl, trivial, congrArg Array.size ht⟩, hS.F ht⟩) hS.2.2 dX7_count_50
      ·
        have ic_6 : ((30 + o : Nat) : Int) < 26 := tx_nle (by decide) (nI_toInt (by omega)) c_6
        exfalso
        omega
  ·
    have ic_1 : ((30 + o : Nat) : Int) = 0 := tx_eq (nI_toInt (by omega)) (by decide) c_1
    exfalso
    omega
set_option maxHeartbeats 4000000 in
set_option maxRecDepth 100000 in
/-- count 10 of C -/
theorem c_X7_count10_C (l : Launch) (hlt : l.stackTraces = false) (dC : Nat → ClassId) (dI : Nat → Nat → Nat) (sz : Nat) (a0 : Nat) (qb : Nat) (cq : ClassId) (bq : Nat → Option Nat) (o : Nat) (y0 : Nat) (kd : Int32) (v1 : Value) (v2 : Value) (v3 : Value) (v4 : Value) (v5 : Value) (ho9 : o < 16) (hbo : bq o = some y0) : vx_Met l yX7_count wsX7_count ({ frames := 8, cells := 1, slots := 6, locals := 280 }) (va_Pc [.ref a0, .int (nI (10 + o))] (pk_PreXR (dC, dI) [(a0, .inr (7, [.ref qb])), (qb, .inl (cq, 16, .inr (.inr (.inr (.inr bq))))), (y0, .inr (2, [.int kd, v1, v2, v3, v4, v5]))] [(cq, .object "KeyAtlas$Body")] sz)) (va_Qi (fun (_ : Int32) (_ : Unit) => True) (fun _ (t : State) => t.heap.size = sz) (roN sz)) (vx_X (fun _ : Unit => True) (fun (E : String) (_ : Unit) (t : State) => E = "java/lang/IllegalArgumentException") (roN sz)) 1 6 (roN sz) := by
  refine vx_ofW (cc := cX7_count) (maxL := 2) (ret := (some .int)) (by decide) rfl ?_
  intro p e s m args below meth c s₁ B hml htab hv
  obtain ⟨rfl, hsz, hP, hK, hN, hZ⟩ := hv
  have hx := B.exec
  have hb := B.bytes
  have hr := B.returns
  have hts := atoms_spec (ws := wsX7_count) B.pre
  have hown : s.vm.findClass RX7 = some m.cls := findClass_of_methodNamed B.named
  have hlocks := B.notSynchronized
  subst hsz
  generalize hAe : roN s.heap.size = A at hZ ⊢
  have hA : ∀ q : Nat, s.heap.size ≤ q → A q := fun q h => by rw [← hAe]; exact h
  have hS : va_S A s.heap s.heap [] := va_S.rf
  have hP : va_P (dC, dI) vwCl [(a0, .inr (7, [.ref qb])), (qb, .inl (cq, 16, .inr (.inr (.inr (.inr bq))))), (y0, .inr (2, [.int kd, v1, v2, v3, v4, v5]))] s.heap := hP
  have hl := lv_entry ([.ref a0, .int (nI (10 + o))]) (n := 2) (Nat.le_of_ble_eq_true rfl)
  rw [lg_entry_eq]
  generalize (lg_sl ([.ref a0, .int (nI (10 + o))]) ++ List.replicate (2 - (lg_sl ([.ref a0, .int (nI (10 + o))])).length) Slot.unset).toArray = ls at hl ⊢
  have hl : lv_has ls 2 [(0, .ref a0), (1, .int (nI (10 + o)))] := hl

  have hoi_ : (nI (10 + o)).toInt = ((10 + o : Nat) : Int) := nI_toInt (by omega)
  refine lv_iload_n hx hb dX7_count_0 rfl (lv_at hl 1 rfl) ?_
  refine lv_if_ne (tgt := 9) hx hb dX7_count_1 (by decide) (fun c_1 => ?_) (fun c_1 => ?_)
  ·
    have ic_1 : ¬ ((10 + o : Nat) : Int) = 0 := tx_ne (nI_toInt (by omega)) (by decide) c_1
    refine lv_iload_n hx hb dX7_count_9 rfl (lv_at hl 1 rfl) ?_
    refine lv_bipush (v := 10) hx hb dX7_count_10 (by decide) ?_
    refine lv_icmp_lt (tgt := 30) hx hb dX7_count_12 (by decide) (fun c_2 => ?_) (fun c_2 => ?_)
    ·
      have ic_2 : ((10 + o : Nat) : Int) < 10 := tx_lt (nI_toInt (by omega)) (by decide) c_2
      exfalso
      omega
    ·
      have ic_2 : 10 ≤ ((10 + o : Nat) : Int) := tx_nlt (nI_toInt (by omega)) (by decide) c_2
      refine lv_iload_n hx hb dX7_count_15 rfl (lv_at hl 1 rfl) ?_
      refine lv_bipush (v := 26) hx hb dX7_count_16 (by decide) ?_
      refine lv_icmp_ge (tgt := 30) hx hb dX7_count_18 (by decide) (fun c_3 => ?_) (fun c_3 => ?_)
      ·
        have ic_3 : 26 ≤ ((10 + o : Nat) : Int) := tx_le (by decide) (nI_toInt (by omega)) c_3
        exfalso
        omega
      ·
        have ic_3 : ((10 + o : Nat) : Int) < 26 := tx_nle (by decide) (nI_toInt (by omega)) c_3
        refine lv_aload_n hx hb dX7_count_21 rfl (lv_at hl 0 rfl) ?_
        refine lv_iload_n hx hb dX7_count_22 rfl (lv_at hl 1 rfl) ?_
        refine lv_bipush (v := 10) hx hb dX7_count_23 (by decide) ?_
        refine lv_isub hx hb dX7_count_25 ?_
        refine lv_topi (fun z_ ez_ => ?_)
        obtain rfl : z_ = nI o := ez_.trans (by rw [show (10 : Int32) = nI 10 from rfl, pk_sub (by omega), show 10 + o - 10 = o by omega])
        have hPc := hP.sub (ws' := [(a0, .inr (7, [.ref qb])), (qb, .inl (cq, 16, .inr (.inr (.inr (.inr bq))))), (y0, .inr (2, [.int kd, v1, v2, v3, v4, v5]))]) [0, 1, 2] rfl
        have hKc := hK.sub (tys' := [(cq, .object "KeyAtlas$Body")]) [0] rfl
        refine ro_calli (va_runV (As := [.int (nI o)]) (rest := []) ⟨hx, hb, hml, hown, hts⟩ (c_X7_kindOf_C l hlt dC dI s.heap.size a0 qb cq bq o y0 kd v1 v2 v3 v4 v5 ho9 hbo) (cwV 1 hts gX7_count_X7_kindOf rfl rfl rfl (by decide +kernel) ⟨(Nat.le_of_ble_eq_true rfl), (Nat.le_of_ble_eq_true rfl)⟩) ⟨pk_blindRX, va_recv hKc hPc (ci := 7) (q0 := 0) rfl rfl, pk_callRX hPc hKc hN⟩ rfl rfl hl.1 rfl (lv_room (Nat.le_of_ble_eq_true rfl)) dX7_count_26 ⟨(Nat.le_of_ble_eq_true rfl), (Nat.le_of_ble_eq_true rfl)⟩) (fun r_4 ur_4 hw => ?_)
        clear hPc hKc
        try dsimp only at hw
        have jr_4 := hw
        refine W.eq (g2 := F0 m 29 ls [.int r_4]) rfl ?_
        refine W.widen (k := 1) (n := 6) (Nat.le_of_ble_eq_true rfl) (Nat.le_of_ble_eq_true rfl) ?_
        refine vx_ret ?_
        exact W.iret (v := r_4) hx hb hr (fun t ht hW => ⟨⟨r_4, (), rfl, trivial, congrArg Array.size ht⟩, hS.F ht⟩) hS.2.2 dX7_count_29
  ·
    have ic_1 : ((10 + o : Nat) : Int) = 0 := tx_eq (nI_toInt (by omega)) (by decide) c_1
    exfalso
    omega
set_option maxHeartbeats 4000000 in
set_option maxRecDepth 100000 in
/-- count 30 of C -/
theorem c_X7_count30_C (l : Launch) (hlt : l.stackTraces = false) (dC : Nat → ClassId) (dI : Nat → Nat → Nat) (sz : Nat) (a0 : Nat) (qb : Nat) (cq : ClassId) (bq : Nat → Option Nat) (o : Nat) (y0 : Nat) (fs : List Value) (ho9 : o < 16) (hbo : bq o = some y0) : vx_Met l yX7_count wsX7_count ({ frames := 8, cells := 1, slots := 6, locals := 280 }) (va_Pc [.ref a0, .int (nI (30 + o))] (pk_PreXR (dC, dI) [(a0, .inr (7, [.ref qb])), (qb, .inl (cq, 16, .inr (.inr (.inr (.inr bq))))), (y0, .inr (2, fs))] [(cq, .object "KeyAtlas$Body")] sz)) (va_Qi (fun (_ : Int32) (_ : Unit) => True) (fun _ (t : State) => t.heap.size = sz) (roN sz)) (vx_X (fun _ : Unit => True) (fun (E : String) (_ : Unit) (t : State) => E = "java/lang/IllegalArgumentException") (roN sz)) 1 6 (roN sz) := by
  refine vx_ofW (cc := cX7_count) (maxL := 2) (ret := (some .int)) (by decide) rfl ?_
  intro p e s m args below meth c s₁ B hml htab hv
  obtain ⟨rfl, hsz, hP, hK, hN, hZ⟩ := hv
  have hx := B.exec
  have hb := B.bytes
  have hr := B.returns
  have hts := atoms_spec (ws := wsX7_count) B.pre
  have hown : s.vm.findClass RX7 = some m.cls := findClass_of_methodNamed B.named
  have hlocks := B.notSynchronized
  subst hsz
  generalize hAe : roN s.heap.size = A at hZ ⊢
  have hA : ∀ q : Nat, s.heap.size ≤ q → A q := fun q h => by rw [← hAe]; exact h
  have hS : va_S A s.heap s.heap [] := va_S.rf
  have hP : va_P (dC, dI) vwCl [(a0, .inr (7, [.ref qb])), (qb, .inl (cq, 16, .inr (.inr (.inr (.inr bq))))), (y0, .inr (2, fs))] s.heap := hP
  have hl := lv_entry ([.ref a0, .int (nI (30 + o))]) (n := 2) (Nat.le_of_ble_eq_true rfl)
  rw [lg_entry_eq]
  generalize (lg_sl ([.ref a0, .int (nI (30 + o))]) ++ List.replicate (2 - (lg_sl ([.ref a0, .int (nI (30 + o))])).length) Slot.unset).toArray = ls at hl ⊢
  have hl : lv_has ls 2 [(0, .ref a0), (1, .int (nI (30 + o)))] := hl

  have hoi_ : (nI (30 + o)).toInt = ((30 + o : Nat) : Int) := nI_toInt (by omega)
  refine lv_iload_n hx hb dX7_count_0 rfl (lv_at hl 1 rfl) ?_
  refine lv_if_ne (tgt := 9) hx hb dX7_count_1 (by decide) (fun c_1 => ?_) (fun c_1 => ?_)
  ·
    have ic_1 : ¬ ((30 + o : Nat) : Int) = 0 := tx_ne (nI_toInt (by omega)) (by decide) c_1
    refine lv_iload_n hx hb dX7_count_9 rfl (lv_at hl 1 rfl) ?_
    refine lv_bipush (v := 10) hx hb dX7_count_10 (by decide) ?_
    refine lv_icmp_lt (tgt := 30) hx hb dX7_count_12 (by decide) (fun c_2 => ?_) (fun c_2 => ?_)
    ·
      have ic_2 : ((30 + o : Nat) : Int) < 10 := tx_lt (nI_toInt (by omega)) (by decide) c_2
      refine lv_iload_n hx hb dX7_count_30 rfl (lv_at hl 1 rfl) ?_
      refine lv_bipush (v := 30) hx hb dX7_count_31 (by decide) ?_
      refine lv_icmp_lt (tgt := 51) hx hb dX7_count_33 (by decide) (fun c_3 => ?_) (fun c_3 => ?_)
      ·
        have ic_3 : ((30 + o : Nat) : Int) < 30 := tx_lt (nI_toInt (by omega)) (by decide) c_3
        exfalso
        omega
      ·
        have ic_3 : 30 ≤ ((30 + o : Nat) : Int) := tx_nlt (nI_toInt (by omega)) (by decide) c_3
        refine lv_iload_n hx hb dX7_count_36 rfl (lv_at hl 1 rfl) ?_
        refine lv_bipush (v := 46) hx hb dX7_count_37 (by decide) ?_
        refine lv_icmp_ge (tgt := 51) hx hb dX7_count_39 (by decide) (fun c_4 => ?_) (fun c_4 => ?_)
        ·
          have ic_4 : 46 ≤ ((30 + o : Nat) : Int) := tx_le (by decide) (nI_toInt (by omega)) c_4
          exfalso
          omega
        ·
          have ic_4 : ((30 + o : Nat) : Int) < 46 := tx_nle (by decide) (nI_toInt (by omega)) c_4
          refine lv_aload_n hx hb dX7_count_42 rfl (lv_at hl 0 rfl) ?_
          refine lv_iload_n hx hb dX7_count_43 rfl (lv_at hl 1 rfl) ?_
          refine lv_bipush (v := 30) hx hb dX7_count_44 (by decide) ?_
          refine lv_isub hx hb dX7_count_46 ?_
          refine lv_topi (fun z_ ez_ => ?_)
          obtain rfl : z_ = nI o := ez_.trans (by rw [show (30 : Int32) = nI 30 from rfl, pk_sub (by omega), show 30 + o - 30 = o by omega])
          have hPc := hP.sub (ws' := [(a0, .inr (7, [.ref qb])), (qb, .inl (cq, 16, .inr (.inr (.inr (.inr bq))))), (y0, .inr (2, fs))]) [0, 1, 2] rfl
          have hKc := hK.sub (tys' := [(cq, .object "KeyAtlas$Body")]) [0] rfl
          refine ro_calli (va_runV (As := [.int (nI o)]) (rest := []) ⟨hx, hb, hml, hown, hts⟩ (c_X7_sizeOf_C l hlt dC dI s.heap.size a0 qb cq bq o y0 fs ho9 hbo) (cwV 1 hts gX7_count_X7_sizeOf rfl rfl rfl (by decide +kernel) ⟨(Nat.le_of_ble_eq_true rfl), (Nat.le_of_ble_eq_true rfl)⟩) ⟨pk_blindRX, va_recv hKc hPc (ci := 7) (q0 := 0) rfl rfl, pk_callRX hPc hKc hN⟩ rfl rfl hl.1 rfl (lv_room (Nat.le_of_ble_eq_true rfl)) dX7_count_47 ⟨(Nat.le_of_ble_eq_true rfl), (Nat.le_of_ble_eq_true rfl)⟩) (fun r_5 ur_5 hw => ?_)
          clear hPc hKc
          try dsimp only at hw
          have jr_5 := hw
          refine W.eq (g2 := F0 m 50 ls [.int r_5]) rfl ?_
          refine W.widen (k := 1) (n := 6) (Nat.le_of_ble_eq_true rfl) (Nat.le_of_ble_eq_true rfl) ?_
          refine vx_ret ?_
          exact W.iret (v := r_5) hx hb hr (fun t ht hW => ⟨⟨r_5, (), rfl, trivial, congrArg Array.size ht⟩, hS.F ht⟩) hS.2.2 dX7_count_50
    ·
      have ic_2 : 10 ≤ ((30 + o : Nat) : Int) := tx_nlt (nI_toInt (by omega)) (by decide) c_2
      refine lv_iload_n hx hb dX7_count_15 rfl (lv_at hl 1 rfl) ?_
      refine lv_bipush (v := 26) hx hb dX7_count_16 (by decide) ?_
      refine lv_icmp_ge (tgt := 30) hx hb dX7_count_18 (by decide) (fun c_6 => ?_) (fun c_6 => ?_)
      ·
        have ic_6 : 26 ≤ ((30 + o : Nat) : Int) := tx_le (by decide) (nI_toInt (by omega)) c_6
        refine lv_iload_n hx hb dX7_count_30 rfl (lv_at hl 1 rfl) ?_
        refine lv_bipush (v := 30) hx hb dX7_count_31 (by decide) ?_
        refine lv_icmp_lt (tgt := 51) hx hb dX7_count_33 (by decide) (fun c_7 => ?_) (fun c_7 => ?_)
        ·
          have ic_7 : ((30 + o : Nat) : Int) < 30 := tx_lt (nI_toInt (by omega)) (by decide) c_7
          exfalso
          omega
        ·
          have ic_7 : 30 ≤ ((30 + o : Nat) : Int) := tx_nlt (nI_toInt (by omega)) (by decide) c_7
          refine lv_iload_n hx hb dX7_count_36 rfl (lv_at hl 1 rfl) ?_
          refine lv_bipush (v := 46) hx hb dX7_count_37 (by decide) ?_
          refine lv_icmp_ge (tgt := 51) hx hb dX7_count_39 (by decide) (fun c_8 => ?_) (fun c_8 => ?_)
          ·
            have ic_8 : 46 ≤ ((30 + o : Nat) : Int) := tx_le (by decide) (nI_toInt (by omega)) c_8
            exfalso
            omega
          ·
            have ic_8 : ((30 + o : Nat) : Int) < 46 := tx_nle (by decide) (nI_toInt (by omega)) c_8
            refine lv_aload_n hx hb dX7_count_42 rfl (lv_at hl 0 rfl) ?_
            refine lv_iload_n hx hb dX7_count_43 rfl (lv_at hl 1 rfl) ?_
            refine lv_bipush (v := 30) hx hb dX7_count_44 (by decide) ?_
            refine lv_isub hx hb dX7_count_46 ?_
            refine lv_topi (fun z_ ez_ => ?_)
            obtain rfl : z_ = nI o := ez_.trans (by rw [show (30 : Int32) = nI 30 from rfl, pk_sub (by omega), show 30 + o - 30 = o by omega])
            have hPc := hP.sub (ws' := [(a0, .inr (7, [.ref qb])), (qb, .inl (cq, 16, .inr (.inr (.inr (.inr bq))))), (y0, .inr (2, fs))]) [0, 1, 2] rfl
            have hKc := hK.sub (tys' := [(cq, .object "KeyAtlas$Body")]) [0] rfl
            refine ro_calli (va_runV (As := [.int (nI o)]) (rest := []) ⟨hx, hb, hml, hown, hts⟩ (c_X7_sizeOf_C l hlt dC dI s.heap.size a0 qb cq bq o y0 fs ho9 hbo) (cwV 1 hts gX7_count_X7_sizeOf rfl rfl rfl (by decide +kernel) ⟨(Nat.le_of_ble_eq_true rfl), (Nat.le_of_ble_eq_true rfl)⟩) ⟨pk_blindRX, va_recv hKc hPc (ci := 7) (q0 := 0) rfl rfl, pk_callRX hPc hKc hN⟩ rfl rfl hl.1 rfl (lv_room (Nat.le_of_ble_eq_true rfl)) dX7_count_47 ⟨(Nat.le_of_ble_eq_true rfl), (Nat.le_of_ble_eq_true rfl)⟩) (fun r_9 ur_9 hw => ?_)
            clear hPc hKc
            try dsimp only at hw
            have jr_9 := hw
            refine W.eq (g2 := F0 m 50 ls [.int r_9]) rfl ?_
            refine W.widen (k := 1) (n := 6) (Nat.le_of_ble_eq_true rfl) (Nat.le_of_ble_eq_true rfl) ?_
            refine vx_ret ?_
            exact W.iret (v := r_9) hx hb hr (fun t ht hW => ⟨⟨r_9, (), rfl, trivial, congrArg Array.size ht⟩, hS.F ht⟩) hS.2.2 dX7_count_50
      ·
        have ic_6 : ((30 + o : Nat) : Int) < 26 := tx_nle (by decide) (nI_toInt (by omega)) c_6
        exfalso
        omega
  ·
    have ic_1 : ((30 + o : Nat) : Int) = 0 := tx_eq (nI_toInt (by omega)) (by decide) c_1
    exfalso
    omega
