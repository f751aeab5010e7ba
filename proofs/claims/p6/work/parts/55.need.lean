theorem dX1_needPassed_0 : decode cX1_needPassed 0 = .ok (.aload_n 0, 1) := by decide +kernel
theorem dX1_needPassed_1 : decode cX1_needPassed 1 = .ok (.getfield 15, 3) := by decide +kernel
theorem dX1_needPassed_4 : decode cX1_needPassed 4 = .ok (.iconst (-1), 1) := by decide +kernel
theorem dX1_needPassed_5 : decode cX1_needPassed 5 = .ok (.if_icmp .ne 13, 3) := by decide +kernel
theorem dX1_needPassed_18 : decode cX1_needPassed 18 = .ok (.return_, 1) := by decide +kernel
theorem dX1_needPassed_8 : decode cX1_needPassed 8 = .ok (.new 58, 3) := by decide +kernel
theorem dX1_needPassed_11 : decode cX1_needPassed 11 = .ok (.dup, 1) := by decide +kernel
theorem dX1_needPassed_12 : decode cX1_needPassed 12 = .ok (.ldc 60, 2) := by decide +kernel
theorem dX1_needPassed_14 : decode cX1_needPassed 14 = .ok (.invokespecial 62, 3) := by decide +kernel
theorem dX1_needPassed_17 : decode cX1_needPassed 17 = .ok (.athrow, 1) := by decide +kernel
theorem ng_RX1_62 : ∀ w ∈ (vx_atS RX1 62 "java/lang/IllegalStateException" ["java/lang/RuntimeException", "java/lang/Exception"]).filter (fun w => !goodWord w), w ∈ p_xw := by decide +kernel
theorem og_RX1_62 : ∀ w ∈ Cond.classLink RX1 58 "java/lang/IllegalStateException" :: Cond.initialized "java/lang/IllegalStateException" :: vx_atS RX1 62 "java/lang/IllegalStateException" ["java/lang/RuntimeException", "java/lang/Exception"], vx_ot w = true := by decide +kernel
theorem at_X1_needPassed_8 : ∀ w ∈ (vx_atS RX1 62 "java/lang/IllegalStateException" ["java/lang/RuntimeException", "java/lang/Exception"]).filter goodWord, w ∈ wsX1_needPassed := fun w h => by
  unfold wsX1_needPassed
  exact List.mem_cons_of_mem _ (List.mem_append_right _ h)
set_option maxHeartbeats 4000000 in
set_option maxRecDepth 100000 in
/-- Cursor.needPassed -/
theorem c_X1_needPassed (l : Launch) (hlt : l.stackTraces = false) (dC : Nat → ClassId) (dI : Nat → Nat → Nat) (sz : Nat) (z0 : Nat) (ps : Int32) (f0 : Value) (f1 : Value) (f2 : Value) (f3 : Value) (f5 : Value) : vx_Met l yX1_needPassed wsX1_needPassed ({ frames := 6, cells := 1, slots := 6, locals := 100 }) (va_Pc [.ref z0] (pk_PreXR (dC, dI) [(z0, .inr (2, [f0, f1, f2, f3, .int ps, f5]))] [] sz)) (va_Qv (fun (_ : Unit) => True) (fun _ (t : State) => t.heap.size = sz) (roN sz)) (vx_X (fun _ : Unit => True) (fun (E : String) (_ : Unit) (t : State) => E = "java/lang/IllegalStateException") (roN sz)) 1 6 (roN sz) := by
  refine vx_ofW (cc := cX1_needPassed) (maxL := 1) (ret := none) (by decide) rfl ?_
  intro p e s m args below meth c s₁ B hml htab hv
  obtain ⟨rfl, hsz, hP, hK, hN, hZ⟩ := hv
  have hx := B.exec
  have hb := B.bytes
  have hr := B.returns
  have hts := atoms_spec (ws := wsX1_needPassed) B.pre
  have hown : s.vm.findClass RX1 = some m.cls := findClass_of_methodNamed B.named
  have hlocks := B.notSynchronized
  subst hsz
  generalize hAe : roN s.heap.size = A at hZ ⊢
  have hA : ∀ q : Nat, s.heap.size ≤ q → A q := fun q h => by rw [← hAe]; exact h
  have hS : va_S A s.heap s.heap [] := va_S.rf
  have hP : va_P (dC, dI) vwCl [(z0, .inr (2, [f0, f1, f2, f3, .int ps, f5]))] s.heap := hP
  have hl := lv_entry ([.ref z0]) (n := 1) (Nat.le_of_ble_eq_true rfl)
  rw [lg_entry_eq]
  generalize (lg_sl ([.ref z0]) ++ List.replicate (1 - (lg_sl ([.ref z0])).length) Slot.unset).toArray = ls at hl ⊢
  have hl : lv_has ls 1 [(0, .ref z0)] := hl
  have hw0_ := hts (.fieldLink RX1 15 "KeyAtlas$Cursor" "passed" "I") (List.mem_of_getElem? (l := wsX1_needPassed) (i := 3) rfl)
  have hw1_ := hts (.classLink RX1 58 "java/lang/IllegalStateException") (List.mem_of_getElem? (l := wsX1_needPassed) (i := 1) rfl)
  have hw2_ := hts (.initialized "java/lang/IllegalStateException") (List.mem_of_getElem? (l := wsX1_needPassed) (i := 2) rfl)
  have hi0_ : ∀ w ∈ u_ws RX1 TX1 6, w ∈ wsX1_needPassed := fun w h => List.mem_cons_of_mem _ (List.mem_append_left _ (List.mem_append_right _ h))
  refine lv_aload_n hx hb dX1_needPassed_0 rfl (lv_at hl 0 rfl) ?_
  refine va_get (D := (dC, dI)) (ci := 2) (v := .int ps) (C := RX1) (T := TX1) (N := 6) hx hb hts hi0_ hown hK hP 0 rfl rfl 4 (by decide) hw0_ (fun _ h9 => h9) rfl dX1_needPassed_1 ?_
  refine lv_iconst (v := (-1)) hx hb dX1_needPassed_4 (by decide) ?_
  refine lv_icmp_ne (tgt := 18) hx hb dX1_needPassed_5 (by decide) (fun c_1 => ?_) (fun c_1 => ?_)
  ·
    have ic_1 : ¬ ps.toInt = -1 := tx_ne rfl (by decide) c_1
    refine W.widen (k := 1) (n := 6) (Nat.le_of_ble_eq_true rfl) (Nat.le_of_ble_eq_true rfl) ?_
    refine vx_ret ?_
    exact W.vret hx hb hr (fun t ht hW => ⟨⟨(), rfl, trivial, congrArg Array.size ht⟩, hS.F ht⟩) hS.2.2 dX1_needPassed_18
  ·
    have ic_1 : ps.toInt = -1 := tx_eq rfl (by decide) c_1
    obtain ⟨sa, hsa⟩ := hN.stX1_60
    exact vx_throwS hx hb hlt (own := RX1) (cls := "java/lang/IllegalStateException") (text := "none is passed") (names := ["java/lang/RuntimeException", "java/lang/Exception"]) hown (by decide +kernel) (by decide +kernel) hw1_ hw2_ hsa (tx_hat hN.xw (fun w h => hts w (at_X1_needPassed_8 w h)) ng_RX1_62) og_RX1_62 hZ.1 hZ.2 hS (by rw [hml]; exact hl.1) dX1_needPassed_8 dX1_needPassed_11 dX1_needPassed_12 dX1_needPassed_14 dX1_needPassed_17 (fun x hx9 => (htab x hx9).elim) (Nat.le_of_ble_eq_true rfl) (Nat.le_of_ble_eq_true rfl) (Nat.le_of_ble_eq_true rfl) (Nat.le_of_ble_eq_true rfl) hlocks (fun t hvm hz hq => ⟨(), trivial, rfl, ⟨Nat.le_trans hS.1 hz, fun q h1 h2 => (hq q (Nat.lt_of_lt_of_le h1 hS.1)).trans (hS.2.1 q h1 h2)⟩⟩) hS.2.2 (Nat.le_of_ble_eq_true rfl) (Nat.le_of_ble_eq_true rfl)
