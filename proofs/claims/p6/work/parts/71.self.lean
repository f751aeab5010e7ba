theorem dX3_putAll_5 : decode cX3_putAll 5 = .ok (.new 28, 3) := by decide +kernel
theorem dX3_putAll_8 : decode cX3_putAll 8 = .ok (.dup, 1) := by decide +kernel
theorem dX3_putAll_9 : decode cX3_putAll 9 = .ok (.ldc 88, 2) := by decide +kernel
theorem dX3_putAll_11 : decode cX3_putAll 11 = .ok (.invokespecial 32, 3) := by decide +kernel
theorem dX3_putAll_14 : decode cX3_putAll 14 = .ok (.athrow, 1) := by decide +kernel
theorem at_X3_putAll_5_selfH : ∀ w ∈ (vx_atS RX3 32 "java/lang/IllegalArgumentException" ["java/lang/RuntimeException", "java/lang/Exception"]).filter goodWord, w ∈ wsX3_putAll := fun w h => by
  unfold wsX3_putAll
  exact List.mem_cons_of_mem _ (List.mem_append_left _ (List.mem_append_right _ h))
theorem at_X3_putAll_5_selfL : ∀ w ∈ (vx_atS RX3 32 "java/lang/IllegalArgumentException" ["java/lang/RuntimeException", "java/lang/Exception"]).filter goodWord, w ∈ wsX3_putAll := fun w h => by
  unfold wsX3_putAll
  exact List.mem_cons_of_mem _ (List.mem_append_left _ (List.mem_append_right _ h))
theorem at_X3_putAll_5_selfS : ∀ w ∈ (vx_atS RX3 32 "java/lang/IllegalArgumentException" ["java/lang/RuntimeException", "java/lang/Exception"]).filter goodWord, w ∈ wsX3_putAll := fun w h => by
  unfold wsX3_putAll
  exact List.mem_cons_of_mem _ (List.mem_append_left _ (List.mem_append_right _ h))
set_option maxHeartbeats 4000000 in
set_option maxRecDepth 100000 in
/-- putAll of itself, H -/
theorem c_X3_putAll_self_H (l : Launch) (hlt : l.stackTraces = false) (dC : Nat → ClassId) (dI : Nat → Nat → Nat) (sz : Nat) (y0 : Nat) (fs : List Value) : vx_Met l yX3_putAll wsX3_putAll ({ frames := 6, cells := 1, slots := 6, locals := 100 }) (va_Pc [.ref y0, .ref y0] (pk_PreXR (dC, dI) [(y0, .inr (3, fs))] [] sz)) (va_Ql (fun (_ : Int64) (_ : Unit) => False) (fun _ (t : State) => t.heap.size = sz) (roN sz)) (vx_X (fun _ : Unit => True) (fun (E : String) (_ : Unit) (t : State) => E = "java/lang/IllegalArgumentException") (roN sz)) 1 6 (roN sz) := by
  refine vx_ofW (cc := cX3_putAll) (maxL := 8) (ret := (some .long)) (by decide) rfl ?_
  intro p e s m args below meth c s₁ B hml htab hv
  obtain ⟨rfl, hsz, hP, hK, hN, hZ⟩ := hv
  have hx := B.exec
  have hb := B.bytes
  have hr := B.returns
  have hts := atoms_spec (ws := wsX3_putAll) B.pre
  have hown : s.vm.findClass RX3 = some m.cls := findClass_of_methodNamed B.named
  have hlocks := B.notSynchronized
  subst hsz
  generalize hAe : roN s.heap.size = A at hZ ⊢
  have hA : ∀ q : Nat, s.heap.size ≤ q → A q := fun q h => by rw [← hAe]; exact h
  have hS : va_S A s.heap s.heap [] := va_S.rf
  have hP : va_P (dC, dI) vwCl [(y0, .inr (3, fs))] s.heap := hP
  have hl := lv_entry ([.ref y0, .ref y0]) (n := 8) (Nat.le_of_ble_eq_true rfl)
  rw [lg_entry_eq]
  generalize (lg_sl ([.ref y0, .ref y0]) ++ List.replicate (8 - (lg_sl ([.ref y0, .ref y0])).length) Slot.unset).toArray = ls at hl ⊢
  have hl : lv_has ls 8 [(0, .ref y0), (1, .ref y0)] := hl
  have hw0_ := hts (.classLink RX3 28 "java/lang/IllegalArgumentException") (List.mem_of_getElem? (l := wsX3_putAll) (i := 1) rfl)
  have hw1_ := hts (.initialized "java/lang/IllegalArgumentException") (List.mem_of_getElem? (l := wsX3_putAll) (i := 2) rfl)
  refine lv_aload_n hx hb dX3_putAll_0 rfl (lv_at hl 1 rfl) ?_
  refine lv_aload_n hx hb dX3_putAll_1 rfl (lv_at hl 0 rfl) ?_
  refine lv_acmp_ne (rx := some y0) (ry := some y0) (tgt := 15) hx hb dX3_putAll_2 (by decide) (fun c_1 => absurd rfl c_1) (fun c_1 => ?_)
  obtain ⟨sa, hsa⟩ := hN.stX3_88
  exact vx_throwS hx hb hlt (own := RX3) (cls := "java/lang/IllegalArgumentException") (text := "a map into itself") (names := ["java/lang/RuntimeException", "java/lang/Exception"]) hown (by decide +kernel) (by decide +kernel) hw0_ hw1_ hsa (tx_hat hN.xw (fun w h => hts w (at_X3_putAll_5_selfH w h)) ng_RX3_32) og_RX3_32 hZ.1 hZ.2 hS (by rw [hml]; exact hl.1) dX3_putAll_5 dX3_putAll_8 dX3_putAll_9 dX3_putAll_11 dX3_putAll_14 (fun x hx9 => (htab x hx9).elim) (Nat.le_of_ble_eq_true rfl) (Nat.le_of_ble_eq_true rfl) (Nat.le_of_ble_eq_true rfl) (Nat.le_of_ble_eq_true rfl) hlocks (fun t hvm hz hq => ⟨(), trivial, rfl, ⟨Nat.le_trans hS.1 hz, fun q h1 h2 => (hq q (Nat.lt_of_lt_of_le h1 hS.1)).trans (hS.2.1 q h1 h2)⟩⟩) hS.2.2 (Nat.le_of_ble_eq_true rfl) (Nat.le_of_ble_eq_true rfl)
set_option maxHeartbeats 4000000 in
set_option maxRecDepth 100000 in
/-- map, op 20 of itself, H -/
theorem c_X7_map20_self_H (l : Launch) (hlt : l.stackTraces = false) (dC : Nat → ClassId) (dI : Nat → Nat → Nat) (sz : Nat) (a0 : Nat) (qb : Nat) (cq : ClassId) (bq : Nat → Option Nat) (o : Nat) (y0 : Nat) (v0 : Value) (v2 : Value) (v3 : Value) (v4 : Value) (v5 : Value) (v6 : Value) (kd : Int32) (p2 : Int32) (ho9 : o < 16) (hbo : bq o = some y0) : vx_Met l yX7_map wqX7_map ({ frames := 9, cells := 3, slots := 18, locals := 200 }) (va_Pc [.ref a0, .int (nI o), .int 20, .int p2, .int (nI o)] (pk_PreXR (dC, dI) [(a0, .inr (7, [.ref qb])), (qb, .inl (cq, 16, .inr (.inr (.inr (.inr bq))))), (y0, .inr (3, [v0, .int kd, v2, v3, v4, v5, v6]))] [(cq, .object "KeyAtlas$Body")] sz)) (va_Ql (fun (_ : Int64) (_ : Unit) => False) (fun _ (t : State) => t.heap.size = sz) (roN sz)) (vx_X (fun _ : Unit => True) (fun (E : String) (_ : Unit) (t : State) => E = "java/lang/IllegalArgumentException" ∨ E = "java/lang/UnsupportedOperationException") (roN sz)) 3 18 (roN sz) := by
  refine vx_ofW (cc := cX7_map) (maxL := 10) (ret := (some .long)) (by decide) rfl ?_
  intro p e s m args below meth c s₁ B hml htab hv
  obtain ⟨rfl, hsz, hP, hK, hN, hZ⟩ := hv
  have hx := B.exec
  have hb := B.bytes
  have hr := B.returns
  have hts := atoms_spec (ws := wqX7_map) B.pre
  have hown : s.vm.findClass RX7 = some m.cls := findClass_of_methodNamed B.named
  have hlocks := B.notSynchronized
  subst hsz
  generalize hAe : roN s.heap.size = A at hZ ⊢
  have hA : ∀ q : Nat, s.heap.size ≤ q → A q := fun q h => by rw [← hAe]; exact h
  have hS : va_S A s.heap s.heap [] := va_S.rf
  have hP : va_P (dC, dI) vwCl [(a0, .inr (7, [.ref qb])), (qb, .inl (cq, 16, .inr (.inr (.inr (.inr bq))))), (y0, .inr (3, [v0, .int kd, v2, v3, v4, v5, v6]))] s.heap := hP
  have hl := lv_entry ([.ref a0, .int (nI o), .int 20, .int p2, .int (nI o)]) (n := 10) (Nat.le_of_ble_eq_true rfl)
  rw [lg_entry_eq]
  generalize (lg_sl ([.ref a0, .int (nI o), .int 20, .int p2, .int (nI o)]) ++ List.replicate (10 - (lg_sl ([.ref a0, .int (nI o), .int 20, .int p2, .int (nI o)])).length) Slot.unset).toArray = ls at hl ⊢
  have hl : lv_has ls 10 [(0, .ref a0), (1, .int (nI o)), (2, .int 20), (3, .int p2), (4, .int (nI o))] := hl
  have hw0_ := hts (.fieldLink RX7 55 "KeyAtlas$Keyed" "kind" "I") (List.mem_of_getElem? (l := wqX7_map) (i := 5) rfl)
  have hw1_ := hts (.sameField "KeyAtlas$Keyed" "KeyAtlas$Body" "kind" "I") (List.mem_of_getElem? (l := wqX7_map) (i := 6) rfl)
  have hw2_ := hts (.classLink RX7 64 "java/lang/UnsupportedOperationException") (List.mem_of_getElem? (l := wqX7_map) (i := 3) rfl)
  have hw3_ := hts (.initialized "java/lang/UnsupportedOperationException") (List.mem_of_getElem? (l := wqX7_map) (i := 4) rfl)
  have hi0_ : ∀ w ∈ u_ws RX2 TX2 7, w ∈ wqX7_map := fun w h => List.mem_cons_of_mem _ (List.mem_append_left _ (List.mem_append_left _ (List.mem_append_left _ (List.mem_append_left _ (List.mem_append_left _ (List.mem_append_left _ (List.mem_append_left _ (List.mem_append_left _ (List.mem_append_left _ (List.mem_append_left _ (List.mem_append_left _ (List.mem_append_left _ (List.mem_append_right _ h)))))))))))))
  refine lv_aload_n hx hb dX7_map_0 rfl (lv_at hl 0 rfl) ?_
  refine lv_iload_n hx hb dX7_map_1 rfl (lv_at hl 1 rfl) ?_
  have hPc := hP.sub (ws' := [(a0, .inr (7, [.ref qb])), (qb, .inl (cq, 16, .inr (.inr (.inr (.inr bq)))))]) [0, 1] rfl
  have hKc := hK.sub (tys' := [(cq, .object "KeyAtlas$Body")]) [0] rfl
  refine rox_callr (B := (fun (_ : Unit) (a : Nat) (t : State) => t.heap.size = s.heap.size ∧ ∃ j : Nat, j < 16 ∧ nI o = nI j ∧ bq j = some a)) (fun u9 x9 t9 h9 => h9.1) (vx_runV (As := [.int (nI o)]) (rest := []) ⟨hx, hb, hml, hown, hts⟩ (c_X7_bodyAt l hlt dC dI s.heap.size a0 qb cq bq (nI o)) (cwV 1 hts gX7_map_X7_bodyAt rfl rfl rfl (by decide +kernel) ⟨(Nat.le_of_ble_eq_true rfl), (Nat.le_of_ble_eq_true rfl)⟩) ⟨pk_blindXR, va_recv hKc hPc (ci := 7) (q0 := 0) rfl rfl, pk_callXR hPc hKc hN ((hZ.kept hS.2.1).narrow (fun q h9 => hA q (Nat.le_trans hS.1 h9)))⟩ rfl rfl hl.1 rfl (lv_room (Nat.le_of_ble_eq_true rfl)) dX7_map_2 ⟨(Nat.le_of_ble_eq_true rfl), (Nat.le_of_ble_eq_true rfl)⟩) hS (fun q h9 => hA q (Nat.le_trans hS.1 h9)) (fun E ce q9 u9 t H1 locs ht hvm hw hB hz1 hk1 hS hce hcv hcl => ?_) (fun r_1 ur_1 t9 locs hw hB9 hS => ?_)
  ·
    try dsimp only at hB
    exact bq_no ho9 hbo hB.2
  ·
    refine W.tight (k := 0) (n := 0) (Nat.le_refl _) (Nat.le_refl _) ?_
    clear hPc hKc
    try dsimp only at hw
    have jr_1 := hw
    refine W.eq (g2 := F0 m 5 ls [.ref y0]) (by rw [show r_1 = y0 from bq_is ho9 hbo hB9.2]) ?_
    refine lv_astore (lv' := [(5, .ref y0), (0, .ref a0), (1, .int (nI o)), (2, .int 20), (3, .int p2), (4, .int (nI o))]) hx hb dX7_map_5 hl (by decide) rfl (fun ls hl => ?_)
    refine lv_iload_n hx hb dX7_map_7 rfl (lv_at hl 3 rfl) ?_
    refine lv_bipush (v := 19) hx hb dX7_map_8 (by decide) ?_
    refine lv_icmp_eq (tgt := 19) hx hb dX7_map_10 (by decide) (fun c_2 => absurd c_2 (by decide)) (fun c_2 => ?_)
    refine lv_iload_n hx hb dX7_map_13 rfl (lv_at hl 3 rfl) ?_
    refine lv_bipush (v := 20) hx hb dX7_map_14 (by decide) ?_
    refine lv_icmp_ne (tgt := 23) hx hb dX7_map_16 (by decide) (fun c_3 => absurd c_3 (by decide)) (fun c_3 => ?_)
    refine lv_iconst (v := 1) hx hb dX7_map_19 (by decide) ?_
    refine lv_goto (tgt := 24) hx hb dX7_map_20 (by decide) ?_
    refine lv_istore (lv' := [(6, .int 1), (5, .ref y0), (0, .ref a0), (1, .int (nI o)), (2, .int 20), (3, .int p2), (4, .int (nI o))]) hx hb dX7_map_24 hl (by decide) rfl (fun ls hl => ?_)
    refine lv_iload hx hb dX7_map_26 (lv_at hl 0 rfl) ?_
    refine lv_if_eq (tgt := 40) hx hb dX7_map_28 (by decide) (fun c_4 => absurd c_4 (by decide)) (fun c_4 => ?_)
    refine lv_aload_n hx hb dX7_map_31 rfl (lv_at hl 2 rfl) ?_
    refine lv_iload hx hb dX7_map_32 (lv_at hl 6 rfl) ?_
    have hPc := hP.sub (ws' := [(a0, .inr (7, [.ref qb])), (qb, .inl (cq, 16, .inr (.inr (.inr (.inr bq)))))]) [0, 1] rfl
    have hKc := hK.sub (tys' := [(cq, .object "KeyAtlas$Body")]) [0] rfl
    refine rox_callr (B := (fun (_ : Unit) (a : Nat) (t : State) => t.heap.size = s.heap.size ∧ ∃ j : Nat, j < 16 ∧ nI o = nI j ∧ bq j = some a)) (fun u9 x9 t9 h9 => h9.1) (vx_runV (As := [.int (nI o)]) (rest := []) ⟨hx, hb, hml, hown, hts⟩ (c_X7_bodyAt l hlt dC dI s.heap.size a0 qb cq bq (nI o)) (cwV 1 hts gX7_map_X7_bodyAt rfl rfl rfl (by decide +kernel) ⟨(Nat.le_of_ble_eq_true rfl), (Nat.le_of_ble_eq_true rfl)⟩) ⟨pk_blindXR, va_recv hKc hPc (ci := 7) (q0 := 0) rfl rfl, pk_callXR hPc hKc hN ((hZ.kept hS.2.1).narrow (fun q h9 => hA q (Nat.le_trans hS.1 h9)))⟩ rfl rfl hl.1 rfl (lv_room (Nat.le_of_ble_eq_true rfl)) dX7_map_34 ⟨(Nat.le_of_ble_eq_true rfl), (Nat.le_of_ble_eq_true rfl)⟩) hS (fun q h9 => hA q (Nat.le_trans hS.1 h9)) (fun E ce q9 u9 t H1 locs ht hvm hw hB hz1 hk1 hS hce hcv hcl => ?_) (fun r_5 ur_5 t9 locs hw hB9 hS => ?_)
    ·
      try dsimp only at hB
      exact bq_no ho9 hbo hB.2
    ·
      refine W.tight (k := 0) (n := 0) (Nat.le_refl _) (Nat.le_refl _) ?_
      clear hPc hKc
      try dsimp only at hw
      have jr_5 := hw
      refine W.eq (g2 := F0 m 37 ls [.ref y0]) (by rw [show r_5 = y0 from bq_is ho9 hbo hB9.2]) ?_
      refine lv_goto (tgt := 42) hx hb dX7_map_37 (by decide) ?_
      refine lv_astore (lv' := [(7, .ref y0), (6, .int 1), (5, .ref y0), (0, .ref a0), (1, .int (nI o)), (2, .int 20), (3, .int p2), (4, .int (nI o))]) hx hb dX7_map_42 hl (by decide) rfl (fun ls hl => ?_)
      refine lv_aload hx hb dX7_map_44 (lv_at hl 2 rfl) ?_
      have hPc := hP.sub (ws' := [(y0, .inr (3, [v0, .int kd, v2, v3, v4, v5, v6]))]) [2] rfl
      have hKc := hK.sub (tys' := []) [] rfl
      refine ro_callr (B := (fun (_ : Unit) (a : Nat) (t : State) => t.heap.size = s.heap.size ∧ a = y0)) (fun u9 x9 t9 h9 => h9.1) (va_runS (As := [.ref y0]) (rest := []) ⟨hx, hb, hml, hown, hts⟩ (c_X7_asMap_H l hlt dC dI s.heap.size y0 ([v0, .int kd, v2, v3, v4, v5, v6])) (va_cwS 1 hts gX7_map_X7_asMap rfl rfl rfl (by decide +kernel) ⟨(Nat.le_of_ble_eq_true rfl), (Nat.le_of_ble_eq_true rfl)⟩) ⟨pk_blindRX, pk_callRX hPc hKc hN⟩ rfl rfl hl.1 rfl (lv_room (Nat.le_of_ble_eq_true rfl)) dX7_map_46 ⟨(Nat.le_of_ble_eq_true rfl), (Nat.le_of_ble_eq_true rfl)⟩) (fun r_6 ur_6 t9 hw hB9 => ?_)
      clear hPc hKc
      try dsimp only at hw
      have jr_6 := hw
      refine W.eq (g2 := F0 m 49 ls [.ref y0]) (by rw [show r_6 = y0 from hB9.2]) ?_
      refine lv_astore (lv' := [(8, .ref y0), (7, .ref y0), (6, .int 1), (5, .ref y0), (0, .ref a0), (1, .int (nI o)), (2, .int 20), (3, .int p2), (4, .int (nI o))]) hx hb dX7_map_49 hl (by decide) rfl (fun ls hl => ?_)
      refine lv_aload hx hb dX7_map_51 (lv_at hl 1 rfl) ?_
      have hPc := hP.sub (ws' := [(y0, .inr (3, [v0, .int kd, v2, v3, v4, v5, v6]))]) [2] rfl
      have hKc := hK.sub (tys' := []) [] rfl
      refine ro_callr (B := (fun (_ : Unit) (a : Nat) (t : State) => t.heap.size = s.heap.size ∧ a = y0)) (fun u9 x9 t9 h9 => h9.1) (va_runS (As := [.ref y0]) (rest := []) ⟨hx, hb, hml, hown, hts⟩ (c_X7_asMap_H l hlt dC dI s.heap.size y0 ([v0, .int kd, v2, v3, v4, v5, v6])) (va_cwS 1 hts gX7_map_X7_asMap rfl rfl rfl (by decide +kernel) ⟨(Nat.le_of_ble_eq_true rfl), (Nat.le_of_ble_eq_true rfl)⟩) ⟨pk_blindRX, pk_callRX hPc hKc hN⟩ rfl rfl hl.1 rfl (lv_room (Nat.le_of_ble_eq_true rfl)) dX7_map_53 ⟨(Nat.le_of_ble_eq_true rfl), (Nat.le_of_ble_eq_true rfl)⟩) (fun r_7 ur_7 t9 hw hB9 => ?_)
      clear hPc hKc
      try dsimp only at hw
      have jr_7 := hw
      refine W.eq (g2 := F0 m 56 ls [.ref y0]) (by rw [show r_7 = y0 from hB9.2]) ?_
      refine lv_astore (lv' := [(9, .ref y0), (8, .ref y0), (7, .ref y0), (6, .int 1), (5, .ref y0), (0, .ref a0), (1, .int (nI o)), (2, .int 20), (3, .int p2), (4, .int (nI o))]) hx hb dX7_map_56 hl (by decide) rfl (fun ls hl => ?_)
      refine lv_iload_n hx hb dX7_map_58 rfl (lv_at hl 7 rfl) ?_
      refine lv_if_lt (tgt := 68) hx hb dX7_map_59 (by decide) (fun c_8 => absurd c_8 (by decide)) (fun c_8 => ?_)
      refine lv_iload_n hx hb dX7_map_62 rfl (lv_at hl 7 rfl) ?_
      refine lv_bipush (v := 25) hx hb dX7_map_63 (by decide) ?_
      refine lv_icmp_le (tgt := 78) hx hb dX7_map_65 (by decide) (fun c_9 => ?_) (fun c_9 => absurd c_9 (by decide))
      refine lv_aload hx hb dX7_map_78 (lv_at hl 1 rfl) ?_
      refine va_get (D := (dC, dI)) (ci := 3) (v := .int kd) (C := RX2) (T := TX2) (N := 7) hx hb hts hi0_ hown hK hP 2 rfl rfl 1 (by decide) hw0_ (u_same hw1_) rfl dX7_map_80 ?_
      refine lv_iload_n hx hb dX7_map_83 rfl (lv_at hl 7 rfl) ?_
      have hPc := hP.sub (ws' := []) [] rfl
      have hKc := hK.sub (tys' := []) [] rfl
      refine ro_calli (va_runS (As := [.int kd, .int 20]) (rest := []) ⟨hx, hb, hml, hown, hts⟩ (c_X7_hasOp l  dC dI s.heap.size kd 20) (va_cwS 2 hts gX7_map_X7_hasOp rfl rfl rfl (by decide +kernel) ⟨(Nat.le_of_ble_eq_true rfl), (Nat.le_of_ble_eq_true rfl)⟩) ⟨pk_blindR, pk_callR hPc hKc⟩ rfl rfl hl.1 rfl (lv_room (Nat.le_of_ble_eq_true rfl)) dX7_map_84 ⟨(Nat.le_of_ble_eq_true rfl), (Nat.le_of_ble_eq_true rfl)⟩) (fun r_10 ur_10 hw => ?_)
      clear hPc hKc
      try dsimp only at hw
      have jr_10 := hw
      refine W.eq (g2 := F0 m 87 ls [.int r_10]) rfl ?_
      refine lv_if_ne (tgt := 100) hx hb dX7_map_87 (by decide) (fun c_11 => ?_) (fun c_11 => ?_)
      ·
        have ic_11 : ¬ r_10.toInt = 0 := tx_ne rfl (by decide) c_11
        refine lv_iload_n hx hb dX7_map_100 rfl (lv_at hl 7 rfl) ?_
        refine lv_tableIn (x := 20) (off := 306) (tgt := 407) hx hb dX7_map_101 (by decide) (by decide) (by decide) (by decide) ?_
        refine lv_aload hx hb dX7_map_407 (lv_at hl 1 rfl) ?_
        refine lv_aload hx hb dX7_map_409 (lv_at hl 0 rfl) ?_
        have hPc := hP.sub (ws' := [(y0, .inr (3, [v0, .int kd, v2, v3, v4, v5, v6]))]) [2] rfl
        have hKc := hK.sub (tys' := []) [] rfl
        refine rox_calll (vx_runU (As := [.ref y0]) (rest := []) ⟨hx, hb, hml, hown, hts⟩ (c_X3_putAll_self_H l hlt dC dI s.heap.size y0 ([v0, .int kd, v2, v3, v4, v5, v6])) (va_cwU 1 hts gX7_map_X3_putAll_u124X2 rfl rfl rfl rfl (by decide +kernel) ⟨(Nat.le_of_ble_eq_true rfl), (Nat.le_of_ble_eq_true rfl)⟩) ⟨pk_blindXR, va_recv hKc hPc (ci := 3) (q0 := 0) rfl rfl, pk_callXR hPc hKc hN ((hZ.kept hS.2.1).narrow (fun q h9 => hA q (Nat.le_trans hS.1 h9)))⟩ rfl rfl hl.1 rfl (lv_room (Nat.le_of_ble_eq_true rfl)) dX7_map_411 ⟨(Nat.le_of_ble_eq_true rfl), (Nat.le_of_ble_eq_true rfl)⟩) hS (fun q h9 => hA q (Nat.le_trans hS.1 h9)) (fun E ce q9 u9 t H1 locs ht hvm hw hB hz1 hk1 hS hce hcv hcl => ?_) (fun r_12 ur_12 locs hw hS => ?_)
        ·
          try dsimp only at hB
          exact vx_out (fun x hx9 => (htab x hx9).elim) hlocks hce hcv hcl (fun t9 ht9 hal9 => ⟨(), trivial, Or.inl hB, hS.F ht9⟩) hS.2.2 (by omega) (by omega)
        · exact hw.elim
      ·
        have ic_11 : r_10.toInt = 0 := tx_eq rfl (by decide) c_11
        obtain ⟨sa, hsa⟩ := hN.stX7_66
        exact vx_throwS hx hb hlt (own := RX7) (cls := "java/lang/UnsupportedOperationException") (text := "op is not for this kind") (names := ["java/lang/RuntimeException", "java/lang/Exception"]) hown (by decide +kernel) (by decide +kernel) hw2_ hw3_ hsa (tx_hat hN.xw (fun w h => hts w (at_X7_map_90 w h)) ng_RX7_68) og_RX7_68 hZ.1 hZ.2 hS (by rw [hml]; exact hl.1) dX7_map_90 dX7_map_93 dX7_map_94 dX7_map_96 dX7_map_99 (fun x hx9 => (htab x hx9).elim) (Nat.le_of_ble_eq_true rfl) (Nat.le_of_ble_eq_true rfl) (Nat.le_of_ble_eq_true rfl) (Nat.le_of_ble_eq_true rfl) hlocks (fun t hvm hz hq => ⟨(), trivial, Or.inr rfl, ⟨Nat.le_trans hS.1 hz, fun q h1 h2 => (hq q (Nat.lt_of_lt_of_le h1 hS.1)).trans (hS.2.1 q h1 h2)⟩⟩) hS.2.2 (Nat.le_of_ble_eq_true rfl) (Nat.le_of_ble_eq_true rfl)
set_option maxHeartbeats 4000000 in
set_option maxRecDepth 100000 in
/-- putAll of itself, L -/
theorem c_X3_putAll_self_L (l : Launch) (hlt : l.stackTraces = false) (dC : Nat → ClassId) (dI : Nat → Nat → Nat) (sz : Nat) (y0 : Nat) (fs : List Value) : vx_Met l yX3_putAll wsX3_putAll ({ frames := 6, cells := 1, slots := 6, locals := 100 }) (va_Pc [.ref y0, .ref y0] (pk_PreXR (dC, dI) [(y0, .inr (4, fs))] [] sz)) (va_Ql (fun (_ : Int64) (_ : Unit) => False) (fun _ (t : State) => t.heap.size = sz) (roN sz)) (vx_X (fun _ : Unit => True) (fun (E : String) (_ : Unit) (t : State) => E = "java/lang/IllegalArgumentException") (roN sz)) 1 6 (roN sz) := by
  refine vx_ofW (cc := cX3_putAll) (maxL := 8) (ret := (some .long)) (by decide) rfl ?_
  intro p e s m args below meth c s₁ B hml htab hv
  obtain ⟨rfl, hsz, hP, hK, hN, hZ⟩ := hv
  have hx := B.exec
  have hb := B.bytes
  have hr := B.returns
  have hts := atoms_spec (ws := wsX3_putAll) B.pre
  have hown : s.vm.findClass RX3 = some m.cls := findClass_of_methodNamed B.named
  have hlocks := B.notSynchronized
  subst hsz
  generalize hAe : roN s.heap.size = A at hZ ⊢
  have hA : ∀ q : Nat, s.heap.size ≤ q → A q := fun q h => by rw [← hAe]; exact h
  have hS : va_S A s.heap s.heap [] := va_S.rf
  have hP : va_P (dC, dI) vwCl [(y0, .inr (4, fs))] s.heap := hP
  have hl := lv_entry ([.ref y0, .ref y0]) (n := 8) (Nat.le_of_ble_eq_true rfl)
  rw [lg_entry_eq]
  generalize (lg_sl ([.ref y0, .ref y0]) ++ List.replicate (8 - (lg_sl ([.ref y0, .ref y0])).length) Slot.unset).toArray = ls at hl ⊢
  have hl : lv_has ls 8 [(0, .ref y0), (1, .ref y0)] := hl
  have hw0_ := hts (.classLink RX3 28 "java/lang/IllegalArgumentException") (List.mem_of_getElem? (l := wsX3_putAll) (i := 1) rfl)
  have hw1_ := hts (.initialized "java/lang/IllegalArgumentException") (List.mem_of_getElem? (l := wsX3_putAll) (i := 2) rfl)
  refine lv_aload_n hx hb dX3_putAll_0 rfl (lv_at hl 1 rfl) ?_
  refine lv_aload_n hx hb dX3_putAll_1 rfl (lv_at hl 0 rfl) ?_
  refine lv_acmp_ne (rx := some y0) (ry := some y0) (tgt := 15) hx hb dX3_putAll_2 (by decide) (fun c_1 => absurd rfl c_1) (fun c_1 => ?_)
  obtain ⟨sa, hsa⟩ := hN.stX3_88
  exact vx_throwS hx hb hlt (own := RX3) (cls := "java/lang/IllegalArgumentException") (text := "a map into itself") (names := ["java/lang/RuntimeException", "java/lang/Exception"]) hown (by decide +kernel) (by decide +kernel) hw0_ hw1_ hsa (tx_hat hN.xw (fun w h => hts w (at_X3_putAll_5_selfL w h)) ng_RX3_32) og_RX3_32 hZ.1 hZ.2 hS (by rw [hml]; exact hl.1) dX3_putAll_5 dX3_putAll_8 dX3_putAll_9 dX3_putAll_11 dX3_putAll_14 (fun x hx9 => (htab x hx9).elim) (Nat.le_of_ble_eq_true rfl) (Nat.le_of_ble_eq_true rfl) (Nat.le_of_ble_eq_true rfl) (Nat.le_of_ble_eq_true rfl) hlocks (fun t hvm hz hq => ⟨(), trivial, rfl, ⟨Nat.le_trans hS.1 hz, fun q h1 h2 => (hq q (Nat.lt_of_lt_of_le h1 hS.1)).trans (hS.2.1 q h1 h2)⟩⟩) hS.2.2 (Nat.le_of_ble_eq_true rfl) (Nat.le_of_ble_eq_true rfl)
set_option maxHeartbeats 4000000 in
set_option maxRecDepth 100000 in
/-- map, op 20 of itself, L -/
theorem c_X7_map20_self_L (l : Launch) (hlt : l.stackTraces = false) (dC : Nat → ClassId) (dI : Nat → Nat → Nat) (sz : Nat) (a0 : Nat) (qb : Nat) (cq : ClassId) (bq : Nat → Option Nat) (o : Nat) (y0 : Nat) (v0 : Value) (v2 : Value) (v3 : Value) (v4 : Value) (kd : Int32) (p2 : Int32) (ho9 : o < 16) (hbo : bq o = some y0) : vx_Met l yX7_map wqX7_map ({ frames := 9, cells := 3, slots := 18, locals := 200 }) (va_Pc [.ref a0, .int (nI o), .int 20, .int p2, .int (nI o)] (pk_PreXR (dC, dI) [(a0, .inr (7, [.ref qb])), (qb, .inl (cq, 16, .inr (.inr (.inr (.inr bq))))), (y0, .inr (4, [v0, .int kd, v2, v3, v4]))] [(cq, .object "KeyAtlas$Body")] sz)) (va_Ql (fun (_ : Int64) (_ : Unit) => False) (fun _ (t : State) => t.heap.size = sz) (roN sz)) (vx_X (fun _ : Unit => True) (fun (E : String) (_ : Unit) (t : State) => E = "java/lang/IllegalArgumentException" ∨ E = "java/lang/UnsupportedOperationException") (roN sz)) 3 18 (roN sz) := by
  refine vx_ofW (cc := cX7_map) (maxL := 10) (ret := (some .long)) (by decide) rfl ?_
  intro p e s m args below meth c s₁ B hml htab hv
  obtain ⟨rfl, hsz, hP, hK, hN, hZ⟩ := hv
  have hx := B.exec
  have hb := B.bytes
  have hr := B.returns
  have hts := atoms_spec (ws := wqX7_map) B.pre
  have hown : s.vm.findClass RX7 = some m.cls := findClass_of_methodNamed B.named
  have hlocks := B.notSynchronized
  subst hsz
  generalize hAe : roN s.heap.size = A at hZ ⊢
  have hA : ∀ q : Nat, s.heap.size ≤ q → A q := fun q h => by rw [← hAe]; exact h
  have hS : va_S A s.heap s.heap [] := va_S.rf
  have hP : va_P (dC, dI) vwCl [(a0, .inr (7, [.ref qb])), (qb, .inl (cq, 16, .inr (.inr (.inr (.inr bq))))), (y0, .inr (4, [v0, .int kd, v2, v3, v4]))] s.heap := hP
  have hl := lv_entry ([.ref a0, .int (nI o), .int 20, .int p2, .int (nI o)]) (n := 10) (Nat.le_of_ble_eq_true rfl)
  rw [lg_entry_eq]
  generalize (lg_sl ([.ref a0, .int (nI o), .int 20, .int p2, .int (nI o)]) ++ List.replicate (10 - (lg_sl ([.ref a0, .int (nI o), .int 20, .int p2, .int (nI o)])).length) Slot.unset).toArray = ls at hl ⊢
  have hl : lv_has ls 10 [(0, .ref a0), (1, .int (nI o)), (2, .int 20), (3, .int p2), (4, .int (nI o))] := hl
  have hw0_ := hts (.fieldLink RX7 55 "KeyAtlas$Keyed" "kind" "I") (List.mem_of_getElem? (l := wqX7_map) (i := 5) rfl)
  have hw1_ := hts (.sameField "KeyAtlas$Keyed" "KeyAtlas$Body" "kind" "I") (List.mem_of_getElem? (l := wqX7_map) (i := 6) rfl)
  have hw2_ := hts (.classLink RX7 64 "java/lang/UnsupportedOperationException") (List.mem_of_getElem? (l := wqX7_map) (i := 3) rfl)
  have hw3_ := hts (.initialized "java/lang/UnsupportedOperationException") (List.mem_of_getElem? (l := wqX7_map) (i := 4) rfl)
  have hi0_ : ∀ w ∈ u_ws RX4 TX4 5, w ∈ wqX7_map := fun w h => List.mem_cons_of_mem _ (List.mem_append_left _ (List.mem_append_left _ (List.mem_append_left _ (List.mem_append_left _ (List.mem_append_left _ (List.mem_append_left _ (List.mem_append_left _ (List.mem_append_left _ (List.mem_append_left _ (List.mem_append_left _ (List.mem_append_left _ (List.mem_append_right _ h))))))))))))
  refine lv_aload_n hx hb dX7_map_0 rfl (lv_at hl 0 rfl) ?_
  refine lv_iload_n hx hb dX7_map_1 rfl (lv_at hl 1 rfl) ?_
  have hPc := hP.sub (ws' := [(a0, .inr (7, [.ref qb])), (qb, .inl (cq, 16, .inr (.inr (.inr (.inr bq)))))]) [0, 1] rfl
  have hKc := hK.sub (tys' := [(cq, .object "KeyAtlas$Body")]) [0] rfl
  refine rox_callr (B := (fun (_ : Unit) (a : Nat) (t : State) => t.heap.size = s.heap.size ∧ ∃ j : Nat, j < 16 ∧ nI o = nI j ∧ bq j = some a)) (fun u9 x9 t9 h9 => h9.1) (vx_runV (As := [.int (nI o)]) (rest := []) ⟨hx, hb, hml, hown, hts⟩ (c_X7_bodyAt l hlt dC dI s.heap.size a0 qb cq bq (nI o)) (cwV 1 hts gX7_map_X7_bodyAt rfl rfl rfl (by decide +kernel) ⟨(Nat.le_of_ble_eq_true rfl), (Nat.le_of_ble_eq_true rfl)⟩) ⟨pk_blindXR, va_recv hKc hPc (ci := 7) (q0 := 0) rfl rfl, pk_callXR hPc hKc hN ((hZ.kept hS.2.1).narrow (fun q h9 => hA q (Nat.le_trans hS.1 h9)))⟩ rfl rfl hl.1 rfl (lv_room (Nat.le_of_ble_eq_true rfl)) dX7_map_2 ⟨(Nat.le_of_ble_eq_true rfl), (Nat.le_of_ble_eq_true rfl)⟩) hS (fun q h9 => hA q (Nat.le_trans hS.1 h9)) (fun E ce q9 u9 t H1 locs ht hvm hw hB hz1 hk1 hS hce hcv hcl => ?_) (fun r_1 ur_1 t9 locs hw hB9 hS => ?_)
  ·
    try dsimp only at hB
    exact bq_no ho9 hbo hB.2
  ·
    refine W.tight (k := 0) (n := 0) (Nat.le_refl _) (Nat.le_refl _) ?_
    clear hPc hKc
    try dsimp only at hw
    have jr_1 := hw
    refine W.eq (g2 := F0 m 5 ls [.ref y0]) (by rw [show r_1 = y0 from bq_is ho9 hbo hB9.2]) ?_
    refine lv_astore (lv' := [(5, .ref y0), (0, .ref a0), (1, .int (nI o)), (2, .int 20), (3, .int p2), (4, .int (nI o))]) hx hb dX7_map_5 hl (by decide) rfl (fun ls hl => ?_)
    refine lv_iload_n hx hb dX7_map_7 rfl (lv_at hl 3 rfl) ?_
    refine lv_bipush (v := 19) hx hb dX7_map_8 (by decide) ?_
    refine lv_icmp_eq (tgt := 19) hx hb dX7_map_10 (by decide) (fun c_2 => absurd c_2 (by decide)) (fun c_2 => ?_)
    refine lv_iload_n hx hb dX7_map_13 rfl (lv_at hl 3 rfl) ?_
    refine lv_bipush (v := 20) hx hb dX7_map_14 (by decide) ?_
    refine lv_icmp_ne (tgt := 23) hx hb dX7_map_16 (by decide) (fun c_3 => absurd c_3 (by decide)) (fun c_3 => ?_)
    refine lv_iconst (v := 1) hx hb dX7_map_19 (by decide) ?_
    refine lv_goto (tgt := 24) hx hb dX7_map_20 (by decide) ?_
    refine lv_istore (lv' := [(6, .int 1), (5, .ref y0), (0, .ref a0), (1, .int (nI o)), (2, .int 20), (3, .int p2), (4, .int (nI o))]) hx hb dX7_map_24 hl (by decide) rfl (fun ls hl => ?_)
    refine lv_iload hx hb dX7_map_26 (lv_at hl 0 rfl) ?_
    refine lv_if_eq (tgt := 40) hx hb dX7_map_28 (by decide) (fun c_4 => absurd c_4 (by decide)) (fun c_4 => ?_)
    refine lv_aload_n hx hb dX7_map_31 rfl (lv_at hl 2 rfl) ?_
    refine lv_iload hx hb dX7_map_32 (lv_at hl 6 rfl) ?_
    have hPc := hP.sub (ws' := [(a0, .inr (7, [.ref qb])), (qb, .inl (cq, 16, .inr (.inr (.inr (.inr bq)))))]) [0, 1] rfl
    have hKc := hK.sub (tys' := [(cq, .object "KeyAtlas$Body")]) [0] rfl
    refine rox_callr (B := (fun (_ : Unit) (a : Nat) (t : State) => t.heap.size = s.heap.size ∧ ∃ j : Nat, j < 16 ∧ nI o = nI j ∧ bq j = some a)) (fun u9 x9 t9 h9 => h9.1) (vx_runV (As := [.int (nI o)]) (rest := []) ⟨hx, hb, hml, hown, hts⟩ (c_X7_bodyAt l hlt dC dI s.heap.size a0 qb cq bq (nI o)) (cwV 1 hts gX7_map_X7_bodyAt rfl rfl rfl (by decide +kernel) ⟨(Nat.le_of_ble_eq_true rfl), (Nat.le_of_ble_eq_true rfl)⟩) ⟨pk_blindXR, va_recv hKc hPc (ci := 7) (q0 := 0) rfl rfl, pk_callXR hPc hKc hN ((hZ.kept hS.2.1).narrow (fun q h9 => hA q (Nat.le_trans hS.1 h9)))⟩ rfl rfl hl.1 rfl (lv_room (Nat.le_of_ble_eq_true rfl)) dX7_map_34 ⟨(Nat.le_of_ble_eq_true rfl), (Nat.le_of_ble_eq_true rfl)⟩) hS (fun q h9 => hA q (Nat.le_trans hS.1 h9)) (fun E ce q9 u9 t H1 locs ht hvm hw hB hz1 hk1 hS hce hcv hcl => ?_) (fun r_5 ur_5 t9 locs hw hB9 hS => ?_)
    ·
      try dsimp only at hB
      exact bq_no ho9 hbo hB.2
    ·
      refine W.tight (k := 0) (n := 0) (Nat.le_refl _) (Nat.le_refl _) ?_
      clear hPc hKc
      try dsimp only at hw
      have jr_5 := hw
      refine W.eq (g2 := F0 m 37 ls [.ref y0]) (by rw [show r_5 = y0 from bq_is ho9 hbo hB9.2]) ?_
      refine lv_goto (tgt := 42) hx hb dX7_map_37 (by decide) ?_
      refine lv_astore (lv' := [(7, .ref y0), (6, .int 1), (5, .ref y0), (0, .ref a0), (1, .int (nI o)), (2, .int 20), (3, .int p2), (4, .int (nI o))]) hx hb dX7_map_42 hl (by decide) rfl (fun ls hl => ?_)
      refine lv_aload hx hb dX7_map_44 (lv_at hl 2 rfl) ?_
      have hPc := hP.sub (ws' := [(y0, .inr (4, [v0, .int kd, v2, v3, v4]))]) [2] rfl
      have hKc := hK.sub (tys' := []) [] rfl
      refine ro_callr (B := (fun (_ : Unit) (a : Nat) (t : State) => t.heap.size = s.heap.size ∧ a = y0)) (fun u9 x9 t9 h9 => h9.1) (va_runS (As := [.ref y0]) (rest := []) ⟨hx, hb, hml, hown, hts⟩ (c_X7_asMap_L l hlt dC dI s.heap.size y0 ([v0, .int kd, v2, v3, v4])) (va_cwS 1 hts gX7_map_X7_asMap rfl rfl rfl (by decide +kernel) ⟨(Nat.le_of_ble_eq_true rfl), (Nat.le_of_ble_eq_true rfl)⟩) ⟨pk_blindRX, pk_callRX hPc hKc hN⟩ rfl rfl hl.1 rfl (lv_room (Nat.le_of_ble_eq_true rfl)) dX7_map_46 ⟨(Nat.le_of_ble_eq_true rfl), (Nat.le_of_ble_eq_true rfl)⟩) (fun r_6 ur_6 t9 hw hB9 => ?_)
      clear hPc hKc
      try dsimp only at hw
      have jr_6 := hw
      refine W.eq (g2 := F0 m 49 ls [.ref y0]) (by rw [show r_6 = y0 from hB9.2]) ?_
      refine lv_astore (lv' := [(8, .ref y0), (7, .ref y0), (6, .int 1), (5, .ref y0), (0, .ref a0), (1, .int (nI o)), (2, .int 20), (3, .int p2), (4, .int (nI o))]) hx hb dX7_map_49 hl (by decide) rfl (fun ls hl => ?_)
      refine lv_aload hx hb dX7_map_51 (lv_at hl 1 rfl) ?_
      have hPc := hP.sub (ws' := [(y0, .inr (4, [v0, .int kd, v2, v3, v4]))]) [2] rfl
      have hKc := hK.sub (tys' := []) [] rfl
      refine ro_callr (B := (fun (_ : Unit) (a : Nat) (t : State) => t.heap.size = s.heap.size ∧ a = y0)) (fun u9 x9 t9 h9 => h9.1) (va_runS (As := [.ref y0]) (rest := []) ⟨hx, hb, hml, hown, hts⟩ (c_X7_asMap_L l hlt dC dI s.heap.size y0 ([v0, .int kd, v2, v3, v4])) (va_cwS 1 hts gX7_map_X7_asMap rfl rfl rfl (by decide +kernel) ⟨(Nat.le_of_ble_eq_true rfl), (Nat.le_of_ble_eq_true rfl)⟩) ⟨pk_blindRX, pk_callRX hPc hKc hN⟩ rfl rfl hl.1 rfl (lv_room (Nat.le_of_ble_eq_true rfl)) dX7_map_53 ⟨(Nat.le_of_ble_eq_true rfl), (Nat.le_of_ble_eq_true rfl)⟩) (fun r_7 ur_7 t9 hw hB9 => ?_)
      clear hPc hKc
      try dsimp only at hw
      have jr_7 := hw
      refine W.eq (g2 := F0 m 56 ls [.ref y0]) (by rw [show r_7 = y0 from hB9.2]) ?_
      refine lv_astore (lv' := [(9, .ref y0), (8, .ref y0), (7, .ref y0), (6, .int 1), (5, .ref y0), (0, .ref a0), (1, .int (nI o)), (2, .int 20), (3, .int p2), (4, .int (nI o))]) hx hb dX7_map_56 hl (by decide) rfl (fun ls hl => ?_)
      refine lv_iload_n hx hb dX7_map_58 rfl (lv_at hl 7 rfl) ?_
      refine lv_if_lt (tgt := 68) hx hb dX7_map_59 (by decide) (fun c_8 => absurd c_8 (by decide)) (fun c_8 => ?_)
      refine lv_iload_n hx hb dX7_map_62 rfl (lv_at hl 7 rfl) ?_
      refine lv_bipush (v := 25) hx hb dX7_map_63 (by decide) ?_
      refine lv_icmp_le (tgt := 78) hx hb dX7_map_65 (by decide) (fun c_9 => ?_) (fun c_9 => absurd c_9 (by decide))
      refine lv_aload hx hb dX7_map_78 (lv_at hl 1 rfl) ?_
      refine va_get (D := (dC, dI)) (ci := 4) (v := .int kd) (C := RX4) (T := TX4) (N := 5) hx hb hts hi0_ hown hK hP 2 rfl rfl 1 (by decide) hw0_ (u_same hw1_) rfl dX7_map_80 ?_
      refine lv_iload_n hx hb dX7_map_83 rfl (lv_at hl 7 rfl) ?_
      have hPc := hP.sub (ws' := []) [] rfl
      have hKc := hK.sub (tys' := []) [] rfl
      refine ro_calli (va_runS (As := [.int kd, .int 20]) (rest := []) ⟨hx, hb, hml, hown, hts⟩ (c_X7_hasOp l  dC dI s.heap.size kd 20) (va_cwS 2 hts gX7_map_X7_hasOp rfl rfl rfl (by decide +kernel) ⟨(Nat.le_of_ble_eq_true rfl), (Nat.le_of_ble_eq_true rfl)⟩) ⟨pk_blindR, pk_callR hPc hKc⟩ rfl rfl hl.1 rfl (lv_room (Nat.le_of_ble_eq_true rfl)) dX7_map_84 ⟨(Nat.le_of_ble_eq_true rfl), (Nat.le_of_ble_eq_true rfl)⟩) (fun r_10 ur_10 hw => ?_)
      clear hPc hKc
      try dsimp only at hw
      have jr_10 := hw
      refine W.eq (g2 := F0 m 87 ls [.int r_10]) rfl ?_
      refine lv_if_ne (tgt := 100) hx hb dX7_map_87 (by decide) (fun c_11 => ?_) (fun c_11 => ?_)
      ·
        have ic_11 : ¬ r_10.toInt = 0 := tx_ne rfl (by decide) c_11
        refine lv_iload_n hx hb dX7_map_100 rfl (lv_at hl 7 rfl) ?_
        refine lv_tableIn (x := 20) (off := 306) (tgt := 407) hx hb dX7_map_101 (by decide) (by decide) (by decide) (by decide) ?_
        refine lv_aload hx hb dX7_map_407 (lv_at hl 1 rfl) ?_
        refine lv_aload hx hb dX7_map_409 (lv_at hl 0 rfl) ?_
        have hPc := hP.sub (ws' := [(y0, .inr (4, [v0, .int kd, v2, v3, v4]))]) [2] rfl
        have hKc := hK.sub (tys' := []) [] rfl
        refine rox_calll (vx_runU (As := [.ref y0]) (rest := []) ⟨hx, hb, hml, hown, hts⟩ (c_X3_putAll_self_L l hlt dC dI s.heap.size y0 ([v0, .int kd, v2, v3, v4])) (va_cwU 1 hts gX7_map_X3_putAll_u124X4 rfl rfl rfl rfl (by decide +kernel) ⟨(Nat.le_of_ble_eq_true rfl), (Nat.le_of_ble_eq_true rfl)⟩) ⟨pk_blindXR, va_recv hKc hPc (ci := 4) (q0 := 0) rfl rfl, pk_callXR hPc hKc hN ((hZ.kept hS.2.1).narrow (fun q h9 => hA q (Nat.le_trans hS.1 h9)))⟩ rfl rfl hl.1 rfl (lv_room (Nat.le_of_ble_eq_true rfl)) dX7_map_411 ⟨(Nat.le_of_ble_eq_true rfl), (Nat.le_of_ble_eq_true rfl)⟩) hS (fun q h9 => hA q (Nat.le_trans hS.1 h9)) (fun E ce q9 u9 t H1 locs ht hvm hw hB hz1 hk1 hS hce hcv hcl => ?_) (fun r_12 ur_12 locs hw hS => ?_)
        ·
          try dsimp only at hB
          exact vx_out (fun x hx9 => (htab x hx9).elim) hlocks hce hcv hcl (fun t9 ht9 hal9 => ⟨(), trivial, Or.inl hB, hS.F ht9⟩) hS.2.2 (by omega) (by omega)
        · exact hw.elim
      ·
        have ic_11 : r_10.toInt = 0 := tx_eq rfl (by decide) c_11
        obtain ⟨sa, hsa⟩ := hN.stX7_66
        exact vx_throwS hx hb hlt (own := RX7) (cls := "java/lang/UnsupportedOperationException") (text := "op is not for this kind") (names := ["java/lang/RuntimeException", "java/lang/Exception"]) hown (by decide +kernel) (by decide +kernel) hw2_ hw3_ hsa (tx_hat hN.xw (fun w h => hts w (at_X7_map_90 w h)) ng_RX7_68) og_RX7_68 hZ.1 hZ.2 hS (by rw [hml]; exact hl.1) dX7_map_90 dX7_map_93 dX7_map_94 dX7_map_96 dX7_map_99 (fun x hx9 => (htab x hx9).elim) (Nat.le_of_ble_eq_true rfl) (Nat.le_of_ble_eq_true rfl) (Nat.le_of_ble_eq_true rfl) (Nat.le_of_ble_eq_true rfl) hlocks (fun t hvm hz hq => ⟨(), trivial, Or.inr rfl, ⟨Nat.le_trans hS.1 hz, fun q h1 h2 => (hq q (Nat.lt_of_lt_of_le h1 hS.1)).trans (hS.2.1 q h1 h2)⟩⟩) hS.2.2 (Nat.le_of_ble_eq_true rfl) (Nat.le_of_ble_eq_true rfl)
set_option maxHeartbeats 4000000 in
set_option maxRecDepth 100000 in
/-- putAll of itself, S -/
theorem c_X3_putAll_self_S (l : Launch) (hlt : l.stackTraces = false) (dC : Nat → ClassId) (dI : Nat → Nat → Nat) (sz : Nat) (y0 : Nat) (fs : List Value) : vx_Met l yX3_putAll wsX3_putAll ({ frames := 6, cells := 1, slots := 6, locals := 100 }) (va_Pc [.ref y0, .ref y0] (pk_PreXR (dC, dI) [(y0, .inr (6, fs))] [] sz)) (va_Ql (fun (_ : Int64) (_ : Unit) => False) (fun _ (t : State) => t.heap.size = sz) (roN sz)) (vx_X (fun _ : Unit => True) (fun (E : String) (_ : Unit) (t : State) => E = "java/lang/IllegalArgumentException") (roN sz)) 1 6 (roN sz) := by
  refine vx_ofW (cc := cX3_putAll) (maxL := 8) (ret := (some .long)) (by decide) rfl ?_
  intro p e s m args below meth c s₁ B hml htab hv
  obtain ⟨rfl, hsz, hP, hK, hN, hZ⟩ := hv
  have hx := B.exec
  have hb := B.bytes
  have hr := B.returns
  have hts := atoms_spec (ws := wsX3_putAll) B.pre
  have hown : s.vm.findClass RX3 = some m.cls := findClass_of_methodNamed B.named
  have hlocks := B.notSynchronized
  subst hsz
  generalize hAe : roN s.heap.size = A at hZ ⊢
  have hA : ∀ q : Nat, s.heap.size ≤ q → A q := fun q h => by rw [← hAe]; exact h
  have hS : va_S A s.heap s.heap [] := va_S.rf
  have hP : va_P (dC, dI) vwCl [(y0, .inr (6, fs))] s.heap := hP
  have hl := lv_entry ([.ref y0, .ref y0]) (n := 8) (Nat.le_of_ble_eq_true rfl)
  rw [lg_entry_eq]
  generalize (lg_sl ([.ref y0, .ref y0]) ++ List.replicate (8 - (lg_sl ([.ref y0, .ref y0])).length) Slot.unset).toArray = ls at hl ⊢
  have hl : lv_has ls 8 [(0, .ref y0), (1, .ref y0)] := hl
  have hw0_ := hts (.classLink RX3 28 "java/lang/IllegalArgumentException") (List.mem_of_getElem? (l := wsX3_putAll) (i := 1) rfl)
  have hw1_ := hts (.initialized "java/lang/IllegalArgumentException") (List.mem_of_getElem? (l := wsX3_putAll) (i := 2) rfl)
  refine lv_aload_n hx hb dX3_putAll_0 rfl (lv_at hl 1 rfl) ?_
  refine lv_aload_n hx hb dX3_putAll_1 rfl (lv_at hl 0 rfl) ?_
  refine lv_acmp_ne (rx := some y0) (ry := some y0) (tgt := 15) hx hb dX3_putAll_2 (by decide) (fun c_1 => absurd rfl c_1) (fun c_1 => ?_)
  obtain ⟨sa, hsa⟩ := hN.stX3_88
  exact vx_throwS hx hb hlt (own := RX3) (cls := "java/lang/IllegalArgumentException") (text := "a map into itself") (names := ["java/lang/RuntimeException", "java/lang/Exception"]) hown (by decide +kernel) (by decide +kernel) hw0_ hw1_ hsa (tx_hat hN.xw (fun w h => hts w (at_X3_putAll_5_selfS w h)) ng_RX3_32) og_RX3_32 hZ.1 hZ.2 hS (by rw [hml]; exact hl.1) dX3_putAll_5 dX3_putAll_8 dX3_putAll_9 dX3_putAll_11 dX3_putAll_14 (fun x hx9 => (htab x hx9).elim) (Nat.le_of_ble_eq_true rfl) (Nat.le_of_ble_eq_true rfl) (Nat.le_of_ble_eq_true rfl) (Nat.le_of_ble_eq_true rfl) hlocks (fun t hvm hz hq => ⟨(), trivial, rfl, ⟨Nat.le_trans hS.1 hz, fun q h1 h2 => (hq q (Nat.lt_of_lt_of_le h1 hS.1)).trans (hS.2.1 q h1 h2)⟩⟩) hS.2.2 (Nat.le_of_ble_eq_true rfl) (Nat.le_of_ble_eq_true rfl)
set_option maxHeartbeats 4000000 in
set_option maxRecDepth 100000 in
/-- map, op 20 of itself, S -/
theorem c_X7_map20_self_S (l : Launch) (hlt : l.stackTraces = false) (dC : Nat → ClassId) (dI : Nat → Nat → Nat) (sz : Nat) (a0 : Nat) (qb : Nat) (cq : ClassId) (bq : Nat → Option Nat) (o : Nat) (y0 : Nat) (v0 : Value) (v2 : Value) (v3 : Value) (v4 : Value) (v5 : Value) (v6 : Value) (kd : Int32) (p2 : Int32) (ho9 : o < 16) (hbo : bq o = some y0) : vx_Met l yX7_map wqX7_map ({ frames := 9, cells := 3, slots := 18, locals := 200 }) (va_Pc [.ref a0, .int (nI o), .int 20, .int p2, .int (nI o)] (pk_PreXR (dC, dI) [(a0, .inr (7, [.ref qb])), (qb, .inl (cq, 16, .inr (.inr (.inr (.inr bq))))), (y0, .inr (6, [v0, .int kd, v2, v3, v4, v5, v6]))] [(cq, .object "KeyAtlas$Body")] sz)) (va_Ql (fun (_ : Int64) (_ : Unit) => False) (fun _ (t : State) => t.heap.size = sz) (roN sz)) (vx_X (fun _ : Unit => True) (fun (E : String) (_ : Unit) (t : State) => E = "java/lang/IllegalArgumentException" ∨ E = "java/lang/UnsupportedOperationException") (roN sz)) 3 18 (roN sz) := by
  refine vx_ofW (cc := cX7_map) (maxL := 10) (ret := (some .long)) (by decide) rfl ?_
  intro p e s m args below meth c s₁ B hml htab hv
  obtain ⟨rfl, hsz, hP, hK, hN, hZ⟩ := hv
  have hx := B.exec
  have hb := B.bytes
  have hr := B.returns
  have hts := atoms_spec (ws := wqX7_map) B.pre
  have hown : s.vm.findClass RX7 = some m.cls := findClass_of_methodNamed B.named
  have hlocks := B.notSynchronized
  subst hsz
  generalize hAe : roN s.heap.size = A at hZ ⊢
  have hA : ∀ q : Nat, s.heap.size ≤ q → A q := fun q h => by rw [← hAe]; exact h
  have hS : va_S A s.heap s.heap [] := va_S.rf
  have hP : va_P (dC, dI) vwCl [(a0, .inr (7, [.ref qb])), (qb, .inl (cq, 16, .inr (.inr (.inr (.inr bq))))), (y0, .inr (6, [v0, .int kd, v2, v3, v4, v5, v6]))] s.heap := hP
  have hl := lv_entry ([.ref a0, .int (nI o), .int 20, .int p2, .int (nI o)]) (n := 10) (Nat.le_of_ble_eq_true rfl)
  rw [lg_entry_eq]
  generalize (lg_sl ([.ref a0, .int (nI o), .int 20, .int p2, .int (nI o)]) ++ List.replicate (10 - (lg_sl ([.ref a0, .int (nI o), .int 20, .int p2, .int (nI o)])).length) Slot.unset).toArray = ls at hl ⊢
  have hl : lv_has ls 10 [(0, .ref a0), (1, .int (nI o)), (2, .int 20), (3, .int p2), (4, .int (nI o))] := hl
  have hw0_ := hts (.fieldLink RX7 55 "KeyAtlas$Keyed" "kind" "I") (List.mem_of_getElem? (l := wqX7_map) (i := 5) rfl)
  have hw1_ := hts (.sameField "KeyAtlas$Keyed" "KeyAtlas$Body" "kind" "I") (List.mem_of_getElem? (l := wqX7_map) (i := 6) rfl)
  have hw2_ := hts (.classLink RX7 64 "java/lang/UnsupportedOperationException") (List.mem_of_getElem? (l := wqX7_map) (i := 3) rfl)
  have hw3_ := hts (.initialized "java/lang/UnsupportedOperationException") (List.mem_of_getElem? (l := wqX7_map) (i := 4) rfl)
  have hi0_ : ∀ w ∈ u_ws RX6 TX6 7, w ∈ wqX7_map := fun w h => List.mem_cons_of_mem _ (List.mem_append_left _ (List.mem_append_left _ (List.mem_append_left _ (List.mem_append_left _ (List.mem_append_left _ (List.mem_append_left _ (List.mem_append_left _ (List.mem_append_left _ (List.mem_append_left _ (List.mem_append_left _ (List.mem_append_right _ h)))))))))))
  refine lv_aload_n hx hb dX7_map_0 rfl (lv_at hl 0 rfl) ?_
  refine lv_iload_n hx hb dX7_map_1 rfl (lv_at hl 1 rfl) ?_
  have hPc := hP.sub (ws' := [(a0, .inr (7, [.ref qb])), (qb, .inl (cq, 16, .inr (.inr (.inr (.inr bq)))))]) [0, 1] rfl
  have hKc := hK.sub (tys' := [(cq, .object "KeyAtlas$Body")]) [0] rfl
  refine rox_callr (B := (fun (_ : Unit) (a : Nat) (t : State) => t.heap.size = s.heap.size ∧ ∃ j : Nat, j < 16 ∧ nI o = nI j ∧ bq j = some a)) (fun u9 x9 t9 h9 => h9.1) (vx_runV (As := [.int (nI o)]) (rest := []) ⟨hx, hb, hml, hown, hts⟩ (c_X7_bodyAt l hlt dC dI s.heap.size a0 qb cq bq (nI o)) (cwV 1 hts gX7_map_X7_bodyAt rfl rfl rfl (by decide +kernel) ⟨(Nat.le_of_ble_eq_true rfl), (Nat.le_of_ble_eq_true rfl)⟩) ⟨pk_blindXR, va_recv hKc hPc (ci := 7) (q0 := 0) rfl rfl, pk_callXR hPc hKc hN ((hZ.kept hS.2.1).narrow (fun q h9 => hA q (Nat.le_trans hS.1 h9)))⟩ rfl rfl hl.1 rfl (lv_room (Nat.le_of_ble_eq_true rfl)) dX7_map_2 ⟨(Nat.le_of_ble_eq_true rfl), (Nat.le_of_ble_eq_true rfl)⟩) hS (fun q h9 => hA q (Nat.le_trans hS.1 h9)) (fun E ce q9 u9 t H1 locs ht hvm hw hB hz1 hk1 hS hce hcv hcl => ?_) (fun r_1 ur_1 t9 locs hw hB9 hS => ?_)
  ·
    try dsimp only at hB
    exact bq_no ho9 hbo hB.2
  ·
    refine W.tight (k := 0) (n := 0) (Nat.le_refl _) (Nat.le_refl _) ?_
    clear hPc hKc
    try dsimp only at hw
    have jr_1 := hw
    refine W.eq (g2 := F0 m 5 ls [.ref y0]) (by rw [show r_1 = y0 from bq_is ho9 hbo hB9.2]) ?_
    refine lv_astore (lv' := [(5, .ref y0), (0, .ref a0), (1, .int (nI o)), (2, .int 20), (3, .int p2), (4, .int (nI o))]) hx hb dX7_map_5 hl (by decide) rfl (fun ls hl => ?_)
    refine lv_iload_n hx hb dX7_map_7 rfl (lv_at hl 3 rfl) ?_
    refine lv_bipush (v := 19) hx hb dX7_map_8 (by decide) ?_
    refine lv_icmp_eq (tgt := 19) hx hb dX7_map_10 (by decide) (fun c_2 => absurd c_2 (by decide)) (fun c_2 => ?_)
    refine lv_iload_n hx hb dX7_map_13 rfl (lv_at hl 3 rfl) ?_
    refine lv_bipush (v := 20) hx hb dX7_map_14 (by decide) ?_
    refine lv_icmp_ne (tgt := 23) hx hb dX7_map_16 (by decide) (fun c_3 => absurd c_3 (by decide)) (fun c_3 => ?_)
    refine lv_iconst (v := 1) hx hb dX7_map_19 (by decide) ?_
    refine lv_goto (tgt := 24) hx hb dX7_map_20 (by decide) ?_
    refine lv_istore (lv' := [(6, .int 1), (5, .ref y0), (0, .ref a0), (1, .int (nI o)), (2, .int 20), (3, .int p2), (4, .int (nI o))]) hx hb dX7_map_24 hl (by decide) rfl (fun ls hl => ?_)
    refine lv_iload hx hb dX7_map_26 (lv_at hl 0 rfl) ?_
    refine lv_if_eq (tgt := 40) hx hb dX7_map_28 (by decide) (fun c_4 => absurd c_4 (by decide)) (fun c_4 => ?_)
    refine lv_aload_n hx hb dX7_map_31 rfl (lv_at hl 2 rfl) ?_
    refine lv_iload hx hb dX7_map_32 (lv_at hl 6 rfl) ?_
    have hPc := hP.sub (ws' := [(a0, .inr (7, [.ref qb])), (qb, .inl (cq, 16, .inr (.inr (.inr (.inr bq)))))]) [0, 1] rfl
    have hKc := hK.sub (tys' := [(cq, .object "KeyAtlas$Body")]) [0] rfl
    refine rox_callr (B := (fun (_ : Unit) (a : Nat) (t : State) => t.heap.size = s.heap.size ∧ ∃ j : Nat, j < 16 ∧ nI o = nI j ∧ bq j = some a)) (fun u9 x9 t9 h9 => h9.1) (vx_runV (As := [.int (nI o)]) (rest := []) ⟨hx, hb, hml, hown, hts⟩ (c_X7_bodyAt l hlt dC dI s.heap.size a0 qb cq bq (nI o)) (cwV 1 hts gX7_map_X7_bodyAt rfl rfl rfl (by decide +kernel) ⟨(Nat.le_of_ble_eq_true rfl), (Nat.le_of_ble_eq_true rfl)⟩) ⟨pk_blindXR, va_recv hKc hPc (ci := 7) (q0 := 0) rfl rfl, pk_callXR hPc hKc hN ((hZ.kept hS.2.1).narrow (fun q h9 => hA q (Nat.le_trans hS.1 h9)))⟩ rfl rfl hl.1 rfl (lv_room (Nat.le_of_ble_eq_true rfl)) dX7_map_34 ⟨(Nat.le_of_ble_eq_true rfl), (Nat.le_of_ble_eq_true rfl)⟩) hS (fun q h9 => hA q (Nat.le_trans hS.1 h9)) (fun E ce q9 u9 t H1 locs ht hvm hw hB hz1 hk1 hS hce hcv hcl => ?_) (fun r_5 ur_5 t9 locs hw hB9 hS => ?_)
    ·
      try dsimp only at hB
      exact bq_no ho9 hbo hB.2
    ·
      refine W.tight (k := 0) (n := 0) (Nat.le_refl _) (Nat.le_refl _) ?_
      clear hPc hKc
      try dsimp only at hw
      have jr_5 := hw
      refine W.eq (g2 := F0 m 37 ls [.ref y0]) (by rw [show r_5 = y0 from bq_is ho9 hbo hB9.2]) ?_
      refine lv_goto (tgt := 42) hx hb dX7_map_37 (by decide) ?_
      refine lv_astore (lv' := [(7, .ref y0), (6, .int 1), (5, .ref y0), (0, .ref a0), (1, .int (nI o)), (2, .int 20), (3, .int p2), (4, .int (nI o))]) hx hb dX7_map_42 hl (by decide) rfl (fun ls hl => ?_)
      refine lv_aload hx hb dX7_map_44 (lv_at hl 2 rfl) ?_
      have hPc := hP.sub (ws' := [(y0, .inr (6, [v0, .int kd, v2, v3, v4, v5, v6]))]) [2] rfl
      have hKc := hK.sub (tys' := []) [] rfl
      refine ro_callr (B := (fun (_ : Unit) (a : Nat) (t : State) => t.heap.size = s.heap.size ∧ a = y0)) (fun u9 x9 t9 h9 => h9.1) (va_runS (As := [.ref y0]) (rest := []) ⟨hx, hb, hml, hown, hts⟩ (c_X7_asMap_S l hlt dC dI s.heap.size y0 ([v0, .int kd, v2, v3, v4, v5, v6])) (va_cwS 1 hts gX7_map_X7_asMap rfl rfl rfl (by decide +kernel) ⟨(Nat.le_of_ble_eq_true rfl), (Nat.le_of_ble_eq_true rfl)⟩) ⟨pk_blindRX, pk_callRX hPc hKc hN⟩ rfl rfl hl.1 rfl (lv_room (Nat.le_of_ble_eq_true rfl)) dX7_map_46 ⟨(Nat.le_of_ble_eq_true rfl), (Nat.le_of_ble_eq_true rfl)⟩) (fun r_6 ur_6 t9 hw hB9 => ?_)
      clear hPc hKc
      try dsimp only at hw
      have jr_6 := hw
      refine W.eq (g2 := F0 m 49 ls [.ref y0]) (by rw [show r_6 = y0 from hB9.2]) ?_
      refine lv_astore (lv' := [(8, .ref y0), (7, .ref y0), (6, .int 1), (5, .ref y0), (0, .ref a0), (1, .int (nI o)), (2, .int 20), (3, .int p2), (4, .int (nI o))]) hx hb dX7_map_49 hl (by decide) rfl (fun ls hl => ?_)
      refine lv_aload hx hb dX7_map_51 (lv_at hl 1 rfl) ?_
      have hPc := hP.sub (ws' := [(y0, .inr (6, [v0, .int kd, v2, v3, v4, v5, v6]))]) [2] rfl
      have hKc := hK.sub (tys' := []) [] rfl
      refine ro_callr (B := (fun (_ : Unit) (a : Nat) (t : State) => t.heap.size = s.heap.size ∧ a = y0)) (fun u9 x9 t9 h9 => h9.1) (va_runS (As := [.ref y0]) (rest := []) ⟨hx, hb, hml, hown, hts⟩ (c_X7_asMap_S l hlt dC dI s.heap.size y0 ([v0, .int kd, v2, v3, v4, v5, v6])) (va_cwS 1 hts gX7_map_X7_asMap rfl rfl rfl (by decide +kernel) ⟨(Nat.le_of_ble_eq_true rfl), (Nat.le_of_ble_eq_true rfl)⟩) ⟨pk_blindRX, pk_callRX hPc hKc hN⟩ rfl rfl hl.1 rfl (lv_room (Nat.le_of_ble_eq_true rfl)) dX7_map_53 ⟨(Nat.le_of_ble_eq_true rfl), (Nat.le_of_ble_eq_true rfl)⟩) (fun r_7 ur_7 t9 hw hB9 => ?_)
      clear hPc hKc
      try dsimp only at hw
      have jr_7 := hw
      refine W.eq (g2 := F0 m 56 ls [.ref y0]) (by rw [show r_7 = y0 from hB9.2]) ?_
      refine lv_astore (lv' := [(9, .ref y0), (8, .ref y0), (7, .ref y0), (6, .int 1), (5, .ref y0), (0, .ref a0), (1, .int (nI o)), (2, .int 20), (3, .int p2), (4, .int (nI o))]) hx hb dX7_map_56 hl (by decide) rfl (fun ls hl => ?_)
      refine lv_iload_n hx hb dX7_map_58 rfl (lv_at hl 7 rfl) ?_
      refine lv_if_lt (tgt := 68) hx hb dX7_map_59 (by decide) (fun c_8 => absurd c_8 (by decide)) (fun c_8 => ?_)
      refine lv_iload_n hx hb dX7_map_62 rfl (lv_at hl 7 rfl) ?_
      refine lv_bipush (v := 25) hx hb dX7_map_63 (by decide) ?_
      refine lv_icmp_le (tgt := 78) hx hb dX7_map_65 (by decide) (fun c_9 => ?_) (fun c_9 => absurd c_9 (by decide))
      refine lv_aload hx hb dX7_map_78 (lv_at hl 1 rfl) ?_
      refine va_get (D := (dC, dI)) (ci := 6) (v := .int kd) (C := RX6) (T := TX6) (N := 7) hx hb hts hi0_ hown hK hP 2 rfl rfl 1 (by decide) hw0_ (u_same hw1_) rfl dX7_map_80 ?_
      refine lv_iload_n hx hb dX7_map_83 rfl (lv_at hl 7 rfl) ?_
      have hPc := hP.sub (ws' := []) [] rfl
      have hKc := hK.sub (tys' := []) [] rfl
      refine ro_calli (va_runS (As := [.int kd, .int 20]) (rest := []) ⟨hx, hb, hml, hown, hts⟩ (c_X7_hasOp l  dC dI s.heap.size kd 20) (va_cwS 2 hts gX7_map_X7_hasOp rfl rfl rfl (by decide +kernel) ⟨(Nat.le_of_ble_eq_true rfl), (Nat.le_of_ble_eq_true rfl)⟩) ⟨pk_blindR, pk_callR hPc hKc⟩ rfl rfl hl.1 rfl (lv_room (Nat.le_of_ble_eq_true rfl)) dX7_map_84 ⟨(Nat.le_of_ble_eq_true rfl), (Nat.le_of_ble_eq_true rfl)⟩) (fun r_10 ur_10 hw => ?_)
      clear hPc hKc
      try dsimp only at hw
      have jr_10 := hw
      refine W.eq (g2 := F0 m 87 ls [.int r_10]) rfl ?_
      refine lv_if_ne (tgt := 100) hx hb dX7_map_87 (by decide) (fun c_11 => ?_) (fun c_11 => ?_)
      ·
        have ic_11 : ¬ r_10.toInt = 0 := tx_ne rfl (by decide) c_11
        refine lv_iload_n hx hb dX7_map_100 rfl (lv_at hl 7 rfl) ?_
        refine lv_tableIn (x := 20) (off := 306) (tgt := 407) hx hb dX7_map_101 (by decide) (by decide) (by decide) (by decide) ?_
        refine lv_aload hx hb dX7_map_407 (lv_at hl 1 rfl) ?_
        refine lv_aload hx hb dX7_map_409 (lv_at hl 0 rfl) ?_
        have hPc := hP.sub (ws' := [(y0, .inr (6, [v0, .int kd, v2, v3, v4, v5, v6]))]) [2] rfl
        have hKc := hK.sub (tys' := []) [] rfl
        refine rox_calll (vx_runU (As := [.ref y0]) (rest := []) ⟨hx, hb, hml, hown, hts⟩ (c_X3_putAll_self_S l hlt dC dI s.heap.size y0 ([v0, .int kd, v2, v3, v4, v5, v6])) (va_cwU 1 hts gX7_map_X3_putAll_u124X6 rfl rfl rfl rfl (by decide +kernel) ⟨(Nat.le_of_ble_eq_true rfl), (Nat.le_of_ble_eq_true rfl)⟩) ⟨pk_blindXR, va_recv hKc hPc (ci := 6) (q0 := 0) rfl rfl, pk_callXR hPc hKc hN ((hZ.kept hS.2.1).narrow (fun q h9 => hA q (Nat.le_trans hS.1 h9)))⟩ rfl rfl hl.1 rfl (lv_room (Nat.le_of_ble_eq_true rfl)) dX7_map_411 ⟨(Nat.le_of_ble_eq_true rfl), (Nat.le_of_ble_eq_true rfl)⟩) hS (fun q h9 => hA q (Nat.le_trans hS.1 h9)) (fun E ce q9 u9 t H1 locs ht hvm hw hB hz1 hk1 hS hce hcv hcl => ?_) (fun r_12 ur_12 locs hw hS => ?_)
        ·
          try dsimp only at hB
          exact vx_out (fun x hx9 => (htab x hx9).elim) hlocks hce hcv hcl (fun t9 ht9 hal9 => ⟨(), trivial, Or.inl hB, hS.F ht9⟩) hS.2.2 (by omega) (by omega)
        · exact hw.elim
      ·
        have ic_11 : r_10.toInt = 0 := tx_eq rfl (by decide) c_11
        obtain ⟨sa, hsa⟩ := hN.stX7_66
        exact vx_throwS hx hb hlt (own := RX7) (cls := "java/lang/UnsupportedOperationException") (text := "op is not for this kind") (names := ["java/lang/RuntimeException", "java/lang/Exception"]) hown (by decide +kernel) (by decide +kernel) hw2_ hw3_ hsa (tx_hat hN.xw (fun w h => hts w (at_X7_map_90 w h)) ng_RX7_68) og_RX7_68 hZ.1 hZ.2 hS (by rw [hml]; exact hl.1) dX7_map_90 dX7_map_93 dX7_map_94 dX7_map_96 dX7_map_99 (fun x hx9 => (htab x hx9).elim) (Nat.le_of_ble_eq_true rfl) (Nat.le_of_ble_eq_true rfl) (Nat.le_of_ble_eq_true rfl) (Nat.le_of_ble_eq_true rfl) hlocks (fun t hvm hz hq => ⟨(), trivial, Or.inr rfl, ⟨Nat.le_trans hS.1 hz, fun q h1 h2 => (hq q (Nat.lt_of_lt_of_le h1 hS.1)).trans (hS.2.1 q h1 h2)⟩⟩) hS.2.2 (Nat.le_of_ble_eq_true rfl) (Nat.le_of_ble_eq_true rfl)
