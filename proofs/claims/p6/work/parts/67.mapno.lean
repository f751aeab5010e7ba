theorem dX7_map_0 : decode cX7_map 0 = .ok (.aload_n 0, 1) := by decide +kernel
theorem dX7_map_1 : decode cX7_map 1 = .ok (.iload_n 1, 1) := by decide +kernel
set_option maxRecDepth 20000 in
theorem ggX7_map_X7_bodyAt : GoodIn wqX7_map wqX7_bodyAt := goodIn_ca (goodIn_r _ [11, 12, 13, 14, 15, 16, 10, 17, 18, 487] rfl (by decide +kernel)) (goodIn_sub (fun _ h => List.mem_cons_of_mem _ (List.mem_append_left _ (List.mem_append_left _ (List.mem_append_left _ (List.mem_append_left _ (List.mem_append_right _ h)))))) (by decide +kernel))
set_option maxRecDepth 20000 in
theorem gX7_map_X7_bodyAt : GoodIn wqX7_map (wsV RX7 41 RX7 yX7_bodyAt wqX7_bodyAt) := goodIn_app (goodIn_of _ (by decide +kernel)) ggX7_map_X7_bodyAt
theorem dX7_map_2 : decode cX7_map 2 = .ok (.invokevirtual 41, 3) := by decide +kernel
theorem dX7_map_5 : decode cX7_map 5 = .ok (.astore 5, 2) := by decide +kernel
theorem dX7_map_7 : decode cX7_map 7 = .ok (.iload_n 2, 1) := by decide +kernel
theorem dX7_map_8 : decode cX7_map 8 = .ok (.bipush 19, 2) := by decide +kernel
theorem dX7_map_10 : decode cX7_map 10 = .ok (.if_icmp .eq 9, 3) := by decide +kernel
theorem dX7_map_19 : decode cX7_map 19 = .ok (.iconst 1, 1) := by decide +kernel
theorem dX7_map_20 : decode cX7_map 20 = .ok (.goto 4, 3) := by decide +kernel
theorem dX7_map_24 : decode cX7_map 24 = .ok (.istore 6, 2) := by decide +kernel
theorem dX7_map_26 : decode cX7_map 26 = .ok (.iload 6, 2) := by decide +kernel
theorem dX7_map_28 : decode cX7_map 28 = .ok (.ifCond .eq 12, 3) := by decide +kernel
theorem dX7_map_31 : decode cX7_map 31 = .ok (.aload_n 0, 1) := by decide +kernel
theorem dX7_map_32 : decode cX7_map 32 = .ok (.iload 4, 2) := by decide +kernel
theorem dX7_map_34 : decode cX7_map 34 = .ok (.invokevirtual 41, 3) := by decide +kernel
theorem dX7_map_13 : decode cX7_map 13 = .ok (.iload_n 2, 1) := by decide +kernel
theorem dX7_map_14 : decode cX7_map 14 = .ok (.bipush 20, 2) := by decide +kernel
theorem dX7_map_16 : decode cX7_map 16 = .ok (.if_icmp .ne 7, 3) := by decide +kernel
theorem dX7_map_23 : decode cX7_map 23 = .ok (.iconst 0, 1) := by decide +kernel
theorem dX7_map_40 : decode cX7_map 40 = .ok (.aload 5, 2) := by decide +kernel
theorem dX7_map_42 : decode cX7_map 42 = .ok (.astore 7, 2) := by decide +kernel
theorem dX7_map_44 : decode cX7_map 44 = .ok (.aload 5, 2) := by decide +kernel
set_option maxRecDepth 20000 in
theorem ggX7_map_X7_asMap : GoodIn wqX7_map wqX7_asMap := goodIn_ca (show GoodIn wqX7_map wrX7_asMap from goodIn_r _ [21, 22, 23, 24, 25, 488, 489, 490, 491, 492, 493] rfl (by decide +kernel)) (goodIn_sub (fun w h => List.mem_cons_of_mem _ (List.mem_append_right _ h)) (by decide +kernel))
set_option maxRecDepth 20000 in
theorem gX7_map_X7_asMap : GoodIn wqX7_map (va_wsS RX7 49 yX7_asMap wqX7_asMap) := goodIn_app (goodIn_of _ (by decide +kernel)) ggX7_map_X7_asMap
theorem dX7_map_46 : decode cX7_map 46 = .ok (.invokestatic 49, 3) := by decide +kernel
theorem dX7_map_37 : decode cX7_map 37 = .ok (.goto 5, 3) := by decide +kernel
theorem dX7_map_49 : decode cX7_map 49 = .ok (.astore 8, 2) := by decide +kernel
theorem dX7_map_51 : decode cX7_map 51 = .ok (.aload 7, 2) := by decide +kernel
theorem dX7_map_53 : decode cX7_map 53 = .ok (.invokestatic 49, 3) := by decide +kernel
set_option maxHeartbeats 4000000 in
set_option maxRecDepth 100000 in
/-- map: none -/
theorem c_X7_map_none (l : Launch) (hlt : l.stackTraces = false) (dC : Nat → ClassId) (dI : Nat → Nat → Nat) (sz : Nat) (a0 : Nat) (qb : Nat) (cq : ClassId) (bq : Nat → Option Nat) (p0 : Int32) (p1 : Int32) (p2 : Int32) (p3 : Int32) (hno : ∀ j : Nat, j < 16 → p0 = nI j → bq j = none) : vx_Met l yX7_map wqX7_map ({ frames := 7, cells := 2, slots := 12, locals := 140 }) (va_Pc [.ref a0, .int p0, .int p1, .int p2, .int p3] (pk_PreXR (dC, dI) [(a0, .inr (7, [.ref qb])), (qb, .inl (cq, 16, .inr (.inr (.inr (.inr bq)))))] [(cq, .object "KeyAtlas$Body")] sz)) (va_Ql (fun (_ : Int64) (_ : Unit) => False) (fun _ (t : State) => t.heap.size = sz) (roN sz)) (vx_X (fun _ : Unit => True) (fun (E : String) (_ : Unit) (t : State) => E = "java/util/NoSuchElementException") (roN sz)) 2 12 (roN sz) := by
  refine vx_ofW (cc := cX7_map) (maxL := 10) (ret := (some .long)) (by decide) rfl ?_
  intro p e s m args below meth c s₁ B hml htab hv
  obtain ⟨rfl, hsz, hP, hK, hN, hZ⟩ := hv
  have hx := B.exec
  have hb := B.bytes
  have hr := B.returns
  have hts := atoms_spec (ws := wqX7_map) B.pre
  have hown : s.vm.findClass RX7 = some m.cls := findClass_of_methodNamed B.named
  have hlocks := B.notSynchronized
  subst hsz
  generalize hAe : roN s.heap.size = A at hZ ⊢
  have hA : ∀ q : Nat, s.heap.size ≤ q → A q := fun q h => by rw [← hAe]; exact h
  have hS : va_S A s.heap s.heap [] := va_S.rf
  have hP : va_P (dC, dI) vwCl [(a0, .inr (7, [.ref qb])), (qb, .inl (cq, 16, .inr (.inr (.inr (.inr bq)))))] s.heap := hP
  have hl := lv_entry ([.ref a0, .int p0, .int p1, .int p2, .int p3]) (n := 10) (Nat.le_of_ble_eq_true rfl)
  rw [lg_entry_eq]
  generalize (lg_sl ([.ref a0, .int p0, .int p1, .int p2, .int p3]) ++ List.replicate (10 - (lg_sl ([.ref a0, .int p0, .int p1, .int p2, .int p3])).length) Slot.unset).toArray = ls at hl ⊢
  have hl : lv_has ls 10 [(0, .ref a0), (1, .int p0), (2, .int p1), (3, .int p2), (4, .int p3)] := hl

  refine lv_aload_n hx hb dX7_map_0 rfl (lv_at hl 0 rfl) ?_
  refine lv_iload_n hx hb dX7_map_1 rfl (lv_at hl 1 rfl) ?_
  have hPc := hP.sub (ws' := [(a0, .inr (7, [.ref qb])), (qb, .inl (cq, 16, .inr (.inr (.inr (.inr bq)))))]) [0, 1] rfl
  have hKc := hK.sub (tys' := [(cq, .object "KeyAtlas$Body")]) [0] rfl
  refine rox_callr (B := (fun (_ : Unit) (a : Nat) (t : State) => t.heap.size = s.heap.size ∧ ∃ j : Nat, j < 16 ∧ p0 = nI j ∧ bq j = some a)) (fun u9 x9 t9 h9 => h9.1) (vx_runV (As := [.int p0]) (rest := []) ⟨hx, hb, hml, hown, hts⟩ (c_X7_bodyAt l hlt dC dI s.heap.size a0 qb cq bq p0) (cwV 1 hts gX7_map_X7_bodyAt rfl rfl rfl (by decide +kernel) ⟨(Nat.le_of_ble_eq_true rfl), (Nat.le_of_ble_eq_true rfl)⟩) ⟨pk_blindXR, va_recv hKc hPc (ci := 7) (q0 := 0) rfl rfl, pk_callXR hPc hKc hN ((hZ.kept hS.2.1).narrow (fun q h9 => hA q (Nat.le_trans hS.1 h9)))⟩ rfl rfl hl.1 rfl (lv_room (Nat.le_of_ble_eq_true rfl)) dX7_map_2 ⟨(Nat.le_of_ble_eq_true rfl), (Nat.le_of_ble_eq_true rfl)⟩) hS (fun q h9 => hA q (Nat.le_trans hS.1 h9)) (fun E ce q9 u9 t H1 locs ht hvm hw hB hz1 hk1 hS hce hcv hcl => ?_) (fun r_1 ur_1 t9 locs hw hB9 hS => ?_)
  ·
    try dsimp only at hB
    exact vx_out (fun x hx9 => (htab x hx9).elim) hlocks hce hcv hcl (fun t9 ht9 hal9 => ⟨(), trivial, hB.1, hS.F ht9⟩) hS.2.2 (by omega) (by omega)
  · exact (by obtain ⟨-, j, hj, e9, h9⟩ := hB9; rw [hno j hj e9] at h9; cases h9)
set_option maxHeartbeats 4000000 in
set_option maxRecDepth 100000 in
/-- map: twonone -/
theorem c_X7_map_twonone (l : Launch) (hlt : l.stackTraces = false) (dC : Nat → ClassId) (dI : Nat → Nat → Nat) (sz : Nat) (a0 : Nat) (qb : Nat) (cq : ClassId) (bq : Nat → Option Nat) (o : Nat) (y0 : Nat) (p1 : Int32) (p2 : Int32) (p3 : Int32) (ho9 : o < 16) (hbo : bq o = some y0) (hno : ∀ j : Nat, j < 16 → p3 = nI j → bq j = none) (hop : p1.toInt = 19 ∨ p1.toInt = 20) : vx_Met l yX7_map wqX7_map ({ frames := 7, cells := 2, slots := 12, locals := 140 }) (va_Pc [.ref a0, .int (nI o), .int p1, .int p2, .int p3] (pk_PreXR (dC, dI) [(a0, .inr (7, [.ref qb])), (qb, .inl (cq, 16, .inr (.inr (.inr (.inr bq)))))] [(cq, .object "KeyAtlas$Body")] sz)) (va_Ql (fun (_ : Int64) (_ : Unit) => False) (fun _ (t : State) => t.heap.size = sz) (roN sz)) (vx_X (fun _ : Unit => True) (fun (E : String) (_ : Unit) (t : State) => E = "java/util/NoSuchElementException") (roN sz)) 2 12 (roN sz) := by
  refine vx_ofW (cc := cX7_map) (maxL := 10) (ret := (some .long)) (by decide) rfl ?_
  intro p e s m args below meth c s₁ B hml htab hv
  obtain ⟨rfl, hsz, hP, hK, hN, hZ⟩ := hv
  have hx := B.exec
  have hb := B.bytes
  have hr := B.returns
  have hts := atoms_spec (ws := wqX7_map) B.pre
  have hown : s.vm.findClass RX7 = some m.cls := findClass_of_methodNamed B.named
  have hlocks := B.notSynchronized
  subst hsz
  generalize hAe : roN s.heap.size = A at hZ ⊢
  have hA : ∀ q : Nat, s.heap.size ≤ q → A q := fun q h => by rw [← hAe]; exact h
  have hS : va_S A s.heap s.heap [] := va_S.rf
  have hP : va_P (dC, dI) vwCl [(a0, .inr (7, [.ref qb])), (qb, .inl (cq, 16, .inr (.inr (.inr (.inr bq)))))] s.heap := hP
  have hl := lv_entry ([.ref a0, .int (nI o), .int p1, .int p2, .int p3]) (n := 10) (Nat.le_of_ble_eq_true rfl)
  rw [lg_entry_eq]
  generalize (lg_sl ([.ref a0, .int (nI o), .int p1, .int p2, .int p3]) ++ List.replicate (10 - (lg_sl ([.ref a0, .int (nI o), .int p1, .int p2, .int p3])).length) Slot.unset).toArray = ls at hl ⊢
  have hl : lv_has ls 10 [(0, .ref a0), (1, .int (nI o)), (2, .int p1), (3, .int p2), (4, .int p3)] := hl

  refine lv_aload_n hx hb dX7_map_0 rfl (lv_at hl 0 rfl) ?_
  refine lv_iload_n hx hb dX7_map_1 rfl (lv_at hl 1 rfl) ?_
  have hPc := hP.sub (ws' := [(a0, .inr (7, [.ref qb])), (qb, .inl (cq, 16, .inr (.inr (.inr (.inr bq)))))]) [0, 1] rfl
  have hKc := hK.sub (tys' := [(cq, .object "KeyAtlas$Body")]) [0] rfl
  refine rox_callr (B := (fun (_ : Unit) (a : Nat) (t : State) => t.heap.size = s.heap.size ∧ ∃ j : Nat, j < 16 ∧ nI o = nI j ∧ bq j = some a)) (fun u9 x9 t9 h9 => h9.1) (vx_runV (As := [.int (nI o)]) (rest := []) ⟨hx, hb, hml, hown, hts⟩ (c_X7_bodyAt l hlt dC dI s.heap.size a0 qb cq bq (nI o)) (cwV 1 hts gX7_map_X7_bodyAt rfl rfl rfl (by decide +kernel) ⟨(Nat.le_of_ble_eq_true rfl), (Nat.le_of_ble_eq_true rfl)⟩) ⟨pk_blindXR, va_recv hKc hPc (ci := 7) (q0 := 0) rfl rfl, pk_callXR hPc hKc hN ((hZ.kept hS.2.1).narrow (fun q h9 => hA q (Nat.le_trans hS.1 h9)))⟩ rfl rfl hl.1 rfl (lv_room (Nat.le_of_ble_eq_true rfl)) dX7_map_2 ⟨(Nat.le_of_ble_eq_true rfl), (Nat.le_of_ble_eq_true rfl)⟩) hS (fun q h9 => hA q (Nat.le_trans hS.1 h9)) (fun E ce q9 u9 t H1 locs ht hvm hw hB hz1 hk1 hS hce hcv hcl => ?_) (fun r_1 ur_1 t9 locs hw hB9 hS => ?_)
  ·
    try dsimp only at hB
    exact bq_no ho9 hbo hB.2
  ·
    refine W.tight (k := 0) (n := 0) (Nat.le_refl _) (Nat.le_refl _) ?_
    clear hPc hKc
    try dsimp only at hw
    have jr_1 := hw
    refine W.eq (g2 := F0 m 5 ls [.ref y0]) (by rw [show r_1 = y0 from bq_is ho9 hbo hB9.2]) ?_
    refine lv_astore (lv' := [(5, .ref y0), (0, .ref a0), (1, .int (nI o)), (2, .int p1), (3, .int p2), (4, .int p3)]) hx hb dX7_map_5 hl (by decide) rfl (fun ls hl => ?_)
    refine lv_iload_n hx hb dX7_map_7 rfl (lv_at hl 3 rfl) ?_
    refine lv_bipush (v := 19) hx hb dX7_map_8 (by decide) ?_
    refine lv_icmp_eq (tgt := 19) hx hb dX7_map_10 (by decide) (fun c_2 => ?_) (fun c_2 => ?_)
    ·
      have ic_2 : p1.toInt = 19 := tx_eq rfl (by decide) c_2
      refine lv_iconst (v := 1) hx hb dX7_map_19 (by decide) ?_
      refine lv_goto (tgt := 24) hx hb dX7_map_20 (by decide) ?_
      refine lv_istore (lv' := [(6, .int 1), (5, .ref y0), (0, .ref a0), (1, .int (nI o)), (2, .int p1), (3, .int p2), (4, .int p3)]) hx hb dX7_map_24 hl (by decide) rfl (fun ls hl => ?_)
      refine lv_iload hx hb dX7_map_26 (lv_at hl 0 rfl) ?_
      refine lv_if_eq (tgt := 40) hx hb dX7_map_28 (by decide) (fun c_3 => absurd c_3 (by decide)) (fun c_3 => ?_)
      refine lv_aload_n hx hb dX7_map_31 rfl (lv_at hl 2 rfl) ?_
      refine lv_iload hx hb dX7_map_32 (lv_at hl 6 rfl) ?_
      have hPc := hP.sub (ws' := [(a0, .inr (7, [.ref qb])), (qb, .inl (cq, 16, .inr (.inr (.inr (.inr bq)))))]) [0, 1] rfl
      have hKc := hK.sub (tys' := [(cq, .object "KeyAtlas$Body")]) [0] rfl
      refine rox_callr (B := (fun (_ : Unit) (a : Nat) (t : State) => t.heap.size = s.heap.size ∧ ∃ j : Nat, j < 16 ∧ p3 = nI j ∧ bq j = some a)) (fun u9 x9 t9 h9 => h9.1) (vx_runV (As := [.int p3]) (rest := []) ⟨hx, hb, hml, hown, hts⟩ (c_X7_bodyAt l hlt dC dI s.heap.size a0 qb cq bq p3) (cwV 1 hts gX7_map_X7_bodyAt rfl rfl rfl (by decide +kernel) ⟨(Nat.le_of_ble_eq_true rfl), (Nat.le_of_ble_eq_true rfl)⟩) ⟨pk_blindXR, va_recv hKc hPc (ci := 7) (q0 := 0) rfl rfl, pk_callXR hPc hKc hN ((hZ.kept hS.2.1).narrow (fun q h9 => hA q (Nat.le_trans hS.1 h9)))⟩ rfl rfl hl.1 rfl (lv_room (Nat.le_of_ble_eq_true rfl)) dX7_map_34 ⟨(Nat.le_of_ble_eq_true rfl), (Nat.le_of_ble_eq_true rfl)⟩) hS (fun q h9 => hA q (Nat.le_trans hS.1 h9)) (fun E ce q9 u9 t H1 locs ht hvm hw hB hz1 hk1 hS hce hcv hcl => ?_) (fun r_4 ur_4 t9 locs hw hB9 hS => ?_)
      ·
        try dsimp only at hB
        exact vx_out (fun x hx9 => (htab x hx9).elim) hlocks hce hcv hcl (fun t9 ht9 hal9 => ⟨(), trivial, hB.1, hS.F ht9⟩) hS.2.2 (by omega) (by omega)
      · exact (by obtain ⟨-, j, hj, e9, h9⟩ := hB9; rw [hno j hj e9] at h9; cases h9)
    ·
      have ic_2 : ¬ p1.toInt = 19 := tx_ne rfl (by decide) c_2
      refine lv_iload_n hx hb dX7_map_13 rfl (lv_at hl 3 rfl) ?_
      refine lv_bipush (v := 20) hx hb dX7_map_14 (by decide) ?_
      refine lv_icmp_ne (tgt := 23) hx hb dX7_map_16 (by decide) (fun c_5 => ?_) (fun c_5 => ?_)
      ·
        have ic_5 : ¬ p1.toInt = 20 := tx_ne rfl (by decide) c_5
        exfalso
        omega
      ·
        have ic_5 : p1.toInt = 20 := tx_eq rfl (by decide) c_5
        refine lv_iconst (v := 1) hx hb dX7_map_19 (by decide) ?_
        refine lv_goto (tgt := 24) hx hb dX7_map_20 (by decide) ?_
        refine lv_istore (lv' := [(6, .int 1), (5, .ref y0), (0, .ref a0), (1, .int (nI o)), (2, .int p1), (3, .int p2), (4, .int p3)]) hx hb dX7_map_24 hl (by decide) rfl (fun ls hl => ?_)
        refine lv_iload hx hb dX7_map_26 (lv_at hl 0 rfl) ?_
        refine lv_if_eq (tgt := 40) hx hb dX7_map_28 (by decide) (fun c_6 => absurd c_6 (by decide)) (fun c_6 => ?_)
        refine lv_aload_n hx hb dX7_map_31 rfl (lv_at hl 2 rfl) ?_
        refine lv_iload hx hb dX7_map_32 (lv_at hl 6 rfl) ?_
        have hPc := hP.sub (ws' := [(a0, .inr (7, [.ref qb])), (qb, .inl (cq, 16, .inr (.inr (.inr (.inr bq)))))]) [0, 1] rfl
        have hKc := hK.sub (tys' := [(cq, .object "KeyAtlas$Body")]) [0] rfl
        refine rox_callr (B := (fun (_ : Unit) (a : Nat) (t : State) => t.heap.size = s.heap.size ∧ ∃ j : Nat, j < 16 ∧ p3 = nI j ∧ bq j = some a)) (fun u9 x9 t9 h9 => h9.1) (vx_runV (As := [.int p3]) (rest := []) ⟨hx, hb, hml, hown, hts⟩ (c_X7_bodyAt l hlt dC dI s.heap.size a0 qb cq bq p3) (cwV 1 hts gX7_map_X7_bodyAt rfl rfl rfl (by decide +kernel) ⟨(Nat.le_of_ble_eq_true rfl), (Nat.le_of_ble_eq_true rfl)⟩) ⟨pk_blindXR, va_recv hKc hPc (ci := 7) (q0 := 0) rfl rfl, pk_callXR hPc hKc hN ((hZ.kept hS.2.1).narrow (fun q h9 => hA q (Nat.le_trans hS.1 h9)))⟩ rfl rfl hl.1 rfl (lv_room (Nat.le_of_ble_eq_true rfl)) dX7_map_34 ⟨(Nat.le_of_ble_eq_true rfl), (Nat.le_of_ble_eq_true rfl)⟩) hS (fun q h9 => hA q (Nat.le_trans hS.1 h9)) (fun E ce q9 u9 t H1 locs ht hvm hw hB hz1 hk1 hS hce hcv hcl => ?_) (fun r_7 ur_7 t9 locs hw hB9 hS => ?_)
        ·
          try dsimp only at hB
          exact vx_out (fun x hx9 => (htab x hx9).elim) hlocks hce hcv hcl (fun t9 ht9 hal9 => ⟨(), trivial, hB.1, hS.F ht9⟩) hS.2.2 (by omega) (by omega)
        · exact (by obtain ⟨-, j, hj, e9, h9⟩ := hB9; rw [hno j hj e9] at h9; cases h9)
set_option maxHeartbeats 4000000 in
set_option maxRecDepth 100000 in
/-- map: notC -/
theorem c_X7_map_notC (l : Launch) (hlt : l.stackTraces = false) (dC : Nat → ClassId) (dI : Nat → Nat → Nat) (sz : Nat) (a0 : Nat) (qb : Nat) (cq : ClassId) (bq : Nat → Option Nat) (o : Nat) (y0 : Nat) (fs : List Value) (p1 : Int32) (p2 : Int32) (p3 : Int32) (ho9 : o < 16) (hbo : bq o = some y0) (hop : ¬ p1.toInt = 19 ∧ ¬ p1.toInt = 20) : vx_Met l yX7_map wqX7_map ({ frames := 7, cells := 2, slots := 12, locals := 140 }) (va_Pc [.ref a0, .int (nI o), .int p1, .int p2, .int p3] (pk_PreXR (dC, dI) [(a0, .inr (7, [.ref qb])), (qb, .inl (cq, 16, .inr (.inr (.inr (.inr bq))))), (y0, .inr (2, fs))] [(cq, .object "KeyAtlas$Body")] sz)) (va_Ql (fun (_ : Int64) (_ : Unit) => False) (fun _ (t : State) => t.heap.size = sz) (roN sz)) (vx_X (fun _ : Unit => True) (fun (E : String) (_ : Unit) (t : State) => E = "java/lang/ClassCastException") (roN sz)) 2 12 (roN sz) := by
  refine vx_ofW (cc := cX7_map) (maxL := 10) (ret := (some .long)) (by decide) rfl ?_
  intro p e s m args below meth c s₁ B hml htab hv
  obtain ⟨rfl, hsz, hP, hK, hN, hZ⟩ := hv
  have hx := B.exec
  have hb := B.bytes
  have hr := B.returns
  have hts := atoms_spec (ws := wqX7_map) B.pre
  have hown : s.vm.findClass RX7 = some m.cls := findClass_of_methodNamed B.named
  have hlocks := B.notSynchronized
  subst hsz
  generalize hAe : roN s.heap.size = A at hZ ⊢
  have hA : ∀ q : Nat, s.heap.size ≤ q → A q := fun q h => by rw [← hAe]; exact h
  have hS : va_S A s.heap s.heap [] := va_S.rf
  have hP : va_P (dC, dI) vwCl [(a0, .inr (7, [.ref qb])), (qb, .inl (cq, 16, .inr (.inr (.inr (.inr bq))))), (y0, .inr (2, fs))] s.heap := hP
  have hl := lv_entry ([.ref a0, .int (nI o), .int p1, .int p2, .int p3]) (n := 10) (Nat.le_of_ble_eq_true rfl)
  rw [lg_entry_eq]
  generalize (lg_sl ([.ref a0, .int (nI o), .int p1, .int p2, .int p3]) ++ List.replicate (10 - (lg_sl ([.ref a0, .int (nI o), .int p1, .int p2, .int p3])).length) Slot.unset).toArray = ls at hl ⊢
  have hl : lv_has ls 10 [(0, .ref a0), (1, .int (nI o)), (2, .int p1), (3, .int p2), (4, .int p3)] := hl

  refine lv_aload_n hx hb dX7_map_0 rfl (lv_at hl 0 rfl) ?_
  refine lv_iload_n hx hb dX7_map_1 rfl (lv_at hl 1 rfl) ?_
  have hPc := hP.sub (ws' := [(a0, .inr (7, [.ref qb])), (qb, .inl (cq, 16, .inr (.inr (.inr (.inr bq)))))]) [0, 1] rfl
  have hKc := hK.sub (tys' := [(cq, .object "KeyAtlas$Body")]) [0] rfl
  refine rox_callr (B := (fun (_ : Unit) (a : Nat) (t : State) => t.heap.size = s.heap.size ∧ ∃ j : Nat, j < 16 ∧ nI o = nI j ∧ bq j = some a)) (fun u9 x9 t9 h9 => h9.1) (vx_runV (As := [.int (nI o)]) (rest := []) ⟨hx, hb, hml, hown, hts⟩ (c_X7_bodyAt l hlt dC dI s.heap.size a0 qb cq bq (nI o)) (cwV 1 hts gX7_map_X7_bodyAt rfl rfl rfl (by decide +kernel) ⟨(Nat.le_of_ble_eq_true rfl), (Nat.le_of_ble_eq_true rfl)⟩) ⟨pk_blindXR, va_recv hKc hPc (ci := 7) (q0 := 0) rfl rfl, pk_callXR hPc hKc hN ((hZ.kept hS.2.1).narrow (fun q h9 => hA q (Nat.le_trans hS.1 h9)))⟩ rfl rfl hl.1 rfl (lv_room (Nat.le_of_ble_eq_true rfl)) dX7_map_2 ⟨(Nat.le_of_ble_eq_true rfl), (Nat.le_of_ble_eq_true rfl)⟩) hS (fun q h9 => hA q (Nat.le_trans hS.1 h9)) (fun E ce q9 u9 t H1 locs ht hvm hw hB hz1 hk1 hS hce hcv hcl => ?_) (fun r_1 ur_1 t9 locs hw hB9 hS => ?_)
  ·
    try dsimp only at hB
    exact bq_no ho9 hbo hB.2
  ·
    refine W.tight (k := 0) (n := 0) (Nat.le_refl _) (Nat.le_refl _) ?_
    clear hPc hKc
    try dsimp only at hw
    have jr_1 := hw
    refine W.eq (g2 := F0 m 5 ls [.ref y0]) (by rw [show r_1 = y0 from bq_is ho9 hbo hB9.2]) ?_
    refine lv_astore (lv' := [(5, .ref y0), (0, .ref a0), (1, .int (nI o)), (2, .int p1), (3, .int p2), (4, .int p3)]) hx hb dX7_map_5 hl (by decide) rfl (fun ls hl => ?_)
    refine lv_iload_n hx hb dX7_map_7 rfl (lv_at hl 3 rfl) ?_
    refine lv_bipush (v := 19) hx hb dX7_map_8 (by decide) ?_
    refine lv_icmp_eq (tgt := 19) hx hb dX7_map_10 (by decide) (fun c_2 => ?_) (fun c_2 => ?_)
    ·
      have ic_2 : p1.toInt = 19 := tx_eq rfl (by decide) c_2
      exfalso
      omega
    ·
      have ic_2 : ¬ p1.toInt = 19 := tx_ne rfl (by decide) c_2
      refine lv_iload_n hx hb dX7_map_13 rfl (lv_at hl 3 rfl) ?_
      refine lv_bipush (v := 20) hx hb dX7_map_14 (by decide) ?_
      refine lv_icmp_ne (tgt := 23) hx hb dX7_map_16 (by decide) (fun c_3 => ?_) (fun c_3 => ?_)
      ·
        have ic_3 : ¬ p1.toInt = 20 := tx_ne rfl (by decide) c_3
        refine lv_iconst (v := 0) hx hb dX7_map_23 (by decide) ?_
        refine lv_istore (lv' := [(6, .int 0), (5, .ref y0), (0, .ref a0), (1, .int (nI o)), (2, .int p1), (3, .int p2), (4, .int p3)]) hx hb dX7_map_24 hl (by decide) rfl (fun ls hl => ?_)
        refine lv_iload hx hb dX7_map_26 (lv_at hl 0 rfl) ?_
        refine lv_if_eq (tgt := 40) hx hb dX7_map_28 (by decide) (fun c_4 => ?_) (fun c_4 => absurd c_4 (by decide))
        refine lv_aload hx hb dX7_map_40 (lv_at hl 1 rfl) ?_
        refine lv_astore (lv' := [(7, .ref y0), (6, .int 0), (5, .ref y0), (0, .ref a0), (1, .int (nI o)), (2, .int p1), (3, .int p2), (4, .int p3)]) hx hb dX7_map_42 hl (by decide) rfl (fun ls hl => ?_)
        refine lv_aload hx hb dX7_map_44 (lv_at hl 2 rfl) ?_
        have hPc := hP.sub (ws' := [(y0, .inr (2, fs))]) [2] rfl
        have hKc := hK.sub (tys' := []) [] rfl
        refine rox_callr (B := (fun (_ : Unit) (a : Nat) (t : State) => t.heap.size = s.heap.size ∧ a = y0)) (fun u9 x9 t9 h9 => h9.1) (vx_runS (As := [.ref y0]) (rest := []) ⟨hx, hb, hml, hown, hts⟩ (c_X7_asMap_C l hlt dC dI s.heap.size y0 fs) (va_cwS 1 hts gX7_map_X7_asMap rfl rfl rfl (by decide +kernel) ⟨(Nat.le_of_ble_eq_true rfl), (Nat.le_of_ble_eq_true rfl)⟩) ⟨pk_blindXR, pk_callXR hPc hKc hN ((hZ.kept hS.2.1).narrow (fun q h9 => hA q (Nat.le_trans hS.1 h9)))⟩ rfl rfl hl.1 rfl (lv_room (Nat.le_of_ble_eq_true rfl)) dX7_map_46 ⟨(Nat.le_of_ble_eq_true rfl), (Nat.le_of_ble_eq_true rfl)⟩) hS (fun q h9 => hA q (Nat.le_trans hS.1 h9)) (fun E ce q9 u9 t H1 locs ht hvm hw hB hz1 hk1 hS hce hcv hcl => ?_) (fun r_5 ur_5 t9 locs hw hB9 hS => ?_)
        ·
          try dsimp only at hB
          exact vx_out (fun x hx9 => (htab x hx9).elim) hlocks hce hcv hcl (fun t9 ht9 hal9 => ⟨(), trivial, hB, hS.F ht9⟩) hS.2.2 (by omega) (by omega)
        · exact hw.elim
      ·
        have ic_3 : p1.toInt = 20 := tx_eq rfl (by decide) c_3
        exfalso
        omega
set_option maxHeartbeats 4000000 in
set_option maxRecDepth 100000 in
/-- map: twonotC -/
theorem c_X7_map_twonotC (l : Launch) (hlt : l.stackTraces = false) (dC : Nat → ClassId) (dI : Nat → Nat → Nat) (sz : Nat) (a0 : Nat) (qb : Nat) (cq : ClassId) (bq : Nat → Option Nat) (o : Nat) (y0 : Nat) (fs : List Value) (o8 : Nat) (y1 : Nat) (p1 : Int32) (p2 : Int32) (ho9 : o < 16) (hbo : bq o = some y0) (ho8 : o8 < 16) (hbo8 : bq o8 = some y1) (hop : p1.toInt = 19 ∨ p1.toInt = 20) : vx_Met l yX7_map wqX7_map ({ frames := 7, cells := 2, slots := 12, locals := 140 }) (va_Pc [.ref a0, .int (nI o), .int p1, .int p2, .int (nI o8)] (pk_PreXR (dC, dI) [(a0, .inr (7, [.ref qb])), (qb, .inl (cq, 16, .inr (.inr (.inr (.inr bq))))), (y0, .inr (2, fs))] [(cq, .object "KeyAtlas$Body")] sz)) (va_Ql (fun (_ : Int64) (_ : Unit) => False) (fun _ (t : State) => t.heap.size = sz) (roN sz)) (vx_X (fun _ : Unit => True) (fun (E : String) (_ : Unit) (t : State) => E = "java/lang/ClassCastException") (roN sz)) 2 12 (roN sz) := by
  refine vx_ofW (cc := cX7_map) (maxL := 10) (ret := (some .long)) (by decide) rfl ?_
  intro p e s m args below meth c s₁ B hml htab hv
  obtain ⟨rfl, hsz, hP, hK, hN, hZ⟩ := hv
  have hx := B.exec
  have hb := B.bytes
  have hr := B.returns
  have hts := atoms_spec (ws := wqX7_map) B.pre
  have hown : s.vm.findClass RX7 = some m.cls := findClass_of_methodNamed B.named
  have hlocks := B.notSynchronized
  subst hsz
  generalize hAe : roN s.heap.size = A at hZ ⊢
  have hA : ∀ q : Nat, s.heap.size ≤ q → A q := fun q h => by rw [← hAe]; exact h
  have hS : va_S A s.heap s.heap [] := va_S.rf
  have hP : va_P (dC, dI) vwCl [(a0, .inr (7, [.ref qb])), (qb, .inl (cq, 16, .inr (.inr (.inr (.inr bq))))), (y0, .inr (2, fs))] s.heap := hP
  have hl := lv_entry ([.ref a0, .int (nI o), .int p1, .int p2, .int (nI o8)]) (n := 10) (Nat.le_of_ble_eq_true rfl)
  rw [lg_entry_eq]
  generalize (lg_sl ([.ref a0, .int (nI o), .int p1, .int p2, .int (nI o8)]) ++ List.replicate (10 - (lg_sl ([.ref a0, .int (nI o), .int p1, .int p2, .int (nI o8)])).length) Slot.unset).toArray = ls at hl ⊢
  have hl : lv_has ls 10 [(0, .ref a0), (1, .int (nI o)), (2, .int p1), (3, .int p2), (4, .int (nI o8))] := hl

  refine lv_aload_n hx hb dX7_map_0 rfl (lv_at hl 0 rfl) ?_
  refine lv_iload_n hx hb dX7_map_1 rfl (lv_at hl 1 rfl) ?_
  have hPc := hP.sub (ws' := [(a0, .inr (7, [.ref qb])), (qb, .inl (cq, 16, .inr (.inr (.inr (.inr bq)))))]) [0, 1] rfl
  have hKc := hK.sub (tys' := [(cq, .object "KeyAtlas$Body")]) [0] rfl
  refine rox_callr (B := (fun (_ : Unit) (a : Nat) (t : State) => t.heap.size = s.heap.size ∧ ∃ j : Nat, j < 16 ∧ nI o = nI j ∧ bq j = some a)) (fun u9 x9 t9 h9 => h9.1) (vx_runV (As := [.int (nI o)]) (rest := []) ⟨hx, hb, hml, hown, hts⟩ (c_X7_bodyAt l hlt dC dI s.heap.size a0 qb cq bq (nI o)) (cwV 1 hts gX7_map_X7_bodyAt rfl rfl rfl (by decide +kernel) ⟨(Nat.le_of_ble_eq_true rfl), (Nat.le_of_ble_eq_true rfl)⟩) ⟨pk_blindXR, va_recv hKc hPc (ci := 7) (q0 := 0) rfl rfl, pk_callXR hPc hKc hN ((hZ.kept hS.2.1).narrow (fun q h9 => hA q (Nat.le_trans hS.1 h9)))⟩ rfl rfl hl.1 rfl (lv_room (Nat.le_of_ble_eq_true rfl)) dX7_map_2 ⟨(Nat.le_of_ble_eq_true rfl), (Nat.le_of_ble_eq_true rfl)⟩) hS (fun q h9 => hA q (Nat.le_trans hS.1 h9)) (fun E ce q9 u9 t H1 locs ht hvm hw hB hz1 hk1 hS hce hcv hcl => ?_) (fun r_1 ur_1 t9 locs hw hB9 hS => ?_)
  ·
    try dsimp only at hB
    exact bq_no ho9 hbo hB.2
  ·
    refine W.tight (k := 0) (n := 0) (Nat.le_refl _) (Nat.le_refl _) ?_
    clear hPc hKc
    try dsimp only at hw
    have jr_1 := hw
    refine W.eq (g2 := F0 m 5 ls [.ref y0]) (by rw [show r_1 = y0 from bq_is ho9 hbo hB9.2]) ?_
    refine lv_astore (lv' := [(5, .ref y0), (0, .ref a0), (1, .int (nI o)), (2, .int p1), (3, .int p2), (4, .int (nI o8))]) hx hb dX7_map_5 hl (by decide) rfl (fun ls hl => ?_)
    refine lv_iload_n hx hb dX7_map_7 rfl (lv_at hl 3 rfl) ?_
    refine lv_bipush (v := 19) hx hb dX7_map_8 (by decide) ?_
    refine lv_icmp_eq (tgt := 19) hx hb dX7_map_10 (by decide) (fun c_2 => ?_) (fun c_2 => ?_)
    ·
      have ic_2 : p1.toInt = 19 := tx_eq rfl (by decide) c_2
      refine lv_iconst (v := 1) hx hb dX7_map_19 (by decide) ?_
      refine lv_goto (tgt := 24) hx hb dX7_map_20 (by decide) ?_
      refine lv_istore (lv' := [(6, .int 1), (5, .ref y0), (0, .ref a0), (1, .int (nI o)), (2, .int p1), (3, .int p2), (4, .int (nI o8))]) hx hb dX7_map_24 hl (by decide) rfl (fun ls hl => ?_)
      refine lv_iload hx hb dX7_map_26 (lv_at hl 0 rfl) ?_
      refine lv_if_eq (tgt := 40) hx hb dX7_map_28 (by decide) (fun c_3 => absurd c_3 (by decide)) (fun c_3 => ?_)
      refine lv_aload_n hx hb dX7_map_31 rfl (lv_at hl 2 rfl) ?_
      refine lv_iload hx hb dX7_map_32 (lv_at hl 6 rfl) ?_
      have hPc := hP.sub (ws' := [(a0, .inr (7, [.ref qb])), (qb, .inl (cq, 16, .inr (.inr (.inr (.inr bq)))))]) [0, 1] rfl
      have hKc := hK.sub (tys' := [(cq, .object "KeyAtlas$Body")]) [0] rfl
      refine rox_callr (B := (fun (_ : Unit) (a : Nat) (t : State) => t.heap.size = s.heap.size ∧ ∃ j : Nat, j < 16 ∧ nI o8 = nI j ∧ bq j = some a)) (fun u9 x9 t9 h9 => h9.1) (vx_runV (As := [.int (nI o8)]) (rest := []) ⟨hx, hb, hml, hown, hts⟩ (c_X7_bodyAt l hlt dC dI s.heap.size a0 qb cq bq (nI o8)) (cwV 1 hts gX7_map_X7_bodyAt rfl rfl rfl (by decide +kernel) ⟨(Nat.le_of_ble_eq_true rfl), (Nat.le_of_ble_eq_true rfl)⟩) ⟨pk_blindXR, va_recv hKc hPc (ci := 7) (q0 := 0) rfl rfl, pk_callXR hPc hKc hN ((hZ.kept hS.2.1).narrow (fun q h9 => hA q (Nat.le_trans hS.1 h9)))⟩ rfl rfl hl.1 rfl (lv_room (Nat.le_of_ble_eq_true rfl)) dX7_map_34 ⟨(Nat.le_of_ble_eq_true rfl), (Nat.le_of_ble_eq_true rfl)⟩) hS (fun q h9 => hA q (Nat.le_trans hS.1 h9)) (fun E ce q9 u9 t H1 locs ht hvm hw hB hz1 hk1 hS hce hcv hcl => ?_) (fun r_4 ur_4 t9 locs hw hB9 hS => ?_)
      ·
        try dsimp only at hB
        exact bq_no ho8 hbo8 hB.2
      ·
        refine W.tight (k := 0) (n := 0) (Nat.le_refl _) (Nat.le_refl _) ?_
        clear hPc hKc
        try dsimp only at hw
        have jr_4 := hw
        refine W.eq (g2 := F0 m 37 ls [.ref y1]) (by rw [show r_4 = y1 from bq_is ho8 hbo8 hB9.2]) ?_
        refine lv_goto (tgt := 42) hx hb dX7_map_37 (by decide) ?_
        refine lv_astore (lv' := [(7, .ref y1), (6, .int 1), (5, .ref y0), (0, .ref a0), (1, .int (nI o)), (2, .int p1), (3, .int p2), (4, .int (nI o8))]) hx hb dX7_map_42 hl (by decide) rfl (fun ls hl => ?_)
        refine lv_aload hx hb dX7_map_44 (lv_at hl 2 rfl) ?_
        have hPc := hP.sub (ws' := [(y0, .inr (2, fs))]) [2] rfl
        have hKc := hK.sub (tys' := []) [] rfl
        refine rox_callr (B := (fun (_ : Unit) (a : Nat) (t : State) => t.heap.size = s.heap.size ∧ a = y0)) (fun u9 x9 t9 h9 => h9.1) (vx_runS (As := [.ref y0]) (rest := []) ⟨hx, hb, hml, hown, hts⟩ (c_X7_asMap_C l hlt dC dI s.heap.size y0 fs) (va_cwS 1 hts gX7_map_X7_asMap rfl rfl rfl (by decide +kernel) ⟨(Nat.le_of_ble_eq_true rfl), (Nat.le_of_ble_eq_true rfl)⟩) ⟨pk_blindXR, pk_callXR hPc hKc hN ((hZ.kept hS.2.1).narrow (fun q h9 => hA q (Nat.le_trans hS.1 h9)))⟩ rfl rfl hl.1 rfl (lv_room (Nat.le_of_ble_eq_true rfl)) dX7_map_46 ⟨(Nat.le_of_ble_eq_true rfl), (Nat.le_of_ble_eq_true rfl)⟩) hS (fun q h9 => hA q (Nat.le_trans hS.1 h9)) (fun E ce q9 u9 t H1 locs ht hvm hw hB hz1 hk1 hS hce hcv hcl => ?_) (fun r_5 ur_5 t9 locs hw hB9 hS => ?_)
        ·
          try dsimp only at hB
          exact vx_out (fun x hx9 => (htab x hx9).elim) hlocks hce hcv hcl (fun t9 ht9 hal9 => ⟨(), trivial, hB, hS.F ht9⟩) hS.2.2 (by omega) (by omega)
        · exact hw.elim
    ·
      have ic_2 : ¬ p1.toInt = 19 := tx_ne rfl (by decide) c_2
      refine lv_iload_n hx hb dX7_map_13 rfl (lv_at hl 3 rfl) ?_
      refine lv_bipush (v := 20) hx hb dX7_map_14 (by decide) ?_
      refine lv_icmp_ne (tgt := 23) hx hb dX7_map_16 (by decide) (fun c_6 => ?_) (fun c_6 => ?_)
      ·
        have ic_6 : ¬ p1.toInt = 20 := tx_ne rfl (by decide) c_6
        exfalso
        omega
      ·
        have ic_6 : p1.toInt = 20 := tx_eq rfl (by decide) c_6
        refine lv_iconst (v := 1) hx hb dX7_map_19 (by decide) ?_
        refine lv_goto (tgt := 24) hx hb dX7_map_20 (by decide) ?_
        refine lv_istore (lv' := [(6, .int 1), (5, .ref y0), (0, .ref a0), (1, .int (nI o)), (2, .int p1), (3, .int p2), (4, .int (nI o8))]) hx hb dX7_map_24 hl (by decide) rfl (fun ls hl => ?_)
        refine lv_iload hx hb dX7_map_26 (lv_at hl 0 rfl) ?_
        refine lv_if_eq (tgt := 40) hx hb dX7_map_28 (by decide) (fun c_7 => absurd c_7 (by decide)) (fun c_7 => ?_)
        refine lv_aload_n hx hb dX7_map_31 rfl (lv_at hl 2 rfl) ?_
        refine lv_iload hx hb dX7_map_32 (lv_at hl 6 rfl) ?_
        have hPc := hP.sub (ws' := [(a0, .inr (7, [.ref qb])), (qb, .inl (cq, 16, .inr (.inr (.inr (.inr bq)))))]) [0, 1] rfl
        have hKc := hK.sub (tys' := [(cq, .object "KeyAtlas$Body")]) [0] rfl
        refine rox_callr (B := (fun (_ : Unit) (a : Nat) (t : State) => t.heap.size = s.heap.size ∧ ∃ j : Nat, j < 16 ∧ nI o8 = nI j ∧ bq j = some a)) (fun u9 x9 t9 h9 => h9.1) (vx_runV (As := [.int (nI o8)]) (rest := []) ⟨hx, hb, hml, hown, hts⟩ (c_X7_bodyAt l hlt dC dI s.heap.size a0 qb cq bq (nI o8)) (cwV 1 hts gX7_map_X7_bodyAt rfl rfl rfl (by decide +kernel) ⟨(Nat.le_of_ble_eq_true rfl), (Nat.le_of_ble_eq_true rfl)⟩) ⟨pk_blindXR, va_recv hKc hPc (ci := 7) (q0 := 0) rfl rfl, pk_callXR hPc hKc hN ((hZ.kept hS.2.1).narrow (fun q h9 => hA q (Nat.le_trans hS.1 h9)))⟩ rfl rfl hl.1 rfl (lv_room (Nat.le_of_ble_eq_true rfl)) dX7_map_34 ⟨(Nat.le_of_ble_eq_true rfl), (Nat.le_of_ble_eq_true rfl)⟩) hS (fun q h9 => hA q (Nat.le_trans hS.1 h9)) (fun E ce q9 u9 t H1 locs ht hvm hw hB hz1 hk1 hS hce hcv hcl => ?_) (fun r_8 ur_8 t9 locs hw hB9 hS => ?_)
        ·
          try dsimp only at hB
          exact bq_no ho8 hbo8 hB.2
        ·
          refine W.tight (k := 0) (n := 0) (Nat.le_refl _) (Nat.le_refl _) ?_
          clear hPc hKc
          try dsimp only at hw
          have jr_8 := hw
          refine W.eq (g2 := F0 m 37 ls [.ref y1]) (by rw [show r_8 = y1 from bq_is ho8 hbo8 hB9.2]) ?_
          refine lv_goto (tgt := 42) hx hb dX7_map_37 (by decide) ?_
          refine lv_astore (lv' := [(7, .ref y1), (6, .int 1), (5, .ref y0), (0, .ref a0), (1, .int (nI o)), (2, .int p1), (3, .int p2), (4, .int (nI o8))]) hx hb dX7_map_42 hl (by decide) rfl (fun ls hl => ?_)
          refine lv_aload hx hb dX7_map_44 (lv_at hl 2 rfl) ?_
          have hPc := hP.sub (ws' := [(y0, .inr (2, fs))]) [2] rfl
          have hKc := hK.sub (tys' := []) [] rfl
          refine rox_callr (B := (fun (_ : Unit) (a : Nat) (t : State) => t.heap.size = s.heap.size ∧ a = y0)) (fun u9 x9 t9 h9 => h9.1) (vx_runS (As := [.ref y0]) (rest := []) ⟨hx, hb, hml, hown, hts⟩ (c_X7_asMap_C l hlt dC dI s.heap.size y0 fs) (va_cwS 1 hts gX7_map_X7_asMap rfl rfl rfl (by decide +kernel) ⟨(Nat.le_of_ble_eq_true rfl), (Nat.le_of_ble_eq_true rfl)⟩) ⟨pk_blindXR, pk_callXR hPc hKc hN ((hZ.kept hS.2.1).narrow (fun q h9 => hA q (Nat.le_trans hS.1 h9)))⟩ rfl rfl hl.1 rfl (lv_room (Nat.le_of_ble_eq_true rfl)) dX7_map_46 ⟨(Nat.le_of_ble_eq_true rfl), (Nat.le_of_ble_eq_true rfl)⟩) hS (fun q h9 => hA q (Nat.le_trans hS.1 h9)) (fun E ce q9 u9 t H1 locs ht hvm hw hB hz1 hk1 hS hce hcv hcl => ?_) (fun r_9 ur_9 t9 locs hw hB9 hS => ?_)
          ·
            try dsimp only at hB
            exact vx_out (fun x hx9 => (htab x hx9).elim) hlocks hce hcv hcl (fun t9 ht9 hal9 => ⟨(), trivial, hB, hS.F ht9⟩) hS.2.2 (by omega) (by omega)
          · exact hw.elim
set_option maxHeartbeats 4000000 in
set_option maxRecDepth 100000 in
/-- map: twonotCH -/
theorem c_X7_map_twonotCH (l : Launch) (hlt : l.stackTraces = false) (dC : Nat → ClassId) (dI : Nat → Nat → Nat) (sz : Nat) (a0 : Nat) (qb : Nat) (cq : ClassId) (bq : Nat → Option Nat) (o : Nat) (y0 : Nat) (fs : List Value) (o8 : Nat) (y1 : Nat) (fs8 : List Value) (p1 : Int32) (p2 : Int32) (ho9 : o < 16) (hbo : bq o = some y0) (ho8 : o8 < 16) (hbo8 : bq o8 = some y1) (hop : p1.toInt = 19 ∨ p1.toInt = 20) : vx_Met l yX7_map wqX7_map ({ frames := 7, cells := 2, slots := 12, locals := 140 }) (va_Pc [.ref a0, .int (nI o), .int p1, .int p2, .int (nI o8)] (pk_PreXR (dC, dI) [(a0, .inr (7, [.ref qb])), (qb, .inl (cq, 16, .inr (.inr (.inr (.inr bq))))), (y0, .inr (3, fs)), (y1, .inr (2, fs8))] [(cq, .object "KeyAtlas$Body")] sz)) (va_Ql (fun (_ : Int64) (_ : Unit) => False) (fun _ (t : State) => t.heap.size = sz) (roN sz)) (vx_X (fun _ : Unit => True) (fun (E : String) (_ : Unit) (t : State) => E = "java/lang/ClassCastException") (roN sz)) 2 12 (roN sz) := by
  refine vx_ofW (cc := cX7_map) (maxL := 10) (ret := (some .long)) (by decide) rfl ?_
  intro p e s m args below meth c s₁ B hml htab hv
  obtain ⟨rfl, hsz, hP, hK, hN, hZ⟩ := hv
  have hx := B.exec
  have hb := B.bytes
  have hr := B.returns
  have hts := atoms_spec (ws := wqX7_map) B.pre
  have hown : s.vm.findClass RX7 = some m.cls := findClass_of_methodNamed B.named
  have hlocks := B.notSynchronized
  subst hsz
  generalize hAe : roN s.heap.size = A at hZ ⊢
  have hA : ∀ q : Nat, s.heap.size ≤ q → A q := fun q h => by rw [← hAe]; exact h
  have hS : va_S A s.heap s.heap [] := va_S.rf
  have hP : va_P (dC, dI) vwCl [(a0, .inr (7, [.ref qb])), (qb, .inl (cq, 16, .inr (.inr (.inr (.inr bq))))), (y0, .inr (3, fs)), (y1, .inr (2, fs8))] s.heap := hP
  have hl := lv_entry ([.ref a0, .int (nI o), .int p1, .int p2, .int (nI o8)]) (n := 10) (Nat.le_of_ble_eq_true rfl)
  rw [lg_entry_eq]
  generalize (lg_sl ([.ref a0, .int (nI o), .int p1, .int p2, .int (nI o8)]) ++ List.replicate (10 - (lg_sl ([.ref a0, .int (nI o), .int p1, .int p2, .int (nI o8)])).length) Slot.unset).toArray = ls at hl ⊢
  have hl : lv_has ls 10 [(0, .ref a0), (1, .int (nI o)), (2, .int p1), (3, .int p2), (4, .int (nI o8))] := hl

  refine lv_aload_n hx hb dX7_map_0 rfl (lv_at hl 0 rfl) ?_
  refine lv_iload_n hx hb dX7_map_1 rfl (lv_at hl 1 rfl) ?_
  have hPc := hP.sub (ws' := [(a0, .inr (7, [.ref qb])), (qb, .inl (cq, 16, .inr (.inr (.inr (.inr bq)))))]) [0, 1] rfl
  have hKc := hK.sub (tys' := [(cq, .object "KeyAtlas$Body")]) [0] rfl
  refine rox_callr (B := (fun (_ : Unit) (a : Nat) (t : State) => t.heap.size = s.heap.size ∧ ∃ j : Nat, j < 16 ∧ nI o = nI j ∧ bq j = some a)) (fun u9 x9 t9 h9 => h9.1) (vx_runV (As := [.int (nI o)]) (rest := []) ⟨hx, hb, hml, hown, hts⟩ (c_X7_bodyAt l hlt dC dI s.heap.size a0 qb cq bq (nI o)) (cwV 1 hts gX7_map_X7_bodyAt rfl rfl rfl (by decide +kernel) ⟨(Nat.le_of_ble_eq_true rfl), (Nat.le_of_ble_eq_true rfl)⟩) ⟨pk_blindXR, va_recv hKc hPc (ci := 7) (q0 := 0) rfl rfl, pk_callXR hPc hKc hN ((hZ.kept hS.2.1).narrow (fun q h9 => hA q (Nat.le_trans hS.1 h9)))⟩ rfl rfl hl.1 rfl (lv_room (Nat.le_of_ble_eq_true rfl)) dX7_map_2 ⟨(Nat.le_of_ble_eq_true rfl), (Nat.le_of_ble_eq_true rfl)⟩) hS (fun q h9 => hA q (Nat.le_trans hS.1 h9)) (fun E ce q9 u9 t H1 locs ht hvm hw hB hz1 hk1 hS hce hcv hcl => ?_) (fun r_1 ur_1 t9 locs hw hB9 hS => ?_)
  ·
    try dsimp only at hB
    exact bq_no ho9 hbo hB.2
  ·
    refine W.tight (k := 0) (n := 0) (Nat.le_refl _) (Nat.le_refl _) ?_
    clear hPc hKc
    try dsimp only at hw
    have jr_1 := hw
    refine W.eq (g2 := F0 m 5 ls [.ref y0]) (by rw [show r_1 = y0 from bq_is ho9 hbo hB9.2]) ?_
    refine lv_astore (lv' := [(5, .ref y0), (0, .ref a0), (1, .int (nI o)), (2, .int p1), (3, .int p2), (4, .int (nI o8))]) hx hb dX7_map_5 hl (by decide) rfl (fun ls hl => ?_)
    refine lv_iload_n hx hb dX7_map_7 rfl (lv_at hl 3 rfl) ?_
    refine lv_bipush (v := 19) hx hb dX7_map_8 (by decide) ?_
    refine lv_icmp_eq (tgt := 19) hx hb dX7_map_10 (by decide) (fun c_2 => ?_) (fun c_2 => ?_)
    ·
      have ic_2 : p1.toInt = 19 := tx_eq rfl (by decide) c_2
      refine lv_iconst (v := 1) hx hb dX7_map_19 (by decide) ?_
      refine lv_goto (tgt := 24) hx hb dX7_map_20 (by decide) ?_
      refine lv_istore (lv' := [(6, .int 1), (5, .ref y0), (0, .ref a0), (1, .int (nI o)), (2, .int p1), (3, .int p2), (4, .int (nI o8))]) hx hb dX7_map_24 hl (by decide) rfl (fun ls hl => ?_)
      refine lv_iload hx hb dX7_map_26 (lv_at hl 0 rfl) ?_
      refine lv_if_eq (tgt := 40) hx hb dX7_map_28 (by decide) (fun c_3 => absurd c_3 (by decide)) (fun c_3 => ?_)
      refine lv_aload_n hx hb dX7_map_31 rfl (lv_at hl 2 rfl) ?_
      refine lv_iload hx hb dX7_map_32 (lv_at hl 6 rfl) ?_
      have hPc := hP.sub (ws' := [(a0, .inr (7, [.ref qb])), (qb, .inl (cq, 16, .inr (.inr (.inr (.inr bq)))))]) [0, 1] rfl
      have hKc := hK.sub (tys' := [(cq, .object "KeyAtlas$Body")]) [0] rfl
      refine rox_callr (B := (fun (_ : Unit) (a : Nat) (t : State) => t.heap.size = s.heap.size ∧ ∃ j : Nat, j < 16 ∧ nI o8 = nI j ∧ bq j = some a)) (fun u9 x9 t9 h9 => h9.1) (vx_runV (As := [.int (nI o8)]) (rest := []) ⟨hx, hb, hml, hown, hts⟩ (c_X7_bodyAt l hlt dC dI s.heap.size a0 qb cq bq (nI o8)) (cwV 1 hts gX7_map_X7_bodyAt rfl rfl rfl (by decide +kernel) ⟨(Nat.le_of_ble_eq_true rfl), (Nat.le_of_ble_eq_true rfl)⟩) ⟨pk_blindXR, va_recv hKc hPc (ci := 7) (q0 := 0) rfl rfl, pk_callXR hPc hKc hN ((hZ.kept hS.2.1).narrow (fun q h9 => hA q (Nat.le_trans hS.1 h9)))⟩ rfl rfl hl.1 rfl (lv_room (Nat.le_of_ble_eq_true rfl)) dX7_map_34 ⟨(Nat.le_of_ble_eq_true rfl), (Nat.le_of_ble_eq_true rfl)⟩) hS (fun q h9 => hA q (Nat.le_trans hS.1 h9)) (fun E ce q9 u9 t H1 locs ht hvm hw hB hz1 hk1 hS hce hcv hcl => ?_) (fun r_4 ur_4 t9 locs hw hB9 hS => ?_)
      ·
        try dsimp only at hB
        exact bq_no ho8 hbo8 hB.2
      ·
        refine W.tight (k := 0) (n := 0) (Nat.le_refl _) (Nat.le_refl _) ?_
        clear hPc hKc
        try dsimp only at hw
        have jr_4 := hw
        refine W.eq (g2 := F0 m 37 ls [.ref y1]) (by rw [show r_4 = y1 from bq_is ho8 hbo8 hB9.2]) ?_
        refine lv_goto (tgt := 42) hx hb dX7_map_37 (by decide) ?_
        refine lv_astore (lv' := [(7, .ref y1), (6, .int 1), (5, .ref y0), (0, .ref a0), (1, .int (nI o)), (2, .int p1), (3, .int p2), (4, .int (nI o8))]) hx hb dX7_map_42 hl (by decide) rfl (fun ls hl => ?_)
        refine lv_aload hx hb dX7_map_44 (lv_at hl 2 rfl) ?_
        have hPc := hP.sub (ws' := [(y0, .inr (3, fs))]) [2] rfl
        have hKc := hK.sub (tys' := []) [] rfl
        refine ro_callr (B := (fun (_ : Unit) (a : Nat) (t : State) => t.heap.size = s.heap.size ∧ a = y0)) (fun u9 x9 t9 h9 => h9.1) (va_runS (As := [.ref y0]) (rest := []) ⟨hx, hb, hml, hown, hts⟩ (c_X7_asMap_H l hlt dC dI s.heap.size y0 fs) (va_cwS 1 hts gX7_map_X7_asMap rfl rfl rfl (by decide +kernel) ⟨(Nat.le_of_ble_eq_true rfl), (Nat.le_of_ble_eq_true rfl)⟩) ⟨pk_blindRX, pk_callRX hPc hKc hN⟩ rfl rfl hl.1 rfl (lv_room (Nat.le_of_ble_eq_true rfl)) dX7_map_46 ⟨(Nat.le_of_ble_eq_true rfl), (Nat.le_of_ble_eq_true rfl)⟩) (fun r_5 ur_5 t9 hw hB9 => ?_)
        clear hPc hKc
        try dsimp only at hw
        have jr_5 := hw
        refine W.eq (g2 := F0 m 49 ls [.ref y0]) (by rw [show r_5 = y0 from hB9.2]) ?_
        refine lv_astore (lv' := [(8, .ref y0), (7, .ref y1), (6, .int 1), (5, .ref y0), (0, .ref a0), (1, .int (nI o)), (2, .int p1), (3, .int p2), (4, .int (nI o8))]) hx hb dX7_map_49 hl (by decide) rfl (fun ls hl => ?_)
        refine lv_aload hx hb dX7_map_51 (lv_at hl 1 rfl) ?_
        have hPc := hP.sub (ws' := [(y1, .inr (2, fs8))]) [3] rfl
        have hKc := hK.sub (tys' := []) [] rfl
        refine rox_callr (B := (fun (_ : Unit) (a : Nat) (t : State) => t.heap.size = s.heap.size ∧ a = y1)) (fun u9 x9 t9 h9 => h9.1) (vx_runS (As := [.ref y1]) (rest := []) ⟨hx, hb, hml, hown, hts⟩ (c_X7_asMap_C l hlt dC dI s.heap.size y1 fs8) (va_cwS 1 hts gX7_map_X7_asMap rfl rfl rfl (by decide +kernel) ⟨(Nat.le_of_ble_eq_true rfl), (Nat.le_of_ble_eq_true rfl)⟩) ⟨pk_blindXR, pk_callXR hPc hKc hN ((hZ.kept hS.2.1).narrow (fun q h9 => hA q (Nat.le_trans hS.1 h9)))⟩ rfl rfl hl.1 rfl (lv_room (Nat.le_of_ble_eq_true rfl)) dX7_map_53 ⟨(Nat.le_of_ble_eq_true rfl), (Nat.le_of_ble_eq_true rfl)⟩) hS (fun q h9 => hA q (Nat.le_trans hS.1 h9)) (fun E ce q9 u9 t H1 locs ht hvm hw hB hz1 hk1 hS hce hcv hcl => ?_) (fun r_6 ur_6 t9 locs hw hB9 hS => ?_)
        ·
          try dsimp only at hB
          exact vx_out (fun x hx9 => (htab x hx9).elim) hlocks hce hcv hcl (fun t9 ht9 hal9 => ⟨(), trivial, hB, hS.F ht9⟩) hS.2.2 (by omega) (by omega)
        · exact hw.elim
    ·
      have ic_2 : ¬ p1.toInt = 19 := tx_ne rfl (by decide) c_2
      refine lv_iload_n hx hb dX7_map_13 rfl (lv_at hl 3 rfl) ?_
      refine lv_bipush (v := 20) hx hb dX7_map_14 (by decide) ?_
      refine lv_icmp_ne (tgt := 23) hx hb dX7_map_16 (by decide) (fun c_7 => ?_) (fun c_7 => ?_)
      ·
        have ic_7 : ¬ p1.toInt = 20 := tx_ne rfl (by decide) c_7
        exfalso
        omega
      ·
        have ic_7 : p1.toInt = 20 := tx_eq rfl (by decide) c_7
        refine lv_iconst (v := 1) hx hb dX7_map_19 (by decide) ?_
        refine lv_goto (tgt := 24) hx hb dX7_map_20 (by decide) ?_
        refine lv_istore (lv' := [(6, .int 1), (5, .ref y0), (0, .ref a0), (1, .int (nI o)), (2, .int p1), (3, .int p2), (4, .int (nI o8))]) hx hb dX7_map_24 hl (by decide) rfl (fun ls hl => ?_)
        refine lv_iload hx hb dX7_map_26 (lv_at hl 0 rfl) ?_
        refine lv_if_eq (tgt := 40) hx hb dX7_map_28 (by decide) (fun c_8 => absurd c_8 (by decide)) (fun c_8 => ?_)
        refine lv_aload_n hx hb dX7_map_31 rfl (lv_at hl 2 rfl) ?_
        refine lv_iload hx hb dX7_map_32 (lv_at hl 6 rfl) ?_
        have hPc := hP.sub (ws' := [(a0, .inr (7, [.ref qb])), (qb, .inl (cq, 16, .inr (.inr (.inr (.inr bq)))))]) [0, 1] rfl
        have hKc := hK.sub (tys' := [(cq, .object "KeyAtlas$Body")]) [0] rfl
        refine rox_callr (B := (fun (_ : Unit) (a : Nat) (t : State) => t.heap.size = s.heap.size ∧ ∃ j : Nat, j < 16 ∧ nI o8 = nI j ∧ bq j = some a)) (fun u9 x9 t9 h9 => h9.1) (vx_runV (As := [.int (nI o8)]) (rest := []) ⟨hx, hb, hml, hown, hts⟩ (c_X7_bodyAt l hlt dC dI s.heap.size a0 qb cq bq (nI o8)) (cwV 1 hts gX7_map_X7_bodyAt rfl rfl rfl (by decide +kernel) ⟨(Nat.le_of_ble_eq_true rfl), (Nat.le_of_ble_eq_true rfl)⟩) ⟨pk_blindXR, va_recv hKc hPc (ci := 7) (q0 := 0) rfl rfl, pk_callXR hPc hKc hN ((hZ.kept hS.2.1).narrow (fun q h9 => hA q (Nat.le_trans hS.1 h9)))⟩ rfl rfl hl.1 rfl (lv_room (Nat.le_of_ble_eq_true rfl)) dX7_map_34 ⟨(Nat.le_of_ble_eq_true rfl), (Nat.le_of_ble_eq_true rfl)⟩) hS (fun q h9 => hA q (Nat.le_trans hS.1 h9)) (fun E ce q9 u9 t H1 locs ht hvm hw hB hz1 hk1 hS hce hcv hcl => ?_) (fun r_9 ur_9 t9 locs hw hB9 hS => ?_)
        ·
          try dsimp only at hB
          exact bq_no ho8 hbo8 hB.2
        ·
          refine W.tight (k := 0) (n := 0) (Nat.le_refl _) (Nat.le_refl _) ?_
          clear hPc hKc
          try dsimp only at hw
          have jr_9 := hw
          refine W.eq (g2 := F0 m 37 ls [.ref y1]) (by rw [show r_9 = y1 from bq_is ho8 hbo8 hB9.2]) ?_
          refine lv_goto (tgt := 42) hx hb dX7_map_37 (by decide) ?_
          refine lv_astore (lv' := [(7, .ref y1), (6, .int 1), (5, .ref y0), (0, .ref a0), (1, .int (nI o)), (2, .int p1), (3, .int p2), (4, .int (nI o8))]) hx hb dX7_map_42 hl (by decide) rfl (fun ls hl => ?_)
          refine lv_aload hx hb dX7_map_44 (lv_at hl 2 rfl) ?_
          have hPc := hP.sub (ws' := [(y0, .inr (3, fs))]) [2] rfl
          have hKc := hK.sub (tys' := []) [] rfl
          refine ro_callr (B := (fun (_ : Unit) (a : Nat) (t : State) => t.heap.size = s.heap.size ∧ a = y0)) (fun u9 x9 t9 h9 => h9.1) (va_runS (As := [.ref y0]) (rest := []) ⟨hx, hb, hml, hown, hts⟩ (c_X7_asMap_H l hlt dC dI s.heap.size y0 fs) (va_cwS 1 hts gX7_map_X7_asMap rfl rfl rfl (by decide +kernel) ⟨(Nat.le_of_ble_eq_true rfl), (Nat.le_of_ble_eq_true rfl)⟩) ⟨pk_blindRX, pk_callRX hPc hKc hN⟩ rfl rfl hl.1 rfl (lv_room (Nat.le_of_ble_eq_true rfl)) dX7_map_46 ⟨(Nat.le_of_ble_eq_true rfl), (Nat.le_of_ble_eq_true rfl)⟩) (fun r_10 ur_10 t9 hw hB9 => ?_)
          clear hPc hKc
          try dsimp only at hw
          have jr_10 := hw
          refine W.eq (g2 := F0 m 49 ls [.ref y0]) (by rw [show r_10 = y0 from hB9.2]) ?_
          refine lv_astore (lv' := [(8, .ref y0), (7, .ref y1), (6, .int 1), (5, .ref y0), (0, .ref a0), (1, .int (nI o)), (2, .int p1), (3, .int p2), (4, .int (nI o8))]) hx hb dX7_map_49 hl (by decide) rfl (fun ls hl => ?_)
          refine lv_aload hx hb dX7_map_51 (lv_at hl 1 rfl) ?_
          have hPc := hP.sub (ws' := [(y1, .inr (2, fs8))]) [3] rfl
          have hKc := hK.sub (tys' := []) [] rfl
          refine rox_callr (B := (fun (_ : Unit) (a : Nat) (t : State) => t.heap.size = s.heap.size ∧ a = y1)) (fun u9 x9 t9 h9 => h9.1) (vx_runS (As := [.ref y1]) (rest := []) ⟨hx, hb, hml, hown, hts⟩ (c_X7_asMap_C l hlt dC dI s.heap.size y1 fs8) (va_cwS 1 hts gX7_map_X7_asMap rfl rfl rfl (by decide +kernel) ⟨(Nat.le_of_ble_eq_true rfl), (Nat.le_of_ble_eq_true rfl)⟩) ⟨pk_blindXR, pk_callXR hPc hKc hN ((hZ.kept hS.2.1).narrow (fun q h9 => hA q (Nat.le_trans hS.1 h9)))⟩ rfl rfl hl.1 rfl (lv_room (Nat.le_of_ble_eq_true rfl)) dX7_map_53 ⟨(Nat.le_of_ble_eq_true rfl), (Nat.le_of_ble_eq_true rfl)⟩) hS (fun q h9 => hA q (Nat.le_trans hS.1 h9)) (fun E ce q9 u9 t H1 locs ht hvm hw hB hz1 hk1 hS hce hcv hcl => ?_) (fun r_11 ur_11 t9 locs hw hB9 hS => ?_)
          ·
            try dsimp only at hB
            exact vx_out (fun x hx9 => (htab x hx9).elim) hlocks hce hcv hcl (fun t9 ht9 hal9 => ⟨(), trivial, hB, hS.F ht9⟩) hS.2.2 (by omega) (by omega)
          · exact hw.elim
set_option maxHeartbeats 4000000 in
set_option maxRecDepth 100000 in
/-- map: twonotCL -/
theorem c_X7_map_twonotCL (l : Launch) (hlt : l.stackTraces = false) (dC : Nat → ClassId) (dI : Nat → Nat → Nat) (sz : Nat) (a0 : Nat) (qb : Nat) (cq : ClassId) (bq : Nat → Option Nat) (o : Nat) (y0 : Nat) (fs : List Value) (o8 : Nat) (y1 : Nat) (fs8 : List Value) (p1 : Int32) (p2 : Int32) (ho9 : o < 16) (hbo : bq o = some y0) (ho8 : o8 < 16) (hbo8 : bq o8 = some y1) (hop : p1.toInt = 19 ∨ p1.toInt = 20) : vx_Met l yX7_map wqX7_map ({ frames := 7, cells := 2, slots := 12, locals := 140 }) (va_Pc [.ref a0, .int (nI o), .int p1, .int p2, .int (nI o8)] (pk_PreXR (dC, dI) [(a0, .inr (7, [.ref qb])), (qb, .inl (cq, 16, .inr (.inr (.inr (.inr bq))))), (y0, .inr (4, fs)), (y1, .inr (2, fs8))] [(cq, .object "KeyAtlas$Body")] sz)) (va_Ql (fun (_ : Int64) (_ : Unit) => False) (fun _ (t : State) => t.heap.size = sz) (roN sz)) (vx_X (fun _ : Unit => True) (fun (E : String) (_ : Unit) (t : State) => E = "java/lang/ClassCastException") (roN sz)) 2 12 (roN sz) := by
  refine vx_ofW (cc := cX7_map) (maxL := 10) (ret := (some .long)) (by decide) rfl ?_
  intro p e s m args below meth c s₁ B hml htab hv
  obtain ⟨rfl, hsz, hP, hK, hN, hZ⟩ := hv
  have hx := B.exec
  have hb := B.bytes
  have hr := B.returns
  have hts := atoms_spec (ws := wqX7_map) B.pre
  have hown : s.vm.findClass RX7 = some m.cls := findClass_of_methodNamed B.named
  have hlocks := B.notSynchronized
  subst hsz
  generalize hAe : roN s.heap.size = A at hZ ⊢
  have hA : ∀ q : Nat, s.heap.size ≤ q → A q := fun q h => by rw [← hAe]; exact h
  have hS : va_S A s.heap s.heap [] := va_S.rf
  have hP : va_P (dC, dI) vwCl [(a0, .inr (7, [.ref qb])), (qb, .inl (cq, 16, .inr (.inr (.inr (.inr bq))))), (y0, .inr (4, fs)), (y1, .inr (2, fs8))] s.heap := hP
  have hl := lv_entry ([.ref a0, .int (nI o), .int p1, .int p2, .int (nI o8)]) (n := 10) (Nat.le_of_ble_eq_true rfl)
  rw [lg_entry_eq]
  generalize (lg_sl ([.ref a0, .int (nI o), .int p1, .int p2, .int (nI o8)]) ++ List.replicate (10 - (lg_sl ([.ref a0, .int (nI o), .int p1, .int p2, .int (nI o8)])).length) Slot.unset).toArray = ls at hl ⊢
  have hl : lv_has ls 10 [(0, .ref a0), (1, .int (nI o)), (2, .int p1), (3, .int p2), (4, .int (nI o8))] := hl

  refine lv_aload_n hx hb dX7_map_0 rfl (lv_at hl 0 rfl) ?_
  refine lv_iload_n hx hb dX7_map_1 rfl (lv_at hl 1 rfl) ?_
  have hPc := hP.sub (ws' := [(a0, .inr (7, [.ref qb])), (qb, .inl (cq, 16, .inr (.inr (.inr (.inr bq)))))]) [0, 1] rfl
  have hKc := hK.sub (tys' := [(cq, .object "KeyAtlas$Body")]) [0] rfl
  refine rox_callr (B := (fun (_ : Unit) (a : Nat) (t : State) => t.heap.size = s.heap.size ∧ ∃ j : Nat, j < 16 ∧ nI o = nI j ∧ bq j = some a)) (fun u9 x9 t9 h9 => h9.1) (vx_runV (As := [.int (nI o)]) (rest := []) ⟨hx, hb, hml, hown, hts⟩ (c_X7_bodyAt l hlt dC dI s.heap.size a0 qb cq bq (nI o)) (cwV 1 hts gX7_map_X7_bodyAt rfl rfl rfl (by decide +kernel) ⟨(Nat.le_of_ble_eq_true rfl), (Nat.le_of_ble_eq_true rfl)⟩) ⟨pk_blindXR, va_recv hKc hPc (ci := 7) (q0 := 0) rfl rfl, pk_callXR hPc hKc hN ((hZ.kept hS.2.1).narrow (fun q h9 => hA q (Nat.le_trans hS.1 h9)))⟩ rfl rfl hl.1 rfl (lv_room (Nat.le_of_ble_eq_true rfl)) dX7_map_2 ⟨(Nat.le_of_ble_eq_true rfl), (Nat.le_of_ble_eq_true rfl)⟩) hS (fun q h9 => hA q (Nat.le_trans hS.1 h9)) (fun E ce q9 u9 t H1 locs ht hvm hw hB hz1 hk1 hS hce hcv hcl => ?_) (fun r_1 ur_1 t9 locs hw hB9 hS => ?_)
  ·
    try dsimp only at hB
    exact bq_no ho9 hbo hB.2
  ·
    refine W.tight (k := 0) (n := 0) (Nat.le_refl _) (Nat.le_refl _) ?_
    clear hPc hKc
    try dsimp only at hw
    have jr_1 := hw
    refine W.eq (g2 := F0 m 5 ls [.ref y0]) (by rw [show r_1 = y0 from bq_is ho9 hbo hB9.2]) ?_
    refine lv_astore (lv' := [(5, .ref y0), (0, .ref a0), (1, .int (nI o)), (2, .int p1), (3, .int p2), (4, .int (nI o8))]) hx hb dX7_map_5 hl (by decide) rfl (fun ls hl => ?_)
    refine lv_iload_n hx hb dX7_map_7 rfl (lv_at hl 3 rfl) ?_
    refine lv_bipush (v := 19) hx hb dX7_map_8 (by decide) ?_
    refine lv_icmp_eq (tgt := 19) hx hb dX7_map_10 (by decide) (fun c_2 => ?_) (fun c_2 => ?_)
    ·
      have ic_2 : p1.toInt = 19 := tx_eq rfl (by decide) c_2
      refine lv_iconst (v := 1) hx hb dX7_map_19 (by decide) ?_
      refine lv_goto (tgt := 24) hx hb dX7_map_20 (by decide) ?_
      refine lv_istore (lv' := [(6, .int 1), (5, .ref y0), (0, .ref a0), (1, .int (nI o)), (2, .int p1), (3, .int p2), (4, .int (nI o8))]) hx hb dX7_map_24 hl (by decide) rfl (fun ls hl => ?_)
      refine lv_iload hx hb dX7_map_26 (lv_at hl 0 rfl) ?_
      refine lv_if_eq (tgt := 40) hx hb dX7_map_28 (by decide) (fun c_3 => absurd c_3 (by decide)) (fun c_3 => ?_)
      refine lv_aload_n hx hb dX7_map_31 rfl (lv_at hl 2 rfl) ?_
      refine lv_iload hx hb dX7_map_32 (lv_at hl 6 rfl) ?_
      have hPc := hP.sub (ws' := [(a0, .inr (7, [.ref qb])), (qb, .inl (cq, 16, .inr (.inr (.inr (.inr bq)))))]) [0, 1] rfl
      have hKc := hK.sub (tys' := [(cq, .object "KeyAtlas$Body")]) [0] rfl
      refine rox_callr (B := (fun (_ : Unit) (a : Nat) (t : State) => t.heap.size = s.heap.size ∧ ∃ j : Nat, j < 16 ∧ nI o8 = nI j ∧ bq j = some a)) (fun u9 x9 t9 h9 => h9.1) (vx_runV (As := [.int (nI o8)]) (rest := []) ⟨hx, hb, hml, hown, hts⟩ (c_X7_bodyAt l hlt dC dI s.heap.size a0 qb cq bq (nI o8)) (cwV 1 hts gX7_map_X7_bodyAt rfl rfl rfl (by decide +kernel) ⟨(Nat.le_of_ble_eq_true rfl), (Nat.le_of_ble_eq_true rfl)⟩) ⟨pk_blindXR, va_recv hKc hPc (ci := 7) (q0 := 0) rfl rfl, pk_callXR hPc hKc hN ((hZ.kept hS.2.1).narrow (fun q h9 => hA q (Nat.le_trans hS.1 h9)))⟩ rfl rfl hl.1 rfl (lv_room (Nat.le_of_ble_eq_true rfl)) dX7_map_34 ⟨(Nat.le_of_ble_eq_true rfl), (Nat.le_of_ble_eq_true rfl)⟩) hS (fun q h9 => hA q (Nat.le_trans hS.1 h9)) (fun E ce q9 u9 t H1 locs ht hvm hw hB hz1 hk1 hS hce hcv hcl => ?_) (fun r_4 ur_4 t9 locs hw hB9 hS => ?_)
      ·
        try dsimp only at hB
        exact bq_no ho8 hbo8 hB.2
      ·
        refine W.tight (k := 0) (n := 0) (Nat.le_refl _) (Nat.le_refl _) ?_
        clear hPc hKc
        try dsimp only at hw
        have jr_4 := hw
        refine W.eq (g2 := F0 m 37 ls [.ref y1]) (by rw [show r_4 = y1 from bq_is ho8 hbo8 hB9.2]) ?_
        refine lv_goto (tgt := 42) hx hb dX7_map_37 (by decide) ?_
        refine lv_astore (lv' := [(7, .ref y1), (6, .int 1), (5, .ref y0), (0, .ref a0), (1, .int (nI o)), (2, .int p1), (3, .int p2), (4, .int (nI o8))]) hx hb dX7_map_42 hl (by decide) rfl (fun ls hl => ?_)
        refine lv_aload hx hb dX7_map_44 (lv_at hl 2 rfl) ?_
        have hPc := hP.sub (ws' := [(y0, .inr (4, fs))]) [2] rfl
        have hKc := hK.sub (tys' := []) [] rfl
        refine ro_callr (B := (fun (_ : Unit) (a : Nat) (t : State) => t.heap.size = s.heap.size ∧ a = y0)) (fun u9 x9 t9 h9 => h9.1) (va_runS (As := [.ref y0]) (rest := []) ⟨hx, hb, hml, hown, hts⟩ (c_X7_asMap_L l hlt dC dI s.heap.size y0 fs) (va_cwS 1 hts gX7_map_X7_asMap rfl rfl rfl (by decide +kernel) ⟨(Nat.le_of_ble_eq_true rfl), (Nat.le_of_ble_eq_true rfl)⟩) ⟨pk_blindRX, pk_callRX hPc hKc hN⟩ rfl rfl hl.1 rfl (lv_room (Nat.le_of_ble_eq_true rfl)) dX7_map_46 ⟨(Nat.le_of_ble_eq_true rfl), (Nat.le_of_ble_eq_true rfl)⟩) (fun r_5 ur_5 t9 hw hB9 => ?_)
        clear hPc hKc
        try dsimp only at hw
        have jr_5 := hw
        refine W.eq (g2 := F0 m 49 ls [.ref y0]) (by rw [show r_5 = y0 from hB9.2]) ?_
        refine lv_astore (lv' := [(8, .ref y0), (7, .ref y1), (6, .int 1), (5, .ref y0), (0, .ref a0), (1, .int (nI o)), (2, .int p1), (3, .int p2), (4, .int (nI o8))]) hx hb dX7_map_49 hl (by decide) rfl (fun ls hl => ?_)
        refine lv_aload hx hb dX7_map_51 (lv_at hl 1 rfl) ?_
        have hPc := hP.sub (ws' := [(y1, .inr (2, fs8))]) [3] rfl
        have hKc := hK.sub (tys' := []) [] rfl
        refine rox_callr (B := (fun (_ : Unit) (a : Nat) (t : State) => t.heap.size = s.heap.size ∧ a = y1)) (fun u9 x9 t9 h9 => h9.1) (vx_runS (As := [.ref y1]) (rest := []) ⟨hx, hb, hml, hown, hts⟩ (c_X7_asMap_C l hlt dC dI s.heap.size y1 fs8) (va_cwS 1 hts gX7_map_X7_asMap rfl rfl rfl (by decide +kernel) ⟨(Nat.le_of_ble_eq_true rfl), (Nat.le_of_ble_eq_true rfl)⟩) ⟨pk_blindXR, pk_callXR hPc hKc hN ((hZ.kept hS.2.1).narrow (fun q h9 => hA q (Nat.le_trans hS.1 h9)))⟩ rfl rfl hl.1 rfl (lv_room (Nat.le_of_ble_eq_true rfl)) dX7_map_53 ⟨(Nat.le_of_ble_eq_true rfl), (Nat.le_of_ble_eq_true rfl)⟩) hS (fun q h9 => hA q (Nat.le_trans hS.1 h9)) (fun E ce q9 u9 t H1 locs ht hvm hw hB hz1 hk1 hS hce hcv hcl => ?_) (fun r_6 ur_6 t9 locs hw hB9 hS => ?_)
        ·
          try dsimp only at hB
          exact vx_out (fun x hx9 => (htab x hx9).elim) hlocks hce hcv hcl (fun t9 ht9 hal9 => ⟨(), trivial, hB, hS.F ht9⟩) hS.2.2 (by omega) (by omega)
        · exact hw.elim
    ·
      have ic_2 : ¬ p1.toInt = 19 := tx_ne rfl (by decide) c_2
      refine lv_iload_n hx hb dX7_map_13 rfl (lv_at hl 3 rfl) ?_
      refine lv_bipush (v := 20) hx hb dX7_map_14 (by decide) ?_
      refine lv_icmp_ne (tgt := 23) hx hb dX7_map_16 (by decide) (fun c_7 => ?_) (fun c_7 => ?_)
      ·
        have ic_7 : ¬ p1.toInt = 20 := tx_ne rfl (by decide) c_7
        exfalso
        omega
      ·
        have ic_7 : p1.toInt = 20 := tx_eq rfl (by decide) c_7
        refine lv_iconst (v := 1) hx hb dX7_map_19 (by decide) ?_
        refine lv_goto (tgt := 24) hx hb dX7_map_20 (by decide) ?_
        refine lv_istore (lv' := [(6, .int 1), (5, .ref y0), (0, .ref a0), (1, .int (nI o)), (2, .int p1), (3, .int p2), (4, .int (nI o8))]) hx hb dX7_map_24 hl (by decide) rfl (fun ls hl => ?_)
        refine lv_iload hx hb dX7_map_26 (lv_at hl 0 rfl) ?_
        refine lv_if_eq (tgt := 40) hx hb dX7_map_28 (by decide) (fun c_8 => absurd c_8 (by decide)) (fun c_8 => ?_)
        refine lv_aload_n hx hb dX7_map_31 rfl (lv_at hl 2 rfl) ?_
        refine lv_iload hx hb dX7_map_32 (lv_at hl 6 rfl) ?_
        have hPc := hP.sub (ws' := [(a0, .inr (7, [.ref qb])), (qb, .inl (cq, 16, .inr (.inr (.inr (.inr bq)))))]) [0, 1] rfl
        have hKc := hK.sub (tys' := [(cq, .object "KeyAtlas$Body")]) [0] rfl
        refine rox_callr (B := (fun (_ : Unit) (a : Nat) (t : State) => t.heap.size = s.heap.size ∧ ∃ j : Nat, j < 16 ∧ nI o8 = nI j ∧ bq j = some a)) (fun u9 x9 t9 h9 => h9.1) (vx_runV (As := [.int (nI o8)]) (rest := []) ⟨hx, hb, hml, hown, hts⟩ (c_X7_bodyAt l hlt dC dI s.heap.size a0 qb cq bq (nI o8)) (cwV 1 hts gX7_map_X7_bodyAt rfl rfl rfl (by decide +kernel) ⟨(Nat.le_of_ble_eq_true rfl), (Nat.le_of_ble_eq_true rfl)⟩) ⟨pk_blindXR, va_recv hKc hPc (ci := 7) (q0 := 0) rfl rfl, pk_callXR hPc hKc hN ((hZ.kept hS.2.1).narrow (fun q h9 => hA q (Nat.le_trans hS.1 h9)))⟩ rfl rfl hl.1 rfl (lv_room (Nat.le_of_ble_eq_true rfl)) dX7_map_34 ⟨(Nat.le_of_ble_eq_true rfl), (Nat.le_of_ble_eq_true rfl)⟩) hS (fun q h9 => hA q (Nat.le_trans hS.1 h9)) (fun E ce q9 u9 t H1 locs ht hvm hw hB hz1 hk1 hS hce hcv hcl => ?_) (fun r_9 ur_9 t9 locs hw hB9 hS => ?_)
        ·
          try dsimp only at hB
          exact bq_no ho8 hbo8 hB.2
        ·
          refine W.tight (k := 0) (n := 0) (Nat.le_refl _) (Nat.le_refl _) ?_
          clear hPc hKc
          try dsimp only at hw
          have jr_9 := hw
          refine W.eq (g2 := F0 m 37 ls [.ref y1]) (by rw [show r_9 = y1 from bq_is ho8 hbo8 hB9.2]) ?_
          refine lv_goto (tgt := 42) hx hb dX7_map_37 (by decide) ?_
          refine lv_astore (lv' := [(7, .ref y1), (6, .int 1), (5, .ref y0), (0, .ref a0), (1, .int (nI o)), (2, .int p1), (3, .int p2), (4, .int (nI o8))]) hx hb dX7_map_42 hl (by decide) rfl (fun ls hl => ?_)
          refine lv_aload hx hb dX7_map_44 (lv_at hl 2 rfl) ?_
          have hPc := hP.sub (ws' := [(y0, .inr (4, fs))]) [2] rfl
          have hKc := hK.sub (tys' := []) [] rfl
          refine ro_callr (B := (fun (_ : Unit) (a : Nat) (t : State) => t.heap.size = s.heap.size ∧ a = y0)) (fun u9 x9 t9 h9 => h9.1) (va_runS (As := [.ref y0]) (rest := []) ⟨hx, hb, hml, hown, hts⟩ (c_X7_asMap_L l hlt dC dI s.heap.size y0 fs) (va_cwS 1 hts gX7_map_X7_asMap rfl rfl rfl (by decide +kernel) ⟨(Nat.le_of_ble_eq_true rfl), (Nat.le_of_ble_eq_true rfl)⟩) ⟨pk_blindRX, pk_callRX hPc hKc hN⟩ rfl rfl hl.1 rfl (lv_room (Nat.le_of_ble_eq_true rfl)) dX7_map_46 ⟨(Nat.le_of_ble_eq_true rfl), (Nat.le_of_ble_eq_true rfl)⟩) (fun r_10 ur_10 t9 hw hB9 => ?_)
          clear hPc hKc
          try dsimp only at hw
          have jr_10 := hw
          refine W.eq (g2 := F0 m 49 ls [.ref y0]) (by rw [show r_10 = y0 from hB9.2]) ?_
          refine lv_astore (lv' := [(8, .ref y0), (7, .ref y1), (6, .int 1), (5, .ref y0), (0, .ref a0), (1, .int (nI o)), (2, .int p1), (3, .int p2), (4, .int (nI o8))]) hx hb dX7_map_49 hl (by decide) rfl (fun ls hl => ?_)
          refine lv_aload hx hb dX7_map_51 (lv_at hl 1 rfl) ?_
          have hPc := hP.sub (ws' := [(y1, .inr (2, fs8))]) [3] rfl
          have hKc := hK.sub (tys' := []) [] rfl
          refine rox_callr (B := (fun (_ : Unit) (a : Nat) (t : State) => t.heap.size = s.heap.size ∧ a = y1)) (fun u9 x9 t9 h9 => h9.1) (vx_runS (As := [.ref y1]) (rest := []) ⟨hx, hb, hml, hown, hts⟩ (c_X7_asMap_C l hlt dC dI s.heap.size y1 fs8) (va_cwS 1 hts gX7_map_X7_asMap rfl rfl rfl (by decide +kernel) ⟨(Nat.le_of_ble_eq_true rfl), (Nat.le_of_ble_eq_true rfl)⟩) ⟨pk_blindXR, pk_callXR hPc hKc hN ((hZ.kept hS.2.1).narrow (fun q h9 => hA q (Nat.le_trans hS.1 h9)))⟩ rfl rfl hl.1 rfl (lv_room (Nat.le_of_ble_eq_true rfl)) dX7_map_53 ⟨(Nat.le_of_ble_eq_true rfl), (Nat.le_of_ble_eq_true rfl)⟩) hS (fun q h9 => hA q (Nat.le_trans hS.1 h9)) (fun E ce q9 u9 t H1 locs ht hvm hw hB hz1 hk1 hS hce hcv hcl => ?_) (fun r_11 ur_11 t9 locs hw hB9 hS => ?_)
          ·
            try dsimp only at hB
            exact vx_out (fun x hx9 => (htab x hx9).elim) hlocks hce hcv hcl (fun t9 ht9 hal9 => ⟨(), trivial, hB, hS.F ht9⟩) hS.2.2 (by omega) (by omega)
          · exact hw.elim
set_option maxHeartbeats 4000000 in
set_option maxRecDepth 100000 in
/-- map: twonotCS -/
theorem c_X7_map_twonotCS (l : Launch) (hlt : l.stackTraces = false) (dC : Nat → ClassId) (dI : Nat → Nat → Nat) (sz : Nat) (a0 : Nat) (qb : Nat) (cq : ClassId) (bq : Nat → Option Nat) (o : Nat) (y0 : Nat) (fs : List Value) (o8 : Nat) (y1 : Nat) (fs8 : List Value) (p1 : Int32) (p2 : Int32) (ho9 : o < 16) (hbo : bq o = some y0) (ho8 : o8 < 16) (hbo8 : bq o8 = some y1) (hop : p1.toInt = 19 ∨ p1.toInt = 20) : vx_Met l yX7_map wqX7_map ({ frames := 7, cells := 2, slots := 12, locals := 140 }) (va_Pc [.ref a0, .int (nI o), .int p1, .int p2, .int (nI o8)] (pk_PreXR (dC, dI) [(a0, .inr (7, [.ref qb])), (qb, .inl (cq, 16, .inr (.inr (.inr (.inr bq))))), (y0, .inr (6, fs)), (y1, .inr (2, fs8))] [(cq, .object "KeyAtlas$Body")] sz)) (va_Ql (fun (_ : Int64) (_ : Unit) => False) (fun _ (t : State) => t.heap.size = sz) (roN sz)) (vx_X (fun _ : Unit => True) (fun (E : String) (_ : Unit) (t : State) => E = "java/lang/ClassCastException") (roN sz)) 2 12 (roN sz) := by
  refine vx_ofW (cc := cX7_map) (maxL := 10) (ret := (some .long)) (by decide) rfl ?_
  intro p e s m args below meth c s₁ B hml htab hv
  obtain ⟨rfl, hsz, hP, hK, hN, hZ⟩ := hv
  have hx := B.exec
  have hb := B.bytes
  have hr := B.returns
  have hts := atoms_spec (ws := wqX7_map) B.pre
  have hown : s.vm.findClass RX7 = some m.cls := findClass_of_methodNamed B.named
  have hlocks := B.notSynchronized
  subst hsz
  generalize hAe : roN s.heap.size = A at hZ ⊢
  have hA : ∀ q : Nat, s.heap.size ≤ q → A q := fun q h => by rw [← hAe]; exact h
  have hS : va_S A s.heap s.heap [] := va_S.rf
  have hP : va_P (dC, dI) vwCl [(a0, .inr (7, [.ref qb])), (qb, .inl (cq, 16, .inr (.inr (.inr (.inr bq))))), (y0, .inr (6, fs)), (y1, .inr (2, fs8))] s.heap := hP
  have hl := lv_entry ([.ref a0, .int (nI o), .int p1, .int p2, .int (nI o8)]) (n := 10) (Nat.le_of_ble_eq_true rfl)
  rw [lg_entry_eq]
  generalize (lg_sl ([.ref a0, .int (nI o), .int p1, .int p2, .int (nI o8)]) ++ List.replicate (10 - (lg_sl ([.ref a0, .int (nI o), .int p1, .int p2, .int (nI o8)])).length) Slot.unset).toArray = ls at hl ⊢
  have hl : lv_has ls 10 [(0, .ref a0), (1, .int (nI o)), (2, .int p1), (3, .int p2), (4, .int (nI o8))] := hl

  refine lv_aload_n hx hb dX7_map_0 rfl (lv_at hl 0 rfl) ?_
  refine lv_iload_n hx hb dX7_map_1 rfl (lv_at hl 1 rfl) ?_
  have hPc := hP.sub (ws' := [(a0, .inr (7, [.ref qb])), (qb, .inl (cq, 16, .inr (.inr (.inr (.inr bq)))))]) [0, 1] rfl
  have hKc := hK.sub (tys' := [(cq, .object "KeyAtlas$Body")]) [0] rfl
  refine rox_callr (B := (fun (_ : Unit) (a : Nat) (t : State) => t.heap.size = s.heap.size ∧ ∃ j : Nat, j < 16 ∧ nI o = nI j ∧ bq j = some a)) (fun u9 x9 t9 h9 => h9.1) (vx_runV (As := [.int (nI o)]) (rest := []) ⟨hx, hb, hml, hown, hts⟩ (c_X7_bodyAt l hlt dC dI s.heap.size a0 qb cq bq (nI o)) (cwV 1 hts gX7_map_X7_bodyAt rfl rfl rfl (by decide +kernel) ⟨(Nat.le_of_ble_eq_true rfl), (Nat.le_of_ble_eq_true rfl)⟩) ⟨pk_blindXR, va_recv hKc hPc (ci := 7) (q0 := 0) rfl rfl, pk_callXR hPc hKc hN ((hZ.kept hS.2.1).narrow (fun q h9 => hA q (Nat.le_trans hS.1 h9)))⟩ rfl rfl hl.1 rfl (lv_room (Nat.le_of_ble_eq_true rfl)) dX7_map_2 ⟨(Nat.le_of_ble_eq_true rfl), (Nat.le_of_ble_eq_true rfl)⟩) hS (fun q h9 => hA q (Nat.le_trans hS.1 h9)) (fun E ce q9 u9 t H1 locs ht hvm hw hB hz1 hk1 hS hce hcv hcl => ?_) (fun r_1 ur_1 t9 locs hw hB9 hS => ?_)
  ·
    try dsimp only at hB
    exact bq_no ho9 hbo hB.2
  ·
    refine W.tight (k := 0) (n := 0) (Nat.le_refl _) (Nat.le_refl _) ?_
    clear hPc hKc
    try dsimp only at hw
    have jr_1 := hw
    refine W.eq (g2 := F0 m 5 ls [.ref y0]) (by rw [show r_1 = y0 from bq_is ho9 hbo hB9.2]) ?_
    refine lv_astore (lv' := [(5, .ref y0), (0, .ref a0), (1, .int (nI o)), (2, .int p1), (3, .int p2), (4, .int (nI o8))]) hx hb dX7_map_5 hl (by decide) rfl (fun ls hl => ?_)
    refine lv_iload_n hx hb dX7_map_7 rfl (lv_at hl 3 rfl) ?_
    refine lv_bipush (v := 19) hx hb dX7_map_8 (by decide) ?_
    refine lv_icmp_eq (tgt := 19) hx hb dX7_map_10 (by decide) (fun c_2 => ?_) (fun c_2 => ?_)
    ·
      have ic_2 : p1.toInt = 19 := tx_eq rfl (by decide) c_2
      refine lv_iconst (v := 1) hx hb dX7_map_19 (by decide) ?_
      refine lv_goto (tgt := 24) hx hb dX7_map_20 (by decide) ?_
      refine lv_istore (lv' := [(6, .int 1), (5, .ref y0), (0, .ref a0), (1, .int (nI o)), (2, .int p1), (3, .int p2), (4, .int (nI o8))]) hx hb dX7_map_24 hl (by decide) rfl (fun ls hl => ?_)
      refine lv_iload hx hb dX7_map_26 (lv_at hl 0 rfl) ?_
      refine lv_if_eq (tgt := 40) hx hb dX7_map_28 (by decide) (fun c_3 => absurd c_3 (by decide)) (fun c_3 => ?_)
      refine lv_aload_n hx hb dX7_map_31 rfl (lv_at hl 2 rfl) ?_
      refine lv_iload hx hb dX7_map_32 (lv_at hl 6 rfl) ?_
      have hPc := hP.sub (ws' := [(a0, .inr (7, [.ref qb])), (qb, .inl (cq, 16, .inr (.inr (.inr (.inr bq)))))]) [0, 1] rfl
      have hKc := hK.sub (tys' := [(cq, .object "KeyAtlas$Body")]) [0] rfl
      refine rox_callr (B := (fun (_ : Unit) (a : Nat) (t : State) => t.heap.size = s.heap.size ∧ ∃ j : Nat, j < 16 ∧ nI o8 = nI j ∧ bq j = some a)) (fun u9 x9 t9 h9 => h9.1) (vx_runV (As := [.int (nI o8)]) (rest := []) ⟨hx, hb, hml, hown, hts⟩ (c_X7_bodyAt l hlt dC dI s.heap.size a0 qb cq bq (nI o8)) (cwV 1 hts gX7_map_X7_bodyAt rfl rfl rfl (by decide +kernel) ⟨(Nat.le_of_ble_eq_true rfl), (Nat.le_of_ble_eq_true rfl)⟩) ⟨pk_blindXR, va_recv hKc hPc (ci := 7) (q0 := 0) rfl rfl, pk_callXR hPc hKc hN ((hZ.kept hS.2.1).narrow (fun q h9 => hA q (Nat.le_trans hS.1 h9)))⟩ rfl rfl hl.1 rfl (lv_room (Nat.le_of_ble_eq_true rfl)) dX7_map_34 ⟨(Nat.le_of_ble_eq_true rfl), (Nat.le_of_ble_eq_true rfl)⟩) hS (fun q h9 => hA q (Nat.le_trans hS.1 h9)) (fun E ce q9 u9 t H1 locs ht hvm hw hB hz1 hk1 hS hce hcv hcl => ?_) (fun r_4 ur_4 t9 locs hw hB9 hS => ?_)
      ·
        try dsimp only at hB
        exact bq_no ho8 hbo8 hB.2
      ·
        refine W.tight (k := 0) (n := 0) (Nat.le_refl _) (Nat.le_refl _) ?_
        clear hPc hKc
        try dsimp only at hw
        have jr_4 := hw
        refine W.eq (g2 := F0 m 37 ls [.ref y1]) (by rw [show r_4 = y1 from bq_is ho8 hbo8 hB9.2]) ?_
        refine lv_goto (tgt := 42) hx hb dX7_map_37 (by decide) ?_
        refine lv_astore (lv' := [(7, .ref y1), (6, .int 1), (5, .ref y0), (0, .ref a0), (1, .int (nI o)), (2, .int p1), (3, .int p2), (4, .int (nI o8))]) hx hb dX7_map_42 hl (by decide) rfl (fun ls hl => ?_)
        refine lv_aload hx hb dX7_map_44 (lv_at hl 2 rfl) ?_
        have hPc := hP.sub (ws' := [(y0, .inr (6, fs))]) [2] rfl
        have hKc := hK.sub (tys' := []) [] rfl
        refine ro_callr (B := (fun (_ : Unit) (a : Nat) (t : State) => t.heap.size = s.heap.size ∧ a = y0)) (fun u9 x9 t9 h9 => h9.1) (va_runS (As := [.ref y0]) (rest := []) ⟨hx, hb, hml, hown, hts⟩ (c_X7_asMap_S l hlt dC dI s.heap.size y0 fs) (va_cwS 1 hts gX7_map_X7_asMap rfl rfl rfl (by decide +kernel) ⟨(Nat.le_of_ble_eq_true rfl), (Nat.le_of_ble_eq_true rfl)⟩) ⟨pk_blindRX, pk_callRX hPc hKc hN⟩ rfl rfl hl.1 rfl (lv_room (Nat.le_of_ble_eq_true rfl)) dX7_map_46 ⟨(Nat.le_of_ble_eq_true rfl), (Nat.le_of_ble_eq_true rfl)⟩) (fun r_5 ur_5 t9 hw hB9 => ?_)
        clear hPc hKc
        try dsimp only at hw
        have jr_5 := hw
        refine W.eq (g2 := F0 m 49 ls [.ref y0]) (by rw [show r_5 = y0 from hB9.2]) ?_
        refine lv_astore (lv' := [(8, .ref y0), (7, .ref y1), (6, .int 1), (5, .ref y0), (0, .ref a0), (1, .int (nI o)), (2, .int p1), (3, .int p2), (4, .int (nI o8))]) hx hb dX7_map_49 hl (by decide) rfl (fun ls hl => ?_)
        refine lv_aload hx hb dX7_map_51 (lv_at hl 1 rfl) ?_
        have hPc := hP.sub (ws' := [(y1, .inr (2, fs8))]) [3] rfl
        have hKc := hK.sub (tys' := []) [] rfl
        refine rox_callr (B := (fun (_ : Unit) (a : Nat) (t : State) => t.heap.size = s.heap.size ∧ a = y1)) (fun u9 x9 t9 h9 => h9.1) (vx_runS (As := [.ref y1]) (rest := []) ⟨hx, hb, hml, hown, hts⟩ (c_X7_asMap_C l hlt dC dI s.heap.size y1 fs8) (va_cwS 1 hts gX7_map_X7_asMap rfl rfl rfl (by decide +kernel) ⟨(Nat.le_of_ble_eq_true rfl), (Nat.le_of_ble_eq_true rfl)⟩) ⟨pk_blindXR, pk_callXR hPc hKc hN ((hZ.kept hS.2.1).narrow (fun q h9 => hA q (Nat.le_trans hS.1 h9)))⟩ rfl rfl hl.1 rfl (lv_room (Nat.le_of_ble_eq_true rfl)) dX7_map_53 ⟨(Nat.le_of_ble_eq_true rfl), (Nat.le_of_ble_eq_true rfl)⟩) hS (fun q h9 => hA q (Nat.le_trans hS.1 h9)) (fun E ce q9 u9 t H1 locs ht hvm hw hB hz1 hk1 hS hce hcv hcl => ?_) (fun r_6 ur_6 t9 locs hw hB9 hS => ?_)
        ·
          try dsimp only at hB
          exact vx_out (fun x hx9 => (htab x hx9).elim) hlocks hce hcv hcl (fun t9 ht9 hal9 => ⟨(), trivial, hB, hS.F ht9⟩) hS.2.2 (by omega) (by omega)
        · exact hw.elim
    ·
      have ic_2 : ¬ p1.toInt = 19 := tx_ne rfl (by decide) c_2
      refine lv_iload_n hx hb dX7_map_13 rfl (lv_at hl 3 rfl) ?_
      refine lv_bipush (v := 20) hx hb dX7_map_14 (by decide) ?_
      refine lv_icmp_ne (tgt := 23) hx hb dX7_map_16 (by decide) (fun c_7 => ?_) (fun c_7 => ?_)
      ·
        have ic_7 : ¬ p1.toInt = 20 := tx_ne rfl (by decide) c_7
        exfalso
        omega
      ·
        have ic_7 : p1.toInt = 20 := tx_eq rfl (by decide) c_7
        refine lv_iconst (v := 1) hx hb dX7_map_19 (by decide) ?_
        refine lv_goto (tgt := 24) hx hb dX7_map_20 (by decide) ?_
        refine lv_istore (lv' := [(6, .int 1), (5, .ref y0), (0, .ref a0), (1, .int (nI o)), (2, .int p1), (3, .int p2), (4, .int (nI o8))]) hx hb dX7_map_24 hl (by decide) rfl (fun ls hl => ?_)
        refine lv_iload hx hb dX7_map_26 (lv_at hl 0 rfl) ?_
        refine lv_if_eq (tgt := 40) hx hb dX7_map_28 (by decide) (fun c_8 => absurd c_8 (by decide)) (fun c_8 => ?_)
        refine lv_aload_n hx hb dX7_map_31 rfl (lv_at hl 2 rfl) ?_
        refine lv_iload hx hb dX7_map_32 (lv_at hl 6 rfl) ?_
        have hPc := hP.sub (ws' := [(a0, .inr (7, [.ref qb])), (qb, .inl (cq, 16, .inr (.inr (.inr (.inr bq)))))]) [0, 1] rfl
        have hKc := hK.sub (tys' := [(cq, .object "KeyAtlas$Body")]) [0] rfl
        refine rox_callr (B := (fun (_ : Unit) (a : Nat) (t : State) => t.heap.size = s.heap.size ∧ ∃ j : Nat, j < 16 ∧ nI o8 = nI j ∧ bq j = some a)) (fun u9 x9 t9 h9 => h9.1) (vx_runV (As := [.int (nI o8)]) (rest := []) ⟨hx, hb, hml, hown, hts⟩ (c_X7_bodyAt l hlt dC dI s.heap.size a0 qb cq bq (nI o8)) (cwV 1 hts gX7_map_X7_bodyAt rfl rfl rfl (by decide +kernel) ⟨(Nat.le_of_ble_eq_true rfl), (Nat.le_of_ble_eq_true rfl)⟩) ⟨pk_blindXR, va_recv hKc hPc (ci := 7) (q0 := 0) rfl rfl, pk_callXR hPc hKc hN ((hZ.kept hS.2.1).narrow (fun q h9 => hA q (Nat.le_trans hS.1 h9)))⟩ rfl rfl hl.1 rfl (lv_room (Nat.le_of_ble_eq_true rfl)) dX7_map_34 ⟨(Nat.le_of_ble_eq_true rfl), (Nat.le_of_ble_eq_true rfl)⟩) hS (fun q h9 => hA q (Nat.le_trans hS.1 h9)) (fun E ce q9 u9 t H1 locs ht hvm hw hB hz1 hk1 hS hce hcv hcl => ?_) (fun r_9 ur_9 t9 locs hw hB9 hS => ?_)
        ·
          try dsimp only at hB
          exact bq_no ho8 hbo8 hB.2
        ·
          refine W.tight (k := 0) (n := 0) (Nat.le_refl _) (Nat.le_refl _) ?_
          clear hPc hKc
          try dsimp only at hw
          have jr_9 := hw
          refine W.eq (g2 := F0 m 37 ls [.ref y1]) (by rw [show r_9 = y1 from bq_is ho8 hbo8 hB9.2]) ?_
          refine lv_goto (tgt := 42) hx hb dX7_map_37 (by decide) ?_
          refine lv_astore (lv' := [(7, .ref y1), (6, .int 1), (5, .ref y0), (0, .ref a0), (1, .int (nI o)), (2, .int p1), (3, .int p2), (4, .int (nI o8))]) hx hb dX7_map_42 hl (by decide) rfl (fun ls hl => ?_)
          refine lv_aload hx hb dX7_map_44 (lv_at hl 2 rfl) ?_
          have hPc := hP.sub (ws' := [(y0, .inr (6, fs))]) [2] rfl
          have hKc := hK.sub (tys' := []) [] rfl
          refine ro_callr (B := (fun (_ : Unit) (a : Nat) (t : State) => t.heap.size = s.heap.size ∧ a = y0)) (fun u9 x9 t9 h9 => h9.1) (va_runS (As := [.ref y0]) (rest := []) ⟨hx, hb, hml, hown, hts⟩ (c_X7_asMap_S l hlt dC dI s.heap.size y0 fs) (va_cwS 1 hts gX7_map_X7_asMap rfl rfl rfl (by decide +kernel) ⟨(Nat.le_of_ble_eq_true rfl), (Nat.le_of_ble_eq_true rfl)⟩) ⟨pk_blindRX, pk_callRX hPc hKc hN⟩ rfl rfl hl.1 rfl (lv_room (Nat.le_of_ble_eq_true rfl)) dX7_map_46 ⟨(Nat.le_of_ble_eq_true rfl), (Nat.le_of_ble_eq_true rfl)⟩) (fun r_10 ur_10 t9 hw hB9 => ?_)
          clear hPc hKc
          try dsimp only at hw
          have jr_10 := hw
          refine W.eq (g2 := F0 m 49 ls [.ref y0]) (by rw [show r_10 = y0 from hB9.2]) ?_
          refine lv_astore (lv' := [(8, .ref y0), (7, .ref y1), (6, .int 1), (5, .ref y0), (0, .ref a0), (1, .int (nI o)), (2, .int p1), (3, .int p2), (4, .int (nI o8))]) hx hb dX7_map_49 hl (by decide) rfl (fun ls hl => ?_)
          refine lv_aload hx hb dX7_map_51 (lv_at hl 1 rfl) ?_
          have hPc := hP.sub (ws' := [(y1, .inr (2, fs8))]) [3] rfl
          have hKc := hK.sub (tys' := []) [] rfl
          refine rox_callr (B := (fun (_ : Unit) (a : Nat) (t : State) => t.heap.size = s.heap.size ∧ a = y1)) (fun u9 x9 t9 h9 => h9.1) (vx_runS (As := [.ref y1]) (rest := []) ⟨hx, hb, hml, hown, hts⟩ (c_X7_asMap_C l hlt dC dI s.heap.size y1 fs8) (va_cwS 1 hts gX7_map_X7_asMap rfl rfl rfl (by decide +kernel) ⟨(Nat.le_of_ble_eq_true rfl), (Nat.le_of_ble_eq_true rfl)⟩) ⟨pk_blindXR, pk_callXR hPc hKc hN ((hZ.kept hS.2.1).narrow (fun q h9 => hA q (Nat.le_trans hS.1 h9)))⟩ rfl rfl hl.1 rfl (lv_room (Nat.le_of_ble_eq_true rfl)) dX7_map_53 ⟨(Nat.le_of_ble_eq_true rfl), (Nat.le_of_ble_eq_true rfl)⟩) hS (fun q h9 => hA q (Nat.le_trans hS.1 h9)) (fun E ce q9 u9 t H1 locs ht hvm hw hB hz1 hk1 hS hce hcv hcl => ?_) (fun r_11 ur_11 t9 locs hw hB9 hS => ?_)
          ·
            try dsimp only at hB
            exact vx_out (fun x hx9 => (htab x hx9).elim) hlocks hce hcv hcl (fun t9 ht9 hal9 => ⟨(), trivial, hB, hS.F ht9⟩) hS.2.2 (by omega) (by omega)
          · exact hw.elim
