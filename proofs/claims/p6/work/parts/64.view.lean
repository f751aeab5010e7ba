theorem dX7_view_8 : decode cX7_view 8 = .ok (.astore 5, 2) := by decide +kernel
theorem dX7_view_10 : decode cX7_view 10 = .ok (.iload_n 2, 1) := by decide +kernel
theorem dX7_view_11 : decode cX7_view 11 = .ok (.iconst 1, 1) := by decide +kernel
theorem dX7_view_12 : decode cX7_view 12 = .ok (.if_icmp .lt 8, 3) := by decide +kernel
theorem dX7_view_20 : decode cX7_view 20 = .ok (.new 15, 3) := by decide +kernel
theorem dX7_view_23 : decode cX7_view 23 = .ok (.dup, 1) := by decide +kernel
theorem dX7_view_24 : decode cX7_view 24 = .ok (.ldc 144, 2) := by decide +kernel
theorem dX7_view_26 : decode cX7_view 26 = .ok (.invokespecial 19, 3) := by decide +kernel
theorem dX7_view_29 : decode cX7_view 29 = .ok (.athrow, 1) := by decide +kernel
theorem dX7_view_15 : decode cX7_view 15 = .ok (.iload_n 2, 1) := by decide +kernel
theorem dX7_view_16 : decode cX7_view 16 = .ok (.iconst 4, 1) := by decide +kernel
theorem dX7_view_17 : decode cX7_view 17 = .ok (.if_icmp .le 13, 3) := by decide +kernel
theorem dX7_view_30 : decode cX7_view 30 = .ok (.iload_n 2, 1) := by decide +kernel
theorem dX7_view_31 : decode cX7_view 31 = .ok (.iconst 1, 1) := by decide +kernel
theorem dX7_view_32 : decode cX7_view 32 = .ok (.if_icmp .ne 24, 3) := by decide +kernel
theorem dX7_view_56 : decode cX7_view 56 = .ok (.aload_n 0, 1) := by decide +kernel
theorem dX7_view_57 : decode cX7_view 57 = .ok (.aload 5, 2) := by decide +kernel
theorem dX7_view_59 : decode cX7_view 59 = .ok (.iload_n 1, 1) := by decide +kernel
theorem dX7_view_60 : decode cX7_view 60 = .ok (.iload_n 2, 1) := by decide +kernel
theorem dX7_view_61 : decode cX7_view 61 = .ok (.iload_n 3, 1) := by decide +kernel
theorem dX7_view_62 : decode cX7_view 62 = .ok (.iload 4, 2) := by decide +kernel
set_option maxRecDepth 20000 in
theorem ggX7_view_X6_part : GoodIn wqX7_view wsX6_part := goodIn_r _ [47, 48, 49, 27, 50, 51, 52, 38, 53, 54, 55, 56, 57, 58, 59, 25, 60, 61, 62, 63, 28, 29, 30, 31, 32, 33, 34, 35, 36, 37, 39, 40, 41, 42, 43, 64, 65, 66, 67, 68, 69, 70, 71, 72, 73, 74, 75, 76, 77, 78, 79, 80, 81, 82, 96, 97, 98, 99, 100, 101, 102, 103, 104, 105, 106, 107, 108, 109, 110, 111, 112, 113, 114, 115, 116, 117, 118, 119, 120] rfl (by decide +kernel)
set_option maxRecDepth 20000 in
theorem gX7_view_X6_part : GoodIn wqX7_view (wsV RX7 153 RX6 yX6_part wsX6_part) := goodIn_app (goodIn_of _ (by decide +kernel)) ggX7_view_X6_part
theorem dX7_view_64 : decode cX7_view 64 = .ok (.invokevirtual 153, 3) := by decide +kernel
set_option maxRecDepth 20000 in
theorem ggX7_view_X7_settle : GoodIn wqX7_view wsX7_settle := goodIn_ca (goodIn_r _ [86, 87, 88, 14, 89] rfl (by decide +kernel)) (goodIn_sub (fun _ h => List.mem_cons_of_mem _ (List.mem_append_left _ (List.mem_append_right _ h))) (by decide +kernel))
set_option maxRecDepth 20000 in
theorem gX7_view_X7_settle : GoodIn wqX7_view (wsV RX7 37 RX7 yX7_settle wsX7_settle) := goodIn_app (goodIn_of _ (by decide +kernel)) ggX7_view_X7_settle
theorem dX7_view_67 : decode cX7_view 67 = .ok (.invokevirtual 37, 3) := by decide +kernel
theorem dX7_view_70 : decode cX7_view 70 = .ok (.ireturn, 1) := by decide +kernel
theorem dX7_view_35 : decode cX7_view 35 = .ok (.aload 5, 2) := by decide +kernel
theorem dX7_view_37 : decode cX7_view 37 = .ok (.iload 4, 2) := by decide +kernel
theorem dX7_view_39 : decode cX7_view 39 = .ok (.iload_n 3, 1) := by decide +kernel
set_option maxRecDepth 20000 in
theorem ggX7_view_X6_isBefore : GoodIn wqX7_view wsX6_isBefore := goodIn_r _ [26, 27, 28, 29, 30, 25, 31, 32, 33, 34, 35, 36, 37, 38, 39, 40, 41, 42, 43, 96, 97, 98, 99, 100, 101, 102] rfl (by decide +kernel)
set_option maxRecDepth 20000 in
theorem gX7_view_X6_isBefore : GoodIn wqX7_view (wsV RX7 146 RX6 yX6_isBefore wsX6_isBefore) := goodIn_app (goodIn_of _ (by decide +kernel)) ggX7_view_X6_isBefore
theorem dX7_view_40 : decode cX7_view 40 = .ok (.invokevirtual 146, 3) := by decide +kernel
theorem dX7_view_43 : decode cX7_view 43 = .ok (.ifCond .eq 13, 3) := by decide +kernel
theorem dX7_view_46 : decode cX7_view 46 = .ok (.new 15, 3) := by decide +kernel
theorem dX7_view_49 : decode cX7_view 49 = .ok (.dup, 1) := by decide +kernel
theorem dX7_view_50 : decode cX7_view 50 = .ok (.ldc 151, 2) := by decide +kernel
theorem dX7_view_52 : decode cX7_view 52 = .ok (.invokespecial 19, 3) := by decide +kernel
theorem dX7_view_55 : decode cX7_view 55 = .ok (.athrow, 1) := by decide +kernel
theorem at_X7_view_20 : ∀ w ∈ (vx_atS RX7 19 "java/lang/IllegalArgumentException" ["java/lang/RuntimeException", "java/lang/Exception"]).filter goodWord, w ∈ wqX7_view := fun w h => by
  unfold wqX7_view
  exact List.mem_cons_of_mem _ (List.mem_append_left _ (List.mem_append_left _ (List.mem_append_left _ (List.mem_append_right _ h))))
theorem at_X7_view_46 : ∀ w ∈ (vx_atS RX7 19 "java/lang/IllegalArgumentException" ["java/lang/RuntimeException", "java/lang/Exception"]).filter goodWord, w ∈ wqX7_view := fun w h => by
  unfold wqX7_view
  exact List.mem_cons_of_mem _ (List.mem_append_left _ (List.mem_append_left _ (List.mem_append_left _ (List.mem_append_right _ h))))
set_option maxHeartbeats 4000000 in
set_option maxRecDepth 100000 in
/-- view -/
theorem c_X7_view_S (l : Launch) (hlt : l.stackTraces = false) (dC : Nat → ClassId) (dI : Nat → Nat → Nat) (sz : Nat) (a0 : Nat) (qb : Nat) (cq : ClassId) (bq : Nat → Option Nat) (o : Nat) (y0 : Nat) (kd : Int32) (wh : Int32) (od : Int32) (tu : Int32) (lo : Int64) (hi : Int64) (x0 : Nat) (k0 : Nat) (w0 : Nat) (ck : ClassId) (cw : ClassId) (L : Nat) (f : Nat → Int32) (g : Nat → Int32) (nz : Nat) (ch : Int32) (p1 : Int32) (p2 : Int32) (p3 : Int32) (ho9 : o < 16) (hbo : bq o = some y0) (hR9 : rOK L nz) (ho1 : 0 ≤ od.toInt) (ho2 : od.toInt ≤ 3) (htu : tu.toInt = 0 ∨ tu.toInt = 1) : vx_Met l yX7_view wqX7_view ({ frames := 7, cells := 4, slots := 26, locals := 180 }) (va_Pc [.ref a0, .int (nI o), .int p1, .int p2, .int p3] (pk_PreX (dC, dI) [(a0, .inr (7, [.ref qb])), (qb, .inl (cq, 16, .inr (.inr (.inr (.inr bq))))), (y0, .inr (6, [.ref x0, .int kd, .int wh, .int od, .int tu, .long lo, .long hi])), (x0, .inr (5, [.ref k0, .ref w0, .int (nI nz), .int ch])), (k0, .inl (ck, L, .inl f)), (w0, .inl (cw, L, .inl g))] [(cq, .object "KeyAtlas$Body"), (ck, .int), (cw, .int)] sz)) (va_Qi (fun (r : Int32) (u : Nat × Nat × Int32 × Int64 × Int64) => (r = nI u.1 ∧ u.1 < 16 ∧ bq u.1 = none ∧ (∀ j : Nat, j < u.1 → ¬ bq j = none)) ∧ ¬ ((p1.toInt < 1 ∨ 4 < p1.toInt) ∨ (p1.toInt = 1 ∧ ((tu.toInt = 0 ∧ rkI od.toInt p3 < rkI od.toInt p2) ∨ (¬ tu.toInt = 0 ∧ rkI od.toInt p2 < rkI od.toInt p3)))) ∧ (u.2.2.1.toInt = 0 ∨ u.2.2.1.toInt = 1) ∧ (p1.toInt = 4 → (u.2.2.1.toInt = 0 ↔ ¬ tu.toInt = 0)) ∧ (¬ p1.toInt = 4 → (u.2.2.1.toInt = 0 ↔ tu.toInt = 0))) (fun (u : Nat × Nat × Int32 × Int64 × Int64) (t : State) => va_P (dC, dI) vwCl [(a0, .inr (7, [.ref qb])), (qb, .inl (cq, 16, .inr (.inr (.inr (.inr (va_up bq u.1 (some u.2.1))))))), (y0, .inr (6, [.ref x0, .int kd, .int wh, .int od, .int tu, .long lo, .long hi])), (x0, .inr (5, [.ref k0, .ref w0, .int (nI nz), .int ch])), (k0, .inl (ck, L, .inl f)), (w0, .inl (cw, L, .inl g)), (u.2.1, .inr (6, [.ref x0, .int 3, .int (nI o), .int od, .int u.2.2.1, .long u.2.2.2.1, .long u.2.2.2.2]))] t.heap ∧ va_K (dC, dI) vwCl [(cq, .object "KeyAtlas$Body"), (ck, .int), (cw, .int)] t ∧ va_D (va_A [(a0, .inr (7, [.ref qb])), (qb, .inl (cq, 16, .inr (.inr (.inr (.inr bq))))), (y0, .inr (6, [.ref x0, .int kd, .int wh, .int od, .int tu, .long lo, .long hi])), (x0, .inr (5, [.ref k0, .ref w0, .int (nI nz), .int ch])), (k0, .inl (ck, L, .inl f)), (w0, .inl (cw, L, .inl g))] sz) [(a0, .inr (7, [.ref qb])), (qb, .inl (cq, 16, .inr (.inr (.inr (.inr (va_up bq u.1 (some u.2.1))))))), (y0, .inr (6, [.ref x0, .int kd, .int wh, .int od, .int tu, .long lo, .long hi])), (x0, .inr (5, [.ref k0, .ref w0, .int (nI nz), .int ch])), (k0, .inl (ck, L, .inl f)), (w0, .inl (cw, L, .inl g)), (u.2.1, .inr (6, [.ref x0, .int 3, .int (nI o), .int od, .int u.2.2.1, .long u.2.2.2.1, .long u.2.2.2.2]))]) (va_A [(a0, .inr (7, [.ref qb])), (qb, .inl (cq, 16, .inr (.inr (.inr (.inr bq))))), (y0, .inr (6, [.ref x0, .int kd, .int wh, .int od, .int tu, .long lo, .long hi])), (x0, .inr (5, [.ref k0, .ref w0, .int (nI nz), .int ch])), (k0, .inl (ck, L, .inl f)), (w0, .inl (cw, L, .inl g))] sz)) (vx_X (fun _ : Unit => True) (fun (E : String) (_ : Unit) (t : State) => ((E = "java/lang/IllegalArgumentException" ∧ ((p1.toInt < 1 ∨ 4 < p1.toInt) ∨ (p1.toInt = 1 ∧ ((tu.toInt = 0 ∧ rkI od.toInt p3 < rkI od.toInt p2) ∨ (¬ tu.toInt = 0 ∧ rkI od.toInt p2 < rkI od.toInt p3))))) ∨ (E = "java/lang/IllegalStateException" ∧ ¬ ((p1.toInt < 1 ∨ 4 < p1.toInt) ∨ (p1.toInt = 1 ∧ ((tu.toInt = 0 ∧ rkI od.toInt p3 < rkI od.toInt p2) ∨ (¬ tu.toInt = 0 ∧ rkI od.toInt p2 < rkI od.toInt p3)))) ∧ ∀ j : Nat, j < 16 → ¬ bq j = none)) ∧ va_P (dC, dI) vwCl [(a0, .inr (7, [.ref qb])), (qb, .inl (cq, 16, .inr (.inr (.inr (.inr bq))))), (y0, .inr (6, [.ref x0, .int kd, .int wh, .int od, .int tu, .long lo, .long hi])), (x0, .inr (5, [.ref k0, .ref w0, .int (nI nz), .int ch])), (k0, .inl (ck, L, .inl f)), (w0, .inl (cw, L, .inl g))] t.heap ∧ va_K (dC, dI) vwCl [(cq, .object "KeyAtlas$Body"), (ck, .int), (cw, .int)] t ∧ va_D (va_A [(a0, .inr (7, [.ref qb])), (qb, .inl (cq, 16, .inr (.inr (.inr (.inr bq))))), (y0, .inr (6, [.ref x0, .int kd, .int wh, .int od, .int tu, .long lo, .long hi])), (x0, .inr (5, [.ref k0, .ref w0, .int (nI nz), .int ch])), (k0, .inl (ck, L, .inl f)), (w0, .inl (cw, L, .inl g))] sz) [(a0, .inr (7, [.ref qb])), (qb, .inl (cq, 16, .inr (.inr (.inr (.inr bq))))), (y0, .inr (6, [.ref x0, .int kd, .int wh, .int od, .int tu, .long lo, .long hi])), (x0, .inr (5, [.ref k0, .ref w0, .int (nI nz), .int ch])), (k0, .inl (ck, L, .inl f)), (w0, .inl (cw, L, .inl g))]) (va_A [(a0, .inr (7, [.ref qb])), (qb, .inl (cq, 16, .inr (.inr (.inr (.inr bq))))), (y0, .inr (6, [.ref x0, .int kd, .int wh, .int od, .int tu, .long lo, .long hi])), (x0, .inr (5, [.ref k0, .ref w0, .int (nI nz), .int ch])), (k0, .inl (ck, L, .inl f)), (w0, .inl (cw, L, .inl g))] sz)) 4 26 (va_A [(a0, .inr (7, [.ref qb])), (qb, .inl (cq, 16, .inr (.inr (.inr (.inr bq))))), (y0, .inr (6, [.ref x0, .int kd, .int wh, .int od, .int tu, .long lo, .long hi])), (x0, .inr (5, [.ref k0, .ref w0, .int (nI nz), .int ch])), (k0, .inl (ck, L, .inl f)), (w0, .inl (cw, L, .inl g))] sz) := by
  refine vx_ofW (cc := cX7_view) (maxL := 6) (ret := (some .int)) (by decide) rfl ?_
  intro p e s m args below meth c s₁ B hml htab hv
  obtain ⟨rfl, hsz, hP, hK, hD0, hN, hZ⟩ := hv
  have hx := B.exec
  have hb := B.bytes
  have hr := B.returns
  have hts := atoms_spec (ws := wqX7_view) B.pre
  have hown : s.vm.findClass RX7 = some m.cls := findClass_of_methodNamed B.named
  have hlocks := B.notSynchronized
  subst hsz
  have hD := hD0.self (sz := s.heap.size)
  generalize hAe : va_A [(a0, .inr (7, [.ref qb])), (qb, .inl (cq, 16, .inr (.inr (.inr (.inr bq))))), (y0, .inr (6, [.ref x0, .int kd, .int wh, .int od, .int tu, .long lo, .long hi])), (x0, .inr (5, [.ref k0, .ref w0, .int (nI nz), .int ch])), (k0, .inl (ck, L, .inl f)), (w0, .inl (cw, L, .inl g))] s.heap.size = A at hZ hD ⊢
  have hA : ∀ q : Nat, s.heap.size ≤ q → A q := fun q h => by rw [← hAe]; exact Or.inr h
  have hS : va_S A s.heap s.heap [] := va_S.rf
  have hP : va_P (dC, dI) vwCl [(a0, .inr (7, [.ref qb])), (qb, .inl (cq, 16, .inr (.inr (.inr (.inr bq))))), (y0, .inr (6, [.ref x0, .int kd, .int wh, .int od, .int tu, .long lo, .long hi])), (x0, .inr (5, [.ref k0, .ref w0, .int (nI nz), .int ch])), (k0, .inl (ck, L, .inl f)), (w0, .inl (cw, L, .inl g))] s.heap := hP
  have hl := lv_entry ([.ref a0, .int (nI o), .int p1, .int p2, .int p3]) (n := 6) (Nat.le_of_ble_eq_true rfl)
  rw [lg_entry_eq]
  generalize (lg_sl ([.ref a0, .int (nI o), .int p1, .int p2, .int p3]) ++ List.replicate (6 - (lg_sl ([.ref a0, .int (nI o), .int p1, .int p2, .int p3])).length) Slot.unset).toArray = ls at hl ⊢
  have hl : lv_has ls 6 [(0, .ref a0), (1, .int (nI o)), (2, .int p1), (3, .int p2), (4, .int p3)] := hl
  have hw0_ := hts (.classLink RX7 15 "java/lang/IllegalArgumentException") (List.mem_of_getElem? (l := wqX7_view) (i := 1) rfl)
  have hw1_ := hts (.initialized "java/lang/IllegalArgumentException") (List.mem_of_getElem? (l := wqX7_view) (i := 2) rfl)
  obtain ⟨hL1, hL2, hz1, hz2⟩ := id hR9
  refine lv_aload_n hx hb dX7_view_0 rfl (lv_at hl 0 rfl) ?_
  refine lv_iload_n hx hb dX7_view_1 rfl (lv_at hl 1 rfl) ?_
  have hPc := hP.sub (ws' := [(a0, .inr (7, [.ref qb])), (qb, .inl (cq, 16, .inr (.inr (.inr (.inr bq)))))]) [0, 1] rfl
  have hKc := hK.sub (tys' := [(cq, .object "KeyAtlas$Body")]) [0] rfl
  refine rox_callr (B := (fun (_ : Unit) (a : Nat) (t : State) => t.heap.size = s.heap.size ∧ ∃ j : Nat, j < 16 ∧ nI o = nI j ∧ bq j = some a)) (fun u9 x9 t9 h9 => h9.1) (vx_runV (As := [.int (nI o)]) (rest := []) ⟨hx, hb, hml, hown, hts⟩ (c_X7_bodyAt l hlt dC dI s.heap.size a0 qb cq bq (nI o)) (cwV 1 hts gX7_view_X7_bodyAt rfl rfl rfl (by decide +kernel) ⟨(Nat.le_of_ble_eq_true rfl), (Nat.le_of_ble_eq_true rfl)⟩) ⟨pk_blindXR, va_recv hKc hPc (ci := 7) (q0 := 0) rfl rfl, pk_callXR hPc hKc hN ((hZ.kept hS.2.1).narrow (fun q h9 => hA q (Nat.le_trans hS.1 h9)))⟩ rfl rfl hl.1 rfl (lv_room (Nat.le_of_ble_eq_true rfl)) dX7_view_2 ⟨(Nat.le_of_ble_eq_true rfl), (Nat.le_of_ble_eq_true rfl)⟩) hS (fun q h9 => hA q (Nat.le_trans hS.1 h9)) (fun E ce q9 u9 t H1 locs ht hvm hw hB hz1 hk1 hS hce hcv hcl => ?_) (fun r_1 ur_1 t9 locs hw hB9 hS => ?_)
  ·
    try dsimp only at hB
    exact bq_no ho9 hbo hB.2
  ·
    refine W.tight (k := 0) (n := 0) (Nat.le_refl _) (Nat.le_refl _) ?_
    clear hPc hKc
    try dsimp only at hw
    have jr_1 := hw
    refine W.eq (g2 := F0 m 5 ls [.ref y0]) (by rw [show r_1 = y0 from bq_is ho9 hbo hB9.2]) ?_
    have hPc := hP.sub (ws' := [(y0, .inr (6, [.ref x0, .int kd, .int wh, .int od, .int tu, .long lo, .long hi]))]) [2] rfl
    have hKc := hK.sub (tys' := []) [] rfl
    refine ro_callr (B := (fun (_ : Unit) (a : Nat) (t : State) => t.heap.size = s.heap.size ∧ a = y0)) (fun u9 x9 t9 h9 => h9.1) (va_runS (As := [.ref y0]) (rest := []) ⟨hx, hb, hml, hown, hts⟩ (c_X7_asSorted_S l hlt dC dI s.heap.size y0 ([.ref x0, .int kd, .int wh, .int od, .int tu, .long lo, .long hi])) (va_cwS 1 hts gX7_view_X7_asSorted rfl rfl rfl (by decide +kernel) ⟨(Nat.le_of_ble_eq_true rfl), (Nat.le_of_ble_eq_true rfl)⟩) ⟨pk_blindRX, pk_callRX hPc hKc hN⟩ rfl rfl hl.1 rfl (lv_room (Nat.le_of_ble_eq_true rfl)) dX7_view_5 ⟨(Nat.le_of_ble_eq_true rfl), (Nat.le_of_ble_eq_true rfl)⟩) (fun r_2 ur_2 t9 hw hB9 => ?_)
    clear hPc hKc
    try dsimp only at hw
    have jr_2 := hw
    refine W.eq (g2 := F0 m 8 ls [.ref y0]) (by rw [show r_2 = y0 from hB9.2]) ?_
    refine lv_astore (lv' := [(5, .ref y0), (0, .ref a0), (1, .int (nI o)), (2, .int p1), (3, .int p2), (4, .int p3)]) hx hb dX7_view_8 hl (by decide) rfl (fun ls hl => ?_)
    refine lv_iload_n hx hb dX7_view_10 rfl (lv_at hl 3 rfl) ?_
    refine lv_iconst (v := 1) hx hb dX7_view_11 (by decide) ?_
    refine lv_icmp_lt (tgt := 20) hx hb dX7_view_12 (by decide) (fun c_3 => ?_) (fun c_3 => ?_)
    ·
      have ic_3 : p1.toInt < 1 := tx_lt rfl (by decide) c_3
      have hP9 := hP.sub (ws' := [(a0, .inr (7, [.ref qb])), (qb, .inl (cq, 16, .inr (.inr (.inr (.inr bq))))), (y0, .inr (6, [.ref x0, .int kd, .int wh, .int od, .int tu, .long lo, .long hi])), (x0, .inr (5, [.ref k0, .ref w0, .int (nI nz), .int ch])), (k0, .inl (ck, L, .inl f)), (w0, .inl (cw, L, .inl g))]) [0, 1, 2, 3, 4, 5] rfl
      have hD9 := hD.sub (ws' := [(a0, .inr (7, [.ref qb])), (qb, .inl (cq, 16, .inr (.inr (.inr (.inr bq))))), (y0, .inr (6, [.ref x0, .int kd, .int wh, .int od, .int tu, .long lo, .long hi])), (x0, .inr (5, [.ref k0, .ref w0, .int (nI nz), .int ch])), (k0, .inl (ck, L, .inl f)), (w0, .inl (cw, L, .inl g))]) [0, 1, 2, 3, 4, 5] (by decide) rfl
      have hK9 := hK.sub (tys' := [(cq, .object "KeyAtlas$Body"), (ck, .int), (cw, .int)]) [0, 1, 2] rfl
      obtain ⟨sa, hsa⟩ := hN.stX7_144
      exact vx_throwS hx hb hlt (own := RX7) (cls := "java/lang/IllegalArgumentException") (text := "no such kind of view") (names := ["java/lang/RuntimeException", "java/lang/Exception"]) hown (by decide +kernel) (by decide +kernel) hw0_ hw1_ hsa (tx_hat hN.xw (fun w h => hts w (at_X7_view_20 w h)) ng_RX7_19) og_RX7_19 hZ.1 hZ.2 hS (by rw [hml]; exact hl.1) dX7_view_20 dX7_view_23 dX7_view_24 dX7_view_26 dX7_view_29 (fun x hx9 => (htab x hx9).elim) (Nat.le_of_ble_eq_true rfl) (Nat.le_of_ble_eq_true rfl) (Nat.le_of_ble_eq_true rfl) (Nat.le_of_ble_eq_true rfl) hlocks (fun t hvm hz hq => ⟨(), trivial, ⟨Or.inl ⟨rfl, Or.inl (by omega)⟩, hP9.kept (fun k x hx => hq x.1 (hP9 k x hx).lt), va_K.moved hvm hK9, hD9⟩, ⟨Nat.le_trans hS.1 hz, fun q h1 h2 => (hq q (Nat.lt_of_lt_of_le h1 hS.1)).trans (hS.2.1 q h1 h2)⟩⟩) hS.2.2 (Nat.le_of_ble_eq_true rfl) (Nat.le_of_ble_eq_true rfl)
    ·
      have ic_3 : 1 ≤ p1.toInt := tx_nlt rfl (by decide) c_3
      refine lv_iload_n hx hb dX7_view_15 rfl (lv_at hl 3 rfl) ?_
      refine lv_iconst (v := 4) hx hb dX7_view_16 (by decide) ?_
      refine lv_icmp_le (tgt := 30) hx hb dX7_view_17 (by decide) (fun c_4 => ?_) (fun c_4 => ?_)
      ·
        have ic_4 : p1.toInt ≤ 4 := tx_le rfl (by decide) c_4
        refine lv_iload_n hx hb dX7_view_30 rfl (lv_at hl 3 rfl) ?_
        refine lv_iconst (v := 1) hx hb dX7_view_31 (by decide) ?_
        refine lv_icmp_ne (tgt := 56) hx hb dX7_view_32 (by decide) (fun c_5 => ?_) (fun c_5 => ?_)
        ·
          have ic_5 : ¬ p1.toInt = 1 := tx_ne rfl (by decide) c_5
          refine lv_aload_n hx hb dX7_view_56 rfl (lv_at hl 1 rfl) ?_
          refine lv_aload hx hb dX7_view_57 (lv_at hl 0 rfl) ?_
          refine lv_iload_n hx hb dX7_view_59 rfl (lv_at hl 2 rfl) ?_
          refine lv_iload_n hx hb dX7_view_60 rfl (lv_at hl 3 rfl) ?_
          refine lv_iload_n hx hb dX7_view_61 rfl (lv_at hl 4 rfl) ?_
          refine lv_iload hx hb dX7_view_62 (lv_at hl 5 rfl) ?_
          have hvb : ¬ ((p1.toInt < 1 ∨ 4 < p1.toInt) ∨ (p1.toInt = 1 ∧ ((tu.toInt = 0 ∧ rkI od.toInt p3 < rkI od.toInt p2) ∨ (¬ tu.toInt = 0 ∧ rkI od.toInt p2 < rkI od.toInt p3)))) := fun h9 => by rcases h9 with h8 | ⟨h8, h7⟩ <;> omega
          have hPc := hP.sub (ws' := [(y0, .inr (6, [.ref x0, .int kd, .int wh, .int od, .int tu, .long lo, .long hi])), (x0, .inr (5, [.ref k0, .ref w0, .int (nI nz), .int ch])), (k0, .inl (ck, L, .inl f)), (w0, .inl (cw, L, .inl g))]) [2, 3, 4, 5] rfl
          have hDc := hD.sub (ws' := [(y0, .inr (6, [.ref x0, .int kd, .int wh, .int od, .int tu, .long lo, .long hi])), (x0, .inr (5, [.ref k0, .ref w0, .int (nI nz), .int ch])), (k0, .inl (ck, L, .inl f)), (w0, .inl (cw, L, .inl g))]) [2, 3, 4, 5] (by decide) rfl
          have hKc := hK.sub (tys' := [(ck, .int), (cw, .int)]) [1, 2] rfl
          have hFc := va_free (wc := [(y0, .inr (6, [.ref x0, .int kd, .int wh, .int od, .int tu, .long lo, .long hi])), (x0, .inr (5, [.ref k0, .ref w0, .int (nI nz), .int ch])), (k0, .inl (ck, L, .inl f)), (w0, .inl (cw, L, .inl g))]) hD hS hA [2, 3, 4, 5] rfl
          have hZc := (hZ.kept hS.2.1).narrow hFc
          refine va_callr (va_runV (As := [.int (nI o), .int p1, .int p2, .int p3]) (rest := [.ref a0]) ⟨hx, hb, hml, hown, hts⟩ (c_X6_part l hlt dC dI s.heap.size y0 kd wh od tu lo hi x0 k0 w0 ck cw L f g nz ch (nI o) p1 p2 p3 hR9 ho1 ho2 htu) (cwV 4 hts gX7_view_X6_part rfl rfl rfl (by decide +kernel) ⟨(Nat.le_of_ble_eq_true rfl), (Nat.le_of_ble_eq_true rfl)⟩) ⟨pk_blindX, va_recv hKc hPc (ci := 6) (q0 := 0) rfl rfl, pk_callX hPc hKc hDc hN hZc⟩ rfl rfl hl.1 rfl (lv_room (Nat.le_of_ble_eq_true rfl)) dX7_view_64 ⟨(Nat.le_of_ble_eq_true rfl), (Nat.le_of_ble_eq_true rfl)⟩) hS (fun q _ h => hFc q h) hFc (fun ur_6 r_6 t H1 locs ht hvm hw hB hz1 hk1 hS => ?_)
          try dsimp only at hw
          have jr_6 := hw
          obtain ⟨hP1, hK1, hD1⟩ := hB
          rw [ht] at hP1
          have hK1 := va_K.moved hvm.symm hK1
          obtain ⟨hP, hD⟩ := va_join (wr := [(a0, .inr (7, [.ref qb])), (qb, .inl (cq, 16, .inr (.inr (.inr (.inr bq)))))]) (w1 := [(y0, .inr (6, [.ref x0, .int kd, .int wh, .int od, .int tu, .long lo, .long hi])), (x0, .inr (5, [.ref k0, .ref w0, .int (nI nz), .int ch])), (k0, .inl (ck, L, .inl f)), (w0, .inl (cw, L, .inl g)), (r_6, .inr (6, [.ref x0, .int 3, .int (nI o), .int od, .int ur_6.1, .long ur_6.2.1, .long ur_6.2.2]))]) hP hD [2, 3, 4, 5] [0, 1] rfl rfl (by decide) (by decide) hk1 hFc hP1 hD1
          clear hk1 hz1 ht hPc hDc hKc hFc
          generalize H1 = H at hP hS ⊢
          replace hP : va_P (dC, dI) vwCl [(a0, .inr (7, [.ref qb])), (qb, .inl (cq, 16, .inr (.inr (.inr (.inr bq))))), (y0, .inr (6, [.ref x0, .int kd, .int wh, .int od, .int tu, .long lo, .long hi])), (x0, .inr (5, [.ref k0, .ref w0, .int (nI nz), .int ch])), (k0, .inl (ck, L, .inl f)), (w0, .inl (cw, L, .inl g)), (r_6, .inr (6, [.ref x0, .int 3, .int (nI o), .int od, .int ur_6.1, .long ur_6.2.1, .long ur_6.2.2]))] H := hP
          replace hD : va_D A [(a0, .inr (7, [.ref qb])), (qb, .inl (cq, 16, .inr (.inr (.inr (.inr bq))))), (y0, .inr (6, [.ref x0, .int kd, .int wh, .int od, .int tu, .long lo, .long hi])), (x0, .inr (5, [.ref k0, .ref w0, .int (nI nz), .int ch])), (k0, .inl (ck, L, .inl f)), (w0, .inl (cw, L, .inl g)), (r_6, .inr (6, [.ref x0, .int 3, .int (nI o), .int od, .int ur_6.1, .long ur_6.2.1, .long ur_6.2.2]))] := hD
          refine W.widen (k := 1) (n := 7) (Nat.le_of_ble_eq_true rfl) (Nat.le_of_ble_eq_true rfl) ?_
          refine W.eq (g2 := F0 m 67 ls [.ref r_6, .ref a0]) rfl ?_
          have hPc := hP.sub (ws' := [(a0, .inr (7, [.ref qb])), (qb, .inl (cq, 16, .inr (.inr (.inr (.inr bq))))), (r_6, .inr (6, [.ref x0, .int 3, .int (nI o), .int od, .int ur_6.1, .long ur_6.2.1, .long ur_6.2.2]))]) [0, 1, 6] rfl
          have hDc := hD.sub (ws' := [(a0, .inr (7, [.ref qb])), (qb, .inl (cq, 16, .inr (.inr (.inr (.inr bq))))), (r_6, .inr (6, [.ref x0, .int 3, .int (nI o), .int od, .int ur_6.1, .long ur_6.2.1, .long ur_6.2.2]))]) [0, 1, 6] (by decide) rfl
          have hKc := hK.sub (tys' := [(cq, .object "KeyAtlas$Body")]) [0] rfl
          have hFc := va_free (wc := [(a0, .inr (7, [.ref qb])), (qb, .inl (cq, 16, .inr (.inr (.inr (.inr bq))))), (r_6, .inr (6, [.ref x0, .int 3, .int (nI o), .int od, .int ur_6.1, .long ur_6.2.1, .long ur_6.2.2]))]) hD hS hA [0, 1, 6] rfl
          have hZc := (hZ.kept hS.2.1).narrow hFc
          refine vx_calli (vx_runV (As := [.ref r_6]) (rest := []) ⟨hx, hb, hml, hown, hts⟩ (c_X7_settle_S l hlt dC dI H.size a0 qb cq bq r_6 ([.ref x0, .int 3, .int (nI o), .int od, .int ur_6.1, .long ur_6.2.1, .long ur_6.2.2])) (cwV 1 hts gX7_view_X7_settle rfl rfl rfl (by decide +kernel) ⟨(Nat.le_of_ble_eq_true rfl), (Nat.le_of_ble_eq_true rfl)⟩) ⟨pk_blindX, va_recv hKc hPc (ci := 7) (q0 := 0) rfl rfl, pk_callX hPc hKc hDc hN hZc⟩ rfl rfl hl.1 rfl (lv_room (Nat.le_of_ble_eq_true rfl)) dX7_view_67 ⟨(Nat.le_of_ble_eq_true rfl), (Nat.le_of_ble_eq_true rfl)⟩) hS (fun q _ h => hFc q h) hFc (fun q _ h => hFc q h) (fun E ce q9 u9 t H1 locs ht hvm hw hB hz1 hk1 hS hce hcv hcl => ?_) (fun r_7 ur_7 t H1 locs ht hvm hw hB hz1 hk1 hS => ?_)
          ·
            try dsimp only at hB
            have hD9 := hD.sub (ws' := [(a0, .inr (7, [.ref qb])), (qb, .inl (cq, 16, .inr (.inr (.inr (.inr bq))))), (y0, .inr (6, [.ref x0, .int kd, .int wh, .int od, .int tu, .long lo, .long hi])), (x0, .inr (5, [.ref k0, .ref w0, .int (nI nz), .int ch])), (k0, .inl (ck, L, .inl f)), (w0, .inl (cw, L, .inl g))]) [0, 1, 2, 3, 4, 5] (by decide) rfl
            obtain ⟨⟨hE8, hf8⟩, hP8, hK8, hD8⟩ := hB
            rw [ht] at hP8
            obtain ⟨hP7, -⟩ := va_join (wr := [(y0, .inr (6, [.ref x0, .int kd, .int wh, .int od, .int tu, .long lo, .long hi])), (x0, .inr (5, [.ref k0, .ref w0, .int (nI nz), .int ch])), (k0, .inl (ck, L, .inl f)), (w0, .inl (cw, L, .inl g))]) (w1 := [(a0, .inr (7, [.ref qb])), (qb, .inl (cq, 16, .inr (.inr (.inr (.inr bq))))), (r_6, .inr (6, [.ref x0, .int 3, .int (nI o), .int od, .int ur_6.1, .long ur_6.2.1, .long ur_6.2.2]))]) hP hD [0, 1, 6] [2, 3, 4, 5] rfl rfl (by decide) (by decide) hk1 hFc hP8 hD8
            have hP6 := hP7.sub (ws' := [(a0, .inr (7, [.ref qb])), (qb, .inl (cq, 16, .inr (.inr (.inr (.inr bq))))), (y0, .inr (6, [.ref x0, .int kd, .int wh, .int od, .int tu, .long lo, .long hi])), (x0, .inr (5, [.ref k0, .ref w0, .int (nI nz), .int ch])), (k0, .inl (ck, L, .inl f)), (w0, .inl (cw, L, .inl g))]) [4, 5, 0, 1, 2, 3] rfl
            have hK6 := hK.sub (tys' := [(cq, .object "KeyAtlas$Body"), (ck, .int), (cw, .int)]) [0, 1, 2] rfl
            exact vx_out (fun x hx9 => (htab x hx9).elim) hlocks hce hcv hcl (fun t9 ht9 hal9 => ⟨(), trivial, ⟨Or.inr ⟨hE8, hvb, hf8⟩, by rw [ht9]; exact hP6, va_K.moved hal9 hK6, hD9⟩, hS.F ht9⟩) hS.2.2 (by omega) (by omega)
          ·
            try dsimp only at hw
            have jr_7 := hw
            obtain ⟨hP1, hK1, hD1⟩ := hB
            rw [ht] at hP1
            have hK1 := va_K.moved hvm.symm hK1
            obtain ⟨hP, hD⟩ := va_join (wr := [(y0, .inr (6, [.ref x0, .int kd, .int wh, .int od, .int tu, .long lo, .long hi])), (x0, .inr (5, [.ref k0, .ref w0, .int (nI nz), .int ch])), (k0, .inl (ck, L, .inl f)), (w0, .inl (cw, L, .inl g))]) (w1 := [(a0, .inr (7, [.ref qb])), (qb, .inl (cq, 16, .inr (.inr (.inr (.inr (va_up bq ur_7 (some r_6))))))), (r_6, .inr (6, [.ref x0, .int 3, .int (nI o), .int od, .int ur_6.1, .long ur_6.2.1, .long ur_6.2.2]))]) hP hD [0, 1, 6] [2, 3, 4, 5] rfl rfl (by decide) (by decide) hk1 hFc hP1 hD1
            clear hk1 hz1 ht hPc hDc hKc hFc
            generalize H1 = H at hP hS ⊢
            replace hP : va_P (dC, dI) vwCl [(y0, .inr (6, [.ref x0, .int kd, .int wh, .int od, .int tu, .long lo, .long hi])), (x0, .inr (5, [.ref k0, .ref w0, .int (nI nz), .int ch])), (k0, .inl (ck, L, .inl f)), (w0, .inl (cw, L, .inl g)), (a0, .inr (7, [.ref qb])), (qb, .inl (cq, 16, .inr (.inr (.inr (.inr (va_up bq ur_7 (some r_6))))))), (r_6, .inr (6, [.ref x0, .int 3, .int (nI o), .int od, .int ur_6.1, .long ur_6.2.1, .long ur_6.2.2]))] H := hP
            replace hD : va_D A [(y0, .inr (6, [.ref x0, .int kd, .int wh, .int od, .int tu, .long lo, .long hi])), (x0, .inr (5, [.ref k0, .ref w0, .int (nI nz), .int ch])), (k0, .inl (ck, L, .inl f)), (w0, .inl (cw, L, .inl g)), (a0, .inr (7, [.ref qb])), (qb, .inl (cq, 16, .inr (.inr (.inr (.inr (va_up bq ur_7 (some r_6))))))), (r_6, .inr (6, [.ref x0, .int 3, .int (nI o), .int od, .int ur_6.1, .long ur_6.2.1, .long ur_6.2.2]))] := hD
            refine W.widen (k := 2) (n := 13) (Nat.le_of_ble_eq_true rfl) (Nat.le_of_ble_eq_true rfl) ?_
            refine W.eq (g2 := F0 m 70 ls [.int r_7]) rfl ?_
            have hP9 := hP.sub (ws' := [(a0, .inr (7, [.ref qb])), (qb, .inl (cq, 16, .inr (.inr (.inr (.inr (va_up bq ur_7 (some r_6))))))), (y0, .inr (6, [.ref x0, .int kd, .int wh, .int od, .int tu, .long lo, .long hi])), (x0, .inr (5, [.ref k0, .ref w0, .int (nI nz), .int ch])), (k0, .inl (ck, L, .inl f)), (w0, .inl (cw, L, .inl g)), (r_6, .inr (6, [.ref x0, .int 3, .int (nI o), .int od, .int ur_6.1, .long ur_6.2.1, .long ur_6.2.2]))]) [4, 5, 0, 1, 2, 3, 6] rfl
            have hD9 := hD.sub (ws' := [(a0, .inr (7, [.ref qb])), (qb, .inl (cq, 16, .inr (.inr (.inr (.inr (va_up bq ur_7 (some r_6))))))), (y0, .inr (6, [.ref x0, .int kd, .int wh, .int od, .int tu, .long lo, .long hi])), (x0, .inr (5, [.ref k0, .ref w0, .int (nI nz), .int ch])), (k0, .inl (ck, L, .inl f)), (w0, .inl (cw, L, .inl g)), (r_6, .inr (6, [.ref x0, .int 3, .int (nI o), .int od, .int ur_6.1, .long ur_6.2.1, .long ur_6.2.2]))]) [4, 5, 0, 1, 2, 3, 6] (by decide) rfl
            have hK9 := hK.sub (tys' := [(cq, .object "KeyAtlas$Body"), (ck, .int), (cw, .int)]) [0, 1, 2] rfl
            refine W.widen (k := 4) (n := 26) (Nat.le_of_ble_eq_true rfl) (Nat.le_of_ble_eq_true rfl) ?_
            refine vx_ret ?_
            exact W.iret (v := r_7) hx hb hr (fun t ht hW => ⟨⟨r_7, (ur_7, r_6, ur_6), rfl, ⟨⟨jr_7.1, jr_7.2.1, jr_7.2.2.1, jr_7.2.2.2⟩, hvb, jr_6⟩, by rw [ht]; exact hP9, va_K.moved hW.alike hK9, hD9⟩, hS.F ht⟩) hS.2.2 dX7_view_70
        ·
          have ic_5 : p1.toInt = 1 := tx_eq rfl (by decide) c_5
          refine lv_aload hx hb dX7_view_35 (lv_at hl 0 rfl) ?_
          refine lv_iload hx hb dX7_view_37 (lv_at hl 5 rfl) ?_
          refine lv_iload_n hx hb dX7_view_39 rfl (lv_at hl 4 rfl) ?_
          have hPc := hP.sub (ws' := [(y0, .inr (6, [.ref x0, .int kd, .int wh, .int od, .int tu, .long lo, .long hi])), (x0, .inr (5, [.ref k0, .ref w0, .int (nI nz), .int ch])), (k0, .inl (ck, L, .inl f)), (w0, .inl (cw, L, .inl g))]) [2, 3, 4, 5] rfl
          have hKc := hK.sub (tys' := [(ck, .int), (cw, .int)]) [1, 2] rfl
          refine ro_calli (va_runV (As := [.int p3, .int p2]) (rest := []) ⟨hx, hb, hml, hown, hts⟩ (c_X6_isBefore l  dC dI s.heap.size y0 kd wh od tu lo hi x0 k0 w0 ck cw L f g nz ch p3 p2 hR9 ho1 ho2) (cwV 2 hts gX7_view_X6_isBefore rfl rfl rfl (by decide +kernel) ⟨(Nat.le_of_ble_eq_true rfl), (Nat.le_of_ble_eq_true rfl)⟩) ⟨pk_blindR, va_recv hKc hPc (ci := 6) (q0 := 0) rfl rfl, pk_callR hPc hKc⟩ rfl rfl hl.1 rfl (lv_room (Nat.le_of_ble_eq_true rfl)) dX7_view_40 ⟨(Nat.le_of_ble_eq_true rfl), (Nat.le_of_ble_eq_true rfl)⟩) (fun r_8 ur_8 hw => ?_)
          clear hPc hKc
          try dsimp only at hw
          have jr_8 := hw
          refine W.eq (g2 := F0 m 43 ls [.int r_8]) rfl ?_
          refine lv_if_eq (tgt := 56) hx hb dX7_view_43 (by decide) (fun c_9 => ?_) (fun c_9 => ?_)
          ·
            have ic_9 : r_8.toInt = 0 := tx_eq rfl (by decide) c_9
            refine lv_aload_n hx hb dX7_view_56 rfl (lv_at hl 1 rfl) ?_
            refine lv_aload hx hb dX7_view_57 (lv_at hl 0 rfl) ?_
            refine lv_iload_n hx hb dX7_view_59 rfl (lv_at hl 2 rfl) ?_
            refine lv_iload_n hx hb dX7_view_60 rfl (lv_at hl 3 rfl) ?_
            refine lv_iload_n hx hb dX7_view_61 rfl (lv_at hl 4 rfl) ?_
            refine lv_iload hx hb dX7_view_62 (lv_at hl 5 rfl) ?_
            have hvb : ¬ ((p1.toInt < 1 ∨ 4 < p1.toInt) ∨ (p1.toInt = 1 ∧ ((tu.toInt = 0 ∧ rkI od.toInt p3 < rkI od.toInt p2) ∨ (¬ tu.toInt = 0 ∧ rkI od.toInt p2 < rkI od.toInt p3)))) := fun h9 => by rcases h9 with h8 | ⟨h8, h7⟩; omega; have h6 := vw_no jr_8 ic_9; exact h6 h7
            have hPc := hP.sub (ws' := [(y0, .inr (6, [.ref x0, .int kd, .int wh, .int od, .int tu, .long lo, .long hi])), (x0, .inr (5, [.ref k0, .ref w0, .int (nI nz), .int ch])), (k0, .inl (ck, L, .inl f)), (w0, .inl (cw, L, .inl g))]) [2, 3, 4, 5] rfl
            have hDc := hD.sub (ws' := [(y0, .inr (6, [.ref x0, .int kd, .int wh, .int od, .int tu, .long lo, .long hi])), (x0, .inr (5, [.ref k0, .ref w0, .int (nI nz), .int ch])), (k0, .inl (ck, L, .inl f)), (w0, .inl (cw, L, .inl g))]) [2, 3, 4, 5] (by decide) rfl
            have hKc := hK.sub (tys' := [(ck, .int), (cw, .int)]) [1, 2] rfl
            have hFc := va_free (wc := [(y0, .inr (6, [.ref x0, .int kd, .int wh, .int od, .int tu, .long lo, .long hi])), (x0, .inr (5, [.ref k0, .ref w0, .int (nI nz), .int ch])), (k0, .inl (ck, L, .inl f)), (w0, .inl (cw, L, .inl g))]) hD hS hA [2, 3, 4, 5] rfl
            have hZc := (hZ.kept hS.2.1).narrow hFc
            refine va_callr (va_runV (As := [.int (nI o), .int p1, .int p2, .int p3]) (rest := [.ref a0]) ⟨hx, hb, hml, hown, hts⟩ (c_X6_part l hlt dC dI s.heap.size y0 kd wh od tu lo hi x0 k0 w0 ck cw L f g nz ch (nI o) p1 p2 p3 hR9 ho1 ho2 htu) (cwV 4 hts gX7_view_X6_part rfl rfl rfl (by decide +kernel) ⟨(Nat.le_of_ble_eq_true rfl), (Nat.le_of_ble_eq_true rfl)⟩) ⟨pk_blindX, va_recv hKc hPc (ci := 6) (q0 := 0) rfl rfl, pk_callX hPc hKc hDc hN hZc⟩ rfl rfl hl.1 rfl (lv_room (Nat.le_of_ble_eq_true rfl)) dX7_view_64 ⟨(Nat.le_of_ble_eq_true rfl), (Nat.le_of_ble_eq_true rfl)⟩) hS (fun q _ h => hFc q h) hFc (fun ur_10 r_10 t H1 locs ht hvm hw hB hz1 hk1 hS => ?_)
            try dsimp only at hw
            have jr_10 := hw
            obtain ⟨hP1, hK1, hD1⟩ := hB
            rw [ht] at hP1
            have hK1 := va_K.moved hvm.symm hK1
            obtain ⟨hP, hD⟩ := va_join (wr := [(a0, .inr (7, [.ref qb])), (qb, .inl (cq, 16, .inr (.inr (.inr (.inr bq)))))]) (w1 := [(y0, .inr (6, [.ref x0, .int kd, .int wh, .int od, .int tu, .long lo, .long hi])), (x0, .inr (5, [.ref k0, .ref w0, .int (nI nz), .int ch])), (k0, .inl (ck, L, .inl f)), (w0, .inl (cw, L, .inl g)), (r_10, .inr (6, [.ref x0, .int 3, .int (nI o), .int od, .int ur_10.1, .long ur_10.2.1, .long ur_10.2.2]))]) hP hD [2, 3, 4, 5] [0, 1] rfl rfl (by decide) (by decide) hk1 hFc hP1 hD1
            clear hk1 hz1 ht hPc hDc hKc hFc
            generalize H1 = H at hP hS ⊢
            replace hP : va_P (dC, dI) vwCl [(a0, .inr (7, [.ref qb])), (qb, .inl (cq, 16, .inr (.inr (.inr (.inr bq))))), (y0, .inr (6, [.ref x0, .int kd, .int wh, .int od, .int tu, .long lo, .long hi])), (x0, .inr (5, [.ref k0, .ref w0, .int (nI nz), .int ch])), (k0, .inl (ck, L, .inl f)), (w0, .inl (cw, L, .inl g)), (r_10, .inr (6, [.ref x0, .int 3, .int (nI o), .int od, .int ur_10.1, .long ur_10.2.1, .long ur_10.2.2]))] H := hP
            replace hD : va_D A [(a0, .inr (7, [.ref qb])), (qb, .inl (cq, 16, .inr (.inr (.inr (.inr bq))))), (y0, .inr (6, [.ref x0, .int kd, .int wh, .int od, .int tu, .long lo, .long hi])), (x0, .inr (5, [.ref k0, .ref w0, .int (nI nz), .int ch])), (k0, .inl (ck, L, .inl f)), (w0, .inl (cw, L, .inl g)), (r_10, .inr (6, [.ref x0, .int 3, .int (nI o), .int od, .int ur_10.1, .long ur_10.2.1, .long ur_10.2.2]))] := hD
            refine W.widen (k := 1) (n := 7) (Nat.le_of_ble_eq_true rfl) (Nat.le_of_ble_eq_true rfl) ?_
            refine W.eq (g2 := F0 m 67 ls [.ref r_10, .ref a0]) rfl ?_
            have hPc := hP.sub (ws' := [(a0, .inr (7, [.ref qb])), (qb, .inl (cq, 16, .inr (.inr (.inr (.inr bq))))), (r_10, .inr (6, [.ref x0, .int 3, .int (nI o), .int od, .int ur_10.1, .long ur_10.2.1, .long ur_10.2.2]))]) [0, 1, 6] rfl
            have hDc := hD.sub (ws' := [(a0, .inr (7, [.ref qb])), (qb, .inl (cq, 16, .inr (.inr (.inr (.inr bq))))), (r_10, .inr (6, [.ref x0, .int 3, .int (nI o), .int od, .int ur_10.1, .long ur_10.2.1, .long ur_10.2.2]))]) [0, 1, 6] (by decide) rfl
            have hKc := hK.sub (tys' := [(cq, .object "KeyAtlas$Body")]) [0] rfl
            have hFc := va_free (wc := [(a0, .inr (7, [.ref qb])), (qb, .inl (cq, 16, .inr (.inr (.inr (.inr bq))))), (r_10, .inr (6, [.ref x0, .int 3, .int (nI o), .int od, .int ur_10.1, .long ur_10.2.1, .long ur_10.2.2]))]) hD hS hA [0, 1, 6] rfl
            have hZc := (hZ.kept hS.2.1).narrow hFc
            refine vx_calli (vx_runV (As := [.ref r_10]) (rest := []) ⟨hx, hb, hml, hown, hts⟩ (c_X7_settle_S l hlt dC dI H.size a0 qb cq bq r_10 ([.ref x0, .int 3, .int (nI o), .int od, .int ur_10.1, .long ur_10.2.1, .long ur_10.2.2])) (cwV 1 hts gX7_view_X7_settle rfl rfl rfl (by decide +kernel) ⟨(Nat.le_of_ble_eq_true rfl), (Nat.le_of_ble_eq_true rfl)⟩) ⟨pk_blindX, va_recv hKc hPc (ci := 7) (q0 := 0) rfl rfl, pk_callX hPc hKc hDc hN hZc⟩ rfl rfl hl.1 rfl (lv_room (Nat.le_of_ble_eq_true rfl)) dX7_view_67 ⟨(Nat.le_of_ble_eq_true rfl), (Nat.le_of_ble_eq_true rfl)⟩) hS (fun q _ h => hFc q h) hFc (fun q _ h => hFc q h) (fun E ce q9 u9 t H1 locs ht hvm hw hB hz1 hk1 hS hce hcv hcl => ?_) (fun r_11 ur_11 t H1 locs ht hvm hw hB hz1 hk1 hS => ?_)
            ·
              try dsimp only at hB
              have hD9 := hD.sub (ws' := [(a0, .inr (7, [.ref qb])), (qb, .inl (cq, 16, .inr (.inr (.inr (.inr bq))))), (y0, .inr (6, [.ref x0, .int kd, .int wh, .int od, .int tu, .long lo, .long hi])), (x0, .inr (5, [.ref k0, .ref w0, .int (nI nz), .int ch])), (k0, .inl (ck, L, .inl f)), (w0, .inl (cw, L, .inl g))]) [0, 1, 2, 3, 4, 5] (by decide) rfl
              obtain ⟨⟨hE8, hf8⟩, hP8, hK8, hD8⟩ := hB
              rw [ht] at hP8
              obtain ⟨hP7, -⟩ := va_join (wr := [(y0, .inr (6, [.ref x0, .int kd, .int wh, .int od, .int tu, .long lo, .long hi])), (x0, .inr (5, [.ref k0, .ref w0, .int (nI nz), .int ch])), (k0, .inl (ck, L, .inl f)), (w0, .inl (cw, L, .inl g))]) (w1 := [(a0, .inr (7, [.ref qb])), (qb, .inl (cq, 16, .inr (.inr (.inr (.inr bq))))), (r_10, .inr (6, [.ref x0, .int 3, .int (nI o), .int od, .int ur_10.1, .long ur_10.2.1, .long ur_10.2.2]))]) hP hD [0, 1, 6] [2, 3, 4, 5] rfl rfl (by decide) (by decide) hk1 hFc hP8 hD8
              have hP6 := hP7.sub (ws' := [(a0, .inr (7, [.ref qb])), (qb, .inl (cq, 16, .inr (.inr (.inr (.inr bq))))), (y0, .inr (6, [.ref x0, .int kd, .int wh, .int od, .int tu, .long lo, .long hi])), (x0, .inr (5, [.ref k0, .ref w0, .int (nI nz), .int ch])), (k0, .inl (ck, L, .inl f)), (w0, .inl (cw, L, .inl g))]) [4, 5, 0, 1, 2, 3] rfl
              have hK6 := hK.sub (tys' := [(cq, .object "KeyAtlas$Body"), (ck, .int), (cw, .int)]) [0, 1, 2] rfl
              exact vx_out (fun x hx9 => (htab x hx9).elim) hlocks hce hcv hcl (fun t9 ht9 hal9 => ⟨(), trivial, ⟨Or.inr ⟨hE8, hvb, hf8⟩, by rw [ht9]; exact hP6, va_K.moved hal9 hK6, hD9⟩, hS.F ht9⟩) hS.2.2 (by omega) (by omega)
            ·
              try dsimp only at hw
              have jr_11 := hw
              obtain ⟨hP1, hK1, hD1⟩ := hB
              rw [ht] at hP1
              have hK1 := va_K.moved hvm.symm hK1
              obtain ⟨hP, hD⟩ := va_join (wr := [(y0, .inr (6, [.ref x0, .int kd, .int wh, .int od, .int tu, .long lo, .long hi])), (x0, .inr (5, [.ref k0, .ref w0, .int (nI nz), .int ch])), (k0, .inl (ck, L, .inl f)), (w0, .inl (cw, L, .inl g))]) (w1 := [(a0, .inr (7, [.ref qb])), (qb, .inl (cq, 16, .inr (.inr (.inr (.inr (va_up bq ur_11 (some r_10))))))), (r_10, .inr (6, [.ref x0, .int 3, .int (nI o), .int od, .int ur_10.1, .long ur_10.2.1, .long ur_10.2.2]))]) hP hD [0, 1, 6] [2, 3, 4, 5] rfl rfl (by decide) (by decide) hk1 hFc hP1 hD1
              clear hk1 hz1 ht hPc hDc hKc hFc
              generalize H1 = H at hP hS ⊢
              replace hP : va_P (dC, dI) vwCl [(y0, .inr (6, [.ref x0, .int kd, .int wh, .int od, .int tu, .long lo, .long hi])), (x0, .inr (5, [.ref k0, .ref w0, .int (nI nz), .int ch])), (k0, .inl (ck, L, .inl f)), (w0, .inl (cw, L, .inl g)), (a0, .inr (7, [.ref qb])), (qb, .inl (cq, 16, .inr (.inr (.inr (.inr (va_up bq ur_11 (some r_10))))))), (r_10, .inr (6, [.ref x0, .int 3, .int (nI o), .int od, .int ur_10.1, .long ur_10.2.1, .long ur_10.2.2]))] H := hP
              replace hD : va_D A [(y0, .inr (6, [.ref x0, .int kd, .int wh, .int od, .int tu, .long lo, .long hi])), (x0, .inr (5, [.ref k0, .ref w0, .int (nI nz), .int ch])), (k0, .inl (ck, L, .inl f)), (w0, .inl (cw, L, .inl g)), (a0, .inr (7, [.ref qb])), (qb, .inl (cq, 16, .inr (.inr (.inr (.inr (va_up bq ur_11 (some r_10))))))), (r_10, .inr (6, [.ref x0, .int 3, .int (nI o), .int od, .int ur_10.1, .long ur_10.2.1, .long ur_10.2.2]))] := hD
              refine W.widen (k := 2) (n := 13) (Nat.le_of_ble_eq_true rfl) (Nat.le_of_ble_eq_true rfl) ?_
              refine W.eq (g2 := F0 m 70 ls [.int r_11]) rfl ?_
              have hP9 := hP.sub (ws' := [(a0, .inr (7, [.ref qb])), (qb, .inl (cq, 16, .inr (.inr (.inr (.inr (va_up bq ur_11 (some r_10))))))), (y0, .inr (6, [.ref x0, .int kd, .int wh, .int od, .int tu, .long lo, .long hi])), (x0, .inr (5, [.ref k0, .ref w0, .int (nI nz), .int ch])), (k0, .inl (ck, L, .inl f)), (w0, .inl (cw, L, .inl g)), (r_10, .inr (6, [.ref x0, .int 3, .int (nI o), .int od, .int ur_10.1, .long ur_10.2.1, .long ur_10.2.2]))]) [4, 5, 0, 1, 2, 3, 6] rfl
              have hD9 := hD.sub (ws' := [(a0, .inr (7, [.ref qb])), (qb, .inl (cq, 16, .inr (.inr (.inr (.inr (va_up bq ur_11 (some r_10))))))), (y0, .inr (6, [.ref x0, .int kd, .int wh, .int od, .int tu, .long lo, .long hi])), (x0, .inr (5, [.ref k0, .ref w0, .int (nI nz), .int ch])), (k0, .inl (ck, L, .inl f)), (w0, .inl (cw, L, .inl g)), (r_10, .inr (6, [.ref x0, .int 3, .int (nI o), .int od, .int ur_10.1, .long ur_10.2.1, .long ur_10.2.2]))]) [4, 5, 0, 1, 2, 3, 6] (by decide) rfl
              have hK9 := hK.sub (tys' := [(cq, .object "KeyAtlas$Body"), (ck, .int), (cw, .int)]) [0, 1, 2] rfl
              refine W.widen (k := 4) (n := 26) (Nat.le_of_ble_eq_true rfl) (Nat.le_of_ble_eq_true rfl) ?_
              refine vx_ret ?_
              exact W.iret (v := r_11) hx hb hr (fun t ht hW => ⟨⟨r_11, (ur_11, r_10, ur_10), rfl, ⟨⟨jr_11.1, jr_11.2.1, jr_11.2.2.1, jr_11.2.2.2⟩, hvb, jr_10⟩, by rw [ht]; exact hP9, va_K.moved hW.alike hK9, hD9⟩, hS.F ht⟩) hS.2.2 dX7_view_70
          ·
            have ic_9 : ¬ r_8.toInt = 0 := tx_ne rfl (by decide) c_9
            have hP9 := hP.sub (ws' := [(a0, .inr (7, [.ref qb])), (qb, .inl (cq, 16, .inr (.inr (.inr (.inr bq))))), (y0, .inr (6, [.ref x0, .int kd, .int wh, .int od, .int tu, .long lo, .long hi])), (x0, .inr (5, [.ref k0, .ref w0, .int (nI nz), .int ch])), (k0, .inl (ck, L, .inl f)), (w0, .inl (cw, L, .inl g))]) [0, 1, 2, 3, 4, 5] rfl
            have hD9 := hD.sub (ws' := [(a0, .inr (7, [.ref qb])), (qb, .inl (cq, 16, .inr (.inr (.inr (.inr bq))))), (y0, .inr (6, [.ref x0, .int kd, .int wh, .int od, .int tu, .long lo, .long hi])), (x0, .inr (5, [.ref k0, .ref w0, .int (nI nz), .int ch])), (k0, .inl (ck, L, .inl f)), (w0, .inl (cw, L, .inl g))]) [0, 1, 2, 3, 4, 5] (by decide) rfl
            have hK9 := hK.sub (tys' := [(cq, .object "KeyAtlas$Body"), (ck, .int), (cw, .int)]) [0, 1, 2] rfl
            obtain ⟨sa, hsa⟩ := hN.stX7_151
            exact vx_throwS hx hb hlt (own := RX7) (cls := "java/lang/IllegalArgumentException") (text := "b before a") (names := ["java/lang/RuntimeException", "java/lang/Exception"]) hown (by decide +kernel) (by decide +kernel) hw0_ hw1_ hsa (tx_hat hN.xw (fun w h => hts w (at_X7_view_46 w h)) ng_RX7_19) og_RX7_19 hZ.1 hZ.2 hS (by rw [hml]; exact hl.1) dX7_view_46 dX7_view_49 dX7_view_50 dX7_view_52 dX7_view_55 (fun x hx9 => (htab x hx9).elim) (Nat.le_of_ble_eq_true rfl) (Nat.le_of_ble_eq_true rfl) (Nat.le_of_ble_eq_true rfl) (Nat.le_of_ble_eq_true rfl) hlocks (fun t hvm hz hq => ⟨(), trivial, ⟨Or.inl ⟨rfl, Or.inr ⟨by omega, vw_yes jr_8 ic_9⟩⟩, hP9.kept (fun k x hx => hq x.1 (hP9 k x hx).lt), va_K.moved hvm hK9, hD9⟩, ⟨Nat.le_trans hS.1 hz, fun q h1 h2 => (hq q (Nat.lt_of_lt_of_le h1 hS.1)).trans (hS.2.1 q h1 h2)⟩⟩) hS.2.2 (Nat.le_of_ble_eq_true rfl) (Nat.le_of_ble_eq_true rfl)
      ·
        have ic_4 : 4 < p1.toInt := tx_nle rfl (by decide) c_4
        have hP9 := hP.sub (ws' := [(a0, .inr (7, [.ref qb])), (qb, .inl (cq, 16, .inr (.inr (.inr (.inr bq))))), (y0, .inr (6, [.ref x0, .int kd, .int wh, .int od, .int tu, .long lo, .long hi])), (x0, .inr (5, [.ref k0, .ref w0, .int (nI nz), .int ch])), (k0, .inl (ck, L, .inl f)), (w0, .inl (cw, L, .inl g))]) [0, 1, 2, 3, 4, 5] rfl
        have hD9 := hD.sub (ws' := [(a0, .inr (7, [.ref qb])), (qb, .inl (cq, 16, .inr (.inr (.inr (.inr bq))))), (y0, .inr (6, [.ref x0, .int kd, .int wh, .int od, .int tu, .long lo, .long hi])), (x0, .inr (5, [.ref k0, .ref w0, .int (nI nz), .int ch])), (k0, .inl (ck, L, .inl f)), (w0, .inl (cw, L, .inl g))]) [0, 1, 2, 3, 4, 5] (by decide) rfl
        have hK9 := hK.sub (tys' := [(cq, .object "KeyAtlas$Body"), (ck, .int), (cw, .int)]) [0, 1, 2] rfl
        obtain ⟨sa, hsa⟩ := hN.stX7_144
        exact vx_throwS hx hb hlt (own := RX7) (cls := "java/lang/IllegalArgumentException") (text := "no such kind of view") (names := ["java/lang/RuntimeException", "java/lang/Exception"]) hown (by decide +kernel) (by decide +kernel) hw0_ hw1_ hsa (tx_hat hN.xw (fun w h => hts w (at_X7_view_20 w h)) ng_RX7_19) og_RX7_19 hZ.1 hZ.2 hS (by rw [hml]; exact hl.1) dX7_view_20 dX7_view_23 dX7_view_24 dX7_view_26 dX7_view_29 (fun x hx9 => (htab x hx9).elim) (Nat.le_of_ble_eq_true rfl) (Nat.le_of_ble_eq_true rfl) (Nat.le_of_ble_eq_true rfl) (Nat.le_of_ble_eq_true rfl) hlocks (fun t hvm hz hq => ⟨(), trivial, ⟨Or.inl ⟨rfl, Or.inl (by omega)⟩, hP9.kept (fun k x hx => hq x.1 (hP9 k x hx).lt), va_K.moved hvm hK9, hD9⟩, ⟨Nat.le_trans hS.1 hz, fun q h1 h2 => (hq q (Nat.lt_of_lt_of_le h1 hS.1)).trans (hS.2.1 q h1 h2)⟩⟩) hS.2.2 (Nat.le_of_ble_eq_true rfl) (Nat.le_of_ble_eq_true rfl)
