
set_option maxHeartbeats 4000000 in
set_option maxRecDepth 100000 in
/-- move over S -/
theorem c_X7_move_S (l : Launch) (hlt : l.stackTraces = false) (dC : Nat → ClassId) (dI : Nat → Nat → Nat) (sz : Nat) (a0 : Nat) (qb : Nat) (cq : ClassId) (bq : Nat → Option Nat) (o : Nat) (z0 : Nat) (kdc : Int32) (whc : Int32) (nx : Int32) (ps : Int32) (se : Int32) (y0 : Nat) (kd : Int32) (wh : Int32) (od : Int32) (tu : Int32) (lo : Int64) (hi : Int64) (x0 : Nat) (k0 : Nat) (w0 : Nat) (ck : ClassId) (cw : ClassId) (L : Nat) (f : Nat → Int32) (g : Nat → Int32) (nz : Nat) (ch : Int32) (p1 : Int32) (p2 : Int32) (ho9 : o < 16) (hbo : bq o = some z0) (hR9 : rOK L nz) (ho1 : 0 ≤ od.toInt) (ho2 : od.toInt ≤ 3) : vx_Met l yX7_move wqX7_move ({ frames := 9, cells := 2, slots := 12, locals := 330 }) (va_Pc [.ref a0, .int (nI o), .int p1, .int p2] (pk_PreX (dC, dI) [(a0, .inr (7, [.ref qb])), (qb, .inl (cq, 16, .inr (.inr (.inr (.inr bq))))), (z0, .inr (2, [.int kdc, .int whc, .ref y0, .int nx, .int ps, .int se])), (y0, .inr (6, [.ref x0, .int kd, .int wh, .int od, .int tu, .long lo, .long hi])), (x0, .inr (5, [.ref k0, .ref w0, .int (nI nz), .int ch])), (k0, .inl (ck, L, .inl f)), (w0, .inl (cw, L, .inl g))] [(cq, .object "KeyAtlas$Body"), (ck, .int), (cw, .int)] sz)) (va_Ql (fun (x : Int64) (u : Int32 × Int32 × Int32 × (Nat → Int32) × (Nat → Int32) × Nat × Int32) => u.2.2.2.2.2.1 ≤ nz) (fun (u : Int32 × Int32 × Int32 × (Nat → Int32) × (Nat → Int32) × Nat × Int32) (t : State) => va_P (dC, dI) vwCl [(a0, .inr (7, [.ref qb])), (qb, .inl (cq, 16, .inr (.inr (.inr (.inr bq))))), (z0, .inr (2, [.int kdc, .int whc, .ref y0, .int u.1, .int u.2.1, .int u.2.2.1])), (y0, .inr (6, [.ref x0, .int kd, .int wh, .int od, .int tu, .long lo, .long hi])), (x0, .inr (5, [.ref k0, .ref w0, .int (nI (u.2.2.2.2.2.1)), .int u.2.2.2.2.2.2])), (k0, .inl (ck, L, .inl u.2.2.2.1)), (w0, .inl (cw, L, .inl u.2.2.2.2.1))] t.heap ∧ va_K (dC, dI) vwCl [(cq, .object "KeyAtlas$Body"), (ck, .int), (cw, .int)] t ∧ va_D (va_A [(a0, .inr (7, [.ref qb])), (qb, .inl (cq, 16, .inr (.inr (.inr (.inr bq))))), (z0, .inr (2, [.int kdc, .int whc, .ref y0, .int nx, .int ps, .int se])), (y0, .inr (6, [.ref x0, .int kd, .int wh, .int od, .int tu, .long lo, .long hi])), (x0, .inr (5, [.ref k0, .ref w0, .int (nI nz), .int ch])), (k0, .inl (ck, L, .inl f)), (w0, .inl (cw, L, .inl g))] sz) [(a0, .inr (7, [.ref qb])), (qb, .inl (cq, 16, .inr (.inr (.inr (.inr bq))))), (z0, .inr (2, [.int kdc, .int whc, .ref y0, .int u.1, .int u.2.1, .int u.2.2.1])), (y0, .inr (6, [.ref x0, .int kd, .int wh, .int od, .int tu, .long lo, .long hi])), (x0, .inr (5, [.ref k0, .ref w0, .int (nI (u.2.2.2.2.2.1)), .int u.2.2.2.2.2.2])), (k0, .inl (ck, L, .inl u.2.2.2.1)), (w0, .inl (cw, L, .inl u.2.2.2.2.1))]) (va_A [(a0, .inr (7, [.ref qb])), (qb, .inl (cq, 16, .inr (.inr (.inr (.inr bq))))), (z0, .inr (2, [.int kdc, .int whc, .ref y0, .int nx, .int ps, .int se])), (y0, .inr (6, [.ref x0, .int kd, .int wh, .int od, .int tu, .long lo, .long hi])), (x0, .inr (5, [.ref k0, .ref w0, .int (nI nz), .int ch])), (k0, .inl (ck, L, .inl f)), (w0, .inl (cw, L, .inl g))] sz)) (vx_X (fun _ : Unit => True) (fun (E : String) (_ : Unit) (t : State) => (E = "java/lang/IllegalArgumentException" ∨ E = "java/lang/IllegalStateException" ∨ E = "java/util/NoSuchElementException") ∧ va_P (dC, dI) vwCl [(a0, .inr (7, [.ref qb])), (qb, .inl (cq, 16, .inr (.inr (.inr (.inr bq))))), (z0, .inr (2, [.int kdc, .int whc, .ref y0, .int nx, .int ps, .int se])), (y0, .inr (6, [.ref x0, .int kd, .int wh, .int od, .int tu, .long lo, .long hi])), (x0, .inr (5, [.ref k0, .ref w0, .int (nI nz), .int ch])), (k0, .inl (ck, L, .inl f)), (w0, .inl (cw, L, .inl g))] t.heap ∧ va_K (dC, dI) vwCl [(cq, .object "KeyAtlas$Body"), (ck, .int), (cw, .int)] t ∧ va_D (va_A [(a0, .inr (7, [.ref qb])), (qb, .inl (cq, 16, .inr (.inr (.inr (.inr bq))))), (z0, .inr (2, [.int kdc, .int whc, .ref y0, .int nx, .int ps, .int se])), (y0, .inr (6, [.ref x0, .int kd, .int wh, .int od, .int tu, .long lo, .long hi])), (x0, .inr (5, [.ref k0, .ref w0, .int (nI nz), .int ch])), (k0, .inl (ck, L, .inl f)), (w0, .inl (cw, L, .inl g))] sz) [(a0, .inr (7, [.ref qb])), (qb, .inl (cq, 16, .inr (.inr (.inr (.inr bq))))), (z0, .inr (2, [.int kdc, .int whc, .ref y0, .int nx, .int ps, .int se])), (y0, .inr (6, [.ref x0, .int kd, .int wh, .int od, .int tu, .long lo, .long hi])), (x0, .inr (5, [.ref k0, .ref w0, .int (nI nz), .int ch])), (k0, .inl (ck, L, .inl f)), (w0, .inl (cw, L, .inl g))]) (va_A [(a0, .inr (7, [.ref qb])), (qb, .inl (cq, 16, .inr (.inr (.inr (.inr bq))))), (z0, .inr (2, [.int kdc, .int whc, .ref y0, .int nx, .int ps, .int se])), (y0, .inr (6, [.ref x0, .int kd, .int wh, .int od, .int tu, .long lo, .long hi])), (x0, .inr (5, [.ref k0, .ref w0, .int (nI nz), .int ch])), (k0, .inl (ck, L, .inl f)), (w0, .inl (cw, L, .inl g))] sz)) 2 12 (va_A [(a0, .inr (7, [.ref qb])), (qb, .inl (cq, 16, .inr (.inr (.inr (.inr bq))))), (z0, .inr (2, [.int kdc, .int whc, .ref y0, .int nx, .int ps, .int se])), (y0, .inr (6, [.ref x0, .int kd, .int wh, .int od, .int tu, .long lo, .long hi])), (x0, .inr (5, [.ref k0, .ref w0, .int (nI nz), .int ch])), (k0, .inl (ck, L, .inl f)), (w0, .inl (cw, L, .inl g))] sz) := by
  refine vx_ofW (cc := cX7_move) (maxL := 5) (ret := (some .long)) (by decide) rfl ?_
  intro p e s m args below meth c s₁ B hml htab hv
  obtain ⟨rfl, hsz, hP, hK, hD0, hN, hZ⟩ := hv
  have hx := B.exec
  have hb := B.bytes
  have hr := B.returns
  have hts := atoms_spec (ws := wqX7_move) B.pre
  have hown : s.vm.findClass RX7 = some m.cls := findClass_of_methodNamed B.named
  have hlocks := B.notSynchronized
  subst hsz
  have hD := hD0.self (sz := s.heap.size)
  generalize hAe : va_A [(a0, .inr (7, [.ref qb])), (qb, .inl (cq, 16, .inr (.inr (.inr (.inr bq))))), (z0, .inr (2, [.int kdc, .int whc, .ref y0, .int nx, .int ps, .int se])), (y0, .inr (6, [.ref x0, .int kd, .int wh, .int od, .int tu, .long lo, .long hi])), (x0, .inr (5, [.ref k0, .ref w0, .int (nI nz), .int ch])), (k0, .inl (ck, L, .inl f)), (w0, .inl (cw, L, .inl g))] s.heap.size = A at hZ hD ⊢
  have hA : ∀ q : Nat, s.heap.size ≤ q → A q := fun q h => by rw [← hAe]; exact Or.inr h
  have hS : va_S A s.heap s.heap [] := va_S.rf
  have hP : va_P (dC, dI) vwCl [(a0, .inr (7, [.ref qb])), (qb, .inl (cq, 16, .inr (.inr (.inr (.inr bq))))), (z0, .inr (2, [.int kdc, .int whc, .ref y0, .int nx, .int ps, .int se])), (y0, .inr (6, [.ref x0, .int kd, .int wh, .int od, .int tu, .long lo, .long hi])), (x0, .inr (5, [.ref k0, .ref w0, .int (nI nz), .int ch])), (k0, .inl (ck, L, .inl f)), (w0, .inl (cw, L, .inl g))] s.heap := hP
  have hl := lv_entry ([.ref a0, .int (nI o), .int p1, .int p2]) (n := 5) (Nat.le_of_ble_eq_true rfl)
  rw [lg_entry_eq]
  generalize (lg_sl ([.ref a0, .int (nI o), .int p1, .int p2]) ++ List.replicate (5 - (lg_sl ([.ref a0, .int (nI o), .int p1, .int p2])).length) Slot.unset).toArray = ls at hl ⊢
  have hl : lv_has ls 5 [(0, .ref a0), (1, .int (nI o)), (2, .int p1), (3, .int p2)] := hl
  have hw0_ := hts (.classLink RX7 15 "java/lang/IllegalArgumentException") (List.mem_of_getElem? (l := wqX7_move) (i := 1) rfl)
  have hw1_ := hts (.initialized "java/lang/IllegalArgumentException") (List.mem_of_getElem? (l := wqX7_move) (i := 2) rfl)
  have hw2_ := hts (.classLink RX7 170 "java/lang/IllegalStateException") (List.mem_of_getElem? (l := wqX7_move) (i := 3) rfl)
  have hw3_ := hts (.initialized "java/lang/IllegalStateException") (List.mem_of_getElem? (l := wqX7_move) (i := 4) rfl)
  obtain ⟨hL1, hL2, hz1, hz2⟩ := id hR9
  refine lv_aload_n hx hb dX7_move_0 rfl (lv_at hl 0 rfl) ?_
  refine lv_iload_n hx hb dX7_move_1 rfl (lv_at hl 1 rfl) ?_
  have hPc := hP.sub (ws' := [(a0, .inr (7, [.ref qb])), (qb, .inl (cq, 16, .inr (.inr (.inr (.inr bq)))))]) [0, 1] rfl
  have hKc := hK.sub (tys' := [(cq, .object "KeyAtlas$Body")]) [0] rfl
  refine rox_callr (B := (fun (_ : Unit) (a : Nat) (t : State) => t.heap.size = s.heap.size ∧ ∃ j : Nat, j < 16 ∧ nI o = nI j ∧ bq j = some a)) (fun u9 x9 t9 h9 => h9.1) (vx_runV (As := [.int (nI o)]) (rest := []) ⟨hx, hb, hml, hown, hts⟩ (c_X7_bodyAt l hlt dC dI s.heap.size a0 qb cq bq (nI o)) (cwV 1 hts gX7_move_X7_bodyAt rfl rfl rfl (by decide +kernel) ⟨(Nat.le_of_ble_eq_true rfl), (Nat.le_of_ble_eq_true rfl)⟩) ⟨pk_blindXR, va_recv hKc hPc (ci := 7) (q0 := 0) rfl rfl, pk_callXR hPc hKc hN ((hZ.kept hS.2.1).narrow (fun q h9 => hA q (Nat.le_trans hS.1 h9)))⟩ rfl rfl hl.1 rfl (lv_room (Nat.le_of_ble_eq_true rfl)) dX7_move_2 ⟨(Nat.le_of_ble_eq_true rfl), (Nat.le_of_ble_eq_true rfl)⟩) hS (fun q h9 => hA q (Nat.le_trans hS.1 h9)) (fun E ce q9 u9 t H1 locs ht hvm hw hB hz1 hk1 hS hce hcv hcl => ?_) (fun r_1 ur_1 t9 locs hw hB9 hS => ?_)
  ·
    try dsimp only at hB
    exact bq_no ho9 hbo hB.2
  ·
    refine W.tight (k := 0) (n := 0) (Nat.le_refl _) (Nat.le_refl _) ?_
    clear hPc hKc
    try dsimp only at hw
    have jr_1 := hw
    refine W.eq (g2 := F0 m 5 ls [.ref z0]) (by rw [show r_1 = z0 from bq_is ho9 hbo hB9.2]) ?_
    have hPc := hP.sub (ws' := [(z0, .inr (2, [.int kdc, .int whc, .ref y0, .int nx, .int ps, .int se]))]) [2] rfl
    have hKc := hK.sub (tys' := []) [] rfl
    refine ro_callr (B := (fun (_ : Unit) (a : Nat) (t : State) => t.heap.size = s.heap.size ∧ a = z0)) (fun u9 x9 t9 h9 => h9.1) (va_runS (As := [.ref z0]) (rest := []) ⟨hx, hb, hml, hown, hts⟩ (c_X7_asCursor_C l hlt dC dI s.heap.size z0 ([.int kdc, .int whc, .ref y0, .int nx, .int ps, .int se])) (va_cwS 1 hts gX7_move_X7_asCursor rfl rfl rfl (by decide +kernel) ⟨(Nat.le_of_ble_eq_true rfl), (Nat.le_of_ble_eq_true rfl)⟩) ⟨pk_blindRX, pk_callRX hPc hKc hN⟩ rfl rfl hl.1 rfl (lv_room (Nat.le_of_ble_eq_true rfl)) dX7_move_5 ⟨(Nat.le_of_ble_eq_true rfl), (Nat.le_of_ble_eq_true rfl)⟩) (fun r_2 ur_2 t9 hw hB9 => ?_)
    clear hPc hKc
    try dsimp only at hw
    have jr_2 := hw
    refine W.eq (g2 := F0 m 8 ls [.ref z0]) (by rw [show r_2 = z0 from hB9.2]) ?_
    refine lv_astore (lv' := [(4, .ref z0), (0, .ref a0), (1, .int (nI o)), (2, .int p1), (3, .int p2)]) hx hb dX7_move_8 hl (by decide) rfl (fun ls hl => ?_)
    refine lv_iload_n hx hb dX7_move_10 rfl (lv_at hl 3 rfl) ?_
    refine lv_if_lt (tgt := 19) hx hb dX7_move_11 (by decide) (fun c_3 => ?_) (fun c_3 => ?_)
    ·
      have ic_3 : p1.toInt < 0 := tx_lt rfl (by decide) c_3
      have hP9 := hP.sub (ws' := [(a0, .inr (7, [.ref qb])), (qb, .inl (cq, 16, .inr (.inr (.inr (.inr bq))))), (z0, .inr (2, [.int kdc, .int whc, .ref y0, .int nx, .int ps, .int se])), (y0, .inr (6, [.ref x0, .int kd, .int wh, .int od, .int tu, .long lo, .long hi])), (x0, .inr (5, [.ref k0, .ref w0, .int (nI nz), .int ch])), (k0, .inl (ck, L, .inl f)), (w0, .inl (cw, L, .inl g))]) [0, 1, 2, 3, 4, 5, 6] rfl
      have hD9 := hD.sub (ws' := [(a0, .inr (7, [.ref qb])), (qb, .inl (cq, 16, .inr (.inr (.inr (.inr bq))))), (z0, .inr (2, [.int kdc, .int whc, .ref y0, .int nx, .int ps, .int se])), (y0, .inr (6, [.ref x0, .int kd, .int wh, .int od, .int tu, .long lo, .long hi])), (x0, .inr (5, [.ref k0, .ref w0, .int (nI nz), .int ch])), (k0, .inl (ck, L, .inl f)), (w0, .inl (cw, L, .inl g))]) [0, 1, 2, 3, 4, 5, 6] (by decide) rfl
      have hK9 := hK.sub (tys' := [(cq, .object "KeyAtlas$Body"), (ck, .int), (cw, .int)]) [0, 1, 2] rfl
      obtain ⟨sa, hsa⟩ := hN.stX7_53
      exact vx_throwS hx hb hlt (own := RX7) (cls := "java/lang/IllegalArgumentException") (text := "no such op") (names := ["java/lang/RuntimeException", "java/lang/Exception"]) hown (by decide +kernel) (by decide +kernel) hw0_ hw1_ hsa (tx_hat hN.xw (fun w h => hts w (at_X7_move_19 w h)) ng_RX7_19) og_RX7_19 hZ.1 hZ.2 hS (by rw [hml]; exact hl.1) dX7_move_19 dX7_move_22 dX7_move_23 dX7_move_25 dX7_move_28 (fun x hx9 => (htab x hx9).elim) (Nat.le_of_ble_eq_true rfl) (Nat.le_of_ble_eq_true rfl) (Nat.le_of_ble_eq_true rfl) (Nat.le_of_ble_eq_true rfl) hlocks (fun t hvm hz hq => ⟨(), trivial, ⟨Or.inl rfl, hP9.kept (fun k x hx => hq x.1 (hP9 k x hx).lt), va_K.moved hvm hK9, hD9⟩, ⟨Nat.le_trans hS.1 hz, fun q h1 h2 => (hq q (Nat.lt_of_lt_of_le h1 hS.1)).trans (hS.2.1 q h1 h2)⟩⟩) hS.2.2 (Nat.le_of_ble_eq_true rfl) (Nat.le_of_ble_eq_true rfl)
    ·
      have ic_3 : 0 ≤ p1.toInt := tx_nlt rfl (by decide) c_3
      refine lv_iload_n hx hb dX7_move_14 rfl (lv_at hl 3 rfl) ?_
      refine lv_iconst (v := 4) hx hb dX7_move_15 (by decide) ?_
      refine lv_icmp_le (tgt := 29) hx hb dX7_move_16 (by decide) (fun c_4 => ?_) (fun c_4 => ?_)
      ·
        have ic_4 : p1.toInt ≤ 4 := tx_le rfl (by decide) c_4
        refine lv_aload hx hb dX7_move_29 (lv_at hl 0 rfl) ?_
        have hPc := hP.sub (ws' := [(z0, .inr (2, [.int kdc, .int whc, .ref y0, .int nx, .int ps, .int se])), (y0, .inr (6, [.ref x0, .int kd, .int wh, .int od, .int tu, .long lo, .long hi])), (x0, .inr (5, [.ref k0, .ref w0, .int (nI nz), .int ch])), (k0, .inl (ck, L, .inl f)), (w0, .inl (cw, L, .inl g))]) [2, 3, 4, 5, 6] rfl
        have hKc := hK.sub (tys' := [(ck, .int), (cw, .int)]) [1, 2] rfl
        refine ro_calli (va_runV (As := []) (rest := []) ⟨hx, hb, hml, hown, hts⟩ (c_X1_isStale_S l hlt dC dI s.heap.size z0 kdc whc nx ps se y0 kd wh od tu lo hi x0 k0 w0 ck cw L f g nz ch hR9 ho1 ho2) (cwV 0 hts gX7_move_X1_isStale rfl rfl rfl (by decide +kernel) ⟨(Nat.le_of_ble_eq_true rfl), (Nat.le_of_ble_eq_true rfl)⟩) ⟨pk_blindRX, va_recv hKc hPc (ci := 2) (q0 := 0) rfl rfl, pk_callRX hPc hKc hN⟩ rfl rfl hl.1 rfl (lv_room (Nat.le_of_ble_eq_true rfl)) dX7_move_31 ⟨(Nat.le_of_ble_eq_true rfl), (Nat.le_of_ble_eq_true rfl)⟩) (fun r_5 ur_5 hw => ?_)
        clear hPc hKc
        try dsimp only at hw
        have jr_5 := hw
        refine W.eq (g2 := F0 m 34 ls [.int r_5]) rfl ?_
        refine lv_if_eq (tgt := 47) hx hb dX7_move_34 (by decide) (fun c_6 => ?_) (fun c_6 => ?_)
        ·
          have ic_6 : r_5.toInt = 0 := tx_eq rfl (by decide) c_6
          refine lv_iload_n hx hb dX7_move_47 rfl (lv_at hl 3 rfl) ?_
          by_cases c_7 : p1 = 0
          ·
            have ic_7 : p1.toInt = 0 := tx_eq rfl (by decide) c_7
            refine lv_tableIn (off := 32) (tgt := 80) hx hb dX7_move_48 (by rw [c_7]; decide) (by rw [c_7]; decide) (by rw [c_7]; rfl) (by decide) ?_
            refine lv_aload hx hb dX7_move_80 (lv_at hl 0 rfl) ?_
            have hPc := hP.sub (ws' := [(z0, .inr (2, [.int kdc, .int whc, .ref y0, .int nx, .int ps, .int se])), (y0, .inr (6, [.ref x0, .int kd, .int wh, .int od, .int tu, .long lo, .long hi])), (x0, .inr (5, [.ref k0, .ref w0, .int (nI nz), .int ch])), (k0, .inl (ck, L, .inl f)), (w0, .inl (cw, L, .inl g))]) [2, 3, 4, 5, 6] rfl
            have hDc := hD.sub (ws' := [(z0, .inr (2, [.int kdc, .int whc, .ref y0, .int nx, .int ps, .int se])), (y0, .inr (6, [.ref x0, .int kd, .int wh, .int od, .int tu, .long lo, .long hi])), (x0, .inr (5, [.ref k0, .ref w0, .int (nI nz), .int ch])), (k0, .inl (ck, L, .inl f)), (w0, .inl (cw, L, .inl g))]) [2, 3, 4, 5, 6] (by decide) rfl
            have hKc := hK.sub (tys' := [(ck, .int), (cw, .int)]) [1, 2] rfl
            have hFc := va_free (wc := [(z0, .inr (2, [.int kdc, .int whc, .ref y0, .int nx, .int ps, .int se])), (y0, .inr (6, [.ref x0, .int kd, .int wh, .int od, .int tu, .long lo, .long hi])), (x0, .inr (5, [.ref k0, .ref w0, .int (nI nz), .int ch])), (k0, .inl (ck, L, .inl f)), (w0, .inl (cw, L, .inl g))]) hD hS hA [2, 3, 4, 5, 6] rfl
            have hZc := (hZ.kept hS.2.1).narrow hFc
            refine vx_calll (vx_runV (As := []) (rest := []) ⟨hx, hb, hml, hown, hts⟩ (c_X1_pass_S l hlt dC dI s.heap.size z0 kdc whc nx ps se y0 kd wh od tu lo hi x0 k0 w0 ck cw L f g nz ch hR9 ho1 ho2) (cwV 0 hts gX7_move_X1_pass rfl rfl rfl (by decide +kernel) ⟨(Nat.le_of_ble_eq_true rfl), (Nat.le_of_ble_eq_true rfl)⟩) ⟨pk_blindX, va_recv hKc hPc (ci := 2) (q0 := 0) rfl rfl, pk_callX hPc hKc hDc hN hZc⟩ rfl rfl hl.1 rfl (lv_room (Nat.le_of_ble_eq_true rfl)) dX7_move_82 ⟨(Nat.le_of_ble_eq_true rfl), (Nat.le_of_ble_eq_true rfl)⟩) hS (fun q _ h => hFc q h) hFc (fun q _ h => hFc q h) (fun E ce q9 u9 t H1 locs ht hvm hw hB hz1 hk1 hS hce hcv hcl => ?_) (fun r_8 ur_8 t H1 locs ht hvm hw hB hz1 hk1 hS => ?_)
            ·
              try dsimp only at hB
              obtain ⟨hE8, hP8, hK8, hD8⟩ := hB
              rw [ht] at hP8
              obtain ⟨hP7, -⟩ := va_join (wr := [(a0, .inr (7, [.ref qb])), (qb, .inl (cq, 16, .inr (.inr (.inr (.inr bq)))))]) (w1 := [(z0, .inr (2, [.int kdc, .int whc, .ref y0, .int nx, .int ps, .int se])), (y0, .inr (6, [.ref x0, .int kd, .int wh, .int od, .int tu, .long lo, .long hi])), (x0, .inr (5, [.ref k0, .ref w0, .int (nI nz), .int ch])), (k0, .inl (ck, L, .inl f)), (w0, .inl (cw, L, .inl g))]) hP hD [2, 3, 4, 5, 6] [0, 1] rfl rfl (by decide) (by decide) hk1 hFc hP8 hD8
              have hP6 := hP7.sub (ws' := [(a0, .inr (7, [.ref qb])), (qb, .inl (cq, 16, .inr (.inr (.inr (.inr bq))))), (z0, .inr (2, [.int kdc, .int whc, .ref y0, .int nx, .int ps, .int se])), (y0, .inr (6, [.ref x0, .int kd, .int wh, .int od, .int tu, .long lo, .long hi])), (x0, .inr (5, [.ref k0, .ref w0, .int (nI nz), .int ch])), (k0, .inl (ck, L, .inl f)), (w0, .inl (cw, L, .inl g))]) [0, 1, 2, 3, 4, 5, 6] rfl
              exact vx_out (fun x hx9 => (htab x hx9).elim) hlocks hce hcv hcl (fun t9 ht9 hal9 => ⟨(), trivial, ⟨Or.inr (Or.inr hE8), by rw [ht9]; exact hP6, va_K.moved hal9 hK, hD⟩, hS.F ht9⟩) hS.2.2 (by omega) (by omega)
            ·
              try dsimp only at hw
              have jr_8 := hw
              obtain ⟨hP1, hK1, hD1⟩ := hB
              rw [ht] at hP1
              have hK1 := va_K.moved hvm.symm hK1
              obtain ⟨hP, hD⟩ := va_join (wr := [(a0, .inr (7, [.ref qb])), (qb, .inl (cq, 16, .inr (.inr (.inr (.inr bq)))))]) (w1 := [(z0, .inr (2, [.int kdc, .int whc, .ref y0, .int ur_8.1, .int ur_8.2, .int se])), (y0, .inr (6, [.ref x0, .int kd, .int wh, .int od, .int tu, .long lo, .long hi])), (x0, .inr (5, [.ref k0, .ref w0, .int (nI nz), .int ch])), (k0, .inl (ck, L, .inl f)), (w0, .inl (cw, L, .inl g))]) hP hD [2, 3, 4, 5, 6] [0, 1] rfl rfl (by decide) (by decide) hk1 hFc hP1 hD1
              clear hk1 hz1 ht hPc hDc hKc hFc
              generalize H1 = H at hP hS ⊢
              replace hP : va_P (dC, dI) vwCl [(a0, .inr (7, [.ref qb])), (qb, .inl (cq, 16, .inr (.inr (.inr (.inr bq))))), (z0, .inr (2, [.int kdc, .int whc, .ref y0, .int ur_8.1, .int ur_8.2, .int se])), (y0, .inr (6, [.ref x0, .int kd, .int wh, .int od, .int tu, .long lo, .long hi])), (x0, .inr (5, [.ref k0, .ref w0, .int (nI nz), .int ch])), (k0, .inl (ck, L, .inl f)), (w0, .inl (cw, L, .inl g))] H := hP
              replace hD : va_D A [(a0, .inr (7, [.ref qb])), (qb, .inl (cq, 16, .inr (.inr (.inr (.inr bq))))), (z0, .inr (2, [.int kdc, .int whc, .ref y0, .int ur_8.1, .int ur_8.2, .int se])), (y0, .inr (6, [.ref x0, .int kd, .int wh, .int od, .int tu, .long lo, .long hi])), (x0, .inr (5, [.ref k0, .ref w0, .int (nI nz), .int ch])), (k0, .inl (ck, L, .inl f)), (w0, .inl (cw, L, .inl g))] := hD
              refine W.widen (k := 1) (n := 6) (Nat.le_of_ble_eq_true rfl) (Nat.le_of_ble_eq_true rfl) ?_
              refine W.eq (g2 := F0 m 85 ls [.long r_8]) rfl ?_
              have hpost : nz ≤ nz := by omega
              have hP9 := hP.sub (ws' := [(a0, .inr (7, [.ref qb])), (qb, .inl (cq, 16, .inr (.inr (.inr (.inr bq))))), (z0, .inr (2, [.int kdc, .int whc, .ref y0, .int ur_8.1, .int ur_8.2, .int se])), (y0, .inr (6, [.ref x0, .int kd, .int wh, .int od, .int tu, .long lo, .long hi])), (x0, .inr (5, [.ref k0, .ref w0, .int (nI nz), .int ch])), (k0, .inl (ck, L, .inl f)), (w0, .inl (cw, L, .inl g))]) [0, 1, 2, 3, 4, 5, 6] rfl
              have hD9 := hD.sub (ws' := [(a0, .inr (7, [.ref qb])), (qb, .inl (cq, 16, .inr (.inr (.inr (.inr bq))))), (z0, .inr (2, [.int kdc, .int whc, .ref y0, .int ur_8.1, .int ur_8.2, .int se])), (y0, .inr (6, [.ref x0, .int kd, .int wh, .int od, .int tu, .long lo, .long hi])), (x0, .inr (5, [.ref k0, .ref w0, .int (nI nz), .int ch])), (k0, .inl (ck, L, .inl f)), (w0, .inl (cw, L, .inl g))]) [0, 1, 2, 3, 4, 5, 6] (by decide) rfl
              have hK9 := hK.sub (tys' := [(cq, .object "KeyAtlas$Body"), (ck, .int), (cw, .int)]) [0, 1, 2] rfl
              refine W.widen (k := 2) (n := 12) (Nat.le_of_ble_eq_true rfl) (Nat.le_of_ble_eq_true rfl) ?_
              refine vx_ret ?_
              exact W.lret (v := r_8) hx hb hr (fun t ht hW => ⟨⟨r_8, (ur_8.1, ur_8.2, se, f, g, nz, ch), rfl, hpost, by rw [ht]; exact hP9, va_K.moved hW.alike hK9, hD9⟩, hS.F ht⟩) hS.2.2 dX7_move_85
          have ic_7 : ¬ p1.toInt = 0 := tx_ne rfl (by decide) c_7
          by_cases c_9 : p1 = 1
          ·
            have ic_9 : p1.toInt = 1 := tx_eq rfl (by decide) c_9
            refine lv_tableIn (off := 38) (tgt := 86) hx hb dX7_move_48 (by rw [c_9]; decide) (by rw [c_9]; decide) (by rw [c_9]; rfl) (by decide) ?_
            refine lv_aload hx hb dX7_move_86 (lv_at hl 0 rfl) ?_
            have hPc := hP.sub (ws' := [(z0, .inr (2, [.int kdc, .int whc, .ref y0, .int nx, .int ps, .int se])), (y0, .inr (6, [.ref x0, .int kd, .int wh, .int od, .int tu, .long lo, .long hi])), (x0, .inr (5, [.ref k0, .ref w0, .int (nI nz), .int ch])), (k0, .inl (ck, L, .inl f)), (w0, .inl (cw, L, .inl g))]) [2, 3, 4, 5, 6] rfl
            have hKc := hK.sub (tys' := [(ck, .int), (cw, .int)]) [1, 2] rfl
            refine ro_calli (va_runV (As := []) (rest := []) ⟨hx, hb, hml, hown, hts⟩ (c_X1_hasNext_S l hlt dC dI s.heap.size z0 kdc whc nx ps se y0 kd wh od tu lo hi x0 k0 w0 ck cw L f g nz ch hR9 ho1 ho2) (cwV 0 hts gX7_move_X1_hasNext rfl rfl rfl (by decide +kernel) ⟨(Nat.le_of_ble_eq_true rfl), (Nat.le_of_ble_eq_true rfl)⟩) ⟨pk_blindRX, va_recv hKc hPc (ci := 2) (q0 := 0) rfl rfl, pk_callRX hPc hKc hN⟩ rfl rfl hl.1 rfl (lv_room (Nat.le_of_ble_eq_true rfl)) dX7_move_88 ⟨(Nat.le_of_ble_eq_true rfl), (Nat.le_of_ble_eq_true rfl)⟩) (fun r_10 ur_10 hw => ?_)
            clear hPc hKc
            try dsimp only at hw
            have jr_10 := hw
            refine W.eq (g2 := F0 m 91 ls [.int r_10]) rfl ?_
            refine lv_if_eq (tgt := 98) hx hb dX7_move_91 (by decide) (fun c_11 => ?_) (fun c_11 => ?_)
            ·
              have ic_11 : r_10.toInt = 0 := tx_eq rfl (by decide) c_11
              refine lv_lconst (v := 0) hx hb dX7_move_98 (by decide) ?_
              have hpost : nz ≤ nz := by omega
              have hP9 := hP.sub (ws' := [(a0, .inr (7, [.ref qb])), (qb, .inl (cq, 16, .inr (.inr (.inr (.inr bq))))), (z0, .inr (2, [.int kdc, .int whc, .ref y0, .int nx, .int ps, .int se])), (y0, .inr (6, [.ref x0, .int kd, .int wh, .int od, .int tu, .long lo, .long hi])), (x0, .inr (5, [.ref k0, .ref w0, .int (nI nz), .int ch])), (k0, .inl (ck, L, .inl f)), (w0, .inl (cw, L, .inl g))]) [0, 1, 2, 3, 4, 5, 6] rfl
              have hD9 := hD.sub (ws' := [(a0, .inr (7, [.ref qb])), (qb, .inl (cq, 16, .inr (.inr (.inr (.inr bq))))), (z0, .inr (2, [.int kdc, .int whc, .ref y0, .int nx, .int ps, .int se])), (y0, .inr (6, [.ref x0, .int kd, .int wh, .int od, .int tu, .long lo, .long hi])), (x0, .inr (5, [.ref k0, .ref w0, .int (nI nz), .int ch])), (k0, .inl (ck, L, .inl f)), (w0, .inl (cw, L, .inl g))]) [0, 1, 2, 3, 4, 5, 6] (by decide) rfl
              have hK9 := hK.sub (tys' := [(cq, .object "KeyAtlas$Body"), (ck, .int), (cw, .int)]) [0, 1, 2] rfl
              refine W.widen (k := 2) (n := 12) (Nat.le_of_ble_eq_true rfl) (Nat.le_of_ble_eq_true rfl) ?_
              refine vx_ret ?_
              exact W.lret (v := 0) hx hb hr (fun t ht hW => ⟨⟨0, (nx, ps, se, f, g, nz, ch), rfl, hpost, by rw [ht]; exact hP9, va_K.moved hW.alike hK9, hD9⟩, hS.F ht⟩) hS.2.2 dX7_move_99
            ·
              have ic_11 : ¬ r_10.toInt = 0 := tx_ne rfl (by decide) c_11
              refine lv_lconst (v := 1) hx hb dX7_move_94 (by decide) ?_
              refine lv_goto (tgt := 99) hx hb dX7_move_95 (by decide) ?_
              have hpost : nz ≤ nz := by omega
              have hP9 := hP.sub (ws' := [(a0, .inr (7, [.ref qb])), (qb, .inl (cq, 16, .inr (.inr (.inr (.inr bq))))), (z0, .inr (2, [.int kdc, .int whc, .ref y0, .int nx, .int ps, .int se])), (y0, .inr (6, [.ref x0, .int kd, .int wh, .int od, .int tu, .long lo, .long hi])), (x0, .inr (5, [.ref k0, .ref w0, .int (nI nz), .int ch])), (k0, .inl (ck, L, .inl f)), (w0, .inl (cw, L, .inl g))]) [0, 1, 2, 3, 4, 5, 6] rfl
              have hD9 := hD.sub (ws' := [(a0, .inr (7, [.ref qb])), (qb, .inl (cq, 16, .inr (.inr (.inr (.inr bq))))), (z0, .inr (2, [.int kdc, .int whc, .ref y0, .int nx, .int ps, .int se])), (y0, .inr (6, [.ref x0, .int kd, .int wh, .int od, .int tu, .long lo, .long hi])), (x0, .inr (5, [.ref k0, .ref w0, .int (nI nz), .int ch])), (k0, .inl (ck, L, .inl f)), (w0, .inl (cw, L, .inl g))]) [0, 1, 2, 3, 4, 5, 6] (by decide) rfl
              have hK9 := hK.sub (tys' := [(cq, .object "KeyAtlas$Body"), (ck, .int), (cw, .int)]) [0, 1, 2] rfl
              refine W.widen (k := 2) (n := 12) (Nat.le_of_ble_eq_true rfl) (Nat.le_of_ble_eq_true rfl) ?_
              refine vx_ret ?_
              exact W.lret (v := 1) hx hb hr (fun t ht hW => ⟨⟨1, (nx, ps, se, f, g, nz, ch), rfl, hpost, by rw [ht]; exact hP9, va_K.moved hW.alike hK9, hD9⟩, hS.F ht⟩) hS.2.2 dX7_move_99
          have ic_9 : ¬ p1.toInt = 1 := tx_ne rfl (by decide) c_9
          by_cases c_12 : p1 = 2
          ·
            have ic_12 : p1.toInt = 2 := tx_eq rfl (by decide) c_12
            refine lv_tableIn (off := 52) (tgt := 100) hx hb dX7_move_48 (by rw [c_12]; decide) (by rw [c_12]; decide) (by rw [c_12]; rfl) (by decide) ?_
            refine lv_aload hx hb dX7_move_100 (lv_at hl 0 rfl) ?_
            have hPc := hP.sub (ws' := [(z0, .inr (2, [.int kdc, .int whc, .ref y0, .int nx, .int ps, .int se])), (y0, .inr (6, [.ref x0, .int kd, .int wh, .int od, .int tu, .long lo, .long hi])), (x0, .inr (5, [.ref k0, .ref w0, .int (nI nz), .int ch])), (k0, .inl (ck, L, .inl f)), (w0, .inl (cw, L, .inl g))]) [2, 3, 4, 5, 6] rfl
            have hDc := hD.sub (ws' := [(z0, .inr (2, [.int kdc, .int whc, .ref y0, .int nx, .int ps, .int se])), (y0, .inr (6, [.ref x0, .int kd, .int wh, .int od, .int tu, .long lo, .long hi])), (x0, .inr (5, [.ref k0, .ref w0, .int (nI nz), .int ch])), (k0, .inl (ck, L, .inl f)), (w0, .inl (cw, L, .inl g))]) [2, 3, 4, 5, 6] (by decide) rfl
            have hKc := hK.sub (tys' := [(ck, .int), (cw, .int)]) [1, 2] rfl
            have hFc := va_free (wc := [(z0, .inr (2, [.int kdc, .int whc, .ref y0, .int nx, .int ps, .int se])), (y0, .inr (6, [.ref x0, .int kd, .int wh, .int od, .int tu, .long lo, .long hi])), (x0, .inr (5, [.ref k0, .ref w0, .int (nI nz), .int ch])), (k0, .inl (ck, L, .inl f)), (w0, .inl (cw, L, .inl g))]) hD hS hA [2, 3, 4, 5, 6] rfl
            have hZc := (hZ.kept hS.2.1).narrow hFc
            refine vx_calll (vx_runV (As := []) (rest := []) ⟨hx, hb, hml, hown, hts⟩ (c_X1_takePassedOut_S l hlt dC dI s.heap.size z0 kdc whc nx ps se y0 kd wh od tu lo hi x0 k0 w0 ck cw L f g nz ch hR9 ho1 ho2) (cwV 0 hts gX7_move_X1_takePassedOut rfl rfl rfl (by decide +kernel) ⟨(Nat.le_of_ble_eq_true rfl), (Nat.le_of_ble_eq_true rfl)⟩) ⟨pk_blindX, va_recv hKc hPc (ci := 2) (q0 := 0) rfl rfl, pk_callX hPc hKc hDc hN hZc⟩ rfl rfl hl.1 rfl (lv_room (Nat.le_of_ble_eq_true rfl)) dX7_move_102 ⟨(Nat.le_of_ble_eq_true rfl), (Nat.le_of_ble_eq_true rfl)⟩) hS (fun q _ h => hFc q h) hFc (fun q _ h => hFc q h) (fun E ce q9 u9 t H1 locs ht hvm hw hB hz1 hk1 hS hce hcv hcl => ?_) (fun r_13 ur_13 t H1 locs ht hvm hw hB hz1 hk1 hS => ?_)
            ·
              try dsimp only at hB
              obtain ⟨hE8, hP8, hK8, hD8⟩ := hB
              rw [ht] at hP8
              obtain ⟨hP7, -⟩ := va_join (wr := [(a0, .inr (7, [.ref qb])), (qb, .inl (cq, 16, .inr (.inr (.inr (.inr bq)))))]) (w1 := [(z0, .inr (2, [.int kdc, .int whc, .ref y0, .int nx, .int ps, .int se])), (y0, .inr (6, [.ref x0, .int kd, .int wh, .int od, .int tu, .long lo, .long hi])), (x0, .inr (5, [.ref k0, .ref w0, .int (nI nz), .int ch])), (k0, .inl (ck, L, .inl f)), (w0, .inl (cw, L, .inl g))]) hP hD [2, 3, 4, 5, 6] [0, 1] rfl rfl (by decide) (by decide) hk1 hFc hP8 hD8
              have hP6 := hP7.sub (ws' := [(a0, .inr (7, [.ref qb])), (qb, .inl (cq, 16, .inr (.inr (.inr (.inr bq))))), (z0, .inr (2, [.int kdc, .int whc, .ref y0, .int nx, .int ps, .int se])), (y0, .inr (6, [.ref x0, .int kd, .int wh, .int od, .int tu, .long lo, .long hi])), (x0, .inr (5, [.ref k0, .ref w0, .int (nI nz), .int ch])), (k0, .inl (ck, L, .inl f)), (w0, .inl (cw, L, .inl g))]) [0, 1, 2, 3, 4, 5, 6] rfl
              exact vx_out (fun x hx9 => (htab x hx9).elim) hlocks hce hcv hcl (fun t9 ht9 hal9 => ⟨(), trivial, ⟨Or.inr (Or.inl hE8), by rw [ht9]; exact hP6, va_K.moved hal9 hK, hD⟩, hS.F ht9⟩) hS.2.2 (by omega) (by omega)
            ·
              try dsimp only at hw
              have jr_13 := hw
              obtain ⟨hP1, hK1, hD1⟩ := hB
              rw [ht] at hP1
              have hK1 := va_K.moved hvm.symm hK1
              obtain ⟨hP, hD⟩ := va_join (wr := [(a0, .inr (7, [.ref qb])), (qb, .inl (cq, 16, .inr (.inr (.inr (.inr bq)))))]) (w1 := [(z0, .inr (2, [.int kdc, .int whc, .ref y0, .int ur_13.1, .int ur_13.2.1, .int ur_13.2.2.1])), (y0, .inr (6, [.ref x0, .int kd, .int wh, .int od, .int tu, .long lo, .long hi])), (x0, .inr (5, [.ref k0, .ref w0, .int (nI (ur_13.2.2.2.2.2.1)), .int ur_13.2.2.2.2.2.2])), (k0, .inl (ck, L, .inl ur_13.2.2.2.1)), (w0, .inl (cw, L, .inl ur_13.2.2.2.2.1))]) hP hD [2, 3, 4, 5, 6] [0, 1] rfl rfl (by decide) (by decide) hk1 hFc hP1 hD1
              clear hk1 hz1 ht hPc hDc hKc hFc
              generalize H1 = H at hP hS ⊢
              replace hP : va_P (dC, dI) vwCl [(a0, .inr (7, [.ref qb])), (qb, .inl (cq, 16, .inr (.inr (.inr (.inr bq))))), (z0, .inr (2, [.int kdc, .int whc, .ref y0, .int ur_13.1, .int ur_13.2.1, .int ur_13.2.2.1])), (y0, .inr (6, [.ref x0, .int kd, .int wh, .int od, .int tu, .long lo, .long hi])), (x0, .inr (5, [.ref k0, .ref w0, .int (nI (ur_13.2.2.2.2.2.1)), .int ur_13.2.2.2.2.2.2])), (k0, .inl (ck, L, .inl ur_13.2.2.2.1)), (w0, .inl (cw, L, .inl ur_13.2.2.2.2.1))] H := hP
              replace hD : va_D A [(a0, .inr (7, [.ref qb])), (qb, .inl (cq, 16, .inr (.inr (.inr (.inr bq))))), (z0, .inr (2, [.int kdc, .int whc, .ref y0, .int ur_13.1, .int ur_13.2.1, .int ur_13.2.2.1])), (y0, .inr (6, [.ref x0, .int kd, .int wh, .int od, .int tu, .long lo, .long hi])), (x0, .inr (5, [.ref k0, .ref w0, .int (nI (ur_13.2.2.2.2.2.1)), .int ur_13.2.2.2.2.2.2])), (k0, .inl (ck, L, .inl ur_13.2.2.2.1)), (w0, .inl (cw, L, .inl ur_13.2.2.2.2.1))] := hD
              refine W.widen (k := 1) (n := 6) (Nat.le_of_ble_eq_true rfl) (Nat.le_of_ble_eq_true rfl) ?_
              refine W.eq (g2 := F0 m 105 ls [.long r_13]) rfl ?_
              have hpost : ur_13.2.2.2.2.2.1 ≤ nz := by omega
              have hP9 := hP.sub (ws' := [(a0, .inr (7, [.ref qb])), (qb, .inl (cq, 16, .inr (.inr (.inr (.inr bq))))), (z0, .inr (2, [.int kdc, .int whc, .ref y0, .int ur_13.1, .int ur_13.2.1, .int ur_13.2.2.1])), (y0, .inr (6, [.ref x0, .int kd, .int wh, .int od, .int tu, .long lo, .long hi])), (x0, .inr (5, [.ref k0, .ref w0, .int (nI (ur_13.2.2.2.2.2.1)), .int ur_13.2.2.2.2.2.2])), (k0, .inl (ck, L, .inl ur_13.2.2.2.1)), (w0, .inl (cw, L, .inl ur_13.2.2.2.2.1))]) [0, 1, 2, 3, 4, 5, 6] rfl
              have hD9 := hD.sub (ws' := [(a0, .inr (7, [.ref qb])), (qb, .inl (cq, 16, .inr (.inr (.inr (.inr bq))))), (z0, .inr (2, [.int kdc, .int whc, .ref y0, .int ur_13.1, .int ur_13.2.1, .int ur_13.2.2.1])), (y0, .inr (6, [.ref x0, .int kd, .int wh, .int od, .int tu, .long lo, .long hi])), (x0, .inr (5, [.ref k0, .ref w0, .int (nI (ur_13.2.2.2.2.2.1)), .int ur_13.2.2.2.2.2.2])), (k0, .inl (ck, L, .inl ur_13.2.2.2.1)), (w0, .inl (cw, L, .inl ur_13.2.2.2.2.1))]) [0, 1, 2, 3, 4, 5, 6] (by decide) rfl
              have hK9 := hK.sub (tys' := [(cq, .object "KeyAtlas$Body"), (ck, .int), (cw, .int)]) [0, 1, 2] rfl
              refine W.widen (k := 2) (n := 12) (Nat.le_of_ble_eq_true rfl) (Nat.le_of_ble_eq_true rfl) ?_
              refine vx_ret ?_
              exact W.lret (v := r_13) hx hb hr (fun t ht hW => ⟨⟨r_13, (ur_13.1, ur_13.2.1, ur_13.2.2.1, ur_13.2.2.2.1, ur_13.2.2.2.2.1, ur_13.2.2.2.2.2.1, ur_13.2.2.2.2.2.2), rfl, hpost, by rw [ht]; exact hP9, va_K.moved hW.alike hK9, hD9⟩, hS.F ht⟩) hS.2.2 dX7_move_105
          have ic_12 : ¬ p1.toInt = 2 := tx_ne rfl (by decide) c_12
          by_cases c_14 : p1 = 3
          ·
            have ic_14 : p1.toInt = 3 := tx_eq rfl (by decide) c_14
            refine lv_tableIn (off := 58) (tgt := 106) hx hb dX7_move_48 (by rw [c_14]; decide) (by rw [c_14]; decide) (by rw [c_14]; rfl) (by decide) ?_
            refine lv_aload hx hb dX7_move_106 (lv_at hl 0 rfl) ?_
            refine lv_iload_n hx hb dX7_move_108 rfl (lv_at hl 4 rfl) ?_
            have hPc := hP.sub (ws' := [(z0, .inr (2, [.int kdc, .int whc, .ref y0, .int nx, .int ps, .int se])), (y0, .inr (6, [.ref x0, .int kd, .int wh, .int od, .int tu, .long lo, .long hi])), (x0, .inr (5, [.ref k0, .ref w0, .int (nI nz), .int ch])), (k0, .inl (ck, L, .inl f)), (w0, .inl (cw, L, .inl g))]) [2, 3, 4, 5, 6] rfl
            have hDc := hD.sub (ws' := [(z0, .inr (2, [.int kdc, .int whc, .ref y0, .int nx, .int ps, .int se])), (y0, .inr (6, [.ref x0, .int kd, .int wh, .int od, .int tu, .long lo, .long hi])), (x0, .inr (5, [.ref k0, .ref w0, .int (nI nz), .int ch])), (k0, .inl (ck, L, .inl f)), (w0, .inl (cw, L, .inl g))]) [2, 3, 4, 5, 6] (by decide) rfl
            have hKc := hK.sub (tys' := [(ck, .int), (cw, .int)]) [1, 2] rfl
            have hFc := va_free (wc := [(z0, .inr (2, [.int kdc, .int whc, .ref y0, .int nx, .int ps, .int se])), (y0, .inr (6, [.ref x0, .int kd, .int wh, .int od, .int tu, .long lo, .long hi])), (x0, .inr (5, [.ref k0, .ref w0, .int (nI nz), .int ch])), (k0, .inl (ck, L, .inl f)), (w0, .inl (cw, L, .inl g))]) hD hS hA [2, 3, 4, 5, 6] rfl
            have hZc := (hZ.kept hS.2.1).narrow hFc
            refine vx_calll (vx_runV (As := [.int p2]) (rest := []) ⟨hx, hb, hml, hown, hts⟩ (c_X1_setPassedValue_S l hlt dC dI s.heap.size z0 kdc whc nx ps se y0 kd wh od tu lo hi x0 k0 w0 ck cw L f g nz ch p2 hR9 ho1 ho2) (cwV 1 hts gX7_move_X1_setPassedValue rfl rfl rfl (by decide +kernel) ⟨(Nat.le_of_ble_eq_true rfl), (Nat.le_of_ble_eq_true rfl)⟩) ⟨pk_blindX, va_recv hKc hPc (ci := 2) (q0 := 0) rfl rfl, pk_callX hPc hKc hDc hN hZc⟩ rfl rfl hl.1 rfl (lv_room (Nat.le_of_ble_eq_true rfl)) dX7_move_109 ⟨(Nat.le_of_ble_eq_true rfl), (Nat.le_of_ble_eq_true rfl)⟩) hS (fun q _ h => hFc q h) hFc (fun q _ h => hFc q h) (fun E ce q9 u9 t H1 locs ht hvm hw hB hz1 hk1 hS hce hcv hcl => ?_) (fun r_15 ur_15 t H1 locs ht hvm hw hB hz1 hk1 hS => ?_)
            ·
              try dsimp only at hB
              obtain ⟨hE8, hP8, hK8, hD8⟩ := hB
              rw [ht] at hP8
              obtain ⟨hP7, -⟩ := va_join (wr := [(a0, .inr (7, [.ref qb])), (qb, .inl (cq, 16, .inr (.inr (.inr (.inr bq)))))]) (w1 := [(z0, .inr (2, [.int kdc, .int whc, .ref y0, .int nx, .int ps, .int se])), (y0, .inr (6, [.ref x0, .int kd, .int wh, .int od, .int tu, .long lo, .long hi])), (x0, .inr (5, [.ref k0, .ref w0, .int (nI nz), .int ch])), (k0, .inl (ck, L, .inl f)), (w0, .inl (cw, L, .inl g))]) hP hD [2, 3, 4, 5, 6] [0, 1] rfl rfl (by decide) (by decide) hk1 hFc hP8 hD8
              have hP6 := hP7.sub (ws' := [(a0, .inr (7, [.ref qb])), (qb, .inl (cq, 16, .inr (.inr (.inr (.inr bq))))), (z0, .inr (2, [.int kdc, .int whc, .ref y0, .int nx, .int ps, .int se])), (y0, .inr (6, [.ref x0, .int kd, .int wh, .int od, .int tu, .long lo, .long hi])), (x0, .inr (5, [.ref k0, .ref w0, .int (nI nz), .int ch])), (k0, .inl (ck, L, .inl f)), (w0, .inl (cw, L, .inl g))]) [0, 1, 2, 3, 4, 5, 6] rfl
              exact vx_out (fun x hx9 => (htab x hx9).elim) hlocks hce hcv hcl (fun t9 ht9 hal9 => ⟨(), trivial, ⟨Or.inr (Or.inl hE8), by rw [ht9]; exact hP6, va_K.moved hal9 hK, hD⟩, hS.F ht9⟩) hS.2.2 (by omega) (by omega)
            ·
              try dsimp only at hw
              have jr_15 := hw
              obtain ⟨hP1, hK1, hD1⟩ := hB
              rw [ht] at hP1
              have hK1 := va_K.moved hvm.symm hK1
              obtain ⟨hP, hD⟩ := va_join (wr := [(a0, .inr (7, [.ref qb])), (qb, .inl (cq, 16, .inr (.inr (.inr (.inr bq)))))]) (w1 := [(z0, .inr (2, [.int kdc, .int whc, .ref y0, .int nx, .int ps, .int se])), (y0, .inr (6, [.ref x0, .int kd, .int wh, .int od, .int tu, .long lo, .long hi])), (x0, .inr (5, [.ref k0, .ref w0, .int (nI nz), .int ch])), (k0, .inl (ck, L, .inl f)), (w0, .inl (cw, L, .inl ur_15))]) hP hD [2, 3, 4, 5, 6] [0, 1] rfl rfl (by decide) (by decide) hk1 hFc hP1 hD1
              clear hk1 hz1 ht hPc hDc hKc hFc
              generalize H1 = H at hP hS ⊢
              replace hP : va_P (dC, dI) vwCl [(a0, .inr (7, [.ref qb])), (qb, .inl (cq, 16, .inr (.inr (.inr (.inr bq))))), (z0, .inr (2, [.int kdc, .int whc, .ref y0, .int nx, .int ps, .int se])), (y0, .inr (6, [.ref x0, .int kd, .int wh, .int od, .int tu, .long lo, .long hi])), (x0, .inr (5, [.ref k0, .ref w0, .int (nI nz), .int ch])), (k0, .inl (ck, L, .inl f)), (w0, .inl (cw, L, .inl ur_15))] H := hP
              replace hD : va_D A [(a0, .inr (7, [.ref qb])), (qb, .inl (cq, 16, .inr (.inr (.inr (.inr bq))))), (z0, .inr (2, [.int kdc, .int whc, .ref y0, .int nx, .int ps, .int se])), (y0, .inr (6, [.ref x0, .int kd, .int wh, .int od, .int tu, .long lo, .long hi])), (x0, .inr (5, [.ref k0, .ref w0, .int (nI nz), .int ch])), (k0, .inl (ck, L, .inl f)), (w0, .inl (cw, L, .inl ur_15))] := hD
              refine W.widen (k := 1) (n := 6) (Nat.le_of_ble_eq_true rfl) (Nat.le_of_ble_eq_true rfl) ?_
              refine W.eq (g2 := F0 m 112 ls [.long r_15]) rfl ?_
              have hpost : nz ≤ nz := by omega
              have hP9 := hP.sub (ws' := [(a0, .inr (7, [.ref qb])), (qb, .inl (cq, 16, .inr (.inr (.inr (.inr bq))))), (z0, .inr (2, [.int kdc, .int whc, .ref y0, .int nx, .int ps, .int se])), (y0, .inr (6, [.ref x0, .int kd, .int wh, .int od, .int tu, .long lo, .long hi])), (x0, .inr (5, [.ref k0, .ref w0, .int (nI nz), .int ch])), (k0, .inl (ck, L, .inl f)), (w0, .inl (cw, L, .inl ur_15))]) [0, 1, 2, 3, 4, 5, 6] rfl
              have hD9 := hD.sub (ws' := [(a0, .inr (7, [.ref qb])), (qb, .inl (cq, 16, .inr (.inr (.inr (.inr bq))))), (z0, .inr (2, [.int kdc, .int whc, .ref y0, .int nx, .int ps, .int se])), (y0, .inr (6, [.ref x0, .int kd, .int wh, .int od, .int tu, .long lo, .long hi])), (x0, .inr (5, [.ref k0, .ref w0, .int (nI nz), .int ch])), (k0, .inl (ck, L, .inl f)), (w0, .inl (cw, L, .inl ur_15))]) [0, 1, 2, 3, 4, 5, 6] (by decide) rfl
              have hK9 := hK.sub (tys' := [(cq, .object "KeyAtlas$Body"), (ck, .int), (cw, .int)]) [0, 1, 2] rfl
              refine W.widen (k := 2) (n := 12) (Nat.le_of_ble_eq_true rfl) (Nat.le_of_ble_eq_true rfl) ?_
              refine vx_ret ?_
              exact W.lret (v := r_15) hx hb hr (fun t ht hW => ⟨⟨r_15, (nx, ps, se, f, ur_15, nz, ch), rfl, hpost, by rw [ht]; exact hP9, va_K.moved hW.alike hK9, hD9⟩, hS.F ht⟩) hS.2.2 dX7_move_112
          have ic_14 : ¬ p1.toInt = 3 := tx_ne rfl (by decide) c_14
          refine lv_tableOut (tgt := 113) hx hb dX7_move_48 (by omega) (by decide) ?_
          refine lv_aload hx hb dX7_move_113 (lv_at hl 0 rfl) ?_
          have hPc := hP.sub (ws' := [(z0, .inr (2, [.int kdc, .int whc, .ref y0, .int nx, .int ps, .int se])), (y0, .inr (6, [.ref x0, .int kd, .int wh, .int od, .int tu, .long lo, .long hi])), (x0, .inr (5, [.ref k0, .ref w0, .int (nI nz), .int ch])), (k0, .inl (ck, L, .inl f)), (w0, .inl (cw, L, .inl g))]) [2, 3, 4, 5, 6] rfl
          have hKc := hK.sub (tys' := [(ck, .int), (cw, .int)]) [1, 2] rfl
          refine rox_calll (vx_runV (As := []) (rest := []) ⟨hx, hb, hml, hown, hts⟩ (c_X1_passedValue_S l hlt dC dI s.heap.size z0 kdc whc nx ps se y0 kd wh od tu lo hi x0 k0 w0 ck cw L f g nz ch hR9 ho1 ho2) (cwV 0 hts gX7_move_X1_passedValue rfl rfl rfl (by decide +kernel) ⟨(Nat.le_of_ble_eq_true rfl), (Nat.le_of_ble_eq_true rfl)⟩) ⟨pk_blindXR, va_recv hKc hPc (ci := 2) (q0 := 0) rfl rfl, pk_callXR hPc hKc hN ((hZ.kept hS.2.1).narrow (fun q h9 => hA q (Nat.le_trans hS.1 h9)))⟩ rfl rfl hl.1 rfl (lv_room (Nat.le_of_ble_eq_true rfl)) dX7_move_115 ⟨(Nat.le_of_ble_eq_true rfl), (Nat.le_of_ble_eq_true rfl)⟩) hS (fun q h9 => hA q (Nat.le_trans hS.1 h9)) (fun E ce q9 u9 t H1 locs ht hvm hw hB hz1 hk1 hS hce hcv hcl => ?_) (fun r_16 ur_16 locs hw hS => ?_)
          ·
            try dsimp only at hB
            exact vx_out (fun x hx9 => (htab x hx9).elim) hlocks hce hcv hcl (fun t9 ht9 hal9 => ⟨(), trivial, ⟨Or.inr (Or.inl hB), by rw [ht9]; exact hP.kept (fun k x hx => hk1 x.1 (hP k x hx).lt), va_K.moved hal9 hK, hD⟩, hS.F ht9⟩) hS.2.2 (by omega) (by omega)
          ·
            refine W.tight (k := 0) (n := 0) (Nat.le_refl _) (Nat.le_refl _) ?_
            clear hPc hKc
            try dsimp only at hw
            have jr_16 := hw
            refine W.eq (g2 := F0 m 118 ls [.long r_16]) rfl ?_
            have hpost : nz ≤ nz := by omega
            have hP9 := hP.sub (ws' := [(a0, .inr (7, [.ref qb])), (qb, .inl (cq, 16, .inr (.inr (.inr (.inr bq))))), (z0, .inr (2, [.int kdc, .int whc, .ref y0, .int nx, .int ps, .int se])), (y0, .inr (6, [.ref x0, .int kd, .int wh, .int od, .int tu, .long lo, .long hi])), (x0, .inr (5, [.ref k0, .ref w0, .int (nI nz), .int ch])), (k0, .inl (ck, L, .inl f)), (w0, .inl (cw, L, .inl g))]) [0, 1, 2, 3, 4, 5, 6] rfl
            have hD9 := hD.sub (ws' := [(a0, .inr (7, [.ref qb])), (qb, .inl (cq, 16, .inr (.inr (.inr (.inr bq))))), (z0, .inr (2, [.int kdc, .int whc, .ref y0, .int nx, .int ps, .int se])), (y0, .inr (6, [.ref x0, .int kd, .int wh, .int od, .int tu, .long lo, .long hi])), (x0, .inr (5, [.ref k0, .ref w0, .int (nI nz), .int ch])), (k0, .inl (ck, L, .inl f)), (w0, .inl (cw, L, .inl g))]) [0, 1, 2, 3, 4, 5, 6] (by decide) rfl
            have hK9 := hK.sub (tys' := [(cq, .object "KeyAtlas$Body"), (ck, .int), (cw, .int)]) [0, 1, 2] rfl
            refine W.widen (k := 2) (n := 12) (Nat.le_of_ble_eq_true rfl) (Nat.le_of_ble_eq_true rfl) ?_
            refine vx_ret ?_
            exact W.lret (v := r_16) hx hb hr (fun t ht hW => ⟨⟨r_16, (nx, ps, se, f, g, nz, ch), rfl, hpost, by rw [ht]; exact hP9, va_K.moved hW.alike hK9, hD9⟩, hS.F ht⟩) hS.2.2 dX7_move_118
        ·
          have ic_6 : ¬ r_5.toInt = 0 := tx_ne rfl (by decide) c_6
          have hP9 := hP.sub (ws' := [(a0, .inr (7, [.ref qb])), (qb, .inl (cq, 16, .inr (.inr (.inr (.inr bq))))), (z0, .inr (2, [.int kdc, .int whc, .ref y0, .int nx, .int ps, .int se])), (y0, .inr (6, [.ref x0, .int kd, .int wh, .int od, .int tu, .long lo, .long hi])), (x0, .inr (5, [.ref k0, .ref w0, .int (nI nz), .int ch])), (k0, .inl (ck, L, .inl f)), (w0, .inl (cw, L, .inl g))]) [0, 1, 2, 3, 4, 5, 6] rfl
          have hD9 := hD.sub (ws' := [(a0, .inr (7, [.ref qb])), (qb, .inl (cq, 16, .inr (.inr (.inr (.inr bq))))), (z0, .inr (2, [.int kdc, .int whc, .ref y0, .int nx, .int ps, .int se])), (y0, .inr (6, [.ref x0, .int kd, .int wh, .int od, .int tu, .long lo, .long hi])), (x0, .inr (5, [.ref k0, .ref w0, .int (nI nz), .int ch])), (k0, .inl (ck, L, .inl f)), (w0, .inl (cw, L, .inl g))]) [0, 1, 2, 3, 4, 5, 6] (by decide) rfl
          have hK9 := hK.sub (tys' := [(cq, .object "KeyAtlas$Body"), (ck, .int), (cw, .int)]) [0, 1, 2] rfl
          obtain ⟨sa, hsa⟩ := hN.stX7_172
          exact vx_throwS hx hb hlt (own := RX7) (cls := "java/lang/IllegalStateException") (text := "stale") (names := ["java/lang/RuntimeException", "java/lang/Exception"]) hown (by decide +kernel) (by decide +kernel) hw2_ hw3_ hsa (tx_hat hN.xw (fun w h => hts w (at_X7_move_37 w h)) ng_RX7_174) og_RX7_174 hZ.1 hZ.2 hS (by rw [hml]; exact hl.1) dX7_move_37 dX7_move_40 dX7_move_41 dX7_move_43 dX7_move_46 (fun x hx9 => (htab x hx9).elim) (Nat.le_of_ble_eq_true rfl) (Nat.le_of_ble_eq_true rfl) (Nat.le_of_ble_eq_true rfl) (Nat.le_of_ble_eq_true rfl) hlocks (fun t hvm hz hq => ⟨(), trivial, ⟨Or.inr (Or.inl rfl), hP9.kept (fun k x hx => hq x.1 (hP9 k x hx).lt), va_K.moved hvm hK9, hD9⟩, ⟨Nat.le_trans hS.1 hz, fun q h1 h2 => (hq q (Nat.lt_of_lt_of_le h1 hS.1)).trans (hS.2.1 q h1 h2)⟩⟩) hS.2.2 (Nat.le_of_ble_eq_true rfl) (Nat.le_of_ble_eq_true rfl)
      ·
        have ic_4 : 4 < p1.toInt := tx_nle rfl (by decide) c_4
        have hP9 := hP.sub (ws' := [(a0, .inr (7, [.ref qb])), (qb, .inl (cq, 16, .inr (.inr (.inr (.inr bq))))), (z0, .inr (2, [.int kdc, .int whc, .ref y0, .int nx, .int ps, .int se])), (y0, .inr (6, [.ref x0, .int kd, .int wh, .int od, .int tu, .long lo, .long hi])), (x0, .inr (5, [.ref k0, .ref w0, .int (nI nz), .int ch])), (k0, .inl (ck, L, .inl f)), (w0, .inl (cw, L, .inl g))]) [0, 1, 2, 3, 4, 5, 6] rfl
        have hD9 := hD.sub (ws' := [(a0, .inr (7, [.ref qb])), (qb, .inl (cq, 16, .inr (.inr (.inr (.inr bq))))), (z0, .inr (2, [.int kdc, .int whc, .ref y0, .int nx, .int ps, .int se])), (y0, .inr (6, [.ref x0, .int kd, .int wh, .int od, .int tu, .long lo, .long hi])), (x0, .inr (5, [.ref k0, .ref w0, .int (nI nz), .int ch])), (k0, .inl (ck, L, .inl f)), (w0, .inl (cw, L, .inl g))]) [0, 1, 2, 3, 4, 5, 6] (by decide) rfl
        have hK9 := hK.sub (tys' := [(cq, .object "KeyAtlas$Body"), (ck, .int), (cw, .int)]) [0, 1, 2] rfl
        obtain ⟨sa, hsa⟩ := hN.stX7_53
        exact vx_throwS hx hb hlt (own := RX7) (cls := "java/lang/IllegalArgumentException") (text := "no such op") (names := ["java/lang/RuntimeException", "java/lang/Exception"]) hown (by decide +kernel) (by decide +kernel) hw0_ hw1_ hsa (tx_hat hN.xw (fun w h => hts w (at_X7_move_19 w h)) ng_RX7_19) og_RX7_19 hZ.1 hZ.2 hS (by rw [hml]; exact hl.1) dX7_move_19 dX7_move_22 dX7_move_23 dX7_move_25 dX7_move_28 (fun x hx9 => (htab x hx9).elim) (Nat.le_of_ble_eq_true rfl) (Nat.le_of_ble_eq_true rfl) (Nat.le_of_ble_eq_true rfl) (Nat.le_of_ble_eq_true rfl) hlocks (fun t hvm hz hq => ⟨(), trivial, ⟨Or.inl rfl, hP9.kept (fun k x hx => hq x.1 (hP9 k x hx).lt), va_K.moved hvm hK9, hD9⟩, ⟨Nat.le_trans hS.1 hz, fun q h1 h2 => (hq q (Nat.lt_of_lt_of_le h1 hS.1)).trans (hS.2.1 q h1 h2)⟩⟩) hS.2.2 (Nat.le_of_ble_eq_true rfl) (Nat.le_of_ble_eq_true rfl)
