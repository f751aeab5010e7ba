set_option maxRecDepth 20000 in
theorem ggX3_put_X6_find : GoodIn wsX3_put wsX6_find := goodIn_r _ [43, 44, 45, 46, 47, 48, 42, 49, 50, 51, 52, 53, 54, 55, 56, 57, 58, 59, 60, 61, 62, 63, 64, 65, 66, 22, 23, 24, 25, 26, 67, 28, 29, 30, 31, 68, 69, 70, 71, 72, 73, 214, 215, 216, 217, 218, 219, 220, 221, 222, 223, 224, 225, 226, 227, 228, 229, 230, 231, 232, 233, 234, 235, 236] rfl (by decide +kernel)
set_option maxRecDepth 20000 in
theorem gX3_put_X6_find_u46X6 : GoodIn wsX3_put (va_wsU RX3 46 RX6 "KeyAtlas$Keyed" ⟨"KeyAtlas$Keyed", "find", "(I)I"⟩ yX6_find wsX6_find) := goodIn_app (goodIn_of _ (by decide +kernel)) ggX3_put_X6_find
set_option maxRecDepth 20000 in
theorem gX3_put_X3_replace_u55X6 : GoodIn wsX3_put (va_wsU RX3 55 RX6 "KeyAtlas$Keyed" ⟨"KeyAtlas$Keyed", "replace", "(II)J"⟩ yX3_replace wsX3_replace) := goodIn_app (goodIn_of _ (by decide +kernel)) ggX3_put_X3_replace
set_option maxRecDepth 20000 in
theorem gX3_put_X3_come_u50X6 : GoodIn wsX3_put (va_wsU RX3 50 RX6 "KeyAtlas$Keyed" ⟨"KeyAtlas$Keyed", "come", "(II)V"⟩ yX3_come wsX3_come) := goodIn_app (goodIn_of _ (by decide +kernel)) ggX3_put_X3_come
set_option maxRecDepth 20000 in
theorem ggX3_putIfAbsent_X6_find : GoodIn wsX3_putIfAbsent wsX6_find := goodIn_r _ [44, 45, 46, 47, 48, 49, 43, 50, 51, 52, 53, 54, 55, 56, 57, 58, 59, 60, 61, 62, 63, 64, 65, 66, 67, 23, 24, 25, 26, 27, 68, 29, 30, 31, 32, 69, 70, 71, 72, 73, 74, 214, 215, 216, 217, 218, 219, 220, 221, 222, 223, 224, 225, 226, 227, 228, 229, 230, 231, 232, 233, 234, 235, 236] rfl (by decide +kernel)
set_option maxRecDepth 20000 in
theorem gX3_putIfAbsent_X6_find_u46X6 : GoodIn wsX3_putIfAbsent (va_wsU RX3 46 RX6 "KeyAtlas$Keyed" ⟨"KeyAtlas$Keyed", "find", "(I)I"⟩ yX6_find wsX6_find) := goodIn_app (goodIn_of _ (by decide +kernel)) ggX3_putIfAbsent_X6_find
set_option maxRecDepth 20000 in
theorem gX3_putIfAbsent_X3_replace_u55X6 : GoodIn wsX3_putIfAbsent (va_wsU RX3 55 RX6 "KeyAtlas$Keyed" ⟨"KeyAtlas$Keyed", "replace", "(II)J"⟩ yX3_replace wsX3_replace) := goodIn_app (goodIn_of _ (by decide +kernel)) ggX3_putIfAbsent_X3_replace
set_option maxRecDepth 20000 in
theorem gX3_putIfAbsent_X3_come_u50X6 : GoodIn wsX3_putIfAbsent (va_wsU RX3 50 RX6 "KeyAtlas$Keyed" ⟨"KeyAtlas$Keyed", "come", "(II)V"⟩ yX3_come wsX3_come) := goodIn_app (goodIn_of _ (by decide +kernel)) ggX3_putIfAbsent_X3_come
set_option maxRecDepth 20000 in
theorem ggX3_putMore_X6_find : GoodIn wsX3_putMore wsX6_find := goodIn_r _ [44, 45, 46, 47, 48, 49, 43, 50, 51, 52, 53, 54, 55, 56, 57, 58, 59, 60, 61, 62, 63, 64, 65, 66, 67, 23, 24, 25, 26, 27, 68, 29, 30, 31, 32, 69, 70, 71, 72, 73, 74, 224, 225, 226, 227, 228, 229, 230, 231, 232, 233, 234, 235, 236, 237, 238, 239, 240, 241, 242, 243, 244, 245, 246] rfl (by decide +kernel)
set_option maxRecDepth 20000 in
theorem gX3_putMore_X6_find_u46X6 : GoodIn wsX3_putMore (va_wsU RX3 46 RX6 "KeyAtlas$Keyed" ⟨"KeyAtlas$Keyed", "find", "(I)I"⟩ yX6_find wsX6_find) := goodIn_app (goodIn_of _ (by decide +kernel)) ggX3_putMore_X6_find
set_option maxRecDepth 20000 in
theorem gX3_putMore_X3_replace_u55X6 : GoodIn wsX3_putMore (va_wsU RX3 55 RX6 "KeyAtlas$Keyed" ⟨"KeyAtlas$Keyed", "replace", "(II)J"⟩ yX3_replace wsX3_replace) := goodIn_app (goodIn_of _ (by decide +kernel)) ggX3_putMore_X3_replace
set_option maxRecDepth 20000 in
theorem gX3_putMore_X3_leave_u69X6 : GoodIn wsX3_putMore (va_wsU RX3 69 RX6 "KeyAtlas$Keyed" ⟨"KeyAtlas$Keyed", "leave", "(I)V"⟩ yX3_leave wsX3_leave) := goodIn_app (goodIn_of _ (by decide +kernel)) ggX3_putMore_X3_leave
set_option maxRecDepth 20000 in
theorem gX3_putMore_X3_come_u50X6 : GoodIn wsX3_putMore (va_wsU RX3 50 RX6 "KeyAtlas$Keyed" ⟨"KeyAtlas$Keyed", "come", "(II)V"⟩ yX3_come wsX3_come) := goodIn_app (goodIn_of _ (by decide +kernel)) ggX3_putMore_X3_come
set_option maxHeartbeats 4000000 in
set_option maxRecDepth 100000 in
/-- Keyed.put of S -/
theorem c_X3_put_S (l : Launch) (hlt : l.stackTraces = false) (dC : Nat → ClassId) (dI : Nat → Nat → Nat) (sz : Nat) (T0 : Nat) (y0 : Nat) (kd : Int32) (wh : Int32) (od : Int32) (tu : Int32) (lo : Int64) (hi : Int64) (x0 : Nat) (k0 : Nat) (w0 : Nat) (ck : ClassId) (cw : ClassId) (L : Nat) (f : Nat → Int32) (g : Nat → Int32) (nz : Nat) (ch : Int32) (p0 : Int32) (p1 : Int32) (gs : Nat) (hR9 : rOK L nz) (ho1 : 0 ≤ od.toInt) (ho2 : od.toInt ≤ 3) (hG9 : nz < L ∨ 4 * L ≤ gs) : vx_Met l yX3_put wsX3_put ({ frames := 7, cells := 3, slots := gs + 6, locals := 290 }) (va_Pc [.ref y0, .int p0, .int p1] (pk_PreXT (dC, dI) [(y0, .inr (6, [.ref x0, .int kd, .int wh, .int od, .int tu, .long lo, .long hi])), (x0, .inr (5, [.ref k0, .ref w0, .int (nI nz), .int ch])), (k0, .inl (ck, L, .inl f)), (w0, .inl (cw, L, .inl g))] [(ck, .int), (cw, .int)] sz T0)) (va_Ql (fun (x : Int64) (u : Nat × Nat × ClassId × ClassId × Nat × (Nat → Int32) × (Nat → Int32) × Nat × Int32) => kpL L nz (u.2.2.2.2.1) (u.2.2.2.2.2.2.2.1)) (fun (u : Nat × Nat × ClassId × ClassId × Nat × (Nat → Int32) × (Nat → Int32) × Nat × Int32) (t : State) => va_P (dC, dI) vwCl [(y0, .inr (6, [.ref x0, .int kd, .int wh, .int od, .int tu, .long lo, .long hi])), (x0, .inr (5, [.ref u.1, .ref u.2.1, .int (nI (u.2.2.2.2.2.2.2.1)), .int u.2.2.2.2.2.2.2.2])), (u.1, .inl (u.2.2.1, u.2.2.2.2.1, .inl u.2.2.2.2.2.1)), (u.2.1, .inl (u.2.2.2.1, u.2.2.2.2.1, .inl u.2.2.2.2.2.2.1))] t.heap ∧ va_K (dC, dI) vwCl [(u.2.2.1, .int), (u.2.2.2.1, .int)] t ∧ va_D (va_A [(y0, .inr (6, [.ref x0, .int kd, .int wh, .int od, .int tu, .long lo, .long hi])), (x0, .inr (5, [.ref k0, .ref w0, .int (nI nz), .int ch])), (k0, .inl (ck, L, .inl f)), (w0, .inl (cw, L, .inl g))] sz) [(y0, .inr (6, [.ref x0, .int kd, .int wh, .int od, .int tu, .long lo, .long hi])), (x0, .inr (5, [.ref u.1, .ref u.2.1, .int (nI (u.2.2.2.2.2.2.2.1)), .int u.2.2.2.2.2.2.2.2])), (u.1, .inl (u.2.2.1, u.2.2.2.2.1, .inl u.2.2.2.2.2.1)), (u.2.1, .inl (u.2.2.2.1, u.2.2.2.2.1, .inl u.2.2.2.2.2.2.1))] ∧ hT t.heap + 4 * L ≤ T0 + 4 * (u.2.2.2.2.1) ∧ t.heap.size + 2 * lgN L ≤ sz + 2 * lgN (u.2.2.2.2.1)) (va_A [(y0, .inr (6, [.ref x0, .int kd, .int wh, .int od, .int tu, .long lo, .long hi])), (x0, .inr (5, [.ref k0, .ref w0, .int (nI nz), .int ch])), (k0, .inl (ck, L, .inl f)), (w0, .inl (cw, L, .inl g))] sz)) (vx_X (fun _ : Unit => True) (fun (E : String) (_ : Unit) (t : State) => ((E = "java/lang/IllegalArgumentException" ∨ E = "java/lang/IllegalStateException") ∧ va_P (dC, dI) vwCl [(y0, .inr (6, [.ref x0, .int kd, .int wh, .int od, .int tu, .long lo, .long hi])), (x0, .inr (5, [.ref k0, .ref w0, .int (nI nz), .int ch])), (k0, .inl (ck, L, .inl f)), (w0, .inl (cw, L, .inl g))] t.heap ∧ va_K (dC, dI) vwCl [(ck, .int), (cw, .int)] t ∧ va_D (va_A [(y0, .inr (6, [.ref x0, .int kd, .int wh, .int od, .int tu, .long lo, .long hi])), (x0, .inr (5, [.ref k0, .ref w0, .int (nI nz), .int ch])), (k0, .inl (ck, L, .inl f)), (w0, .inl (cw, L, .inl g))] sz) [(y0, .inr (6, [.ref x0, .int kd, .int wh, .int od, .int tu, .long lo, .long hi])), (x0, .inr (5, [.ref k0, .ref w0, .int (nI nz), .int ch])), (k0, .inl (ck, L, .inl f)), (w0, .inl (cw, L, .inl g))]) ∧ t.heap.size ≤ sz + 1 ∧ hT t.heap ≤ T0 + 6) (va_A [(y0, .inr (6, [.ref x0, .int kd, .int wh, .int od, .int tu, .long lo, .long hi])), (x0, .inr (5, [.ref k0, .ref w0, .int (nI nz), .int ch])), (k0, .inl (ck, L, .inl f)), (w0, .inl (cw, L, .inl g))] sz)) 3 (gs + 6) (va_A [(y0, .inr (6, [.ref x0, .int kd, .int wh, .int od, .int tu, .long lo, .long hi])), (x0, .inr (5, [.ref k0, .ref w0, .int (nI nz), .int ch])), (k0, .inl (ck, L, .inl f)), (w0, .inl (cw, L, .inl g))] sz) := by
  refine vx_ofW (cc := cX3_put) (maxL := 4) (ret := (some .long)) (by decide) rfl ?_
  intro p e s m args below meth c s₁ B hml htab hv
  obtain ⟨rfl, ⟨hsz, hP, hK, hD0, hN, hZ⟩, hT0⟩ := hv
  have hx := B.exec
  have hb := B.bytes
  have hr := B.returns
  have hts := atoms_spec (ws := wsX3_put) B.pre
  have hown : s.vm.findClass RX3 = some m.cls := findClass_of_methodNamed B.named
  have hlocks := B.notSynchronized
  subst hsz
  subst hT0
  have hD := hD0.self (sz := s.heap.size)
  generalize hAe : va_A [(y0, .inr (6, [.ref x0, .int kd, .int wh, .int od, .int tu, .long lo, .long hi])), (x0, .inr (5, [.ref k0, .ref w0, .int (nI nz), .int ch])), (k0, .inl (ck, L, .inl f)), (w0, .inl (cw, L, .inl g))] s.heap.size = A at hZ hD ⊢
  have hA : ∀ q : Nat, s.heap.size ≤ q → A q := fun q h => by rw [← hAe]; exact Or.inr h
  have hS : va_S A s.heap s.heap [] := va_S.rf
  have hP : va_P (dC, dI) vwCl [(y0, .inr (6, [.ref x0, .int kd, .int wh, .int od, .int tu, .long lo, .long hi])), (x0, .inr (5, [.ref k0, .ref w0, .int (nI nz), .int ch])), (k0, .inl (ck, L, .inl f)), (w0, .inl (cw, L, .inl g))] s.heap := hP
  have hl := lv_entry ([.ref y0, .int p0, .int p1]) (n := 4) (Nat.le_of_ble_eq_true rfl)
  rw [lg_entry_eq]
  generalize (lg_sl ([.ref y0, .int p0, .int p1]) ++ List.replicate (4 - (lg_sl ([.ref y0, .int p0, .int p1])).length) Slot.unset).toArray = ls at hl ⊢
  have hl : lv_has ls 4 [(0, .ref y0), (1, .int p0), (2, .int p1)] := hl
  have hw0_ := hts (.constantLong RX3 53 (1099511627776)) (List.mem_of_getElem? (l := wsX3_put) (i := 1) rfl)
  obtain ⟨hL1, hL2, hz1, hz2⟩ := id hR9
  refine lv_aload_n hx hb dX3_put_0 rfl (lv_at hl 0 rfl) ?_
  refine lv_iload_n hx hb dX3_put_1 rfl (lv_at hl 1 rfl) ?_
  have hPc := hP.sub (ws' := [(y0, .inr (6, [.ref x0, .int kd, .int wh, .int od, .int tu, .long lo, .long hi])), (x0, .inr (5, [.ref k0, .ref w0, .int (nI nz), .int ch])), (k0, .inl (ck, L, .inl f)), (w0, .inl (cw, L, .inl g))]) [0, 1, 2, 3] rfl
  have hKc := hK.sub (tys' := [(ck, .int), (cw, .int)]) [0, 1] rfl
  refine ro_calli (va_runU (As := [.int p0]) (rest := []) ⟨hx, hb, hml, hown, hts⟩ (c_X6_find l  dC dI s.heap.size y0 kd wh od tu lo hi x0 k0 w0 ck cw L f g nz ch p0 hR9 ho1 ho2) (va_cwA 1 hts gX3_put_X6_find_u46X6 rfl rfl rfl (hN.xw _ (List.mem_of_getElem? (l := p_xw) (i := 0) rfl)) (by decide +kernel) ⟨(Nat.le_of_ble_eq_true rfl), (Nat.le_of_ble_eq_true rfl)⟩) ⟨pk_blindR, va_recv hKc hPc (ci := 6) (q0 := 0) rfl rfl, pk_callR hPc hKc⟩ rfl rfl hl.1 rfl (lv_room (Nat.le_of_ble_eq_true rfl)) dX3_put_2 ⟨(Nat.le_of_ble_eq_true rfl), (show 0 + 0 ≤ gs + 6 by omega)⟩) (fun r_1 ur_1 hw => ?_)
  clear hPc hKc
  try dsimp only at hw
  have jr_1 := hw
  refine W.eq (g2 := F0 m 5 ls [.int r_1]) rfl ?_
  refine lv_istore_n (lv' := [(3, .int r_1), (0, .ref y0), (1, .int p0), (2, .int p1)]) hx hb dX3_put_5 rfl hl (by decide) rfl (fun ls hl => ?_)
  refine lv_iload_n hx hb dX3_put_6 rfl (lv_at hl 0 rfl) ?_
  refine lv_if_ge (tgt := 20) hx hb dX3_put_7 (by decide) (fun c_2 => ?_) (fun c_2 => ?_)
  ·
    have ic_2 : 0 ≤ r_1.toInt := tx_le (by decide) rfl c_2
    refine lv_aload_n hx hb dX3_put_20 rfl (lv_at hl 1 rfl) ?_
    refine lv_iload_n hx hb dX3_put_21 rfl (lv_at hl 0 rfl) ?_
    refine lv_iload_n hx hb dX3_put_22 rfl (lv_at hl 3 rfl) ?_
    have hPc := hP.sub (ws' := [(y0, .inr (6, [.ref x0, .int kd, .int wh, .int od, .int tu, .long lo, .long hi])), (x0, .inr (5, [.ref k0, .ref w0, .int (nI nz), .int ch])), (k0, .inl (ck, L, .inl f)), (w0, .inl (cw, L, .inl g))]) [0, 1, 2, 3] rfl
    have hDc := hD.sub (ws' := [(y0, .inr (6, [.ref x0, .int kd, .int wh, .int od, .int tu, .long lo, .long hi])), (x0, .inr (5, [.ref k0, .ref w0, .int (nI nz), .int ch])), (k0, .inl (ck, L, .inl f)), (w0, .inl (cw, L, .inl g))]) [0, 1, 2, 3] (by decide) rfl
    have hKc := hK.sub (tys' := [(ck, .int), (cw, .int)]) [0, 1] rfl
    have hFc := va_free (wc := [(y0, .inr (6, [.ref x0, .int kd, .int wh, .int od, .int tu, .long lo, .long hi])), (x0, .inr (5, [.ref k0, .ref w0, .int (nI nz), .int ch])), (k0, .inl (ck, L, .inl f)), (w0, .inl (cw, L, .inl g))]) hD hS hA [0, 1, 2, 3] rfl
    have hZc := (hZ.kept hS.2.1).narrow hFc
    refine va_calll (va_runU (As := [.int r_1, .int p1]) (rest := []) ⟨hx, hb, hml, hown, hts⟩ (c_X3_replace_S l hlt dC dI s.heap.size y0 kd wh od tu lo hi x0 k0 w0 ck cw L f g nz ch r_1 p1 hR9 ho1 ho2) (va_cwU 2 hts gX3_put_X3_replace_u55X6 rfl rfl rfl rfl (by decide +kernel) ⟨(Nat.le_of_ble_eq_true rfl), (Nat.le_of_ble_eq_true rfl)⟩) ⟨pk_blindX, va_recv hKc hPc (ci := 6) (q0 := 0) rfl rfl, pk_callX hPc hKc hDc hN hZc⟩ rfl rfl hl.1 rfl (lv_room (Nat.le_of_ble_eq_true rfl)) dX3_put_23 ⟨(Nat.le_of_ble_eq_true rfl), (show 0 + 0 ≤ gs + 6 by omega)⟩) hS (fun q _ h => hFc q h) hFc (fun r_3 ur_3 t H1 locs ht hvm hw hB hz1 hk1 hS => ?_)
    try dsimp only at hw
    have jr_3 := hw
    obtain ⟨hP1, hK1, hD1⟩ := hB
    rw [ht] at hP1
    have hK1 := va_K.moved hvm.symm hK1
    obtain ⟨hP, hD⟩ := va_join (wr := []) (w1 := [(y0, .inr (6, [.ref x0, .int kd, .int wh, .int od, .int tu, .long lo, .long hi])), (x0, .inr (5, [.ref k0, .ref w0, .int (nI nz), .int ur_3.2.2])), (k0, .inl (ck, L, .inl ur_3.1)), (w0, .inl (cw, L, .inl ur_3.2.1))]) hP hD [0, 1, 2, 3] [] rfl rfl (by decide) (by decide) hk1 hFc hP1 hD1
    clear hk1 hz1 ht hPc hDc hKc hFc
    generalize H1 = H at hP hS ⊢
    replace hP : va_P (dC, dI) vwCl [(y0, .inr (6, [.ref x0, .int kd, .int wh, .int od, .int tu, .long lo, .long hi])), (x0, .inr (5, [.ref k0, .ref w0, .int (nI nz), .int ur_3.2.2])), (k0, .inl (ck, L, .inl ur_3.1)), (w0, .inl (cw, L, .inl ur_3.2.1))] H := hP
    replace hD : va_D A [(y0, .inr (6, [.ref x0, .int kd, .int wh, .int od, .int tu, .long lo, .long hi])), (x0, .inr (5, [.ref k0, .ref w0, .int (nI nz), .int ur_3.2.2])), (k0, .inl (ck, L, .inl ur_3.1)), (w0, .inl (cw, L, .inl ur_3.2.1))] := hD
    refine W.widen (k := 0) (n := 0) (Nat.le_of_ble_eq_true rfl) (Nat.le_of_ble_eq_true rfl) ?_
    refine W.eq (g2 := F0 m 26 ls [.long r_3]) rfl ?_
    refine W.book (fun hz9_ hn9_ => ?_)
    have hpost : kpL L nz (L) (nz) := Or.inl ⟨rfl, by omega⟩
    have hcost : hT H + 4 * L ≤ hT s.heap + 4 * (L) ∧ H.size + 2 * lgN L ≤ s.heap.size + 2 * lgN (L) := by constructor <;> omega
    have hP9 := hP.sub (ws' := [(y0, .inr (6, [.ref x0, .int kd, .int wh, .int od, .int tu, .long lo, .long hi])), (x0, .inr (5, [.ref k0, .ref w0, .int (nI nz), .int ur_3.2.2])), (k0, .inl (ck, L, .inl ur_3.1)), (w0, .inl (cw, L, .inl ur_3.2.1))]) [0, 1, 2, 3] rfl
    have hD9 := hD.sub (ws' := [(y0, .inr (6, [.ref x0, .int kd, .int wh, .int od, .int tu, .long lo, .long hi])), (x0, .inr (5, [.ref k0, .ref w0, .int (nI nz), .int ur_3.2.2])), (k0, .inl (ck, L, .inl ur_3.1)), (w0, .inl (cw, L, .inl ur_3.2.1))]) [0, 1, 2, 3] (by decide) rfl
    have hK9 := hK.sub (tys' := [(ck, .int), (cw, .int)]) [0, 1] rfl
    refine W.widen (k := 3) (n := gs + 6) (by omega) (by omega) ?_
    refine vx_ret ?_
    exact W.lret (v := r_3) hx hb hr (fun t ht hW => ⟨⟨r_3, (k0, w0, ck, cw, L, ur_3.1, ur_3.2.1, nz, ur_3.2.2), rfl, hpost, by rw [ht]; exact hP9, va_K.moved hW.alike hK9, hD9, by rw [ht]; exact hcost⟩, hS.F ht⟩) hS.2.2 dX3_put_26
  ·
    have ic_2 : r_1.toInt < 0 := tx_nle (by decide) rfl c_2
    refine lv_aload_n hx hb dX3_put_10 rfl (lv_at hl 1 rfl) ?_
    refine lv_iload_n hx hb dX3_put_11 rfl (lv_at hl 2 rfl) ?_
    refine lv_iload_n hx hb dX3_put_12 rfl (lv_at hl 3 rfl) ?_
    have hPc := hP.sub (ws' := [(y0, .inr (6, [.ref x0, .int kd, .int wh, .int od, .int tu, .long lo, .long hi])), (x0, .inr (5, [.ref k0, .ref w0, .int (nI nz), .int ch])), (k0, .inl (ck, L, .inl f)), (w0, .inl (cw, L, .inl g))]) [0, 1, 2, 3] rfl
    have hDc := hD.sub (ws' := [(y0, .inr (6, [.ref x0, .int kd, .int wh, .int od, .int tu, .long lo, .long hi])), (x0, .inr (5, [.ref k0, .ref w0, .int (nI nz), .int ch])), (k0, .inl (ck, L, .inl f)), (w0, .inl (cw, L, .inl g))]) [0, 1, 2, 3] (by decide) rfl
    have hKc := hK.sub (tys' := [(ck, .int), (cw, .int)]) [0, 1] rfl
    have hFc := va_free (wc := [(y0, .inr (6, [.ref x0, .int kd, .int wh, .int od, .int tu, .long lo, .long hi])), (x0, .inr (5, [.ref k0, .ref w0, .int (nI nz), .int ch])), (k0, .inl (ck, L, .inl f)), (w0, .inl (cw, L, .inl g))]) hD hS hA [0, 1, 2, 3] rfl
    have hZc := (hZ.kept hS.2.1).narrow hFc
    refine vx_callv (vx_runU (As := [.int p0, .int p1]) (rest := []) ⟨hx, hb, hml, hown, hts⟩ (c_X3_come_S l hlt dC dI s.heap.size (hT s.heap) y0 kd wh od tu lo hi x0 k0 w0 ck cw L f g nz ch p0 p1 gs hR9 ho1 ho2 hG9) (va_cwU 2 hts gX3_put_X3_come_u50X6 rfl rfl rfl rfl (by decide +kernel) ⟨(Nat.le_of_ble_eq_true rfl), (Nat.le_of_ble_eq_true rfl)⟩) ⟨pk_blindXT, va_recv hKc hPc (ci := 6) (q0 := 0) rfl rfl, pk_callXT hPc hKc hDc hN hZc⟩ rfl rfl hl.1 rfl (lv_room (Nat.le_of_ble_eq_true rfl)) dX3_put_13 ⟨(Nat.le_of_ble_eq_true rfl), (show 0 + (gs + 6) ≤ gs + 6 by omega)⟩) hS (fun q _ h => hFc q h) hFc (fun q _ h => hFc q h) (fun E ce q9 u9 t H1 locs ht hvm hw hB hz1 hk1 hS hce hcv hcl => ?_) (fun ur_4 t H1 locs ht hvm hw hB hz1 hk1 hS => ?_)
    ·
      try dsimp only at hB
      obtain ⟨⟨hE8, hP8, hK8, -⟩, hz8, hn8⟩ := hB
      have hD9 := hD.sub (ws' := [(y0, .inr (6, [.ref x0, .int kd, .int wh, .int od, .int tu, .long lo, .long hi])), (x0, .inr (5, [.ref k0, .ref w0, .int (nI nz), .int ch])), (k0, .inl (ck, L, .inl f)), (w0, .inl (cw, L, .inl g))]) [0, 1, 2, 3] (by decide) rfl
      exact vx_out (fun x hx9 => (htab x hx9).elim) hlocks hce hcv hcl (fun t9 ht9 hal9 => ⟨(), trivial, ⟨⟨hE8, by rw [ht9, ← ht]; exact hP8, va_K.moved (hvm.symm.trans hal9) hK8, hD9⟩, by rw [ht9, ← ht]; exact hz8, by rw [ht9, ← ht]; exact hn8⟩, hS.F ht9⟩) hS.2.2 (by omega) (by omega)
    ·
      try dsimp only at hw
      have jr_4 := hw
      obtain ⟨hP1, hK1, hD1, hC1_⟩ := hB
      rw [ht] at hP1 hC1_
      have hK1 := va_K.moved hvm.symm hK1
      obtain ⟨hP, hD⟩ := va_join (wr := []) (w1 := [(y0, .inr (6, [.ref x0, .int kd, .int wh, .int od, .int tu, .long lo, .long hi])), (x0, .inr (5, [.ref ur_4.1, .ref ur_4.2.1, .int (nI (ur_4.2.2.2.2.2.2.2.1)), .int ur_4.2.2.2.2.2.2.2.2])), (ur_4.1, .inl (ur_4.2.2.1, ur_4.2.2.2.2.1, .inl ur_4.2.2.2.2.2.1)), (ur_4.2.1, .inl (ur_4.2.2.2.1, ur_4.2.2.2.2.1, .inl ur_4.2.2.2.2.2.2.1))]) hP hD [0, 1, 2, 3] [] rfl rfl (by decide) (by decide) hk1 hFc hP1 hD1
      have hK := hK.app hK1
      have hK : va_K (dC, dI) vwCl [(ck, .int), (cw, .int), (ur_4.2.2.1, .int), (ur_4.2.2.2.1, .int)] s := hK
      have hcs1_ : hT H1 + 4 * L ≤ hT s.heap + 4 * (ur_4.2.2.2.2.1) := hC1_.1
      have hcs2_ : H1.size + 2 * lgN L ≤ s.heap.size + 2 * lgN (ur_4.2.2.2.2.1) := hC1_.2
      clear hC1_
      clear hk1 hz1 ht hPc hDc hKc hFc
      generalize H1 = H at hP hS hcs1_ hcs2_ ⊢
      replace hP : va_P (dC, dI) vwCl [(y0, .inr (6, [.ref x0, .int kd, .int wh, .int od, .int tu, .long lo, .long hi])), (x0, .inr (5, [.ref ur_4.1, .ref ur_4.2.1, .int (nI (ur_4.2.2.2.2.2.2.2.1)), .int ur_4.2.2.2.2.2.2.2.2])), (ur_4.1, .inl (ur_4.2.2.1, ur_4.2.2.2.2.1, .inl ur_4.2.2.2.2.2.1)), (ur_4.2.1, .inl (ur_4.2.2.2.1, ur_4.2.2.2.2.1, .inl ur_4.2.2.2.2.2.2.1))] H := hP
      replace hD : va_D A [(y0, .inr (6, [.ref x0, .int kd, .int wh, .int od, .int tu, .long lo, .long hi])), (x0, .inr (5, [.ref ur_4.1, .ref ur_4.2.1, .int (nI (ur_4.2.2.2.2.2.2.2.1)), .int ur_4.2.2.2.2.2.2.2.2])), (ur_4.1, .inl (ur_4.2.2.1, ur_4.2.2.2.2.1, .inl ur_4.2.2.2.2.2.1)), (ur_4.2.1, .inl (ur_4.2.2.2.1, ur_4.2.2.2.2.1, .inl ur_4.2.2.2.2.2.2.1))] := hD
      refine W.widen (k := 3) (n := gs + 6) (by omega) (by omega) ?_
      refine W.eq (g2 := F0 m 16 ls []) rfl ?_
      refine lv_ldc2 (v := 1099511627776) hx hb hown hw0_ dX3_put_16 ?_
      refine W.book (fun hz9_ hn9_ => ?_)
      have hpost : kpL L nz (ur_4.2.2.2.2.1) (ur_4.2.2.2.2.2.2.2.1) := Or.inr jr_4
      have hcost : hT H + 4 * L ≤ hT s.heap + 4 * (ur_4.2.2.2.2.1) ∧ H.size + 2 * lgN L ≤ s.heap.size + 2 * lgN (ur_4.2.2.2.2.1) := ⟨hcs1_, hcs2_⟩
      have hP9 := hP.sub (ws' := [(y0, .inr (6, [.ref x0, .int kd, .int wh, .int od, .int tu, .long lo, .long hi])), (x0, .inr (5, [.ref ur_4.1, .ref ur_4.2.1, .int (nI (ur_4.2.2.2.2.2.2.2.1)), .int ur_4.2.2.2.2.2.2.2.2])), (ur_4.1, .inl (ur_4.2.2.1, ur_4.2.2.2.2.1, .inl ur_4.2.2.2.2.2.1)), (ur_4.2.1, .inl (ur_4.2.2.2.1, ur_4.2.2.2.2.1, .inl ur_4.2.2.2.2.2.2.1))]) [0, 1, 2, 3] rfl
      have hD9 := hD.sub (ws' := [(y0, .inr (6, [.ref x0, .int kd, .int wh, .int od, .int tu, .long lo, .long hi])), (x0, .inr (5, [.ref ur_4.1, .ref ur_4.2.1, .int (nI (ur_4.2.2.2.2.2.2.2.1)), .int ur_4.2.2.2.2.2.2.2.2])), (ur_4.1, .inl (ur_4.2.2.1, ur_4.2.2.2.2.1, .inl ur_4.2.2.2.2.2.1)), (ur_4.2.1, .inl (ur_4.2.2.2.1, ur_4.2.2.2.2.1, .inl ur_4.2.2.2.2.2.2.1))]) [0, 1, 2, 3] (by decide) rfl
      have hK9 := hK.sub (tys' := [(ur_4.2.2.1, .int), (ur_4.2.2.2.1, .int)]) [2, 3] rfl
      refine W.widen (k := 3) (n := gs + 6) (by omega) (by omega) ?_
      refine vx_ret ?_
      exact W.lret (v := 1099511627776) hx hb hr (fun t ht hW => ⟨⟨1099511627776, (ur_4.1, ur_4.2.1, ur_4.2.2.1, ur_4.2.2.2.1, ur_4.2.2.2.2.1, ur_4.2.2.2.2.2.1, ur_4.2.2.2.2.2.2.1, ur_4.2.2.2.2.2.2.2.1, ur_4.2.2.2.2.2.2.2.2), rfl, hpost, by rw [ht]; exact hP9, va_K.moved hW.alike hK9, hD9, by rw [ht]; exact hcost⟩, hS.F ht⟩) hS.2.2 dX3_put_19
set_option maxHeartbeats 4000000 in
set_option maxRecDepth 100000 in
/-- Keyed.putIfAbsent of S -/
theorem c_X3_putIfAbsent_S (l : Launch) (hlt : l.stackTraces = false) (dC : Nat → ClassId) (dI : Nat → Nat → Nat) (sz : Nat) (T0 : Nat) (y0 : Nat) (kd : Int32) (wh : Int32) (od : Int32) (tu : Int32) (lo : Int64) (hi : Int64) (x0 : Nat) (k0 : Nat) (w0 : Nat) (ck : ClassId) (cw : ClassId) (L : Nat) (f : Nat → Int32) (g : Nat → Int32) (nz : Nat) (ch : Int32) (p0 : Int32) (p1 : Int32) (gs : Nat) (hR9 : rOK L nz) (ho1 : 0 ≤ od.toInt) (ho2 : od.toInt ≤ 3) (hG9 : nz < L ∨ 4 * L ≤ gs) : vx_Met l yX3_putIfAbsent wsX3_putIfAbsent ({ frames := 7, cells := 3, slots := gs + 6, locals := 290 }) (va_Pc [.ref y0, .int p0, .int p1] (pk_PreXT (dC, dI) [(y0, .inr (6, [.ref x0, .int kd, .int wh, .int od, .int tu, .long lo, .long hi])), (x0, .inr (5, [.ref k0, .ref w0, .int (nI nz), .int ch])), (k0, .inl (ck, L, .inl f)), (w0, .inl (cw, L, .inl g))] [(ck, .int), (cw, .int)] sz T0)) (va_Ql (fun (x : Int64) (u : Nat × Nat × ClassId × ClassId × Nat × (Nat → Int32) × (Nat → Int32) × Nat × Int32) => kpL L nz (u.2.2.2.2.1) (u.2.2.2.2.2.2.2.1)) (fun (u : Nat × Nat × ClassId × ClassId × Nat × (Nat → Int32) × (Nat → Int32) × Nat × Int32) (t : State) => va_P (dC, dI) vwCl [(y0, .inr (6, [.ref x0, .int kd, .int wh, .int od, .int tu, .long lo, .long hi])), (x0, .inr (5, [.ref u.1, .ref u.2.1, .int (nI (u.2.2.2.2.2.2.2.1)), .int u.2.2.2.2.2.2.2.2])), (u.1, .inl (u.2.2.1, u.2.2.2.2.1, .inl u.2.2.2.2.2.1)), (u.2.1, .inl (u.2.2.2.1, u.2.2.2.2.1, .inl u.2.2.2.2.2.2.1))] t.heap ∧ va_K (dC, dI) vwCl [(u.2.2.1, .int), (u.2.2.2.1, .int)] t ∧ va_D (va_A [(y0, .inr (6, [.ref x0, .int kd, .int wh, .int od, .int tu, .long lo, .long hi])), (x0, .inr (5, [.ref k0, .ref w0, .int (nI nz), .int ch])), (k0, .inl (ck, L, .inl f)), (w0, .inl (cw, L, .inl g))] sz) [(y0, .inr (6, [.ref x0, .int kd, .int wh, .int od, .int tu, .long lo, .long hi])), (x0, .inr (5, [.ref u.1, .ref u.2.1, .int (nI (u.2.2.2.2.2.2.2.1)), .int u.2.2.2.2.2.2.2.2])), (u.1, .inl (u.2.2.1, u.2.2.2.2.1, .inl u.2.2.2.2.2.1)), (u.2.1, .inl (u.2.2.2.1, u.2.2.2.2.1, .inl u.2.2.2.2.2.2.1))] ∧ hT t.heap + 4 * L ≤ T0 + 4 * (u.2.2.2.2.1) ∧ t.heap.size + 2 * lgN L ≤ sz + 2 * lgN (u.2.2.2.2.1)) (va_A [(y0, .inr (6, [.ref x0, .int kd, .int wh, .int od, .int tu, .long lo, .long hi])), (x0, .inr (5, [.ref k0, .ref w0, .int (nI nz), .int ch])), (k0, .inl (ck, L, .inl f)), (w0, .inl (cw, L, .inl g))] sz)) (vx_X (fun _ : Unit => True) (fun (E : String) (_ : Unit) (t : State) => ((E = "java/lang/IllegalArgumentException" ∨ E = "java/lang/IllegalStateException") ∧ va_P (dC, dI) vwCl [(y0, .inr (6, [.ref x0, .int kd, .int wh, .int od, .int tu, .long lo, .long hi])), (x0, .inr (5, [.ref k0, .ref w0, .int (nI nz), .int ch])), (k0, .inl (ck, L, .inl f)), (w0, .inl (cw, L, .inl g))] t.heap ∧ va_K (dC, dI) vwCl [(ck, .int), (cw, .int)] t ∧ va_D (va_A [(y0, .inr (6, [.ref x0, .int kd, .int wh, .int od, .int tu, .long lo, .long hi])), (x0, .inr (5, [.ref k0, .ref w0, .int (nI nz), .int ch])), (k0, .inl (ck, L, .inl f)), (w0, .inl (cw, L, .inl g))] sz) [(y0, .inr (6, [.ref x0, .int kd, .int wh, .int od, .int tu, .long lo, .long hi])), (x0, .inr (5, [.ref k0, .ref w0, .int (nI nz), .int ch])), (k0, .inl (ck, L, .inl f)), (w0, .inl (cw, L, .inl g))]) ∧ t.heap.size ≤ sz + 1 ∧ hT t.heap ≤ T0 + 6) (va_A [(y0, .inr (6, [.ref x0, .int kd, .int wh, .int od, .int tu, .long lo, .long hi])), (x0, .inr (5, [.ref k0, .ref w0, .int (nI nz), .int ch])), (k0, .inl (ck, L, .inl f)), (w0, .inl (cw, L, .inl g))] sz)) 3 (gs + 6) (va_A [(y0, .inr (6, [.ref x0, .int kd, .int wh, .int od, .int tu, .long lo, .long hi])), (x0, .inr (5, [.ref k0, .ref w0, .int (nI nz), .int ch])), (k0, .inl (ck, L, .inl f)), (w0, .inl (cw, L, .inl g))] sz) := by
  refine vx_ofW (cc := cX3_putIfAbsent) (maxL := 4) (ret := (some .long)) (by decide) rfl ?_
  intro p e s m args below meth c s₁ B hml htab hv
  obtain ⟨rfl, ⟨hsz, hP, hK, hD0, hN, hZ⟩, hT0⟩ := hv
  have hx := B.exec
  have hb := B.bytes
  have hr := B.returns
  have hts := atoms_spec (ws := wsX3_putIfAbsent) B.pre
  have hown : s.vm.findClass RX3 = some m.cls := findClass_of_methodNamed B.named
  have hlocks := B.notSynchronized
  subst hsz
  subst hT0
  have hD := hD0.self (sz := s.heap.size)
  generalize hAe : va_A [(y0, .inr (6, [.ref x0, .int kd, .int wh, .int od, .int tu, .long lo, .long hi])), (x0, .inr (5, [.ref k0, .ref w0, .int (nI nz), .int ch])), (k0, .inl (ck, L, .inl f)), (w0, .inl (cw, L, .inl g))] s.heap.size = A at hZ hD ⊢
  have hA : ∀ q : Nat, s.heap.size ≤ q → A q := fun q h => by rw [← hAe]; exact Or.inr h
  have hS : va_S A s.heap s.heap [] := va_S.rf
  have hP : va_P (dC, dI) vwCl [(y0, .inr (6, [.ref x0, .int kd, .int wh, .int od, .int tu, .long lo, .long hi])), (x0, .inr (5, [.ref k0, .ref w0, .int (nI nz), .int ch])), (k0, .inl (ck, L, .inl f)), (w0, .inl (cw, L, .inl g))] s.heap := hP
  have hl := lv_entry ([.ref y0, .int p0, .int p1]) (n := 4) (Nat.le_of_ble_eq_true rfl)
  rw [lg_entry_eq]
  generalize (lg_sl ([.ref y0, .int p0, .int p1]) ++ List.replicate (4 - (lg_sl ([.ref y0, .int p0, .int p1])).length) Slot.unset).toArray = ls at hl ⊢
  have hl : lv_has ls 4 [(0, .ref y0), (1, .int p0), (2, .int p1)] := hl
  have hw0_ := hts (.fieldLink RX3 9 "KeyAtlas$Keyed" "rows" "LKeyAtlas$Rows;") (List.mem_of_getElem? (l := wsX3_putIfAbsent) (i := 2) rfl)
  have hw1_ := hts (.constantLong RX3 53 (1099511627776)) (List.mem_of_getElem? (l := wsX3_putIfAbsent) (i := 1) rfl)
  have hi0_ : ∀ w ∈ u_ws RX6 TX6 7, w ∈ wsX3_putIfAbsent := fun w h => List.mem_cons_of_mem _ (List.mem_append_left _ (List.mem_append_left _ (List.mem_append_left _ (List.mem_append_right _ h))))
  obtain ⟨hL1, hL2, hz1, hz2⟩ := id hR9
  refine lv_aload_n hx hb dX3_putIfAbsent_0 rfl (lv_at hl 0 rfl) ?_
  refine lv_iload_n hx hb dX3_putIfAbsent_1 rfl (lv_at hl 1 rfl) ?_
  have hPc := hP.sub (ws' := [(y0, .inr (6, [.ref x0, .int kd, .int wh, .int od, .int tu, .long lo, .long hi])), (x0, .inr (5, [.ref k0, .ref w0, .int (nI nz), .int ch])), (k0, .inl (ck, L, .inl f)), (w0, .inl (cw, L, .inl g))]) [0, 1, 2, 3] rfl
  have hKc := hK.sub (tys' := [(ck, .int), (cw, .int)]) [0, 1] rfl
  refine ro_calli (va_runU (As := [.int p0]) (rest := []) ⟨hx, hb, hml, hown, hts⟩ (c_X6_find l  dC dI s.heap.size y0 kd wh od tu lo hi x0 k0 w0 ck cw L f g nz ch p0 hR9 ho1 ho2) (va_cwA 1 hts gX3_putIfAbsent_X6_find_u46X6 rfl rfl rfl (hN.xw _ (List.mem_of_getElem? (l := p_xw) (i := 0) rfl)) (by decide +kernel) ⟨(Nat.le_of_ble_eq_true rfl), (Nat.le_of_ble_eq_true rfl)⟩) ⟨pk_blindR, va_recv hKc hPc (ci := 6) (q0 := 0) rfl rfl, pk_callR hPc hKc⟩ rfl rfl hl.1 rfl (lv_room (Nat.le_of_ble_eq_true rfl)) dX3_putIfAbsent_2 ⟨(Nat.le_of_ble_eq_true rfl), (show 0 + 0 ≤ gs + 6 by omega)⟩) (fun r_1 ur_1 hw => ?_)
  clear hPc hKc
  try dsimp only at hw
  have jr_1 := hw
  refine W.eq (g2 := F0 m 5 ls [.int r_1]) rfl ?_
  refine lv_istore_n (lv' := [(3, .int r_1), (0, .ref y0), (1, .int p0), (2, .int p1)]) hx hb dX3_putIfAbsent_5 rfl hl (by decide) rfl (fun ls hl => ?_)
  refine lv_iload_n hx hb dX3_putIfAbsent_6 rfl (lv_at hl 0 rfl) ?_
  refine lv_if_ge (tgt := 20) hx hb dX3_putIfAbsent_7 (by decide) (fun c_2 => ?_) (fun c_2 => ?_)
  ·
    have ic_2 : 0 ≤ r_1.toInt := tx_le (by decide) rfl c_2
    refine lv_aload_n hx hb dX3_putIfAbsent_20 rfl (lv_at hl 1 rfl) ?_
    refine lv_iload_n hx hb dX3_putIfAbsent_21 rfl (lv_at hl 0 rfl) ?_
    refine lv_aload_n hx hb dX3_putIfAbsent_22 rfl (lv_at hl 1 rfl) ?_
    refine va_get (D := (dC, dI)) (ci := 6) (v := .ref x0) (C := RX6) (T := TX6) (N := 7) hx hb hts hi0_ hown hK hP 0 rfl rfl 0 (by decide) hw0_ (fun _ h9 => h9) rfl dX3_putIfAbsent_23 ?_
    refine lv_iload_n hx hb dX3_putIfAbsent_26 rfl (lv_at hl 0 rfl) ?_
    have hPc := hP.sub (ws' := [(x0, .inr (5, [.ref k0, .ref w0, .int (nI nz), .int ch])), (k0, .inl (ck, L, .inl f)), (w0, .inl (cw, L, .inl g))]) [1, 2, 3] rfl
    have hKc := hK.sub (tys' := [(ck, .int), (cw, .int)]) [0, 1] rfl
    refine ro_calli (va_runV (As := [.int r_1]) (rest := [.int r_1, .ref y0]) ⟨hx, hb, hml, hown, hts⟩ (c_X5_value l  dC dI s.heap.size x0 k0 w0 ck cw L f g nz ch r_1 hR9) (cwV 1 hts gX3_putIfAbsent_X5_value rfl rfl rfl (by decide +kernel) ⟨(Nat.le_of_ble_eq_true rfl), (Nat.le_of_ble_eq_true rfl)⟩) ⟨pk_blindR, va_recv hKc hPc (ci := 5) (q0 := 0) rfl rfl, pk_callR hPc hKc⟩ rfl rfl hl.1 rfl (lv_room (Nat.le_of_ble_eq_true rfl)) dX3_putIfAbsent_27 ⟨(Nat.le_of_ble_eq_true rfl), (show 0 + 0 ≤ gs + 6 by omega)⟩) (fun r_3 ur_3 hw => ?_)
    clear hPc hKc
    try dsimp only at hw
    have jr_3 := hw
    refine W.eq (g2 := F0 m 30 ls [.int r_3, .int r_1, .ref y0]) rfl ?_
    have hPc := hP.sub (ws' := [(y0, .inr (6, [.ref x0, .int kd, .int wh, .int od, .int tu, .long lo, .long hi])), (x0, .inr (5, [.ref k0, .ref w0, .int (nI nz), .int ch])), (k0, .inl (ck, L, .inl f)), (w0, .inl (cw, L, .inl g))]) [0, 1, 2, 3] rfl
    have hDc := hD.sub (ws' := [(y0, .inr (6, [.ref x0, .int kd, .int wh, .int od, .int tu, .long lo, .long hi])), (x0, .inr (5, [.ref k0, .ref w0, .int (nI nz), .int ch])), (k0, .inl (ck, L, .inl f)), (w0, .inl (cw, L, .inl g))]) [0, 1, 2, 3] (by decide) rfl
    have hKc := hK.sub (tys' := [(ck, .int), (cw, .int)]) [0, 1] rfl
    have hFc := va_free (wc := [(y0, .inr (6, [.ref x0, .int kd, .int wh, .int od, .int tu, .long lo, .long hi])), (x0, .inr (5, [.ref k0, .ref w0, .int (nI nz), .int ch])), (k0, .inl (ck, L, .inl f)), (w0, .inl (cw, L, .inl g))]) hD hS hA [0, 1, 2, 3] rfl
    have hZc := (hZ.kept hS.2.1).narrow hFc
    refine va_calll (va_runU (As := [.int r_1, .int r_3]) (rest := []) ⟨hx, hb, hml, hown, hts⟩ (c_X3_replace_S l hlt dC dI s.heap.size y0 kd wh od tu lo hi x0 k0 w0 ck cw L f g nz ch r_1 r_3 hR9 ho1 ho2) (va_cwU 2 hts gX3_putIfAbsent_X3_replace_u55X6 rfl rfl rfl rfl (by decide +kernel) ⟨(Nat.le_of_ble_eq_true rfl), (Nat.le_of_ble_eq_true rfl)⟩) ⟨pk_blindX, va_recv hKc hPc (ci := 6) (q0 := 0) rfl rfl, pk_callX hPc hKc hDc hN hZc⟩ rfl rfl hl.1 rfl (lv_room (Nat.le_of_ble_eq_true rfl)) dX3_putIfAbsent_30 ⟨(Nat.le_of_ble_eq_true rfl), (show 0 + 0 ≤ gs + 6 by omega)⟩) hS (fun q _ h => hFc q h) hFc (fun r_4 ur_4 t H1 locs ht hvm hw hB hz1 hk1 hS => ?_)
    try dsimp only at hw
    have jr_4 := hw
    obtain ⟨hP1, hK1, hD1⟩ := hB
    rw [ht] at hP1
    have hK1 := va_K.moved hvm.symm hK1
    obtain ⟨hP, hD⟩ := va_join (wr := []) (w1 := [(y0, .inr (6, [.ref x0, .int kd, .int wh, .int od, .int tu, .long lo, .long hi])), (x0, .inr (5, [.ref k0, .ref w0, .int (nI nz), .int ur_4.2.2])), (k0, .inl (ck, L, .inl ur_4.1)), (w0, .inl (cw, L, .inl ur_4.2.1))]) hP hD [0, 1, 2, 3] [] rfl rfl (by decide) (by decide) hk1 hFc hP1 hD1
    clear hk1 hz1 ht hPc hDc hKc hFc
    generalize H1 = H at hP hS ⊢
    replace hP : va_P (dC, dI) vwCl [(y0, .inr (6, [.ref x0, .int kd, .int wh, .int od, .int tu, .long lo, .long hi])), (x0, .inr (5, [.ref k0, .ref w0, .int (nI nz), .int ur_4.2.2])), (k0, .inl (ck, L, .inl ur_4.1)), (w0, .inl (cw, L, .inl ur_4.2.1))] H := hP
    replace hD : va_D A [(y0, .inr (6, [.ref x0, .int kd, .int wh, .int od, .int tu, .long lo, .long hi])), (x0, .inr (5, [.ref k0, .ref w0, .int (nI nz), .int ur_4.2.2])), (k0, .inl (ck, L, .inl ur_4.1)), (w0, .inl (cw, L, .inl ur_4.2.1))] := hD
    refine W.widen (k := 0) (n := 0) (Nat.le_of_ble_eq_true rfl) (Nat.le_of_ble_eq_true rfl) ?_
    refine W.eq (g2 := F0 m 33 ls [.long r_4]) rfl ?_
    refine W.book (fun hz9_ hn9_ => ?_)
    have hpost : kpL L nz (L) (nz) := Or.inl ⟨rfl, by omega⟩
    have hcost : hT H + 4 * L ≤ hT s.heap + 4 * (L) ∧ H.size + 2 * lgN L ≤ s.heap.size + 2 * lgN (L) := by constructor <;> omega
    have hP9 := hP.sub (ws' := [(y0, .inr (6, [.ref x0, .int kd, .int wh, .int od, .int tu, .long lo, .long hi])), (x0, .inr (5, [.ref k0, .ref w0, .int (nI nz), .int ur_4.2.2])), (k0, .inl (ck, L, .inl ur_4.1)), (w0, .inl (cw, L, .inl ur_4.2.1))]) [0, 1, 2, 3] rfl
    have hD9 := hD.sub (ws' := [(y0, .inr (6, [.ref x0, .int kd, .int wh, .int od, .int tu, .long lo, .long hi])), (x0, .inr (5, [.ref k0, .ref w0, .int (nI nz), .int ur_4.2.2])), (k0, .inl (ck, L, .inl ur_4.1)), (w0, .inl (cw, L, .inl ur_4.2.1))]) [0, 1, 2, 3] (by decide) rfl
    have hK9 := hK.sub (tys' := [(ck, .int), (cw, .int)]) [0, 1] rfl
    refine W.widen (k := 3) (n := gs + 6) (by omega) (by omega) ?_
    refine vx_ret ?_
    exact W.lret (v := r_4) hx hb hr (fun t ht hW => ⟨⟨r_4, (k0, w0, ck, cw, L, ur_4.1, ur_4.2.1, nz, ur_4.2.2), rfl, hpost, by rw [ht]; exact hP9, va_K.moved hW.alike hK9, hD9, by rw [ht]; exact hcost⟩, hS.F ht⟩) hS.2.2 dX3_putIfAbsent_33
  ·
    have ic_2 : r_1.toInt < 0 := tx_nle (by decide) rfl c_2
    refine lv_aload_n hx hb dX3_putIfAbsent_10 rfl (lv_at hl 1 rfl) ?_
    refine lv_iload_n hx hb dX3_putIfAbsent_11 rfl (lv_at hl 2 rfl) ?_
    refine lv_iload_n hx hb dX3_putIfAbsent_12 rfl (lv_at hl 3 rfl) ?_
    have hPc := hP.sub (ws' := [(y0, .inr (6, [.ref x0, .int kd, .int wh, .int od, .int tu, .long lo, .long hi])), (x0, .inr (5, [.ref k0, .ref w0, .int (nI nz), .int ch])), (k0, .inl (ck, L, .inl f)), (w0, .inl (cw, L, .inl g))]) [0, 1, 2, 3] rfl
    have hDc := hD.sub (ws' := [(y0, .inr (6, [.ref x0, .int kd, .int wh, .int od, .int tu, .long lo, .long hi])), (x0, .inr (5, [.ref k0, .ref w0, .int (nI nz), .int ch])), (k0, .inl (ck, L, .inl f)), (w0, .inl (cw, L, .inl g))]) [0, 1, 2, 3] (by decide) rfl
    have hKc := hK.sub (tys' := [(ck, .int), (cw, .int)]) [0, 1] rfl
    have hFc := va_free (wc := [(y0, .inr (6, [.ref x0, .int kd, .int wh, .int od, .int tu, .long lo, .long hi])), (x0, .inr (5, [.ref k0, .ref w0, .int (nI nz), .int ch])), (k0, .inl (ck, L, .inl f)), (w0, .inl (cw, L, .inl g))]) hD hS hA [0, 1, 2, 3] rfl
    have hZc := (hZ.kept hS.2.1).narrow hFc
    refine vx_callv (vx_runU (As := [.int p0, .int p1]) (rest := []) ⟨hx, hb, hml, hown, hts⟩ (c_X3_come_S l hlt dC dI s.heap.size (hT s.heap) y0 kd wh od tu lo hi x0 k0 w0 ck cw L f g nz ch p0 p1 gs hR9 ho1 ho2 hG9) (va_cwU 2 hts gX3_putIfAbsent_X3_come_u50X6 rfl rfl rfl rfl (by decide +kernel) ⟨(Nat.le_of_ble_eq_true rfl), (Nat.le_of_ble_eq_true rfl)⟩) ⟨pk_blindXT, va_recv hKc hPc (ci := 6) (q0 := 0) rfl rfl, pk_callXT hPc hKc hDc hN hZc⟩ rfl rfl hl.1 rfl (lv_room (Nat.le_of_ble_eq_true rfl)) dX3_putIfAbsent_13 ⟨(Nat.le_of_ble_eq_true rfl), (show 0 + (gs + 6) ≤ gs + 6 by omega)⟩) hS (fun q _ h => hFc q h) hFc (fun q _ h => hFc q h) (fun E ce q9 u9 t H1 locs ht hvm hw hB hz1 hk1 hS hce hcv hcl => ?_) (fun ur_5 t H1 locs ht hvm hw hB hz1 hk1 hS => ?_)
    ·
      try dsimp only at hB
      obtain ⟨⟨hE8, hP8, hK8, -⟩, hz8, hn8⟩ := hB
      have hD9 := hD.sub (ws' := [(y0, .inr (6, [.ref x0, .int kd, .int wh, .int od, .int tu, .long lo, .long hi])), (x0, .inr (5, [.ref k0, .ref w0, .int (nI nz), .int ch])), (k0, .inl (ck, L, .inl f)), (w0, .inl (cw, L, .inl g))]) [0, 1, 2, 3] (by decide) rfl
      exact vx_out (fun x hx9 => (htab x hx9).elim) hlocks hce hcv hcl (fun t9 ht9 hal9 => ⟨(), trivial, ⟨⟨hE8, by rw [ht9, ← ht]; exact hP8, va_K.moved (hvm.symm.trans hal9) hK8, hD9⟩, by rw [ht9, ← ht]; exact hz8, by rw [ht9, ← ht]; exact hn8⟩, hS.F ht9⟩) hS.2.2 (by omega) (by omega)
    ·
      try dsimp only at hw
      have jr_5 := hw
      obtain ⟨hP1, hK1, hD1, hC1_⟩ := hB
      rw [ht] at hP1 hC1_
      have hK1 := va_K.moved hvm.symm hK1
      obtain ⟨hP, hD⟩ := va_join (wr := []) (w1 := [(y0, .inr (6, [.ref x0, .int kd, .int wh, .int od, .int tu, .long lo, .long hi])), (x0, .inr (5, [.ref ur_5.1, .ref ur_5.2.1, .int (nI (ur_5.2.2.2.2.2.2.2.1)), .int ur_5.2.2.2.2.2.2.2.2])), (ur_5.1, .inl (ur_5.2.2.1, ur_5.2.2.2.2.1, .inl ur_5.2.2.2.2.2.1)), (ur_5.2.1, .inl (ur_5.2.2.2.1, ur_5.2.2.2.2.1, .inl ur_5.2.2.2.2.2.2.1))]) hP hD [0, 1, 2, 3] [] rfl rfl (by decide) (by decide) hk1 hFc hP1 hD1
      have hK := hK.app hK1
      have hK : va_K (dC, dI) vwCl [(ck, .int), (cw, .int), (ur_5.2.2.1, .int), (ur_5.2.2.2.1, .int)] s := hK
      have hcs1_ : hT H1 + 4 * L ≤ hT s.heap + 4 * (ur_5.2.2.2.2.1) := hC1_.1
      have hcs2_ : H1.size + 2 * lgN L ≤ s.heap.size + 2 * lgN (ur_5.2.2.2.2.1) := hC1_.2
      clear hC1_
      clear hk1 hz1 ht hPc hDc hKc hFc
      generalize H1 = H at hP hS hcs1_ hcs2_ ⊢
      replace hP : va_P (dC, dI) vwCl [(y0, .inr (6, [.ref x0, .int kd, .int wh, .int od, .int tu, .long lo, .long hi])), (x0, .inr (5, [.ref ur_5.1, .ref ur_5.2.1, .int (nI (ur_5.2.2.2.2.2.2.2.1)), .int ur_5.2.2.2.2.2.2.2.2])), (ur_5.1, .inl (ur_5.2.2.1, ur_5.2.2.2.2.1, .inl ur_5.2.2.2.2.2.1)), (ur_5.2.1, .inl (ur_5.2.2.2.1, ur_5.2.2.2.2.1, .inl ur_5.2.2.2.2.2.2.1))] H := hP
      replace hD : va_D A [(y0, .inr (6, [.ref x0, .int kd, .int wh, .int od, .int tu, .long lo, .long hi])), (x0, .inr (5, [.ref ur_5.1, .ref ur_5.2.1, .int (nI (ur_5.2.2.2.2.2.2.2.1)), .int ur_5.2.2.2.2.2.2.2.2])), (ur_5.1, .inl (ur_5.2.2.1, ur_5.2.2.2.2.1, .inl ur_5.2.2.2.2.2.1)), (ur_5.2.1, .inl (ur_5.2.2.2.1, ur_5.2.2.2.2.1, .inl ur_5.2.2.2.2.2.2.1))] := hD
      refine W.widen (k := 3) (n := gs + 6) (by omega) (by omega) ?_
      refine W.eq (g2 := F0 m 16 ls []) rfl ?_
      refine lv_ldc2 (v := 1099511627776) hx hb hown hw1_ dX3_putIfAbsent_16 ?_
      refine W.book (fun hz9_ hn9_ => ?_)
      have hpost : kpL L nz (ur_5.2.2.2.2.1) (ur_5.2.2.2.2.2.2.2.1) := Or.inr jr_5
      have hcost : hT H + 4 * L ≤ hT s.heap + 4 * (ur_5.2.2.2.2.1) ∧ H.size + 2 * lgN L ≤ s.heap.size + 2 * lgN (ur_5.2.2.2.2.1) := ⟨hcs1_, hcs2_⟩
      have hP9 := hP.sub (ws' := [(y0, .inr (6, [.ref x0, .int kd, .int wh, .int od, .int tu, .long lo, .long hi])), (x0, .inr (5, [.ref ur_5.1, .ref ur_5.2.1, .int (nI (ur_5.2.2.2.2.2.2.2.1)), .int ur_5.2.2.2.2.2.2.2.2])), (ur_5.1, .inl (ur_5.2.2.1, ur_5.2.2.2.2.1, .inl ur_5.2.2.2.2.2.1)), (ur_5.2.1, .inl (ur_5.2.2.2.1, ur_5.2.2.2.2.1, .inl ur_5.2.2.2.2.2.2.1))]) [0, 1, 2, 3] rfl
      have hD9 := hD.sub (ws' := [(y0, .inr (6, [.ref x0, .int kd, .int wh, .int od, .int tu, .long lo, .long hi])), (x0, .inr (5, [.ref ur_5.1, .ref ur_5.2.1, .int (nI (ur_5.2.2.2.2.2.2.2.1)), .int ur_5.2.2.2.2.2.2.2.2])), (ur_5.1, .inl (ur_5.2.2.1, ur_5.2.2.2.2.1, .inl ur_5.2.2.2.2.2.1)), (ur_5.2.1, .inl (ur_5.2.2.2.1, ur_5.2.2.2.2.1, .inl ur_5.2.2.2.2.2.2.1))]) [0, 1, 2, 3] (by decide) rfl
      have hK9 := hK.sub (tys' := [(ur_5.2.2.1, .int), (ur_5.2.2.2.1, .int)]) [2, 3] rfl
      refine W.widen (k := 3) (n := gs + 6) (by omega) (by omega) ?_
      refine vx_ret ?_
      exact W.lret (v := 1099511627776) hx hb hr (fun t ht hW => ⟨⟨1099511627776, (ur_5.1, ur_5.2.1, ur_5.2.2.1, ur_5.2.2.2.1, ur_5.2.2.2.2.1, ur_5.2.2.2.2.2.1, ur_5.2.2.2.2.2.2.1, ur_5.2.2.2.2.2.2.2.1, ur_5.2.2.2.2.2.2.2.2), rfl, hpost, by rw [ht]; exact hP9, va_K.moved hW.alike hK9, hD9, by rw [ht]; exact hcost⟩, hS.F ht⟩) hS.2.2 dX3_putIfAbsent_19
set_option maxHeartbeats 4000000 in
set_option maxRecDepth 100000 in
/-- Keyed.putMore of S -/
theorem c_X3_putMore_S (l : Launch) (hlt : l.stackTraces = false) (dC : Nat → ClassId) (dI : Nat → Nat → Nat) (sz : Nat) (T0 : Nat) (y0 : Nat) (kd : Int32) (wh : Int32) (od : Int32) (tu : Int32) (lo : Int64) (hi : Int64) (x0 : Nat) (k0 : Nat) (w0 : Nat) (ck : ClassId) (cw : ClassId) (L : Nat) (f : Nat → Int32) (g : Nat → Int32) (nz : Nat) (ch : Int32) (p0 : Int32) (p1 : Int32) (gs : Nat) (hR9 : rOK L nz) (ho1 : 0 ≤ od.toInt) (ho2 : od.toInt ≤ 3) (hG9 : nz < L ∨ 4 * L ≤ gs) : vx_Met l yX3_putMore wsX3_putMore ({ frames := 7, cells := 3, slots := gs + 6, locals := 290 }) (va_Pc [.ref y0, .int p0, .int p1] (pk_PreXT (dC, dI) [(y0, .inr (6, [.ref x0, .int kd, .int wh, .int od, .int tu, .long lo, .long hi])), (x0, .inr (5, [.ref k0, .ref w0, .int (nI nz), .int ch])), (k0, .inl (ck, L, .inl f)), (w0, .inl (cw, L, .inl g))] [(ck, .int), (cw, .int)] sz T0)) (va_Ql (fun (x : Int64) (u : Nat × Nat × ClassId × ClassId × Nat × (Nat → Int32) × (Nat → Int32) × Nat × Int32) => kpL L nz (u.2.2.2.2.1) (u.2.2.2.2.2.2.2.1)) (fun (u : Nat × Nat × ClassId × ClassId × Nat × (Nat → Int32) × (Nat → Int32) × Nat × Int32) (t : State) => va_P (dC, dI) vwCl [(y0, .inr (6, [.ref x0, .int kd, .int wh, .int od, .int tu, .long lo, .long hi])), (x0, .inr (5, [.ref u.1, .ref u.2.1, .int (nI (u.2.2.2.2.2.2.2.1)), .int u.2.2.2.2.2.2.2.2])), (u.1, .inl (u.2.2.1, u.2.2.2.2.1, .inl u.2.2.2.2.2.1)), (u.2.1, .inl (u.2.2.2.1, u.2.2.2.2.1, .inl u.2.2.2.2.2.2.1))] t.heap ∧ va_K (dC, dI) vwCl [(u.2.2.1, .int), (u.2.2.2.1, .int)] t ∧ va_D (va_A [(y0, .inr (6, [.ref x0, .int kd, .int wh, .int od, .int tu, .long lo, .long hi])), (x0, .inr (5, [.ref k0, .ref w0, .int (nI nz), .int ch])), (k0, .inl (ck, L, .inl f)), (w0, .inl (cw, L, .inl g))] sz) [(y0, .inr (6, [.ref x0, .int kd, .int wh, .int od, .int tu, .long lo, .long hi])), (x0, .inr (5, [.ref u.1, .ref u.2.1, .int (nI (u.2.2.2.2.2.2.2.1)), .int u.2.2.2.2.2.2.2.2])), (u.1, .inl (u.2.2.1, u.2.2.2.2.1, .inl u.2.2.2.2.2.1)), (u.2.1, .inl (u.2.2.2.1, u.2.2.2.2.1, .inl u.2.2.2.2.2.2.1))] ∧ hT t.heap + 4 * L ≤ T0 + 4 * (u.2.2.2.2.1) ∧ t.heap.size + 2 * lgN L ≤ sz + 2 * lgN (u.2.2.2.2.1)) (va_A [(y0, .inr (6, [.ref x0, .int kd, .int wh, .int od, .int tu, .long lo, .long hi])), (x0, .inr (5, [.ref k0, .ref w0, .int (nI nz), .int ch])), (k0, .inl (ck, L, .inl f)), (w0, .inl (cw, L, .inl g))] sz)) (vx_X (fun _ : Unit => True) (fun (E : String) (_ : Unit) (t : State) => ((E = "java/lang/IllegalArgumentException" ∨ E = "java/lang/IllegalStateException") ∧ va_P (dC, dI) vwCl [(y0, .inr (6, [.ref x0, .int kd, .int wh, .int od, .int tu, .long lo, .long hi])), (x0, .inr (5, [.ref k0, .ref w0, .int (nI nz), .int ch])), (k0, .inl (ck, L, .inl f)), (w0, .inl (cw, L, .inl g))] t.heap ∧ va_K (dC, dI) vwCl [(ck, .int), (cw, .int)] t ∧ va_D (va_A [(y0, .inr (6, [.ref x0, .int kd, .int wh, .int od, .int tu, .long lo, .long hi])), (x0, .inr (5, [.ref k0, .ref w0, .int (nI nz), .int ch])), (k0, .inl (ck, L, .inl f)), (w0, .inl (cw, L, .inl g))] sz) [(y0, .inr (6, [.ref x0, .int kd, .int wh, .int od, .int tu, .long lo, .long hi])), (x0, .inr (5, [.ref k0, .ref w0, .int (nI nz), .int ch])), (k0, .inl (ck, L, .inl f)), (w0, .inl (cw, L, .inl g))]) ∧ t.heap.size ≤ sz + 1 ∧ hT t.heap ≤ T0 + 6) (va_A [(y0, .inr (6, [.ref x0, .int kd, .int wh, .int od, .int tu, .long lo, .long hi])), (x0, .inr (5, [.ref k0, .ref w0, .int (nI nz), .int ch])), (k0, .inl (ck, L, .inl f)), (w0, .inl (cw, L, .inl g))] sz)) 3 (gs + 6) (va_A [(y0, .inr (6, [.ref x0, .int kd, .int wh, .int od, .int tu, .long lo, .long hi])), (x0, .inr (5, [.ref k0, .ref w0, .int (nI nz), .int ch])), (k0, .inl (ck, L, .inl f)), (w0, .inl (cw, L, .inl g))] sz) := by
  refine vx_ofW (cc := cX3_putMore) (maxL := 5) (ret := (some .long)) (by decide) rfl ?_
  intro p e s m args below meth c s₁ B hml htab hv
  obtain ⟨rfl, ⟨hsz, hP, hK, hD0, hN, hZ⟩, hT0⟩ := hv
  have hx := B.exec
  have hb := B.bytes
  have hr := B.returns
  have hts := atoms_spec (ws := wsX3_putMore) B.pre
  have hown : s.vm.findClass RX3 = some m.cls := findClass_of_methodNamed B.named
  have hlocks := B.notSynchronized
  subst hsz
  subst hT0
  have hD := hD0.self (sz := s.heap.size)
  generalize hAe : va_A [(y0, .inr (6, [.ref x0, .int kd, .int wh, .int od, .int tu, .long lo, .long hi])), (x0, .inr (5, [.ref k0, .ref w0, .int (nI nz), .int ch])), (k0, .inl (ck, L, .inl f)), (w0, .inl (cw, L, .inl g))] s.heap.size = A at hZ hD ⊢
  have hA : ∀ q : Nat, s.heap.size ≤ q → A q := fun q h => by rw [← hAe]; exact Or.inr h
  have hS : va_S A s.heap s.heap [] := va_S.rf
  have hP : va_P (dC, dI) vwCl [(y0, .inr (6, [.ref x0, .int kd, .int wh, .int od, .int tu, .long lo, .long hi])), (x0, .inr (5, [.ref k0, .ref w0, .int (nI nz), .int ch])), (k0, .inl (ck, L, .inl f)), (w0, .inl (cw, L, .inl g))] s.heap := hP
  have hl := lv_entry ([.ref y0, .int p0, .int p1]) (n := 5) (Nat.le_of_ble_eq_true rfl)
  rw [lg_entry_eq]
  generalize (lg_sl ([.ref y0, .int p0, .int p1]) ++ List.replicate (5 - (lg_sl ([.ref y0, .int p0, .int p1])).length) Slot.unset).toArray = ls at hl ⊢
  have hl : lv_has ls 5 [(0, .ref y0), (1, .int p0), (2, .int p1)] := hl
  have hw0_ := hts (.fieldLink RX3 9 "KeyAtlas$Keyed" "rows" "LKeyAtlas$Rows;") (List.mem_of_getElem? (l := wsX3_putMore) (i := 1) rfl)
  have hw1_ := hts (.constantLong RX3 53 (1099511627776)) (List.mem_of_getElem? (l := wsX3_putMore) (i := 2) rfl)
  have hi0_ : ∀ w ∈ u_ws RX6 TX6 7, w ∈ wsX3_putMore := fun w h => List.mem_cons_of_mem _ (List.mem_append_left _ (List.mem_append_left _ (List.mem_append_left _ (List.mem_append_right _ h))))
  obtain ⟨hL1, hL2, hz1, hz2⟩ := id hR9
  refine lv_aload_n hx hb dX3_putMore_0 rfl (lv_at hl 0 rfl) ?_
  refine lv_iload_n hx hb dX3_putMore_1 rfl (lv_at hl 1 rfl) ?_
  have hPc := hP.sub (ws' := [(y0, .inr (6, [.ref x0, .int kd, .int wh, .int od, .int tu, .long lo, .long hi])), (x0, .inr (5, [.ref k0, .ref w0, .int (nI nz), .int ch])), (k0, .inl (ck, L, .inl f)), (w0, .inl (cw, L, .inl g))]) [0, 1, 2, 3] rfl
  have hKc := hK.sub (tys' := [(ck, .int), (cw, .int)]) [0, 1] rfl
  refine ro_calli (va_runU (As := [.int p0]) (rest := []) ⟨hx, hb, hml, hown, hts⟩ (c_X6_find l  dC dI s.heap.size y0 kd wh od tu lo hi x0 k0 w0 ck cw L f g nz ch p0 hR9 ho1 ho2) (va_cwA 1 hts gX3_putMore_X6_find_u46X6 rfl rfl rfl (hN.xw _ (List.mem_of_getElem? (l := p_xw) (i := 0) rfl)) (by decide +kernel) ⟨(Nat.le_of_ble_eq_true rfl), (Nat.le_of_ble_eq_true rfl)⟩) ⟨pk_blindR, va_recv hKc hPc (ci := 6) (q0 := 0) rfl rfl, pk_callR hPc hKc⟩ rfl rfl hl.1 rfl (lv_room (Nat.le_of_ble_eq_true rfl)) dX3_putMore_2 ⟨(Nat.le_of_ble_eq_true rfl), (show 0 + 0 ≤ gs + 6 by omega)⟩) (fun r_1 ur_1 hw => ?_)
  clear hPc hKc
  try dsimp only at hw
  have jr_1 := hw
  refine W.eq (g2 := F0 m 5 ls [.int r_1]) rfl ?_
  refine lv_istore_n (lv' := [(3, .int r_1), (0, .ref y0), (1, .int p0), (2, .int p1)]) hx hb dX3_putMore_5 rfl hl (by decide) rfl (fun ls hl => ?_)
  refine lv_iload_n hx hb dX3_putMore_6 rfl (lv_at hl 0 rfl) ?_
  refine lv_if_ge (tgt := 19) hx hb dX3_putMore_7 (by decide) (fun c_2 => ?_) (fun c_2 => ?_)
  ·
    have ic_2 : 0 ≤ r_1.toInt := tx_le (by decide) rfl c_2
    refine lv_aload_n hx hb dX3_putMore_19 rfl (lv_at hl 1 rfl) ?_
    refine va_get (D := (dC, dI)) (ci := 6) (v := .ref x0) (C := RX6) (T := TX6) (N := 7) hx hb hts hi0_ hown hK hP 0 rfl rfl 0 (by decide) hw0_ (fun _ h9 => h9) rfl dX3_putMore_20 ?_
    refine lv_iload_n hx hb dX3_putMore_23 rfl (lv_at hl 0 rfl) ?_
    have hPc := hP.sub (ws' := [(x0, .inr (5, [.ref k0, .ref w0, .int (nI nz), .int ch])), (k0, .inl (ck, L, .inl f)), (w0, .inl (cw, L, .inl g))]) [1, 2, 3] rfl
    have hKc := hK.sub (tys' := [(ck, .int), (cw, .int)]) [0, 1] rfl
    refine ro_calli (va_runV (As := [.int r_1]) (rest := []) ⟨hx, hb, hml, hown, hts⟩ (c_X5_value l  dC dI s.heap.size x0 k0 w0 ck cw L f g nz ch r_1 hR9) (cwV 1 hts gX3_putMore_X5_value rfl rfl rfl (by decide +kernel) ⟨(Nat.le_of_ble_eq_true rfl), (Nat.le_of_ble_eq_true rfl)⟩) ⟨pk_blindR, va_recv hKc hPc (ci := 5) (q0 := 0) rfl rfl, pk_callR hPc hKc⟩ rfl rfl hl.1 rfl (lv_room (Nat.le_of_ble_eq_true rfl)) dX3_putMore_24 ⟨(Nat.le_of_ble_eq_true rfl), (show 0 + 0 ≤ gs + 6 by omega)⟩) (fun r_3 ur_3 hw => ?_)
    clear hPc hKc
    try dsimp only at hw
    have jr_3 := hw
    refine W.eq (g2 := F0 m 27 ls [.int r_3]) rfl ?_
    refine lv_iload_n hx hb dX3_putMore_27 rfl (lv_at hl 3 rfl) ?_
    refine lv_iadd hx hb dX3_putMore_28 ?_
    refine lv_istore (lv' := [(4, .int (r_3 + p1)), (3, .int r_1), (0, .ref y0), (1, .int p0), (2, .int p1)]) hx hb dX3_putMore_29 hl (by decide) rfl (fun ls hl => ?_)
    refine lv_iload hx hb dX3_putMore_31 (lv_at hl 0 rfl) ?_
    refine lv_if_ne (tgt := 45) hx hb dX3_putMore_33 (by decide) (fun c_4 => ?_) (fun c_4 => ?_)
    ·
      have ic_4 : ¬ (r_3 + p1).toInt = 0 := tx_ne rfl (by decide) c_4
      refine lv_aload_n hx hb dX3_putMore_45 rfl (lv_at hl 2 rfl) ?_
      refine lv_iload_n hx hb dX3_putMore_46 rfl (lv_at hl 1 rfl) ?_
      refine lv_iload hx hb dX3_putMore_47 (lv_at hl 0 rfl) ?_
      have hPc := hP.sub (ws' := [(y0, .inr (6, [.ref x0, .int kd, .int wh, .int od, .int tu, .long lo, .long hi])), (x0, .inr (5, [.ref k0, .ref w0, .int (nI nz), .int ch])), (k0, .inl (ck, L, .inl f)), (w0, .inl (cw, L, .inl g))]) [0, 1, 2, 3] rfl
      have hDc := hD.sub (ws' := [(y0, .inr (6, [.ref x0, .int kd, .int wh, .int od, .int tu, .long lo, .long hi])), (x0, .inr (5, [.ref k0, .ref w0, .int (nI nz), .int ch])), (k0, .inl (ck, L, .inl f)), (w0, .inl (cw, L, .inl g))]) [0, 1, 2, 3] (by decide) rfl
      have hKc := hK.sub (tys' := [(ck, .int), (cw, .int)]) [0, 1] rfl
      have hFc := va_free (wc := [(y0, .inr (6, [.ref x0, .int kd, .int wh, .int od, .int tu, .long lo, .long hi])), (x0, .inr (5, [.ref k0, .ref w0, .int (nI nz), .int ch])), (k0, .inl (ck, L, .inl f)), (w0, .inl (cw, L, .inl g))]) hD hS hA [0, 1, 2, 3] rfl
      have hZc := (hZ.kept hS.2.1).narrow hFc
      refine va_calll (va_runU (As := [.int r_1, .int (r_3 + p1)]) (rest := []) ⟨hx, hb, hml, hown, hts⟩ (c_X3_replace_S l hlt dC dI s.heap.size y0 kd wh od tu lo hi x0 k0 w0 ck cw L f g nz ch r_1 (r_3 + p1) hR9 ho1 ho2) (va_cwU 2 hts gX3_putMore_X3_replace_u55X6 rfl rfl rfl rfl (by decide +kernel) ⟨(Nat.le_of_ble_eq_true rfl), (Nat.le_of_ble_eq_true rfl)⟩) ⟨pk_blindX, va_recv hKc hPc (ci := 6) (q0 := 0) rfl rfl, pk_callX hPc hKc hDc hN hZc⟩ rfl rfl hl.1 rfl (lv_room (Nat.le_of_ble_eq_true rfl)) dX3_putMore_49 ⟨(Nat.le_of_ble_eq_true rfl), (show 0 + 0 ≤ gs + 6 by omega)⟩) hS (fun q _ h => hFc q h) hFc (fun r_5 ur_5 t H1 locs ht hvm hw hB hz1 hk1 hS => ?_)
      try dsimp only at hw
      have jr_5 := hw
      obtain ⟨hP1, hK1, hD1⟩ := hB
      rw [ht] at hP1
      have hK1 := va_K.moved hvm.symm hK1
      obtain ⟨hP, hD⟩ := va_join (wr := []) (w1 := [(y0, .inr (6, [.ref x0, .int kd, .int wh, .int od, .int tu, .long lo, .long hi])), (x0, .inr (5, [.ref k0, .ref w0, .int (nI nz), .int ur_5.2.2])), (k0, .inl (ck, L, .inl ur_5.1)), (w0, .inl (cw, L, .inl ur_5.2.1))]) hP hD [0, 1, 2, 3] [] rfl rfl (by decide) (by decide) hk1 hFc hP1 hD1
      clear hk1 hz1 ht hPc hDc hKc hFc
      generalize H1 = H at hP hS ⊢
      replace hP : va_P (dC, dI) vwCl [(y0, .inr (6, [.ref x0, .int kd, .int wh, .int od, .int tu, .long lo, .long hi])), (x0, .inr (5, [.ref k0, .ref w0, .int (nI nz), .int ur_5.2.2])), (k0, .inl (ck, L, .inl ur_5.1)), (w0, .inl (cw, L, .inl ur_5.2.1))] H := hP
      replace hD : va_D A [(y0, .inr (6, [.ref x0, .int kd, .int wh, .int od, .int tu, .long lo, .long hi])), (x0, .inr (5, [.ref k0, .ref w0, .int (nI nz), .int ur_5.2.2])), (k0, .inl (ck, L, .inl ur_5.1)), (w0, .inl (cw, L, .inl ur_5.2.1))] := hD
      refine W.widen (k := 0) (n := 0) (Nat.le_of_ble_eq_true rfl) (Nat.le_of_ble_eq_true rfl) ?_
      refine W.eq (g2 := F0 m 52 ls [.long r_5]) rfl ?_
      refine lv_pop2_2 hx hb dX3_putMore_52 rfl ?_
      refine lv_iload hx hb dX3_putMore_53 (lv_at hl 0 rfl) ?_
      refine lv_i2l (v := (r_3 + p1).toInt64) hx hb dX3_putMore_55 rfl ?_
      refine W.book (fun hz9_ hn9_ => ?_)
      have hpost : kpL L nz (L) (nz) := Or.inl ⟨rfl, by omega⟩
      have hcost : hT H + 4 * L ≤ hT s.heap + 4 * (L) ∧ H.size + 2 * lgN L ≤ s.heap.size + 2 * lgN (L) := by constructor <;> omega
      have hP9 := hP.sub (ws' := [(y0, .inr (6, [.ref x0, .int kd, .int wh, .int od, .int tu, .long lo, .long hi])), (x0, .inr (5, [.ref k0, .ref w0, .int (nI nz), .int ur_5.2.2])), (k0, .inl (ck, L, .inl ur_5.1)), (w0, .inl (cw, L, .inl ur_5.2.1))]) [0, 1, 2, 3] rfl
      have hD9 := hD.sub (ws' := [(y0, .inr (6, [.ref x0, .int kd, .int wh, .int od, .int tu, .long lo, .long hi])), (x0, .inr (5, [.ref k0, .ref w0, .int (nI nz), .int ur_5.2.2])), (k0, .inl (ck, L, .inl ur_5.1)), (w0, .inl (cw, L, .inl ur_5.2.1))]) [0, 1, 2, 3] (by decide) rfl
      have hK9 := hK.sub (tys' := [(ck, .int), (cw, .int)]) [0, 1] rfl
      refine W.widen (k := 3) (n := gs + 6) (by omega) (by omega) ?_
      refine vx_ret ?_
      exact W.lret (v := (r_3 + p1).toInt64) hx hb hr (fun t ht hW => ⟨⟨(r_3 + p1).toInt64, (k0, w0, ck, cw, L, ur_5.1, ur_5.2.1, nz, ur_5.2.2), rfl, hpost, by rw [ht]; exact hP9, va_K.moved hW.alike hK9, hD9, by rw [ht]; exact hcost⟩, hS.F ht⟩) hS.2.2 dX3_putMore_56
    ·
      have ic_4 : (r_3 + p1).toInt = 0 := tx_eq rfl (by decide) c_4
      refine lv_aload_n hx hb dX3_putMore_36 rfl (lv_at hl 2 rfl) ?_
      refine lv_iload_n hx hb dX3_putMore_37 rfl (lv_at hl 1 rfl) ?_
      have hPc := hP.sub (ws' := [(y0, .inr (6, [.ref x0, .int kd, .int wh, .int od, .int tu, .long lo, .long hi])), (x0, .inr (5, [.ref k0, .ref w0, .int (nI nz), .int ch])), (k0, .inl (ck, L, .inl f)), (w0, .inl (cw, L, .inl g))]) [0, 1, 2, 3] rfl
      have hDc := hD.sub (ws' := [(y0, .inr (6, [.ref x0, .int kd, .int wh, .int od, .int tu, .long lo, .long hi])), (x0, .inr (5, [.ref k0, .ref w0, .int (nI nz), .int ch])), (k0, .inl (ck, L, .inl f)), (w0, .inl (cw, L, .inl g))]) [0, 1, 2, 3] (by decide) rfl
      have hKc := hK.sub (tys' := [(ck, .int), (cw, .int)]) [0, 1] rfl
      have hFc := va_free (wc := [(y0, .inr (6, [.ref x0, .int kd, .int wh, .int od, .int tu, .long lo, .long hi])), (x0, .inr (5, [.ref k0, .ref w0, .int (nI nz), .int ch])), (k0, .inl (ck, L, .inl f)), (w0, .inl (cw, L, .inl g))]) hD hS hA [0, 1, 2, 3] rfl
      refine va_callv (va_runU (As := [.int r_1]) (rest := []) ⟨hx, hb, hml, hown, hts⟩ (c_X3_leave_S l  dC dI s.heap.size y0 (.int kd) (.int wh) (.int od) (.int tu) (.long lo) (.long hi) x0 k0 w0 ck cw L f g nz ch r_1 hR9) (va_cwU 1 hts gX3_putMore_X3_leave_u69X6 rfl rfl rfl rfl (by decide +kernel) ⟨(Nat.le_of_ble_eq_true rfl), (Nat.le_of_ble_eq_true rfl)⟩) ⟨pk_blind, va_recv hKc hPc (ci := 6) (q0 := 0) rfl rfl, pk_call hPc hKc hDc⟩ rfl rfl hl.1 rfl (lv_room (Nat.le_of_ble_eq_true rfl)) dX3_putMore_38 ⟨(Nat.le_of_ble_eq_true rfl), (show 0 + 0 ≤ gs + 6 by omega)⟩) hS (fun q _ h => hFc q h) hFc (fun ur_6 t H1 locs ht hvm hw hB hz1 hk1 hS => ?_)
      try dsimp only at hw
      have jr_6 := hw
      obtain ⟨hP1, hK1, hD1⟩ := hB
      rw [ht] at hP1
      have hK1 := va_K.moved hvm.symm hK1
      obtain ⟨hP, hD⟩ := va_join (wr := []) (w1 := [(y0, .inr (6, [.ref x0, .int kd, .int wh, .int od, .int tu, .long lo, .long hi])), (x0, .inr (5, [.ref k0, .ref w0, .int (nI (ur_6.2.2.1)), .int ur_6.2.2.2])), (k0, .inl (ck, L, .inl ur_6.1)), (w0, .inl (cw, L, .inl ur_6.2.1))]) hP hD [0, 1, 2, 3] [] rfl rfl (by decide) (by decide) hk1 hFc hP1 hD1
      clear hk1 hz1 ht hPc hDc hKc hFc
      generalize H1 = H at hP hS ⊢
      replace hP : va_P (dC, dI) vwCl [(y0, .inr (6, [.ref x0, .int kd, .int wh, .int od, .int tu, .long lo, .long hi])), (x0, .inr (5, [.ref k0, .ref w0, .int (nI (ur_6.2.2.1)), .int ur_6.2.2.2])), (k0, .inl (ck, L, .inl ur_6.1)), (w0, .inl (cw, L, .inl ur_6.2.1))] H := hP
      replace hD : va_D A [(y0, .inr (6, [.ref x0, .int kd, .int wh, .int od, .int tu, .long lo, .long hi])), (x0, .inr (5, [.ref k0, .ref w0, .int (nI (ur_6.2.2.1)), .int ur_6.2.2.2])), (k0, .inl (ck, L, .inl ur_6.1)), (w0, .inl (cw, L, .inl ur_6.2.1))] := hD
      refine W.widen (k := 0) (n := 0) (Nat.le_of_ble_eq_true rfl) (Nat.le_of_ble_eq_true rfl) ?_
      refine W.eq (g2 := F0 m 41 ls []) rfl ?_
      have hR9 : rOK L (ur_6.2.2.1) := rOK_le hR9 jr_6
      refine lv_ldc2 (v := 1099511627776) hx hb hown hw1_ dX3_putMore_41 ?_
      refine W.book (fun hz9_ hn9_ => ?_)
      have hpost : kpL L nz (L) (ur_6.2.2.1) := Or.inl ⟨rfl, by omega⟩
      have hcost : hT H + 4 * L ≤ hT s.heap + 4 * (L) ∧ H.size + 2 * lgN L ≤ s.heap.size + 2 * lgN (L) := by constructor <;> omega
      have hP9 := hP.sub (ws' := [(y0, .inr (6, [.ref x0, .int kd, .int wh, .int od, .int tu, .long lo, .long hi])), (x0, .inr (5, [.ref k0, .ref w0, .int (nI (ur_6.2.2.1)), .int ur_6.2.2.2])), (k0, .inl (ck, L, .inl ur_6.1)), (w0, .inl (cw, L, .inl ur_6.2.1))]) [0, 1, 2, 3] rfl
      have hD9 := hD.sub (ws' := [(y0, .inr (6, [.ref x0, .int kd, .int wh, .int od, .int tu, .long lo, .long hi])), (x0, .inr (5, [.ref k0, .ref w0, .int (nI (ur_6.2.2.1)), .int ur_6.2.2.2])), (k0, .inl (ck, L, .inl ur_6.1)), (w0, .inl (cw, L, .inl ur_6.2.1))]) [0, 1, 2, 3] (by decide) rfl
      have hK9 := hK.sub (tys' := [(ck, .int), (cw, .int)]) [0, 1] rfl
      refine W.widen (k := 3) (n := gs + 6) (by omega) (by omega) ?_
      refine vx_ret ?_
      exact W.lret (v := 1099511627776) hx hb hr (fun t ht hW => ⟨⟨1099511627776, (k0, w0, ck, cw, L, ur_6.1, ur_6.2.1, ur_6.2.2.1, ur_6.2.2.2), rfl, hpost, by rw [ht]; exact hP9, va_K.moved hW.alike hK9, hD9, by rw [ht]; exact hcost⟩, hS.F ht⟩) hS.2.2 dX3_putMore_44
  ·
    have ic_2 : r_1.toInt < 0 := tx_nle (by decide) rfl c_2
    refine lv_aload_n hx hb dX3_putMore_10 rfl (lv_at hl 1 rfl) ?_
    refine lv_iload_n hx hb dX3_putMore_11 rfl (lv_at hl 2 rfl) ?_
    refine lv_iload_n hx hb dX3_putMore_12 rfl (lv_at hl 3 rfl) ?_
    have hPc := hP.sub (ws' := [(y0, .inr (6, [.ref x0, .int kd, .int wh, .int od, .int tu, .long lo, .long hi])), (x0, .inr (5, [.ref k0, .ref w0, .int (nI nz), .int ch])), (k0, .inl (ck, L, .inl f)), (w0, .inl (cw, L, .inl g))]) [0, 1, 2, 3] rfl
    have hDc := hD.sub (ws' := [(y0, .inr (6, [.ref x0, .int kd, .int wh, .int od, .int tu, .long lo, .long hi])), (x0, .inr (5, [.ref k0, .ref w0, .int (nI nz), .int ch])), (k0, .inl (ck, L, .inl f)), (w0, .inl (cw, L, .inl g))]) [0, 1, 2, 3] (by decide) rfl
    have hKc := hK.sub (tys' := [(ck, .int), (cw, .int)]) [0, 1] rfl
    have hFc := va_free (wc := [(y0, .inr (6, [.ref x0, .int kd, .int wh, .int od, .int tu, .long lo, .long hi])), (x0, .inr (5, [.ref k0, .ref w0, .int (nI nz), .int ch])), (k0, .inl (ck, L, .inl f)), (w0, .inl (cw, L, .inl g))]) hD hS hA [0, 1, 2, 3] rfl
    have hZc := (hZ.kept hS.2.1).narrow hFc
    refine vx_callv (vx_runU (As := [.int p0, .int p1]) (rest := []) ⟨hx, hb, hml, hown, hts⟩ (c_X3_come_S l hlt dC dI s.heap.size (hT s.heap) y0 kd wh od tu lo hi x0 k0 w0 ck cw L f g nz ch p0 p1 gs hR9 ho1 ho2 hG9) (va_cwU 2 hts gX3_putMore_X3_come_u50X6 rfl rfl rfl rfl (by decide +kernel) ⟨(Nat.le_of_ble_eq_true rfl), (Nat.le_of_ble_eq_true rfl)⟩) ⟨pk_blindXT, va_recv hKc hPc (ci := 6) (q0 := 0) rfl rfl, pk_callXT hPc hKc hDc hN hZc⟩ rfl rfl hl.1 rfl (lv_room (Nat.le_of_ble_eq_true rfl)) dX3_putMore_13 ⟨(Nat.le_of_ble_eq_true rfl), (show 0 + (gs + 6) ≤ gs + 6 by omega)⟩) hS (fun q _ h => hFc q h) hFc (fun q _ h => hFc q h) (fun E ce q9 u9 t H1 locs ht hvm hw hB hz1 hk1 hS hce hcv hcl => ?_) (fun ur_7 t H1 locs ht hvm hw hB hz1 hk1 hS => ?_)
    ·
      try dsimp only at hB
      obtain ⟨⟨hE8, hP8, hK8, -⟩, hz8, hn8⟩ := hB
      have hD9 := hD.sub (ws' := [(y0, .inr (6, [.ref x0, .int kd, .int wh, .int od, .int tu, .long lo, .long hi])), (x0, .inr (5, [.ref k0, .ref w0, .int (nI nz), .int ch])), (k0, .inl (ck, L, .inl f)), (w0, .inl (cw, L, .inl g))]) [0, 1, 2, 3] (by decide) rfl
      exact vx_out (fun x hx9 => (htab x hx9).elim) hlocks hce hcv hcl (fun t9 ht9 hal9 => ⟨(), trivial, ⟨⟨hE8, by rw [ht9, ← ht]; exact hP8, va_K.moved (hvm.symm.trans hal9) hK8, hD9⟩, by rw [ht9, ← ht]; exact hz8, by rw [ht9, ← ht]; exact hn8⟩, hS.F ht9⟩) hS.2.2 (by omega) (by omega)
    ·
      try dsimp only at hw
      have jr_7 := hw
      obtain ⟨hP1, hK1, hD1, hC1_⟩ := hB
      rw [ht] at hP1 hC1_
      have hK1 := va_K.moved hvm.symm hK1
      obtain ⟨hP, hD⟩ := va_join (wr := []) (w1 := [(y0, .inr (6, [.ref x0, .int kd, .int wh, .int od, .int tu, .long lo, .long hi])), (x0, .inr (5, [.ref ur_7.1, .ref ur_7.2.1, .int (nI (ur_7.2.2.2.2.2.2.2.1)), .int ur_7.2.2.2.2.2.2.2.2])), (ur_7.1, .inl (ur_7.2.2.1, ur_7.2.2.2.2.1, .inl ur_7.2.2.2.2.2.1)), (ur_7.2.1, .inl (ur_7.2.2.2.1, ur_7.2.2.2.2.1, .inl ur_7.2.2.2.2.2.2.1))]) hP hD [0, 1, 2, 3] [] rfl rfl (by decide) (by decide) hk1 hFc hP1 hD1
      have hK := hK.app hK1
      have hK : va_K (dC, dI) vwCl [(ck, .int), (cw, .int), (ur_7.2.2.1, .int), (ur_7.2.2.2.1, .int)] s := hK
      have hcs1_ : hT H1 + 4 * L ≤ hT s.heap + 4 * (ur_7.2.2.2.2.1) := hC1_.1
      have hcs2_ : H1.size + 2 * lgN L ≤ s.heap.size + 2 * lgN (ur_7.2.2.2.2.1) := hC1_.2
      clear hC1_
      clear hk1 hz1 ht hPc hDc hKc hFc
      generalize H1 = H at hP hS hcs1_ hcs2_ ⊢
      replace hP : va_P (dC, dI) vwCl [(y0, .inr (6, [.ref x0, .int kd, .int wh, .int od, .int tu, .long lo, .long hi])), (x0, .inr (5, [.ref ur_7.1, .ref ur_7.2.1, .int (nI (ur_7.2.2.2.2.2.2.2.1)), .int ur_7.2.2.2.2.2.2.2.2])), (ur_7.1, .inl (ur_7.2.2.1, ur_7.2.2.2.2.1, .inl ur_7.2.2.2.2.2.1)), (ur_7.2.1, .inl (ur_7.2.2.2.1, ur_7.2.2.2.2.1, .inl ur_7.2.2.2.2.2.2.1))] H := hP
      replace hD : va_D A [(y0, .inr (6, [.ref x0, .int kd, .int wh, .int od, .int tu, .long lo, .long hi])), (x0, .inr (5, [.ref ur_7.1, .ref ur_7.2.1, .int (nI (ur_7.2.2.2.2.2.2.2.1)), .int ur_7.2.2.2.2.2.2.2.2])), (ur_7.1, .inl (ur_7.2.2.1, ur_7.2.2.2.2.1, .inl ur_7.2.2.2.2.2.1)), (ur_7.2.1, .inl (ur_7.2.2.2.1, ur_7.2.2.2.2.1, .inl ur_7.2.2.2.2.2.2.1))] := hD
      refine W.widen (k := 3) (n := gs + 6) (by omega) (by omega) ?_
      refine W.eq (g2 := F0 m 16 ls []) rfl ?_
      refine lv_iload_n hx hb dX3_putMore_16 rfl (lv_at hl 3 rfl) ?_
      refine lv_i2l (v := p1.toInt64) hx hb dX3_putMore_17 rfl ?_
      refine W.book (fun hz9_ hn9_ => ?_)
      have hpost : kpL L nz (ur_7.2.2.2.2.1) (ur_7.2.2.2.2.2.2.2.1) := Or.inr jr_7
      have hcost : hT H + 4 * L ≤ hT s.heap + 4 * (ur_7.2.2.2.2.1) ∧ H.size + 2 * lgN L ≤ s.heap.size + 2 * lgN (ur_7.2.2.2.2.1) := ⟨hcs1_, hcs2_⟩
      have hP9 := hP.sub (ws' := [(y0, .inr (6, [.ref x0, .int kd, .int wh, .int od, .int tu, .long lo, .long hi])), (x0, .inr (5, [.ref ur_7.1, .ref ur_7.2.1, .int (nI (ur_7.2.2.2.2.2.2.2.1)), .int ur_7.2.2.2.2.2.2.2.2])), (ur_7.1, .inl (ur_7.2.2.1, ur_7.2.2.2.2.1, .inl ur_7.2.2.2.2.2.1)), (ur_7.2.1, .inl (ur_7.2.2.2.1, ur_7.2.2.2.2.1, .inl ur_7.2.2.2.2.2.2.1))]) [0, 1, 2, 3] rfl
      have hD9 := hD.sub (ws' := [(y0, .inr (6, [.ref x0, .int kd, .int wh, .int od, .int tu, .long lo, .long hi])), (x0, .inr (5, [.ref ur_7.1, .ref ur_7.2.1, .int (nI (ur_7.2.2.2.2.2.2.2.1)), .int ur_7.2.2.2.2.2.2.2.2])), (ur_7.1, .inl (ur_7.2.2.1, ur_7.2.2.2.2.1, .inl ur_7.2.2.2.2.2.1)), (ur_7.2.1, .inl (ur_7.2.2.2.1, ur_7.2.2.2.2.1, .inl ur_7.2.2.2.2.2.2.1))]) [0, 1, 2, 3] (by decide) rfl
      have hK9 := hK.sub (tys' := [(ur_7.2.2.1, .int), (ur_7.2.2.2.1, .int)]) [2, 3] rfl
      refine W.widen (k := 3) (n := gs + 6) (by omega) (by omega) ?_
      refine vx_ret ?_
      exact W.lret (v := p1.toInt64) hx hb hr (fun t ht hW => ⟨⟨p1.toInt64, (ur_7.1, ur_7.2.1, ur_7.2.2.1, ur_7.2.2.2.1, ur_7.2.2.2.2.1, ur_7.2.2.2.2.2.1, ur_7.2.2.2.2.2.2.1, ur_7.2.2.2.2.2.2.2.1, ur_7.2.2.2.2.2.2.2.2), rfl, hpost, by rw [ht]; exact hP9, va_K.moved hW.alike hK9, hD9, by rw [ht]; exact hcost⟩, hS.F ht⟩) hS.2.2 dX3_putMore_18
