set_option maxRecDepth 20000 in
theorem gX3_putAll_X3_newKeysOf_u90X6 : GoodIn wsX3_putAll (va_wsU RX3 90 RX6 "KeyAtlas$Keyed" ⟨"KeyAtlas$Keyed", "newKeysOf", "(LKeyAtlas$Keyed;)I"⟩ yX3_newKeysOf wsX3_newKeysOf) := goodIn_app (goodIn_of _ (by decide +kernel)) ggX3_putAll_X3_newKeysOf
set_option maxRecDepth 20000 in
theorem ggX3_putAll_X6_hasRoomFor : GoodIn wsX3_putAll wsX6_hasRoomFor := goodIn_r _ [141, 51, 142, 128, 143, 130, 10, 131, 5, 17, 18, 19, 20, 21, 22, 257, 258, 259, 260, 261, 262, 263, 245, 246, 247, 248, 249, 250, 251, 252, 253, 254, 255, 256, 264, 265, 266, 267] rfl (by decide +kernel)
set_option maxRecDepth 20000 in
theorem gX3_putAll_X6_hasRoomFor_u35X6 : GoodIn wsX3_putAll (va_wsO RX3 35 RX6 "KeyAtlas$Keyed" ⟨"KeyAtlas$Keyed", "hasRoomFor", "(I)Z"⟩ yX6_hasRoomFor wsX6_hasRoomFor) := goodIn_app (goodIn_of _ (by decide +kernel)) ggX3_putAll_X6_hasRoomFor
set_option maxRecDepth 20000 in
theorem ggX3_putAll_X6_find : GoodIn wsX3_putAll wsX6_find := goodIn_r _ [112, 35, 36, 47, 48, 49, 27, 50, 51, 52, 53, 54, 55, 56, 57, 58, 59, 60, 61, 62, 38, 39, 40, 41, 37, 18, 19, 20, 21, 22, 42, 43, 44, 45, 46, 113, 114, 115, 116, 67, 33, 245, 246, 247, 248, 249, 250, 251, 252, 253, 254, 255, 256, 257, 258, 259, 260, 261, 262, 263, 264, 265, 266, 267] rfl (by decide +kernel)
set_option maxRecDepth 20000 in
theorem gX3_putAll_X6_find_u46X6 : GoodIn wsX3_putAll (va_wsU RX3 46 RX6 "KeyAtlas$Keyed" ⟨"KeyAtlas$Keyed", "find", "(I)I"⟩ yX6_find wsX6_find) := goodIn_app (goodIn_of _ (by decide +kernel)) ggX3_putAll_X6_find
set_option maxRecDepth 20000 in
theorem gX3_putAll_X3_replace_u55X6 : GoodIn wsX3_putAll (va_wsU RX3 55 RX6 "KeyAtlas$Keyed" ⟨"KeyAtlas$Keyed", "replace", "(II)J"⟩ yX3_replace wsX3_replace) := goodIn_app (goodIn_of _ (by decide +kernel)) ggX3_putAll_X3_replace
set_option maxRecDepth 20000 in
theorem ggX3_putAll_X6_enter : GoodIn wsX3_putAll wsX6_enter := goodIn_r _ [217, 35, 36, 47, 48, 49, 27, 50, 51, 52, 53, 54, 55, 56, 57, 58, 59, 60, 61, 62, 38, 39, 40, 41, 37, 18, 19, 20, 21, 22, 42, 43, 44, 45, 46, 218, 166, 167, 168, 148, 169, 170, 171, 172, 173, 174, 175, 176, 177, 178, 179, 180, 181, 182, 183, 184, 185, 186, 187, 188, 245, 246, 247, 248, 249, 250, 251, 252, 253, 254, 255, 256, 257, 258, 259, 260, 261, 262, 263, 264, 265, 266, 267] rfl (by decide +kernel)
set_option maxRecDepth 20000 in
theorem gX3_putAll_X6_enter_u43X6 : GoodIn wsX3_putAll (va_wsU RX3 43 RX6 "KeyAtlas$Keyed" ⟨"KeyAtlas$Keyed", "enter", "(II)V"⟩ yX6_enter wsX6_enter) := goodIn_app (goodIn_of _ (by decide +kernel)) ggX3_putAll_X6_enter
set_option maxHeartbeats 4000000 in
set_option maxRecDepth 100000 in
/-- Keyed.putAll of S and H -/
theorem c_X3_putAll_SH (l : Launch) (hlt : l.stackTraces = false) (dC : Nat → ClassId) (dI : Nat → Nat → Nat) (sz : Nat) (T0 : Nat) (y0 : Nat) (kd : Int32) (wh : Int32) (od : Int32) (tu : Int32) (lo : Int64) (hi : Int64) (x0 : Nat) (k0 : Nat) (w0 : Nat) (ck : ClassId) (cw : ClassId) (L : Nat) (f : Nat → Int32) (g : Nat → Int32) (nz : Nat) (ch : Int32) (y1 : Nat) (kd8 : Int32) (wh8 : Int32) (cap8 : Nat) (ru8 : Int32) (tb8 : Nat) (b8 : Nat) (cb8 : ClassId) (bf8 : Nat → Int32) (x1 : Nat) (k8 : Nat) (w8 : Nat) (ck8 : ClassId) (cw8 : ClassId) (L8 : Nat) (f8 : Nat → Int32) (g8 : Nat → Int32) (nz8 : Nat) (ch8 : Int32) (hR9 : rOK L nz) (ho1 : 0 ≤ od.toInt) (ho2 : od.toInt ≤ 3) (hH8 : hOK tb8 L8 nz8 cap8) : vx_Met l yX3_putAll wsX3_putAll ({ frames := 7, cells := 120, slots := 52000, locals := 300 }) (va_Pc [.ref y0, .ref y1] (pk_PreXT (dC, dI) [(y0, .inr (6, [.ref x0, .int kd, .int wh, .int od, .int tu, .long lo, .long hi])), (x0, .inr (5, [.ref k0, .ref w0, .int (nI nz), .int ch])), (k0, .inl (ck, L, .inl f)), (w0, .inl (cw, L, .inl g)), (y1, .inr (3, [.ref x1, .int kd8, .int wh8, .int (nI cap8), .int ru8, .int (nI tb8), .ref b8])), (x1, .inr (5, [.ref k8, .ref w8, .int (nI nz8), .int ch8])), (k8, .inl (ck8, L8, .inl f8)), (w8, .inl (cw8, L8, .inl g8)), (b8, .inl (cb8, tb8, .inl bf8))] [(ck, .int), (cw, .int), (ck8, .int), (cw8, .int), (cb8, .boolean)] sz T0)) (va_Ql (fun (x : Int64) (u : Nat × Nat × ClassId × ClassId × Nat × (Nat → Int32) × (Nat → Int32) × Nat × Int32) => rOK (u.2.2.2.2.1) (u.2.2.2.2.2.2.2.1)) (fun (u : Nat × Nat × ClassId × ClassId × Nat × (Nat → Int32) × (Nat → Int32) × Nat × Int32) (t : State) => va_P (dC, dI) vwCl [(y0, .inr (6, [.ref x0, .int kd, .int wh, .int od, .int tu, .long lo, .long hi])), (x0, .inr (5, [.ref u.1, .ref u.2.1, .int (nI (u.2.2.2.2.2.2.2.1)), .int u.2.2.2.2.2.2.2.2])), (u.1, .inl (u.2.2.1, u.2.2.2.2.1, .inl u.2.2.2.2.2.1)), (u.2.1, .inl (u.2.2.2.1, u.2.2.2.2.1, .inl u.2.2.2.2.2.2.1)), (y1, .inr (3, [.ref x1, .int kd8, .int wh8, .int (nI cap8), .int ru8, .int (nI tb8), .ref b8])), (x1, .inr (5, [.ref k8, .ref w8, .int (nI nz8), .int ch8])), (k8, .inl (ck8, L8, .inl f8)), (w8, .inl (cw8, L8, .inl g8)), (b8, .inl (cb8, tb8, .inl bf8))] t.heap ∧ va_K (dC, dI) vwCl [(u.2.2.1, .int), (u.2.2.2.1, .int), (ck8, .int), (cw8, .int), (cb8, .boolean)] t ∧ va_D (va_A [(y0, .inr (6, [.ref x0, .int kd, .int wh, .int od, .int tu, .long lo, .long hi])), (x0, .inr (5, [.ref k0, .ref w0, .int (nI nz), .int ch])), (k0, .inl (ck, L, .inl f)), (w0, .inl (cw, L, .inl g)), (y1, .inr (3, [.ref x1, .int kd8, .int wh8, .int (nI cap8), .int ru8, .int (nI tb8), .ref b8])), (x1, .inr (5, [.ref k8, .ref w8, .int (nI nz8), .int ch8])), (k8, .inl (ck8, L8, .inl f8)), (w8, .inl (cw8, L8, .inl g8)), (b8, .inl (cb8, tb8, .inl bf8))] sz) [(y0, .inr (6, [.ref x0, .int kd, .int wh, .int od, .int tu, .long lo, .long hi])), (x0, .inr (5, [.ref u.1, .ref u.2.1, .int (nI (u.2.2.2.2.2.2.2.1)), .int u.2.2.2.2.2.2.2.2])), (u.1, .inl (u.2.2.1, u.2.2.2.2.1, .inl u.2.2.2.2.2.1)), (u.2.1, .inl (u.2.2.2.1, u.2.2.2.2.1, .inl u.2.2.2.2.2.2.1)), (y1, .inr (3, [.ref x1, .int kd8, .int wh8, .int (nI cap8), .int ru8, .int (nI tb8), .ref b8])), (x1, .inr (5, [.ref k8, .ref w8, .int (nI nz8), .int ch8])), (k8, .inl (ck8, L8, .inl f8)), (w8, .inl (cw8, L8, .inl g8)), (b8, .inl (cb8, tb8, .inl bf8))] ∧ hT t.heap + 4 * L ≤ T0 + 4 * (u.2.2.2.2.1) ∧ t.heap.size + 2 * lgN L ≤ sz + 2 * lgN (u.2.2.2.2.1)) (va_A [(y0, .inr (6, [.ref x0, .int kd, .int wh, .int od, .int tu, .long lo, .long hi])), (x0, .inr (5, [.ref k0, .ref w0, .int (nI nz), .int ch])), (k0, .inl (ck, L, .inl f)), (w0, .inl (cw, L, .inl g)), (y1, .inr (3, [.ref x1, .int kd8, .int wh8, .int (nI cap8), .int ru8, .int (nI tb8), .ref b8])), (x1, .inr (5, [.ref k8, .ref w8, .int (nI nz8), .int ch8])), (k8, .inl (ck8, L8, .inl f8)), (w8, .inl (cw8, L8, .inl g8)), (b8, .inl (cb8, tb8, .inl bf8))] sz)) (vx_X (fun _ : Unit => True) (fun (E : String) (_ : Unit) (t : State) => ((E = "java/lang/IllegalArgumentException" ∨ E = "java/lang/IllegalStateException") ∧ va_P (dC, dI) vwCl [(y0, .inr (6, [.ref x0, .int kd, .int wh, .int od, .int tu, .long lo, .long hi])), (x0, .inr (5, [.ref k0, .ref w0, .int (nI nz), .int ch])), (k0, .inl (ck, L, .inl f)), (w0, .inl (cw, L, .inl g)), (y1, .inr (3, [.ref x1, .int kd8, .int wh8, .int (nI cap8), .int ru8, .int (nI tb8), .ref b8])), (x1, .inr (5, [.ref k8, .ref w8, .int (nI nz8), .int ch8])), (k8, .inl (ck8, L8, .inl f8)), (w8, .inl (cw8, L8, .inl g8)), (b8, .inl (cb8, tb8, .inl bf8))] t.heap ∧ va_K (dC, dI) vwCl [(ck, .int), (cw, .int), (ck8, .int), (cw8, .int), (cb8, .boolean)] t ∧ va_D (va_A [(y0, .inr (6, [.ref x0, .int kd, .int wh, .int od, .int tu, .long lo, .long hi])), (x0, .inr (5, [.ref k0, .ref w0, .int (nI nz), .int ch])), (k0, .inl (ck, L, .inl f)), (w0, .inl (cw, L, .inl g)), (y1, .inr (3, [.ref x1, .int kd8, .int wh8, .int (nI cap8), .int ru8, .int (nI tb8), .ref b8])), (x1, .inr (5, [.ref k8, .ref w8, .int (nI nz8), .int ch8])), (k8, .inl (ck8, L8, .inl f8)), (w8, .inl (cw8, L8, .inl g8)), (b8, .inl (cb8, tb8, .inl bf8))] sz) [(y0, .inr (6, [.ref x0, .int kd, .int wh, .int od, .int tu, .long lo, .long hi])), (x0, .inr (5, [.ref k0, .ref w0, .int (nI nz), .int ch])), (k0, .inl (ck, L, .inl f)), (w0, .inl (cw, L, .inl g)), (y1, .inr (3, [.ref x1, .int kd8, .int wh8, .int (nI cap8), .int ru8, .int (nI tb8), .ref b8])), (x1, .inr (5, [.ref k8, .ref w8, .int (nI nz8), .int ch8])), (k8, .inl (ck8, L8, .inl f8)), (w8, .inl (cw8, L8, .inl g8)), (b8, .inl (cb8, tb8, .inl bf8))]) ∧ t.heap.size ≤ sz + 1 ∧ hT t.heap ≤ T0 + 6) (va_A [(y0, .inr (6, [.ref x0, .int kd, .int wh, .int od, .int tu, .long lo, .long hi])), (x0, .inr (5, [.ref k0, .ref w0, .int (nI nz), .int ch])), (k0, .inl (ck, L, .inl f)), (w0, .inl (cw, L, .inl g)), (y1, .inr (3, [.ref x1, .int kd8, .int wh8, .int (nI cap8), .int ru8, .int (nI tb8), .ref b8])), (x1, .inr (5, [.ref k8, .ref w8, .int (nI nz8), .int ch8])), (k8, .inl (ck8, L8, .inl f8)), (w8, .inl (cw8, L8, .inl g8)), (b8, .inl (cb8, tb8, .inl bf8))] sz)) 120 52000 (va_A [(y0, .inr (6, [.ref x0, .int kd, .int wh, .int od, .int tu, .long lo, .long hi])), (x0, .inr (5, [.ref k0, .ref w0, .int (nI nz), .int ch])), (k0, .inl (ck, L, .inl f)), (w0, .inl (cw, L, .inl g)), (y1, .inr (3, [.ref x1, .int kd8, .int wh8, .int (nI cap8), .int ru8, .int (nI tb8), .ref b8])), (x1, .inr (5, [.ref k8, .ref w8, .int (nI nz8), .int ch8])), (k8, .inl (ck8, L8, .inl f8)), (w8, .inl (cw8, L8, .inl g8)), (b8, .inl (cb8, tb8, .inl bf8))] sz) := by
  refine vx_ofW (cc := cX3_putAll) (maxL := 8) (ret := (some .long)) (by decide) rfl ?_
  intro p e s m args below meth c s₁ B hml htab hv
  obtain ⟨rfl, ⟨hsz, hP, hK, hD0, hN, hZ⟩, hT0⟩ := hv
  have hx := B.exec
  have hb := B.bytes
  have hr := B.returns
  have hts := atoms_spec (ws := wsX3_putAll) B.pre
  have hown : s.vm.findClass RX3 = some m.cls := findClass_of_methodNamed B.named
  have hlocks := B.notSynchronized
  subst hsz
  subst hT0
  have hD := hD0.self (sz := s.heap.size)
  generalize hAe : va_A [(y0, .inr (6, [.ref x0, .int kd, .int wh, .int od, .int tu, .long lo, .long hi])), (x0, .inr (5, [.ref k0, .ref w0, .int (nI nz), .int ch])), (k0, .inl (ck, L, .inl f)), (w0, .inl (cw, L, .inl g)), (y1, .inr (3, [.ref x1, .int kd8, .int wh8, .int (nI cap8), .int ru8, .int (nI tb8), .ref b8])), (x1, .inr (5, [.ref k8, .ref w8, .int (nI nz8), .int ch8])), (k8, .inl (ck8, L8, .inl f8)), (w8, .inl (cw8, L8, .inl g8)), (b8, .inl (cb8, tb8, .inl bf8))] s.heap.size = A at hZ hD ⊢
  have hA : ∀ q : Nat, s.heap.size ≤ q → A q := fun q h => by rw [← hAe]; exact Or.inr h
  have hS : va_S A s.heap s.heap [] := va_S.rf
  have hP : va_P (dC, dI) vwCl [(y0, .inr (6, [.ref x0, .int kd, .int wh, .int od, .int tu, .long lo, .long hi])), (x0, .inr (5, [.ref k0, .ref w0, .int (nI nz), .int ch])), (k0, .inl (ck, L, .inl f)), (w0, .inl (cw, L, .inl g)), (y1, .inr (3, [.ref x1, .int kd8, .int wh8, .int (nI cap8), .int ru8, .int (nI tb8), .ref b8])), (x1, .inr (5, [.ref k8, .ref w8, .int (nI nz8), .int ch8])), (k8, .inl (ck8, L8, .inl f8)), (w8, .inl (cw8, L8, .inl g8)), (b8, .inl (cb8, tb8, .inl bf8))] s.heap := hP
  have hl := lv_entry ([.ref y0, .ref y1]) (n := 8) (Nat.le_of_ble_eq_true rfl)
  rw [lg_entry_eq]
  generalize (lg_sl ([.ref y0, .ref y1]) ++ List.replicate (8 - (lg_sl ([.ref y0, .ref y1])).length) Slot.unset).toArray = ls at hl ⊢
  have hl : lv_has ls 8 [(0, .ref y0), (1, .ref y1)] := hl
  have hw0_ := hts (.fieldLink RX3 9 "KeyAtlas$Keyed" "rows" "LKeyAtlas$Rows;") (List.mem_of_getElem? (l := wsX3_putAll) (i := 5) rfl)
  have hw1_ := hts (.classLink RX3 38 "java/lang/IllegalStateException") (List.mem_of_getElem? (l := wsX3_putAll) (i := 3) rfl)
  have hw2_ := hts (.initialized "java/lang/IllegalStateException") (List.mem_of_getElem? (l := wsX3_putAll) (i := 4) rfl)
  have hi0_ : ∀ w ∈ u_ws RX2 TX2 7, w ∈ wsX3_putAll := fun w h => List.mem_cons_of_mem _ (List.mem_append_left _ (List.mem_append_left _ (List.mem_append_left _ (List.mem_append_left _ (List.mem_append_left _ (List.mem_append_right _ h))))))
  obtain ⟨hL1, hL2, hz1, hz2⟩ := id hR9
  have hR8 : rOK L8 nz8 := hH8.1
  have htb8 := hOK_tb hH8
  obtain ⟨hL18, hL28, hz18, hz28⟩ := id hR8
  refine lv_aload_n hx hb dX3_putAll_0 rfl (lv_at hl 1 rfl) ?_
  refine lv_aload_n hx hb dX3_putAll_1 rfl (lv_at hl 0 rfl) ?_
  refine lv_acmp_ne (rx := some y1) (ry := some y0) (tgt := 15) hx hb dX3_putAll_2 (by decide) (fun c_1 => ?_) (fun c_1 => absurd (hD.1 0 4 _ _ rfl rfl (Option.some.inj c_1).symm) (by decide))
  refine lv_aload_n hx hb dX3_putAll_15 rfl (lv_at hl 0 rfl) ?_
  refine lv_aload_n hx hb dX3_putAll_16 rfl (lv_at hl 0 rfl) ?_
  refine lv_aload_n hx hb dX3_putAll_17 rfl (lv_at hl 1 rfl) ?_
  have hPc := hP.sub (ws' := [(y0, .inr (6, [.ref x0, .int kd, .int wh, .int od, .int tu, .long lo, .long hi])), (x0, .inr (5, [.ref k0, .ref w0, .int (nI nz), .int ch])), (k0, .inl (ck, L, .inl f)), (w0, .inl (cw, L, .inl g)), (y1, .inr (3, [.ref x1, .int kd8, .int wh8, .int (nI cap8), .int ru8, .int (nI tb8), .ref b8])), (x1, .inr (5, [.ref k8, .ref w8, .int (nI nz8), .int ch8])), (k8, .inl (ck8, L8, .inl f8)), (w8, .inl (cw8, L8, .inl g8)), (b8, .inl (cb8, tb8, .inl bf8))]) [0, 1, 2, 3, 4, 5, 6, 7, 8] rfl
  have hKc := hK.sub (tys' := [(ck, .int), (cw, .int), (ck8, .int), (cw8, .int), (cb8, .boolean)]) [0, 1, 2, 3, 4] rfl
  refine rox_calli (vx_runU (As := [.ref y1]) (rest := [.ref y0]) ⟨hx, hb, hml, hown, hts⟩ (c_X3_newKeysOf_SH l hlt dC dI s.heap.size y0 kd wh od tu lo hi x0 k0 w0 ck cw L f g nz ch y1 kd8 wh8 cap8 ru8 tb8 b8 cb8 bf8 x1 k8 w8 ck8 cw8 L8 f8 g8 nz8 ch8 hR9 ho1 ho2 hH8) (va_cwU 1 hts gX3_putAll_X3_newKeysOf_u90X6 rfl rfl rfl rfl (by decide +kernel) ⟨(Nat.le_of_ble_eq_true rfl), (Nat.le_of_ble_eq_true rfl)⟩) ⟨pk_blindXR, va_recv hKc hPc (ci := 6) (q0 := 0) rfl rfl, pk_callXR hPc hKc hN ((hZ.kept hS.2.1).narrow (fun q h9 => hA q (Nat.le_trans hS.1 h9)))⟩ rfl rfl hl.1 rfl (lv_room (Nat.le_of_ble_eq_true rfl)) dX3_putAll_18 ⟨(Nat.le_of_ble_eq_true rfl), (Nat.le_of_ble_eq_true rfl)⟩) hS (fun q h9 => hA q (Nat.le_trans hS.1 h9)) (fun E ce q9 u9 t H1 locs ht hvm hw hB hz1 hk1 hS hce hcv hcl => ?_) (fun r_2 ur_2 locs hw hS => ?_)
  ·
    try dsimp only at hB
    refine vx_tightO (XC0 := vx_X (fun _ : Unit => True) (fun (E : String) (_ : Unit) (t : State) => (E = "java/lang/IllegalArgumentException" ∨ E = "java/lang/IllegalStateException") ∧ va_P (dC, dI) vwCl [(y0, .inr (6, [.ref x0, .int kd, .int wh, .int od, .int tu, .long lo, .long hi])), (x0, .inr (5, [.ref k0, .ref w0, .int (nI nz), .int ch])), (k0, .inl (ck, L, .inl f)), (w0, .inl (cw, L, .inl g)), (y1, .inr (3, [.ref x1, .int kd8, .int wh8, .int (nI cap8), .int ru8, .int (nI tb8), .ref b8])), (x1, .inr (5, [.ref k8, .ref w8, .int (nI nz8), .int ch8])), (k8, .inl (ck8, L8, .inl f8)), (w8, .inl (cw8, L8, .inl g8)), (b8, .inl (cb8, tb8, .inl bf8))] t.heap ∧ va_K (dC, dI) vwCl [(ck, .int), (cw, .int), (ck8, .int), (cw8, .int), (cb8, .boolean)] t ∧ va_D A [(y0, .inr (6, [.ref x0, .int kd, .int wh, .int od, .int tu, .long lo, .long hi])), (x0, .inr (5, [.ref k0, .ref w0, .int (nI nz), .int ch])), (k0, .inl (ck, L, .inl f)), (w0, .inl (cw, L, .inl g)), (y1, .inr (3, [.ref x1, .int kd8, .int wh8, .int (nI cap8), .int ru8, .int (nI tb8), .ref b8])), (x1, .inr (5, [.ref k8, .ref w8, .int (nI nz8), .int ch8])), (k8, .inl (ck8, L8, .inl f8)), (w8, .inl (cw8, L8, .inl g8)), (b8, .inl (cb8, tb8, .inl bf8))]) A) 1 6 (by omega) (by omega) (fun E t9 h9 hz9 hn9 => by obtain ⟨u9, g1, g2, g3⟩ := h9; exact ⟨u9, g1, ⟨g2, hz9, hn9⟩, g3⟩) ?_
    exact vx_out (fun x hx9 => (htab x hx9).elim) hlocks hce hcv hcl (fun t9 ht9 hal9 => ⟨(), trivial, ⟨Or.inl hB, by rw [ht9]; exact hP.kept (fun k x hx => hk1 x.1 (hP k x hx).lt), va_K.moved hal9 hK, hD⟩, hS.F ht9⟩) hS.2.2 (by omega) (by omega)
  ·
    refine W.tight (k := 0) (n := 0) (Nat.le_refl _) (Nat.le_refl _) ?_
    clear hPc hKc
    try dsimp only at hw
    have jr_2 := hw
    refine W.eq (g2 := F0 m 21 ls [.int r_2, .ref y0]) rfl ?_
    have hPc := hP.sub (ws' := [(y0, .inr (6, [.ref x0, .int kd, .int wh, .int od, .int tu, .long lo, .long hi])), (x0, .inr (5, [.ref k0, .ref w0, .int (nI nz), .int ch])), (k0, .inl (ck, L, .inl f)), (w0, .inl (cw, L, .inl g))]) [0, 1, 2, 3] rfl
    have hKc := hK.sub (tys' := [(ck, .int), (cw, .int)]) [0, 1] rfl
    refine ro_calli (va_runU (As := [.int r_2]) (rest := []) ⟨hx, hb, hml, hown, hts⟩ (c_X6_hasRoomFor l  dC dI s.heap.size y0 kd wh od tu lo hi x0 k0 w0 ck cw L f g nz ch r_2 hR9 ho1 ho2) (va_cwO 1 hts gX3_putAll_X6_hasRoomFor_u35X6 rfl rfl rfl (List.mem_of_getElem? (l := wsX3_putAll) (i := 131) rfl) (by decide +kernel) ⟨(Nat.le_of_ble_eq_true rfl), (Nat.le_of_ble_eq_true rfl)⟩) ⟨pk_blindR, va_recv hKc hPc (ci := 6) (q0 := 0) rfl rfl, pk_callR hPc hKc⟩ rfl rfl hl.1 rfl (lv_room (Nat.le_of_ble_eq_true rfl)) dX3_putAll_21 ⟨(Nat.le_of_ble_eq_true rfl), (Nat.le_of_ble_eq_true rfl)⟩) (fun r_3 ur_3 hw => ?_)
    clear hPc hKc
    try dsimp only at hw
    have jr_3 := hw
    refine W.eq (g2 := F0 m 24 ls [.int r_3]) rfl ?_
    refine lv_if_ne (tgt := 37) hx hb dX3_putAll_24 (by decide) (fun c_4 => ?_) (fun c_4 => ?_)
    ·
      have ic_4 : ¬ r_3.toInt = 0 := tx_ne rfl (by decide) c_4
      refine lv_aload_n hx hb dX3_putAll_37 rfl (lv_at hl 1 rfl) ?_
      have hPc := hP.sub (ws' := [(y1, .inr (3, [.ref x1, .int kd8, .int wh8, .int (nI cap8), .int ru8, .int (nI tb8), .ref b8])), (x1, .inr (5, [.ref k8, .ref w8, .int (nI nz8), .int ch8])), (k8, .inl (ck8, L8, .inl f8)), (w8, .inl (cw8, L8, .inl g8))]) [4, 5, 6, 7] rfl
      have hKc := hK.sub (tys' := [(ck8, .int), (cw8, .int)]) [2, 3] rfl
      refine ro_calli (va_runU (As := []) (rest := []) ⟨hx, hb, hml, hown, hts⟩ (c_X3_size_H l  dC dI s.heap.size y1 (.int kd8) (.int wh8) (.int (nI cap8)) (.int ru8) (.int (nI tb8)) (.ref b8) x1 k8 w8 ck8 cw8 L8 f8 g8 nz8 ch8 hR8) (va_cwU 0 hts gX3_putAll_X3_size_u72X2 rfl rfl rfl rfl (by decide +kernel) ⟨(Nat.le_of_ble_eq_true rfl), (Nat.le_of_ble_eq_true rfl)⟩) ⟨pk_blindR, va_recv hKc hPc (ci := 3) (q0 := 0) rfl rfl, pk_callR hPc hKc⟩ rfl rfl hl.1 rfl (lv_room (Nat.le_of_ble_eq_true rfl)) dX3_putAll_38 ⟨(Nat.le_of_ble_eq_true rfl), (Nat.le_of_ble_eq_true rfl)⟩) (fun r_5 ur_5 hw => ?_)
      clear hPc hKc
      try dsimp only at hw
      have jr_5 := hw
      refine W.eq (g2 := F0 m 41 ls [.int r_5]) rfl ?_
      have hr_5 : -1000 ≤ r_5.toInt ∧ r_5.toInt ≤ nz8 := by rw [jr_5, nI_toInt (by omega)]; omega
      have hsz9 : r_5.toInt ≤ 1000 := by have h9 := hr_5; omega
      refine lv_istore_n (lv' := [(2, .int r_5), (0, .ref y0), (1, .ref y1)]) hx hb dX3_putAll_41 rfl hl (by decide) rfl (fun ls hl => ?_)
      refine lv_iconst (v := 0) hx hb dX3_putAll_42 (by decide) ?_
      refine lv_istore_n (lv' := [(3, .int 0), (2, .int r_5), (0, .ref y0), (1, .ref y1)]) hx hb dX3_putAll_43 rfl hl (by decide) rfl (fun ls hl => ?_)
      obtain ⟨H, hH9⟩ : ∃ H : Heap, H = s.heap := ⟨_, rfl⟩
      refine tx_hv2 hH9 ?_
      have hP : va_P (dC, dI) vwCl [(y0, .inr (6, [.ref x0, .int kd, .int wh, .int od, .int tu, .long lo, .long hi])), (x0, .inr (5, [.ref k0, .ref w0, .int (nI nz), .int ch])), (k0, .inl (ck, L, .inl f)), (w0, .inl (cw, L, .inl g)), (y1, .inr (3, [.ref x1, .int kd8, .int wh8, .int (nI cap8), .int ru8, .int (nI tb8), .ref b8])), (x1, .inr (5, [.ref k8, .ref w8, .int (nI nz8), .int ch8])), (k8, .inl (ck8, L8, .inl f8)), (w8, .inl (cw8, L8, .inl g8)), (b8, .inl (cb8, tb8, .inl bf8))] H := by rw [hH9]; exact hP
      replace hS : va_S A s.heap H locs := by rw [hH9]; exact hS
      clear hH9
      obtain ⟨i, es_i⟩ : ∃ z : Nat, z = 0 := ⟨_, rfl⟩
      obtain ⟨x9, ex9⟩ : ∃ y : Int32, y = nI i := ⟨_, rfl⟩
      obtain ⟨kA, ew_kA⟩ : ∃ z : Nat, z = k0 := ⟨_, rfl⟩
      obtain ⟨wA, ew_wA⟩ : ∃ z : Nat, z = w0 := ⟨_, rfl⟩
      obtain ⟨ckA, ew_ckA⟩ : ∃ z : ClassId, z = ck := ⟨_, rfl⟩
      obtain ⟨cwA, ew_cwA⟩ : ∃ z : ClassId, z = cw := ⟨_, rfl⟩
      obtain ⟨LA, ew_LA⟩ : ∃ z : Nat, z = L := ⟨_, rfl⟩
      obtain ⟨fA, ew_fA⟩ : ∃ z : (Nat → Int32), z = f := ⟨_, rfl⟩
      obtain ⟨gA, ew_gA⟩ : ∃ z : (Nat → Int32), z = g := ⟨_, rfl⟩
      obtain ⟨nzA, ew_nzA⟩ : ∃ z : Nat, z = nz := ⟨_, rfl⟩
      obtain ⟨chA, ew_chA⟩ : ∃ z : Int32, z = ch := ⟨_, rfl⟩
      obtain ⟨n9, en9⟩ : ∃ n : Nat, n = 1001 := ⟨_, rfl⟩
      replace hl : lv_has ls 8 [(3, .int x9), (2, .int r_5), (0, .ref y0), (1, .ref y1)] := by subst ex9; subst es_i; subst ew_kA; subst ew_wA; subst ew_ckA; subst ew_cwA; subst ew_LA; subst ew_fA; subst ew_gA; subst ew_nzA; subst ew_chA; exact hl
      replace hP : va_P (dC, dI) vwCl [(y0, .inr (6, [.ref x0, .int kd, .int wh, .int od, .int tu, .long lo, .long hi])), (x0, .inr (5, [.ref kA, .ref wA, .int (nI nzA), .int chA])), (kA, .inl (ckA, LA, .inl fA)), (wA, .inl (cwA, LA, .inl gA)), (y1, .inr (3, [.ref x1, .int kd8, .int wh8, .int (nI cap8), .int ru8, .int (nI tb8), .ref b8])), (x1, .inr (5, [.ref k8, .ref w8, .int (nI nz8), .int ch8])), (k8, .inl (ck8, L8, .inl f8)), (w8, .inl (cw8, L8, .inl g8)), (b8, .inl (cb8, tb8, .inl bf8))] H := by subst ex9; subst es_i; subst ew_kA; subst ew_wA; subst ew_ckA; subst ew_cwA; subst ew_LA; subst ew_fA; subst ew_gA; subst ew_nzA; subst ew_chA; exact hP.sub [0, 1, 2, 3, 4, 5, 6, 7, 8] rfl
      replace hD : va_D A [(y0, .inr (6, [.ref x0, .int kd, .int wh, .int od, .int tu, .long lo, .long hi])), (x0, .inr (5, [.ref kA, .ref wA, .int (nI nzA), .int chA])), (kA, .inl (ckA, LA, .inl fA)), (wA, .inl (cwA, LA, .inl gA)), (y1, .inr (3, [.ref x1, .int kd8, .int wh8, .int (nI cap8), .int ru8, .int (nI tb8), .ref b8])), (x1, .inr (5, [.ref k8, .ref w8, .int (nI nz8), .int ch8])), (k8, .inl (ck8, L8, .inl f8)), (w8, .inl (cw8, L8, .inl g8)), (b8, .inl (cb8, tb8, .inl bf8))] := by subst ex9; subst es_i; subst ew_kA; subst ew_wA; subst ew_ckA; subst ew_cwA; subst ew_LA; subst ew_fA; subst ew_gA; subst ew_nzA; subst ew_chA; exact hD.sub [0, 1, 2, 3, 4, 5, 6, 7, 8] (by decide) rfl
      have hK : va_K (dC, dI) vwCl [(ckA, .int), (cwA, .int), (ck8, .int), (cw8, .int), (cb8, .boolean)] s := by subst ex9; subst es_i; subst ew_kA; subst ew_wA; subst ew_ckA; subst ew_cwA; subst ew_LA; subst ew_fA; subst ew_gA; subst ew_nzA; subst ew_chA; exact hK.sub [0, 1, 2, 3, 4] rfl
      have hi9 : i ≤ 1000 := by subst ex9; subst es_i; subst ew_kA; subst ew_wA; subst ew_ckA; subst ew_cwA; subst ew_LA; subst ew_fA; subst ew_gA; subst ew_nzA; subst ew_chA; subst en9; exact by omega
      have hn9 : 1001 ≤ i + n9 := by subst ex9; subst es_i; subst ew_kA; subst ew_wA; subst ew_ckA; subst ew_cwA; subst ew_LA; subst ew_fA; subst ew_gA; subst ew_nzA; subst ew_chA; subst en9; exact by omega
      have hR9 : rOK LA nzA := by subst ex9; subst es_i; subst ew_kA; subst ew_wA; subst ew_ckA; subst ew_cwA; subst ew_LA; subst ew_fA; subst ew_gA; subst ew_nzA; subst ew_chA; subst en9; exact hR9
      have hmn9 : L ≤ LA ∧ lgN L ≤ lgN LA := by subst ex9; subst es_i; subst ew_kA; subst ew_wA; subst ew_ckA; subst ew_cwA; subst ew_LA; subst ew_fA; subst ew_gA; subst ew_nzA; subst ew_chA; subst en9; exact ⟨Nat.le_refl _, Nat.le_refl _⟩
      refine W.widen (k := 2 * lgN LA - 2 * lgN L) (n := 4 * LA - 4 * L) (by omega) (by omega) ?_
      clear en9 es_i ew_kA ew_wA ew_ckA ew_cwA ew_LA ew_fA ew_gA ew_nzA ew_chA
      induction n9 generalizing i x9 kA wA ckA cwA LA fA gA nzA chA ls H locs with
      | zero => exact absurd hn9 (by omega)
      | succ n9 ih =>
        subst ex9
        refine lv_iload_n hx hb dX3_putAll_44 rfl (lv_at hl 0 rfl) ?_
        refine lv_iload_n hx hb dX3_putAll_45 rfl (lv_at hl 1 rfl) ?_
        refine lv_icmp_ge (tgt := 117) hx hb dX3_putAll_46 (by decide) (fun c_6 => ?_) (fun c_6 => ?_)
        ·
          have ic_6 : r_5.toInt ≤ ((i : Nat) : Int) := tx_le rfl (nI_toInt (by omega)) c_6
          refine lv_iload_n hx hb dX3_putAll_117 rfl (lv_at hl 1 rfl) ?_
          refine lv_i2l (v := r_5.toInt64) hx hb dX3_putAll_118 rfl ?_
          refine W.book (fun hz9_ hn9_ => ?_)
          have hcost : hT H + 4 * L ≤ hT s.heap + 4 * (LA) ∧ H.size + 2 * lgN L ≤ s.heap.size + 2 * lgN (LA) := by constructor <;> omega
          have hlg9_ := lg_rok hR9
          have hP9 := hP.sub (ws' := [(y0, .inr (6, [.ref x0, .int kd, .int wh, .int od, .int tu, .long lo, .long hi])), (x0, .inr (5, [.ref kA, .ref wA, .int (nI nzA), .int chA])), (kA, .inl (ckA, LA, .inl fA)), (wA, .inl (cwA, LA, .inl gA)), (y1, .inr (3, [.ref x1, .int kd8, .int wh8, .int (nI cap8), .int ru8, .int (nI tb8), .ref b8])), (x1, .inr (5, [.ref k8, .ref w8, .int (nI nz8), .int ch8])), (k8, .inl (ck8, L8, .inl f8)), (w8, .inl (cw8, L8, .inl g8)), (b8, .inl (cb8, tb8, .inl bf8))]) [0, 1, 2, 3, 4, 5, 6, 7, 8] rfl
          have hD9 := hD.sub (ws' := [(y0, .inr (6, [.ref x0, .int kd, .int wh, .int od, .int tu, .long lo, .long hi])), (x0, .inr (5, [.ref kA, .ref wA, .int (nI nzA), .int chA])), (kA, .inl (ckA, LA, .inl fA)), (wA, .inl (cwA, LA, .inl gA)), (y1, .inr (3, [.ref x1, .int kd8, .int wh8, .int (nI cap8), .int ru8, .int (nI tb8), .ref b8])), (x1, .inr (5, [.ref k8, .ref w8, .int (nI nz8), .int ch8])), (k8, .inl (ck8, L8, .inl f8)), (w8, .inl (cw8, L8, .inl g8)), (b8, .inl (cb8, tb8, .inl bf8))]) [0, 1, 2, 3, 4, 5, 6, 7, 8] (by decide) rfl
          have hK9 := hK.sub (tys' := [(ckA, .int), (cwA, .int), (ck8, .int), (cw8, .int), (cb8, .boolean)]) [0, 1, 2, 3, 4] rfl
          refine W.widen (k := 120) (n := 52000) (by omega) (by omega) ?_
          refine vx_ret ?_
          exact W.lret (v := r_5.toInt64) hx hb hr (fun t ht hW => ⟨⟨r_5.toInt64, (kA, wA, ckA, cwA, LA, fA, gA, nzA, chA), rfl, hR9, by rw [ht]; exact hP9, va_K.moved hW.alike hK9, hD9, by rw [ht]; exact hcost⟩, hS.F ht⟩) hS.2.2 dX3_putAll_119
        ·
          have ic_6 : ((i : Nat) : Int) < r_5.toInt := tx_nle rfl (nI_toInt (by omega)) c_6
          have hlg9_ := lg_rok hR9
          refine lv_aload_n hx hb dX3_putAll_49 rfl (lv_at hl 3 rfl) ?_
          refine lv_iload_n hx hb dX3_putAll_50 rfl (lv_at hl 0 rfl) ?_
          have hPc := hP.sub (ws' := [(y1, .inr (3, [.ref x1, .int kd8, .int wh8, .int (nI cap8), .int ru8, .int (nI tb8), .ref b8]))]) [4] rfl
          have hKc := hK.sub (tys' := []) [] rfl
          refine ro_calli (va_runU (As := [.int (nI i)]) (rest := []) ⟨hx, hb, hml, hown, hts⟩ (c_X3_placeOf_H l  dC dI H.size y1 (.ref x1) (.int kd8) (.int wh8) (.int (nI cap8)) (.int ru8) (.int (nI tb8)) (.ref b8) (nI i)) (va_cwU 1 hts gX3_putAll_X3_placeOf_u77X2 rfl rfl rfl rfl (by decide +kernel) ⟨(Nat.le_of_ble_eq_true rfl), (Nat.le_of_ble_eq_true rfl)⟩) ⟨pk_blindR, va_recv hKc hPc (ci := 3) (q0 := 0) rfl rfl, pk_callR hPc hKc⟩ rfl rfl hl.1 rfl (lv_room (Nat.le_of_ble_eq_true rfl)) dX3_putAll_51 ⟨(show 2 * lgN LA - 2 * lgN L + 0 ≤ 120 by omega), (show 4 * LA - 4 * L + 0 ≤ 52000 by omega)⟩) (fun r_7 ur_7 hw => ?_)
          clear hPc hKc
          try dsimp only at hw
          have jr_7 := hw
          refine W.eq (g2 := F0 m 54 ls [.int r_7]) rfl ?_
          refine lv_istore (lv' := [(4, .int r_7), (3, .int (nI i)), (2, .int r_5), (0, .ref y0), (1, .ref y1)]) hx hb dX3_putAll_54 hl (by decide) rfl (fun ls hl => ?_)
          refine lv_aload_n hx hb dX3_putAll_56 rfl (lv_at hl 4 rfl) ?_
          refine va_get (D := (dC, dI)) (ci := 3) (v := .ref x1) (C := RX2) (T := TX2) (N := 7) hx hb hts hi0_ hown hK hP 4 rfl rfl 0 (by decide) hw0_ (fun _ h9 => h9) rfl dX3_putAll_57 ?_
          refine lv_iload hx hb dX3_putAll_60 (lv_at hl 0 rfl) ?_
          have hPc := hP.sub (ws' := [(x1, .inr (5, [.ref k8, .ref w8, .int (nI nz8), .int ch8])), (k8, .inl (ck8, L8, .inl f8)), (w8, .inl (cw8, L8, .inl g8))]) [5, 6, 7] rfl
          have hKc := hK.sub (tys' := [(ck8, .int), (cw8, .int)]) [2, 3] rfl
          refine ro_calli (va_runV (As := [.int r_7]) (rest := []) ⟨hx, hb, hml, hown, hts⟩ (c_X5_key l  dC dI H.size x1 k8 w8 ck8 cw8 L8 f8 g8 nz8 ch8 r_7 hR8) (cwV 1 hts gX3_putAll_X5_key rfl rfl rfl (by decide +kernel) ⟨(Nat.le_of_ble_eq_true rfl), (Nat.le_of_ble_eq_true rfl)⟩) ⟨pk_blindR, va_recv hKc hPc (ci := 5) (q0 := 0) rfl rfl, pk_callR hPc hKc⟩ rfl rfl hl.1 rfl (lv_room (Nat.le_of_ble_eq_true rfl)) dX3_putAll_62 ⟨(show 2 * lgN LA - 2 * lgN L + 0 ≤ 120 by omega), (show 4 * LA - 4 * L + 0 ≤ 52000 by omega)⟩) (fun r_8 ur_8 hw => ?_)
          clear hPc hKc
          try dsimp only at hw
          have jr_8 := hw
          refine W.eq (g2 := F0 m 65 ls [.int r_8]) rfl ?_
          refine lv_istore (lv' := [(5, .int r_8), (4, .int r_7), (3, .int (nI i)), (2, .int r_5), (0, .ref y0), (1, .ref y1)]) hx hb dX3_putAll_65 hl (by decide) rfl (fun ls hl => ?_)
          refine lv_aload_n hx hb dX3_putAll_67 rfl (lv_at hl 5 rfl) ?_
          refine va_get (D := (dC, dI)) (ci := 3) (v := .ref x1) (C := RX2) (T := TX2) (N := 7) hx hb hts hi0_ hown hK hP 4 rfl rfl 0 (by decide) hw0_ (fun _ h9 => h9) rfl dX3_putAll_68 ?_
          refine lv_iload hx hb dX3_putAll_71 (lv_at hl 1 rfl) ?_
          have hPc := hP.sub (ws' := [(x1, .inr (5, [.ref k8, .ref w8, .int (nI nz8), .int ch8])), (k8, .inl (ck8, L8, .inl f8)), (w8, .inl (cw8, L8, .inl g8))]) [5, 6, 7] rfl
          have hKc := hK.sub (tys' := [(ck8, .int), (cw8, .int)]) [2, 3] rfl
          refine ro_calli (va_runV (As := [.int r_7]) (rest := []) ⟨hx, hb, hml, hown, hts⟩ (c_X5_value l  dC dI H.size x1 k8 w8 ck8 cw8 L8 f8 g8 nz8 ch8 r_7 hR8) (cwV 1 hts gX3_putAll_X5_value rfl rfl rfl (by decide +kernel) ⟨(Nat.le_of_ble_eq_true rfl), (Nat.le_of_ble_eq_true rfl)⟩) ⟨pk_blindR, va_recv hKc hPc (ci := 5) (q0 := 0) rfl rfl, pk_callR hPc hKc⟩ rfl rfl hl.1 rfl (lv_room (Nat.le_of_ble_eq_true rfl)) dX3_putAll_73 ⟨(show 2 * lgN LA - 2 * lgN L + 0 ≤ 120 by omega), (show 4 * LA - 4 * L + 0 ≤ 52000 by omega)⟩) (fun r_9 ur_9 hw => ?_)
          clear hPc hKc
          try dsimp only at hw
          have jr_9 := hw
          refine W.eq (g2 := F0 m 76 ls [.int r_9]) rfl ?_
          refine lv_istore (lv' := [(6, .int r_9), (5, .int r_8), (4, .int r_7), (3, .int (nI i)), (2, .int r_5), (0, .ref y0), (1, .ref y1)]) hx hb dX3_putAll_76 hl (by decide) rfl (fun ls hl => ?_)
          refine lv_aload_n hx hb dX3_putAll_78 rfl (lv_at hl 5 rfl) ?_
          refine lv_iload hx hb dX3_putAll_79 (lv_at hl 1 rfl) ?_
          have hPc := hP.sub (ws' := [(y0, .inr (6, [.ref x0, .int kd, .int wh, .int od, .int tu, .long lo, .long hi])), (x0, .inr (5, [.ref kA, .ref wA, .int (nI nzA), .int chA])), (kA, .inl (ckA, LA, .inl fA)), (wA, .inl (cwA, LA, .inl gA))]) [0, 1, 2, 3] rfl
          have hKc := hK.sub (tys' := [(ckA, .int), (cwA, .int)]) [0, 1] rfl
          refine ro_calli (va_runU (As := [.int r_8]) (rest := []) ⟨hx, hb, hml, hown, hts⟩ (c_X6_find l  dC dI H.size y0 kd wh od tu lo hi x0 kA wA ckA cwA LA fA gA nzA chA r_8 hR9 ho1 ho2) (va_cwA 1 hts gX3_putAll_X6_find_u46X6 rfl rfl rfl (hN.xw _ (List.mem_of_getElem? (l := p_xw) (i := 0) rfl)) (by decide +kernel) ⟨(Nat.le_of_ble_eq_true rfl), (Nat.le_of_ble_eq_true rfl)⟩) ⟨pk_blindR, va_recv hKc hPc (ci := 6) (q0 := 0) rfl rfl, pk_callR hPc hKc⟩ rfl rfl hl.1 rfl (lv_room (Nat.le_of_ble_eq_true rfl)) dX3_putAll_81 ⟨(show 2 * lgN LA - 2 * lgN L + 0 ≤ 120 by omega), (show 4 * LA - 4 * L + 0 ≤ 52000 by omega)⟩) (fun r_10 ur_10 hw => ?_)
          clear hPc hKc
          try dsimp only at hw
          have jr_10 := hw
          refine W.eq (g2 := F0 m 84 ls [.int r_10]) rfl ?_
          refine lv_istore (lv' := [(7, .int r_10), (6, .int r_9), (5, .int r_8), (4, .int r_7), (3, .int (nI i)), (2, .int r_5), (0, .ref y0), (1, .ref y1)]) hx hb dX3_putAll_84 hl (by decide) rfl (fun ls hl => ?_)
          refine lv_iload hx hb dX3_putAll_86 (lv_at hl 0 rfl) ?_
          refine lv_if_ge (tgt := 102) hx hb dX3_putAll_88 (by decide) (fun c_11 => ?_) (fun c_11 => ?_)
          ·
            have ic_11 : 0 ≤ r_10.toInt := tx_le (by decide) rfl c_11
            refine lv_aload_n hx hb dX3_putAll_102 rfl (lv_at hl 6 rfl) ?_
            refine lv_iload hx hb dX3_putAll_103 (lv_at hl 0 rfl) ?_
            refine lv_iload hx hb dX3_putAll_105 (lv_at hl 1 rfl) ?_
            have hPc := hP.sub (ws' := [(y0, .inr (6, [.ref x0, .int kd, .int wh, .int od, .int tu, .long lo, .long hi])), (x0, .inr (5, [.ref kA, .ref wA, .int (nI nzA), .int chA])), (kA, .inl (ckA, LA, .inl fA)), (wA, .inl (cwA, LA, .inl gA))]) [0, 1, 2, 3] rfl
            have hDc := hD.sub (ws' := [(y0, .inr (6, [.ref x0, .int kd, .int wh, .int od, .int tu, .long lo, .long hi])), (x0, .inr (5, [.ref kA, .ref wA, .int (nI nzA), .int chA])), (kA, .inl (ckA, LA, .inl fA)), (wA, .inl (cwA, LA, .inl gA))]) [0, 1, 2, 3] (by decide) rfl
            have hKc := hK.sub (tys' := [(ckA, .int), (cwA, .int)]) [0, 1] rfl
            have hFc := va_free (wc := [(y0, .inr (6, [.ref x0, .int kd, .int wh, .int od, .int tu, .long lo, .long hi])), (x0, .inr (5, [.ref kA, .ref wA, .int (nI nzA), .int chA])), (kA, .inl (ckA, LA, .inl fA)), (wA, .inl (cwA, LA, .inl gA))]) hD hS hA [0, 1, 2, 3] rfl
            have hZc := (hZ.kept hS.2.1).narrow hFc
            refine va_calll (va_runU (As := [.int r_10, .int r_9]) (rest := []) ⟨hx, hb, hml, hown, hts⟩ (c_X3_replace_S l hlt dC dI H.size y0 kd wh od tu lo hi x0 kA wA ckA cwA LA fA gA nzA chA r_10 r_9 hR9 ho1 ho2) (va_cwU 2 hts gX3_putAll_X3_replace_u55X6 rfl rfl rfl rfl (by decide +kernel) ⟨(Nat.le_of_ble_eq_true rfl), (Nat.le_of_ble_eq_true rfl)⟩) ⟨pk_blindX, va_recv hKc hPc (ci := 6) (q0 := 0) rfl rfl, pk_callX hPc hKc hDc hN hZc⟩ rfl rfl hl.1 rfl (lv_room (Nat.le_of_ble_eq_true rfl)) dX3_putAll_107 ⟨(show 2 * lgN LA - 2 * lgN L + 0 ≤ 120 by omega), (show 4 * LA - 4 * L + 0 ≤ 52000 by omega)⟩) hS (fun q _ h => hFc q h) hFc (fun r_12 ur_12 t H1 locs ht hvm hw hB hz1 hk1 hS => ?_)
            try dsimp only at hw
            have jr_12 := hw
            obtain ⟨hP1, hK1, hD1⟩ := hB
            rw [ht] at hP1
            have hK1 := va_K.moved hvm.symm hK1
            obtain ⟨hP, hD⟩ := va_join (wr := [(y1, .inr (3, [.ref x1, .int kd8, .int wh8, .int (nI cap8), .int ru8, .int (nI tb8), .ref b8])), (x1, .inr (5, [.ref k8, .ref w8, .int (nI nz8), .int ch8])), (k8, .inl (ck8, L8, .inl f8)), (w8, .inl (cw8, L8, .inl g8)), (b8, .inl (cb8, tb8, .inl bf8))]) (w1 := [(y0, .inr (6, [.ref x0, .int kd, .int wh, .int od, .int tu, .long lo, .long hi])), (x0, .inr (5, [.ref kA, .ref wA, .int (nI nzA), .int ur_12.2.2])), (kA, .inl (ckA, LA, .inl ur_12.1)), (wA, .inl (cwA, LA, .inl ur_12.2.1))]) hP hD [0, 1, 2, 3] [4, 5, 6, 7, 8] rfl rfl (by decide) (by decide) hk1 hFc hP1 hD1
            clear hk1 hz1 ht hPc hDc hKc hFc
            generalize H1 = H at hP hS ⊢
            replace hP : va_P (dC, dI) vwCl [(y1, .inr (3, [.ref x1, .int kd8, .int wh8, .int (nI cap8), .int ru8, .int (nI tb8), .ref b8])), (x1, .inr (5, [.ref k8, .ref w8, .int (nI nz8), .int ch8])), (k8, .inl (ck8, L8, .inl f8)), (w8, .inl (cw8, L8, .inl g8)), (b8, .inl (cb8, tb8, .inl bf8)), (y0, .inr (6, [.ref x0, .int kd, .int wh, .int od, .int tu, .long lo, .long hi])), (x0, .inr (5, [.ref kA, .ref wA, .int (nI nzA), .int ur_12.2.2])), (kA, .inl (ckA, LA, .inl ur_12.1)), (wA, .inl (cwA, LA, .inl ur_12.2.1))] H := hP
            replace hD : va_D A [(y1, .inr (3, [.ref x1, .int kd8, .int wh8, .int (nI cap8), .int ru8, .int (nI tb8), .ref b8])), (x1, .inr (5, [.ref k8, .ref w8, .int (nI nz8), .int ch8])), (k8, .inl (ck8, L8, .inl f8)), (w8, .inl (cw8, L8, .inl g8)), (b8, .inl (cb8, tb8, .inl bf8)), (y0, .inr (6, [.ref x0, .int kd, .int wh, .int od, .int tu, .long lo, .long hi])), (x0, .inr (5, [.ref kA, .ref wA, .int (nI nzA), .int ur_12.2.2])), (kA, .inl (ckA, LA, .inl ur_12.1)), (wA, .inl (cwA, LA, .inl ur_12.2.1))] := hD
            refine W.widen (k := 2 * lgN LA - 2 * lgN L) (n := 4 * LA - 4 * L) (by omega) (by omega) ?_
            refine W.eq (g2 := F0 m 110 ls [.long r_12]) rfl ?_
            refine lv_pop2_2 hx hb dX3_putAll_110 rfl ?_
            refine lv_iinc (v := nI (i + 1)) (lv' := [(3, .int (nI (i + 1))), (7, .int r_10), (6, .int r_9), (5, .int r_8), (4, .int r_7), (2, .int r_5), (0, .ref y0), (1, .ref y1)]) hx hb dX3_putAll_111 hl (k := 4) rfl (by rw [show Int32.ofInt 1 = nI 1 from rfl, nI_add]) (by decide) rfl (fun ls hl => ?_)
            refine lv_goto (tgt := 44) hx hb dX3_putAll_114 (by decide) ?_
            refine W.widen (k := 2 * lgN LA - 2 * lgN L) (n := 4 * LA - 4 * L) (by omega) (by omega) ?_
            exact ih (i := i + 1) (x9 := nI (i + 1)) (ex9 := rfl) (kA := kA) (wA := wA) (ckA := ckA) (cwA := cwA) (LA := LA) (fA := ur_12.1) (gA := ur_12.2.1) (nzA := nzA) (chA := ur_12.2.2) (ls := ls) (H := H) (locs := locs) (hP := hP.sub (ws' := [(y0, .inr (6, [.ref x0, .int kd, .int wh, .int od, .int tu, .long lo, .long hi])), (x0, .inr (5, [.ref kA, .ref wA, .int (nI nzA), .int ur_12.2.2])), (kA, .inl (ckA, LA, .inl ur_12.1)), (wA, .inl (cwA, LA, .inl ur_12.2.1)), (y1, .inr (3, [.ref x1, .int kd8, .int wh8, .int (nI cap8), .int ru8, .int (nI tb8), .ref b8])), (x1, .inr (5, [.ref k8, .ref w8, .int (nI nz8), .int ch8])), (k8, .inl (ck8, L8, .inl f8)), (w8, .inl (cw8, L8, .inl g8)), (b8, .inl (cb8, tb8, .inl bf8))]) [5, 6, 7, 8, 0, 1, 2, 3, 4] rfl) (hS := hS) (hD := hD.sub (ws' := [(y0, .inr (6, [.ref x0, .int kd, .int wh, .int od, .int tu, .long lo, .long hi])), (x0, .inr (5, [.ref kA, .ref wA, .int (nI nzA), .int ur_12.2.2])), (kA, .inl (ckA, LA, .inl ur_12.1)), (wA, .inl (cwA, LA, .inl ur_12.2.1)), (y1, .inr (3, [.ref x1, .int kd8, .int wh8, .int (nI cap8), .int ru8, .int (nI tb8), .ref b8])), (x1, .inr (5, [.ref k8, .ref w8, .int (nI nz8), .int ch8])), (k8, .inl (ck8, L8, .inl f8)), (w8, .inl (cw8, L8, .inl g8)), (b8, .inl (cb8, tb8, .inl bf8))]) [5, 6, 7, 8, 0, 1, 2, 3, 4] (by decide) rfl) (hK := hK.sub (tys' := [(ckA, .int), (cwA, .int), (ck8, .int), (cw8, .int), (cb8, .boolean)]) [0, 1, 2, 3, 4] rfl) (hi9 := by omega) (hn9 := by omega) (hR9 := hR9) (hmn9 := ⟨by omega, by omega⟩) (hl := lv_sub hl [0, 5, 6, 7] rfl)
          ·
            have ic_11 : r_10.toInt < 0 := tx_nle (by decide) rfl c_11
            refine lv_aload_n hx hb dX3_putAll_91 rfl (lv_at hl 6 rfl) ?_
            refine lv_iload hx hb dX3_putAll_92 (lv_at hl 2 rfl) ?_
            refine lv_iload hx hb dX3_putAll_94 (lv_at hl 1 rfl) ?_
            have hPc := hP.sub (ws' := [(y0, .inr (6, [.ref x0, .int kd, .int wh, .int od, .int tu, .long lo, .long hi])), (x0, .inr (5, [.ref kA, .ref wA, .int (nI nzA), .int chA])), (kA, .inl (ckA, LA, .inl fA)), (wA, .inl (cwA, LA, .inl gA))]) [0, 1, 2, 3] rfl
            have hDc := hD.sub (ws' := [(y0, .inr (6, [.ref x0, .int kd, .int wh, .int od, .int tu, .long lo, .long hi])), (x0, .inr (5, [.ref kA, .ref wA, .int (nI nzA), .int chA])), (kA, .inl (ckA, LA, .inl fA)), (wA, .inl (cwA, LA, .inl gA))]) [0, 1, 2, 3] (by decide) rfl
            have hKc := hK.sub (tys' := [(ckA, .int), (cwA, .int)]) [0, 1] rfl
            have hFc := va_free (wc := [(y0, .inr (6, [.ref x0, .int kd, .int wh, .int od, .int tu, .long lo, .long hi])), (x0, .inr (5, [.ref kA, .ref wA, .int (nI nzA), .int chA])), (kA, .inl (ckA, LA, .inl fA)), (wA, .inl (cwA, LA, .inl gA))]) hD hS hA [0, 1, 2, 3] rfl
            refine W.book (fun hz8_ hn8_ => ?_)
            refine va_callv (va_runU (As := [.int r_8, .int r_9]) (rest := []) ⟨hx, hb, hml, hown, hts⟩ (c_X6_enter l  dC dI H.size (hT H) y0 kd wh od tu lo hi x0 kA wA ckA cwA LA fA gA nzA chA r_8 r_9 8000 hR9 ho1 ho2 (by unfold rOK at hR9; omega)) (va_cwA 2 hts gX3_putAll_X6_enter_u43X6 rfl rfl rfl (hN.xw _ (List.mem_of_getElem? (l := p_xw) (i := 1) rfl)) (by decide +kernel) ⟨(Nat.le_of_ble_eq_true rfl), (Nat.le_of_ble_eq_true rfl)⟩) ⟨pk_blindT, va_recv hKc hPc (ci := 6) (q0 := 0) rfl rfl, pk_callT hPc hKc hDc⟩ rfl rfl hl.1 rfl (lv_room (Nat.le_of_ble_eq_true rfl)) dX3_putAll_96 ⟨(show 2 * lgN LA - 2 * lgN L + 2 ≤ 120 by omega), (show 4 * LA - 4 * L + 8000 ≤ 52000 by omega)⟩) hS (fun q _ h => hFc q h) hFc (fun ur_13 t H1 locs ht hvm hw hB hz1 hk1 hS => ?_)
            try dsimp only at hw
            have jr_13 := hw
            obtain ⟨hP1, hK1, hD1, hC1_⟩ := hB
            rw [ht] at hP1 hC1_
            have hK1 := va_K.moved hvm.symm hK1
            obtain ⟨hP, hD⟩ := va_join (wr := [(y1, .inr (3, [.ref x1, .int kd8, .int wh8, .int (nI cap8), .int ru8, .int (nI tb8), .ref b8])), (x1, .inr (5, [.ref k8, .ref w8, .int (nI nz8), .int ch8])), (k8, .inl (ck8, L8, .inl f8)), (w8, .inl (cw8, L8, .inl g8)), (b8, .inl (cb8, tb8, .inl bf8))]) (w1 := [(y0, .inr (6, [.ref x0, .int kd, .int wh, .int od, .int tu, .long lo, .long hi])), (x0, .inr (5, [.ref ur_13.1, .ref ur_13.2.1, .int (nI (ur_13.2.2.2.2.2.2.2.1)), .int ur_13.2.2.2.2.2.2.2.2])), (ur_13.1, .inl (ur_13.2.2.1, ur_13.2.2.2.2.1, .inl ur_13.2.2.2.2.2.1)), (ur_13.2.1, .inl (ur_13.2.2.2.1, ur_13.2.2.2.2.1, .inl ur_13.2.2.2.2.2.2.1))]) hP hD [0, 1, 2, 3] [4, 5, 6, 7, 8] rfl rfl (by decide) (by decide) hk1 hFc hP1 hD1
            have hK := hK.app hK1
            have hK : va_K (dC, dI) vwCl [(ckA, .int), (cwA, .int), (ck8, .int), (cw8, .int), (cb8, .boolean), (ur_13.2.2.1, .int), (ur_13.2.2.2.1, .int)] s := hK
            have hl6_ := ln_mono hR9 jr_13
            have hn7_ : hT H1 ≤ hT s.heap + (4 * LA - 4 * L + (4 * (ur_13.2.2.2.2.1) - 4 * LA)) := by omega
            have hz7_ : H1.size ≤ s.heap.size + (2 * lgN LA - 2 * lgN L + (2 * lgN (ur_13.2.2.2.2.1) - 2 * lgN LA)) := by omega
            clear hC1_ hn8_ hz8_
            clear hk1 hz1 ht hPc hDc hKc hFc
            generalize H1 = H at hP hS hn7_ hz7_ ⊢
            replace hP : va_P (dC, dI) vwCl [(y1, .inr (3, [.ref x1, .int kd8, .int wh8, .int (nI cap8), .int ru8, .int (nI tb8), .ref b8])), (x1, .inr (5, [.ref k8, .ref w8, .int (nI nz8), .int ch8])), (k8, .inl (ck8, L8, .inl f8)), (w8, .inl (cw8, L8, .inl g8)), (b8, .inl (cb8, tb8, .inl bf8)), (y0, .inr (6, [.ref x0, .int kd, .int wh, .int od, .int tu, .long lo, .long hi])), (x0, .inr (5, [.ref ur_13.1, .ref ur_13.2.1, .int (nI (ur_13.2.2.2.2.2.2.2.1)), .int ur_13.2.2.2.2.2.2.2.2])), (ur_13.1, .inl (ur_13.2.2.1, ur_13.2.2.2.2.1, .inl ur_13.2.2.2.2.2.1)), (ur_13.2.1, .inl (ur_13.2.2.2.1, ur_13.2.2.2.2.1, .inl ur_13.2.2.2.2.2.2.1))] H := hP
            replace hD : va_D A [(y1, .inr (3, [.ref x1, .int kd8, .int wh8, .int (nI cap8), .int ru8, .int (nI tb8), .ref b8])), (x1, .inr (5, [.ref k8, .ref w8, .int (nI nz8), .int ch8])), (k8, .inl (ck8, L8, .inl f8)), (w8, .inl (cw8, L8, .inl g8)), (b8, .inl (cb8, tb8, .inl bf8)), (y0, .inr (6, [.ref x0, .int kd, .int wh, .int od, .int tu, .long lo, .long hi])), (x0, .inr (5, [.ref ur_13.1, .ref ur_13.2.1, .int (nI (ur_13.2.2.2.2.2.2.2.1)), .int ur_13.2.2.2.2.2.2.2.2])), (ur_13.1, .inl (ur_13.2.2.1, ur_13.2.2.2.2.1, .inl ur_13.2.2.2.2.2.1)), (ur_13.2.1, .inl (ur_13.2.2.2.1, ur_13.2.2.2.2.1, .inl ur_13.2.2.2.2.2.2.1))] := hD
            refine W.tight (k := 2 * lgN LA - 2 * lgN L + (2 * lgN (ur_13.2.2.2.2.1) - 2 * lgN LA)) (n := 4 * LA - 4 * L + (4 * (ur_13.2.2.2.2.1) - 4 * LA)) hz7_ hn7_ ?_
            clear hn7_ hz7_
            refine W.eq (g2 := F0 m 99 ls []) rfl ?_
            have hl6_ := ln_mono hR9 jr_13
            have hR9 : rOK (ur_13.2.2.2.2.1) (ur_13.2.2.2.2.2.2.2.1) := ln_ok jr_13
            refine lv_goto (tgt := 111) hx hb dX3_putAll_99 (by decide) ?_
            refine lv_iinc (v := nI (i + 1)) (lv' := [(3, .int (nI (i + 1))), (7, .int r_10), (6, .int r_9), (5, .int r_8), (4, .int r_7), (2, .int r_5), (0, .ref y0), (1, .ref y1)]) hx hb dX3_putAll_111 hl (k := 4) rfl (by rw [show Int32.ofInt 1 = nI 1 from rfl, nI_add]) (by decide) rfl (fun ls hl => ?_)
            refine lv_goto (tgt := 44) hx hb dX3_putAll_114 (by decide) ?_
            refine W.widen (k := 2 * lgN ur_13.2.2.2.2.1 - 2 * lgN L) (n := 4 * ur_13.2.2.2.2.1 - 4 * L) (by omega) (by omega) ?_
            exact ih (i := i + 1) (x9 := nI (i + 1)) (ex9 := rfl) (kA := ur_13.1) (wA := ur_13.2.1) (ckA := ur_13.2.2.1) (cwA := ur_13.2.2.2.1) (LA := ur_13.2.2.2.2.1) (fA := ur_13.2.2.2.2.2.1) (gA := ur_13.2.2.2.2.2.2.1) (nzA := ur_13.2.2.2.2.2.2.2.1) (chA := ur_13.2.2.2.2.2.2.2.2) (ls := ls) (H := H) (locs := locs) (hP := hP.sub (ws' := [(y0, .inr (6, [.ref x0, .int kd, .int wh, .int od, .int tu, .long lo, .long hi])), (x0, .inr (5, [.ref ur_13.1, .ref ur_13.2.1, .int (nI (ur_13.2.2.2.2.2.2.2.1)), .int ur_13.2.2.2.2.2.2.2.2])), (ur_13.1, .inl (ur_13.2.2.1, ur_13.2.2.2.2.1, .inl ur_13.2.2.2.2.2.1)), (ur_13.2.1, .inl (ur_13.2.2.2.1, ur_13.2.2.2.2.1, .inl ur_13.2.2.2.2.2.2.1)), (y1, .inr (3, [.ref x1, .int kd8, .int wh8, .int (nI cap8), .int ru8, .int (nI tb8), .ref b8])), (x1, .inr (5, [.ref k8, .ref w8, .int (nI nz8), .int ch8])), (k8, .inl (ck8, L8, .inl f8)), (w8, .inl (cw8, L8, .inl g8)), (b8, .inl (cb8, tb8, .inl bf8))]) [5, 6, 7, 8, 0, 1, 2, 3, 4] rfl) (hS := hS) (hD := hD.sub (ws' := [(y0, .inr (6, [.ref x0, .int kd, .int wh, .int od, .int tu, .long lo, .long hi])), (x0, .inr (5, [.ref ur_13.1, .ref ur_13.2.1, .int (nI (ur_13.2.2.2.2.2.2.2.1)), .int ur_13.2.2.2.2.2.2.2.2])), (ur_13.1, .inl (ur_13.2.2.1, ur_13.2.2.2.2.1, .inl ur_13.2.2.2.2.2.1)), (ur_13.2.1, .inl (ur_13.2.2.2.1, ur_13.2.2.2.2.1, .inl ur_13.2.2.2.2.2.2.1)), (y1, .inr (3, [.ref x1, .int kd8, .int wh8, .int (nI cap8), .int ru8, .int (nI tb8), .ref b8])), (x1, .inr (5, [.ref k8, .ref w8, .int (nI nz8), .int ch8])), (k8, .inl (ck8, L8, .inl f8)), (w8, .inl (cw8, L8, .inl g8)), (b8, .inl (cb8, tb8, .inl bf8))]) [5, 6, 7, 8, 0, 1, 2, 3, 4] (by decide) rfl) (hK := hK.sub (tys' := [(ur_13.2.2.1, .int), (ur_13.2.2.2.1, .int), (ck8, .int), (cw8, .int), (cb8, .boolean)]) [5, 6, 2, 3, 4] rfl) (hi9 := by omega) (hn9 := by omega) (hR9 := hR9) (hmn9 := ⟨by omega, by omega⟩) (hl := lv_sub hl [0, 5, 6, 7] rfl)
    ·
      have ic_4 : r_3.toInt = 0 := tx_eq rfl (by decide) c_4
      have hP9 := hP.sub (ws' := [(y0, .inr (6, [.ref x0, .int kd, .int wh, .int od, .int tu, .long lo, .long hi])), (x0, .inr (5, [.ref k0, .ref w0, .int (nI nz), .int ch])), (k0, .inl (ck, L, .inl f)), (w0, .inl (cw, L, .inl g)), (y1, .inr (3, [.ref x1, .int kd8, .int wh8, .int (nI cap8), .int ru8, .int (nI tb8), .ref b8])), (x1, .inr (5, [.ref k8, .ref w8, .int (nI nz8), .int ch8])), (k8, .inl (ck8, L8, .inl f8)), (w8, .inl (cw8, L8, .inl g8)), (b8, .inl (cb8, tb8, .inl bf8))]) [0, 1, 2, 3, 4, 5, 6, 7, 8] rfl
      have hD9 := hD.sub (ws' := [(y0, .inr (6, [.ref x0, .int kd, .int wh, .int od, .int tu, .long lo, .long hi])), (x0, .inr (5, [.ref k0, .ref w0, .int (nI nz), .int ch])), (k0, .inl (ck, L, .inl f)), (w0, .inl (cw, L, .inl g)), (y1, .inr (3, [.ref x1, .int kd8, .int wh8, .int (nI cap8), .int ru8, .int (nI tb8), .ref b8])), (x1, .inr (5, [.ref k8, .ref w8, .int (nI nz8), .int ch8])), (k8, .inl (ck8, L8, .inl f8)), (w8, .inl (cw8, L8, .inl g8)), (b8, .inl (cb8, tb8, .inl bf8))]) [0, 1, 2, 3, 4, 5, 6, 7, 8] (by decide) rfl
      have hK9 := hK.sub (tys' := [(ck, .int), (cw, .int), (ck8, .int), (cw8, .int), (cb8, .boolean)]) [0, 1, 2, 3, 4] rfl
      refine vx_tightX (XC0 := vx_X (fun _ : Unit => True) (fun (E : String) (_ : Unit) (t : State) => (E = "java/lang/IllegalArgumentException" ∨ E = "java/lang/IllegalStateException") ∧ va_P (dC, dI) vwCl [(y0, .inr (6, [.ref x0, .int kd, .int wh, .int od, .int tu, .long lo, .long hi])), (x0, .inr (5, [.ref k0, .ref w0, .int (nI nz), .int ch])), (k0, .inl (ck, L, .inl f)), (w0, .inl (cw, L, .inl g)), (y1, .inr (3, [.ref x1, .int kd8, .int wh8, .int (nI cap8), .int ru8, .int (nI tb8), .ref b8])), (x1, .inr (5, [.ref k8, .ref w8, .int (nI nz8), .int ch8])), (k8, .inl (ck8, L8, .inl f8)), (w8, .inl (cw8, L8, .inl g8)), (b8, .inl (cb8, tb8, .inl bf8))] t.heap ∧ va_K (dC, dI) vwCl [(ck, .int), (cw, .int), (ck8, .int), (cw8, .int), (cb8, .boolean)] t ∧ va_D A [(y0, .inr (6, [.ref x0, .int kd, .int wh, .int od, .int tu, .long lo, .long hi])), (x0, .inr (5, [.ref k0, .ref w0, .int (nI nz), .int ch])), (k0, .inl (ck, L, .inl f)), (w0, .inl (cw, L, .inl g)), (y1, .inr (3, [.ref x1, .int kd8, .int wh8, .int (nI cap8), .int ru8, .int (nI tb8), .ref b8])), (x1, .inr (5, [.ref k8, .ref w8, .int (nI nz8), .int ch8])), (k8, .inl (ck8, L8, .inl f8)), (w8, .inl (cw8, L8, .inl g8)), (b8, .inl (cb8, tb8, .inl bf8))]) A) 1 6 (by omega) (by omega) (fun E t9 h9 hz9 hn9 => by obtain ⟨u9, g1, g2, g3⟩ := h9; exact ⟨u9, g1, ⟨g2, hz9, hn9⟩, g3⟩) ?_
      obtain ⟨sa, hsa⟩ := hN.stX3_40
      exact vx_throwS hx hb hlt (own := RX3) (cls := "java/lang/IllegalStateException") (text := "full") (names := ["java/lang/RuntimeException", "java/lang/Exception"]) hown (by decide +kernel) (by decide +kernel) hw1_ hw2_ hsa (tx_hat hN.xw (fun w h => hts w (at_X3_putAll_27 w h)) ng_RX3_42) og_RX3_42 hZ.1 hZ.2 hS (by rw [hml]; exact hl.1) dX3_putAll_27 dX3_putAll_30 dX3_putAll_31 dX3_putAll_33 dX3_putAll_36 (fun x hx9 => (htab x hx9).elim) (Nat.le_of_ble_eq_true rfl) (Nat.le_of_ble_eq_true rfl) (Nat.le_of_ble_eq_true rfl) (Nat.le_of_ble_eq_true rfl) hlocks (fun t hvm hz hq => ⟨(), trivial, ⟨Or.inr rfl, hP9.kept (fun k x hx => hq x.1 (hP9 k x hx).lt), va_K.moved hvm hK9, hD9⟩, ⟨Nat.le_trans hS.1 hz, fun q h1 h2 => (hq q (Nat.lt_of_lt_of_le h1 hS.1)).trans (hS.2.1 q h1 h2)⟩⟩) hS.2.2 (Nat.le_of_ble_eq_true rfl) (Nat.le_of_ble_eq_true rfl)
set_option maxHeartbeats 4000000 in
set_option maxRecDepth 100000 in
/-- Keyed.putAll of S and L -/
theorem c_X3_putAll_SL (l : Launch) (hlt : l.stackTraces = false) (dC : Nat → ClassId) (dI : Nat → Nat → Nat) (sz : Nat) (T0 : Nat) (y0 : Nat) (kd : Int32) (wh : Int32) (od : Int32) (tu : Int32) (lo : Int64) (hi : Int64) (x0 : Nat) (k0 : Nat) (w0 : Nat) (ck : ClassId) (cw : ClassId) (L : Nat) (f : Nat → Int32) (g : Nat → Int32) (nz : Nat) (ch : Int32) (y1 : Nat) (kd8 : Int32) (wh8 : Int32) (lim8 : Nat) (bu8 : Int32) (x1 : Nat) (k8 : Nat) (w8 : Nat) (ck8 : ClassId) (cw8 : ClassId) (L8 : Nat) (f8 : Nat → Int32) (g8 : Nat → Int32) (nz8 : Nat) (ch8 : Int32) (hR9 : rOK L nz) (ho1 : 0 ≤ od.toInt) (ho2 : od.toInt ≤ 3) (hR8 : rOK L8 nz8) (hlim8 : lim8 ≤ 1000) : vx_Met l yX3_putAll wsX3_putAll ({ frames := 7, cells := 120, slots := 52000, locals := 300 }) (va_Pc [.ref y0, .ref y1] (pk_PreXT (dC, dI) [(y0, .inr (6, [.ref x0, .int kd, .int wh, .int od, .int tu, .long lo, .long hi])), (x0, .inr (5, [.ref k0, .ref w0, .int (nI nz), .int ch])), (k0, .inl (ck, L, .inl f)), (w0, .inl (cw, L, .inl g)), (y1, .inr (4, [.ref x1, .int kd8, .int wh8, .int (nI lim8), .int bu8])), (x1, .inr (5, [.ref k8, .ref w8, .int (nI nz8), .int ch8])), (k8, .inl (ck8, L8, .inl f8)), (w8, .inl (cw8, L8, .inl g8))] [(ck, .int), (cw, .int), (ck8, .int), (cw8, .int)] sz T0)) (va_Ql (fun (x : Int64) (u : Nat × Nat × ClassId × ClassId × Nat × (Nat → Int32) × (Nat → Int32) × Nat × Int32) => rOK (u.2.2.2.2.1) (u.2.2.2.2.2.2.2.1)) (fun (u : Nat × Nat × ClassId × ClassId × Nat × (Nat → Int32) × (Nat → Int32) × Nat × Int32) (t : State) => va_P (dC, dI) vwCl [(y0, .inr (6, [.ref x0, .int kd, .int wh, .int od, .int tu, .long lo, .long hi])), (x0, .inr (5, [.ref u.1, .ref u.2.1, .int (nI (u.2.2.2.2.2.2.2.1)), .int u.2.2.2.2.2.2.2.2])), (u.1, .inl (u.2.2.1, u.2.2.2.2.1, .inl u.2.2.2.2.2.1)), (u.2.1, .inl (u.2.2.2.1, u.2.2.2.2.1, .inl u.2.2.2.2.2.2.1)), (y1, .inr (4, [.ref x1, .int kd8, .int wh8, .int (nI lim8), .int bu8])), (x1, .inr (5, [.ref k8, .ref w8, .int (nI nz8), .int ch8])), (k8, .inl (ck8, L8, .inl f8)), (w8, .inl (cw8, L8, .inl g8))] t.heap ∧ va_K (dC, dI) vwCl [(u.2.2.1, .int), (u.2.2.2.1, .int), (ck8, .int), (cw8, .int)] t ∧ va_D (va_A [(y0, .inr (6, [.ref x0, .int kd, .int wh, .int od, .int tu, .long lo, .long hi])), (x0, .inr (5, [.ref k0, .ref w0, .int (nI nz), .int ch])), (k0, .inl (ck, L, .inl f)), (w0, .inl (cw, L, .inl g)), (y1, .inr (4, [.ref x1, .int kd8, .int wh8, .int (nI lim8), .int bu8])), (x1, .inr (5, [.ref k8, .ref w8, .int (nI nz8), .int ch8])), (k8, .inl (ck8, L8, .inl f8)), (w8, .inl (cw8, L8, .inl g8))] sz) [(y0, .inr (6, [.ref x0, .int kd, .int wh, .int od, .int tu, .long lo, .long hi])), (x0, .inr (5, [.ref u.1, .ref u.2.1, .int (nI (u.2.2.2.2.2.2.2.1)), .int u.2.2.2.2.2.2.2.2])), (u.1, .inl (u.2.2.1, u.2.2.2.2.1, .inl u.2.2.2.2.2.1)), (u.2.1, .inl (u.2.2.2.1, u.2.2.2.2.1, .inl u.2.2.2.2.2.2.1)), (y1, .inr (4, [.ref x1, .int kd8, .int wh8, .int (nI lim8), .int bu8])), (x1, .inr (5, [.ref k8, .ref w8, .int (nI nz8), .int ch8])), (k8, .inl (ck8, L8, .inl f8)), (w8, .inl (cw8, L8, .inl g8))] ∧ hT t.heap + 4 * L ≤ T0 + 4 * (u.2.2.2.2.1) ∧ t.heap.size + 2 * lgN L ≤ sz + 2 * lgN (u.2.2.2.2.1)) (va_A [(y0, .inr (6, [.ref x0, .int kd, .int wh, .int od, .int tu, .long lo, .long hi])), (x0, .inr (5, [.ref k0, .ref w0, .int (nI nz), .int ch])), (k0, .inl (ck, L, .inl f)), (w0, .inl (cw, L, .inl g)), (y1, .inr (4, [.ref x1, .int kd8, .int wh8, .int (nI lim8), .int bu8])), (x1, .inr (5, [.ref k8, .ref w8, .int (nI nz8), .int ch8])), (k8, .inl (ck8, L8, .inl f8)), (w8, .inl (cw8, L8, .inl g8))] sz)) (vx_X (fun _ : Unit => True) (fun (E : String) (_ : Unit) (t : State) => ((E = "java/lang/IllegalArgumentException" ∨ E = "java/lang/IllegalStateException") ∧ va_P (dC, dI) vwCl [(y0, .inr (6, [.ref x0, .int kd, .int wh, .int od, .int tu, .long lo, .long hi])), (x0, .inr (5, [.ref k0, .ref w0, .int (nI nz), .int ch])), (k0, .inl (ck, L, .inl f)), (w0, .inl (cw, L, .inl g)), (y1, .inr (4, [.ref x1, .int kd8, .int wh8, .int (nI lim8), .int bu8])), (x1, .inr (5, [.ref k8, .ref w8, .int (nI nz8), .int ch8])), (k8, .inl (ck8, L8, .inl f8)), (w8, .inl (cw8, L8, .inl g8))] t.heap ∧ va_K (dC, dI) vwCl [(ck, .int), (cw, .int), (ck8, .int), (cw8, .int)] t ∧ va_D (va_A [(y0, .inr (6, [.ref x0, .int kd, .int wh, .int od, .int tu, .long lo, .long hi])), (x0, .inr (5, [.ref k0, .ref w0, .int (nI nz), .int ch])), (k0, .inl (ck, L, .inl f)), (w0, .inl (cw, L, .inl g)), (y1, .inr (4, [.ref x1, .int kd8, .int wh8, .int (nI lim8), .int bu8])), (x1, .inr (5, [.ref k8, .ref w8, .int (nI nz8), .int ch8])), (k8, .inl (ck8, L8, .inl f8)), (w8, .inl (cw8, L8, .inl g8))] sz) [(y0, .inr (6, [.ref x0, .int kd, .int wh, .int od, .int tu, .long lo, .long hi])), (x0, .inr (5, [.ref k0, .ref w0, .int (nI nz), .int ch])), (k0, .inl (ck, L, .inl f)), (w0, .inl (cw, L, .inl g)), (y1, .inr (4, [.ref x1, .int kd8, .int wh8, .int (nI lim8), .int bu8])), (x1, .inr (5, [.ref k8, .ref w8, .int (nI nz8), .int ch8])), (k8, .inl (ck8, L8, .inl f8)), (w8, .inl (cw8, L8, .inl g8))]) ∧ t.heap.size ≤ sz + 1 ∧ hT t.heap ≤ T0 + 6) (va_A [(y0, .inr (6, [.ref x0, .int kd, .int wh, .int od, .int tu, .long lo, .long hi])), (x0, .inr (5, [.ref k0, .ref w0, .int (nI nz), .int ch])), (k0, .inl (ck, L, .inl f)), (w0, .inl (cw, L, .inl g)), (y1, .inr (4, [.ref x1, .int kd8, .int wh8, .int (nI lim8), .int bu8])), (x1, .inr (5, [.ref k8, .ref w8, .int (nI nz8), .int ch8])), (k8, .inl (ck8, L8, .inl f8)), (w8, .inl (cw8, L8, .inl g8))] sz)) 120 52000 (va_A [(y0, .inr (6, [.ref x0, .int kd, .int wh, .int od, .int tu, .long lo, .long hi])), (x0, .inr (5, [.ref k0, .ref w0, .int (nI nz), .int ch])), (k0, .inl (ck, L, .inl f)), (w0, .inl (cw, L, .inl g)), (y1, .inr (4, [.ref x1, .int kd8, .int wh8, .int (nI lim8), .int bu8])), (x1, .inr (5, [.ref k8, .ref w8, .int (nI nz8), .int ch8])), (k8, .inl (ck8, L8, .inl f8)), (w8, .inl (cw8, L8, .inl g8))] sz) := by
  refine vx_ofW (cc := cX3_putAll) (maxL := 8) (ret := (some .long)) (by decide) rfl ?_
  intro p e s m args below meth c s₁ B hml htab hv
  obtain ⟨rfl, ⟨hsz, hP, hK, hD0, hN, hZ⟩, hT0⟩ := hv
  have hx := B.exec
  have hb := B.bytes
  have hr := B.returns
  have hts := atoms_spec (ws := wsX3_putAll) B.pre
  have hown : s.vm.findClass RX3 = some m.cls := findClass_of_methodNamed B.named
  have hlocks := B.notSynchronized
  subst hsz
  subst hT0
  have hD := hD0.self (sz := s.heap.size)
  generalize hAe : va_A [(y0, .inr (6, [.ref x0, .int kd, .int wh, .int od, .int tu, .long lo, .long hi])), (x0, .inr (5, [.ref k0, .ref w0, .int (nI nz), .int ch])), (k0, .inl (ck, L, .inl f)), (w0, .inl (cw, L, .inl g)), (y1, .inr (4, [.ref x1, .int kd8, .int wh8, .int (nI lim8), .int bu8])), (x1, .inr (5, [.ref k8, .ref w8, .int (nI nz8), .int ch8])), (k8, .inl (ck8, L8, .inl f8)), (w8, .inl (cw8, L8, .inl g8))] s.heap.size = A at hZ hD ⊢
  have hA : ∀ q : Nat, s.heap.size ≤ q → A q := fun q h => by rw [← hAe]; exact Or.inr h
  have hS : va_S A s.heap s.heap [] := va_S.rf
  have hP : va_P (dC, dI) vwCl [(y0, .inr (6, [.ref x0, .int kd, .int wh, .int od, .int tu, .long lo, .long hi])), (x0, .inr (5, [.ref k0, .ref w0, .int (nI nz), .int ch])), (k0, .inl (ck, L, .inl f)), (w0, .inl (cw, L, .inl g)), (y1, .inr (4, [.ref x1, .int kd8, .int wh8, .int (nI lim8), .int bu8])), (x1, .inr (5, [.ref k8, .ref w8, .int (nI nz8), .int ch8])), (k8, .inl (ck8, L8, .inl f8)), (w8, .inl (cw8, L8, .inl g8))] s.heap := hP
  have hl := lv_entry ([.ref y0, .ref y1]) (n := 8) (Nat.le_of_ble_eq_true rfl)
  rw [lg_entry_eq]
  generalize (lg_sl ([.ref y0, .ref y1]) ++ List.replicate (8 - (lg_sl ([.ref y0, .ref y1])).length) Slot.unset).toArray = ls at hl ⊢
  have hl : lv_has ls 8 [(0, .ref y0), (1, .ref y1)] := hl
  have hw0_ := hts (.fieldLink RX3 9 "KeyAtlas$Keyed" "rows" "LKeyAtlas$Rows;") (List.mem_of_getElem? (l := wsX3_putAll) (i := 5) rfl)
  have hw1_ := hts (.classLink RX3 38 "java/lang/IllegalStateException") (List.mem_of_getElem? (l := wsX3_putAll) (i := 3) rfl)
  have hw2_ := hts (.initialized "java/lang/IllegalStateException") (List.mem_of_getElem? (l := wsX3_putAll) (i := 4) rfl)
  have hi0_ : ∀ w ∈ u_ws RX4 TX4 5, w ∈ wsX3_putAll := fun w h => List.mem_cons_of_mem _ (List.mem_append_left _ (List.mem_append_left _ (List.mem_append_left _ (List.mem_append_left _ (List.mem_append_right _ h)))))
  obtain ⟨hL1, hL2, hz1, hz2⟩ := id hR9
  obtain ⟨hL18, hL28, hz18, hz28⟩ := id hR8
  refine lv_aload_n hx hb dX3_putAll_0 rfl (lv_at hl 1 rfl) ?_
  refine lv_aload_n hx hb dX3_putAll_1 rfl (lv_at hl 0 rfl) ?_
  refine lv_acmp_ne (rx := some y1) (ry := some y0) (tgt := 15) hx hb dX3_putAll_2 (by decide) (fun c_1 => ?_) (fun c_1 => absurd (hD.1 0 4 _ _ rfl rfl (Option.some.inj c_1).symm) (by decide))
  refine lv_aload_n hx hb dX3_putAll_15 rfl (lv_at hl 0 rfl) ?_
  refine lv_aload_n hx hb dX3_putAll_16 rfl (lv_at hl 0 rfl) ?_
  refine lv_aload_n hx hb dX3_putAll_17 rfl (lv_at hl 1 rfl) ?_
  have hPc := hP.sub (ws' := [(y0, .inr (6, [.ref x0, .int kd, .int wh, .int od, .int tu, .long lo, .long hi])), (x0, .inr (5, [.ref k0, .ref w0, .int (nI nz), .int ch])), (k0, .inl (ck, L, .inl f)), (w0, .inl (cw, L, .inl g)), (y1, .inr (4, [.ref x1, .int kd8, .int wh8, .int (nI lim8), .int bu8])), (x1, .inr (5, [.ref k8, .ref w8, .int (nI nz8), .int ch8])), (k8, .inl (ck8, L8, .inl f8)), (w8, .inl (cw8, L8, .inl g8))]) [0, 1, 2, 3, 4, 5, 6, 7] rfl
  have hKc := hK.sub (tys' := [(ck, .int), (cw, .int), (ck8, .int), (cw8, .int)]) [0, 1, 2, 3] rfl
  refine rox_calli (vx_runU (As := [.ref y1]) (rest := [.ref y0]) ⟨hx, hb, hml, hown, hts⟩ (c_X3_newKeysOf_SL l hlt dC dI s.heap.size y0 kd wh od tu lo hi x0 k0 w0 ck cw L f g nz ch y1 kd8 wh8 lim8 bu8 x1 k8 w8 ck8 cw8 L8 f8 g8 nz8 ch8 hR9 ho1 ho2 hR8 hlim8) (va_cwU 1 hts gX3_putAll_X3_newKeysOf_u90X6 rfl rfl rfl rfl (by decide +kernel) ⟨(Nat.le_of_ble_eq_true rfl), (Nat.le_of_ble_eq_true rfl)⟩) ⟨pk_blindXR, va_recv hKc hPc (ci := 6) (q0 := 0) rfl rfl, pk_callXR hPc hKc hN ((hZ.kept hS.2.1).narrow (fun q h9 => hA q (Nat.le_trans hS.1 h9)))⟩ rfl rfl hl.1 rfl (lv_room (Nat.le_of_ble_eq_true rfl)) dX3_putAll_18 ⟨(Nat.le_of_ble_eq_true rfl), (Nat.le_of_ble_eq_true rfl)⟩) hS (fun q h9 => hA q (Nat.le_trans hS.1 h9)) (fun E ce q9 u9 t H1 locs ht hvm hw hB hz1 hk1 hS hce hcv hcl => ?_) (fun r_2 ur_2 locs hw hS => ?_)
  ·
    try dsimp only at hB
    refine vx_tightO (XC0 := vx_X (fun _ : Unit => True) (fun (E : String) (_ : Unit) (t : State) => (E = "java/lang/IllegalArgumentException" ∨ E = "java/lang/IllegalStateException") ∧ va_P (dC, dI) vwCl [(y0, .inr (6, [.ref x0, .int kd, .int wh, .int od, .int tu, .long lo, .long hi])), (x0, .inr (5, [.ref k0, .ref w0, .int (nI nz), .int ch])), (k0, .inl (ck, L, .inl f)), (w0, .inl (cw, L, .inl g)), (y1, .inr (4, [.ref x1, .int kd8, .int wh8, .int (nI lim8), .int bu8])), (x1, .inr (5, [.ref k8, .ref w8, .int (nI nz8), .int ch8])), (k8, .inl (ck8, L8, .inl f8)), (w8, .inl (cw8, L8, .inl g8))] t.heap ∧ va_K (dC, dI) vwCl [(ck, .int), (cw, .int), (ck8, .int), (cw8, .int)] t ∧ va_D A [(y0, .inr (6, [.ref x0, .int kd, .int wh, .int od, .int tu, .long lo, .long hi])), (x0, .inr (5, [.ref k0, .ref w0, .int (nI nz), .int ch])), (k0, .inl (ck, L, .inl f)), (w0, .inl (cw, L, .inl g)), (y1, .inr (4, [.ref x1, .int kd8, .int wh8, .int (nI lim8), .int bu8])), (x1, .inr (5, [.ref k8, .ref w8, .int (nI nz8), .int ch8])), (k8, .inl (ck8, L8, .inl f8)), (w8, .inl (cw8, L8, .inl g8))]) A) 1 6 (by omega) (by omega) (fun E t9 h9 hz9 hn9 => by obtain ⟨u9, g1, g2, g3⟩ := h9; exact ⟨u9, g1, ⟨g2, hz9, hn9⟩, g3⟩) ?_
    exact vx_out (fun x hx9 => (htab x hx9).elim) hlocks hce hcv hcl (fun t9 ht9 hal9 => ⟨(), trivial, ⟨Or.inl hB, by rw [ht9]; exact hP.kept (fun k x hx => hk1 x.1 (hP k x hx).lt), va_K.moved hal9 hK, hD⟩, hS.F ht9⟩) hS.2.2 (by omega) (by omega)
  ·
    refine W.tight (k := 0) (n := 0) (Nat.le_refl _) (Nat.le_refl _) ?_
    clear hPc hKc
    try dsimp only at hw
    have jr_2 := hw
    refine W.eq (g2 := F0 m 21 ls [.int r_2, .ref y0]) rfl ?_
    have hPc := hP.sub (ws' := [(y0, .inr (6, [.ref x0, .int kd, .int wh, .int od, .int tu, .long lo, .long hi])), (x0, .inr (5, [.ref k0, .ref w0, .int (nI nz), .int ch])), (k0, .inl (ck, L, .inl f)), (w0, .inl (cw, L, .inl g))]) [0, 1, 2, 3] rfl
    have hKc := hK.sub (tys' := [(ck, .int), (cw, .int)]) [0, 1] rfl
    refine ro_calli (va_runU (As := [.int r_2]) (rest := []) ⟨hx, hb, hml, hown, hts⟩ (c_X6_hasRoomFor l  dC dI s.heap.size y0 kd wh od tu lo hi x0 k0 w0 ck cw L f g nz ch r_2 hR9 ho1 ho2) (va_cwO 1 hts gX3_putAll_X6_hasRoomFor_u35X6 rfl rfl rfl (List.mem_of_getElem? (l := wsX3_putAll) (i := 131) rfl) (by decide +kernel) ⟨(Nat.le_of_ble_eq_true rfl), (Nat.le_of_ble_eq_true rfl)⟩) ⟨pk_blindR, va_recv hKc hPc (ci := 6) (q0 := 0) rfl rfl, pk_callR hPc hKc⟩ rfl rfl hl.1 rfl (lv_room (Nat.le_of_ble_eq_true rfl)) dX3_putAll_21 ⟨(Nat.le_of_ble_eq_true rfl), (Nat.le_of_ble_eq_true rfl)⟩) (fun r_3 ur_3 hw => ?_)
    clear hPc hKc
    try dsimp only at hw
    have jr_3 := hw
    refine W.eq (g2 := F0 m 24 ls [.int r_3]) rfl ?_
    refine lv_if_ne (tgt := 37) hx hb dX3_putAll_24 (by decide) (fun c_4 => ?_) (fun c_4 => ?_)
    ·
      have ic_4 : ¬ r_3.toInt = 0 := tx_ne rfl (by decide) c_4
      refine lv_aload_n hx hb dX3_putAll_37 rfl (lv_at hl 1 rfl) ?_
      have hPc := hP.sub (ws' := [(y1, .inr (4, [.ref x1, .int kd8, .int wh8, .int (nI lim8), .int bu8])), (x1, .inr (5, [.ref k8, .ref w8, .int (nI nz8), .int ch8])), (k8, .inl (ck8, L8, .inl f8)), (w8, .inl (cw8, L8, .inl g8))]) [4, 5, 6, 7] rfl
      have hKc := hK.sub (tys' := [(ck8, .int), (cw8, .int)]) [2, 3] rfl
      refine ro_calli (va_runU (As := []) (rest := []) ⟨hx, hb, hml, hown, hts⟩ (c_X3_size_L l  dC dI s.heap.size y1 (.int kd8) (.int wh8) (.int (nI lim8)) (.int bu8) x1 k8 w8 ck8 cw8 L8 f8 g8 nz8 ch8 hR8) (va_cwU 0 hts gX3_putAll_X3_size_u72X4 rfl rfl rfl rfl (by decide +kernel) ⟨(Nat.le_of_ble_eq_true rfl), (Nat.le_of_ble_eq_true rfl)⟩) ⟨pk_blindR, va_recv hKc hPc (ci := 4) (q0 := 0) rfl rfl, pk_callR hPc hKc⟩ rfl rfl hl.1 rfl (lv_room (Nat.le_of_ble_eq_true rfl)) dX3_putAll_38 ⟨(Nat.le_of_ble_eq_true rfl), (Nat.le_of_ble_eq_true rfl)⟩) (fun r_5 ur_5 hw => ?_)
      clear hPc hKc
      try dsimp only at hw
      have jr_5 := hw
      refine W.eq (g2 := F0 m 41 ls [.int r_5]) rfl ?_
      have hr_5 : -1000 ≤ r_5.toInt ∧ r_5.toInt ≤ nz8 := by rw [jr_5, nI_toInt (by omega)]; omega
      have hsz9 : r_5.toInt ≤ 1000 := by have h9 := hr_5; omega
      refine lv_istore_n (lv' := [(2, .int r_5), (0, .ref y0), (1, .ref y1)]) hx hb dX3_putAll_41 rfl hl (by decide) rfl (fun ls hl => ?_)
      refine lv_iconst (v := 0) hx hb dX3_putAll_42 (by decide) ?_
      refine lv_istore_n (lv' := [(3, .int 0), (2, .int r_5), (0, .ref y0), (1, .ref y1)]) hx hb dX3_putAll_43 rfl hl (by decide) rfl (fun ls hl => ?_)
      obtain ⟨H, hH9⟩ : ∃ H : Heap, H = s.heap := ⟨_, rfl⟩
      refine tx_hv2 hH9 ?_
      have hP : va_P (dC, dI) vwCl [(y0, .inr (6, [.ref x0, .int kd, .int wh, .int od, .int tu, .long lo, .long hi])), (x0, .inr (5, [.ref k0, .ref w0, .int (nI nz), .int ch])), (k0, .inl (ck, L, .inl f)), (w0, .inl (cw, L, .inl g)), (y1, .inr (4, [.ref x1, .int kd8, .int wh8, .int (nI lim8), .int bu8])), (x1, .inr (5, [.ref k8, .ref w8, .int (nI nz8), .int ch8])), (k8, .inl (ck8, L8, .inl f8)), (w8, .inl (cw8, L8, .inl g8))] H := by rw [hH9]; exact hP
      replace hS : va_S A s.heap H locs := by rw [hH9]; exact hS
      clear hH9
      obtain ⟨i, es_i⟩ : ∃ z : Nat, z = 0 := ⟨_, rfl⟩
      obtain ⟨x9, ex9⟩ : ∃ y : Int32, y = nI i := ⟨_, rfl⟩
      obtain ⟨kA, ew_kA⟩ : ∃ z : Nat, z = k0 := ⟨_, rfl⟩
      obtain ⟨wA, ew_wA⟩ : ∃ z : Nat, z = w0 := ⟨_, rfl⟩
      obtain ⟨ckA, ew_ckA⟩ : ∃ z : ClassId, z = ck := ⟨_, rfl⟩
      obtain ⟨cwA, ew_cwA⟩ : ∃ z : ClassId, z = cw := ⟨_, rfl⟩
      obtain ⟨LA, ew_LA⟩ : ∃ z : Nat, z = L := ⟨_, rfl⟩
      obtain ⟨fA, ew_fA⟩ : ∃ z : (Nat → Int32), z = f := ⟨_, rfl⟩
      obtain ⟨gA, ew_gA⟩ : ∃ z : (Nat → Int32), z = g := ⟨_, rfl⟩
      obtain ⟨nzA, ew_nzA⟩ : ∃ z : Nat, z = nz := ⟨_, rfl⟩
      obtain ⟨chA, ew_chA⟩ : ∃ z : Int32, z = ch := ⟨_, rfl⟩
      obtain ⟨n9, en9⟩ : ∃ n : Nat, n = 1001 := ⟨_, rfl⟩
      replace hl : lv_has ls 8 [(3, .int x9), (2, .int r_5), (0, .ref y0), (1, .ref y1)] := by subst ex9; subst es_i; subst ew_kA; subst ew_wA; subst ew_ckA; subst ew_cwA; subst ew_LA; subst ew_fA; subst ew_gA; subst ew_nzA; subst ew_chA; exact hl
      replace hP : va_P (dC, dI) vwCl [(y0, .inr (6, [.ref x0, .int kd, .int wh, .int od, .int tu, .long lo, .long hi])), (x0, .inr (5, [.ref kA, .ref wA, .int (nI nzA), .int chA])), (kA, .inl (ckA, LA, .inl fA)), (wA, .inl (cwA, LA, .inl gA)), (y1, .inr (4, [.ref x1, .int kd8, .int wh8, .int (nI lim8), .int bu8])), (x1, .inr (5, [.ref k8, .ref w8, .int (nI nz8), .int ch8])), (k8, .inl (ck8, L8, .inl f8)), (w8, .inl (cw8, L8, .inl g8))] H := by subst ex9; subst es_i; subst ew_kA; subst ew_wA; subst ew_ckA; subst ew_cwA; subst ew_LA; subst ew_fA; subst ew_gA; subst ew_nzA; subst ew_chA; exact hP.sub [0, 1, 2, 3, 4, 5, 6, 7] rfl
      replace hD : va_D A [(y0, .inr (6, [.ref x0, .int kd, .int wh, .int od, .int tu, .long lo, .long hi])), (x0, .inr (5, [.ref kA, .ref wA, .int (nI nzA), .int chA])), (kA, .inl (ckA, LA, .inl fA)), (wA, .inl (cwA, LA, .inl gA)), (y1, .inr (4, [.ref x1, .int kd8, .int wh8, .int (nI lim8), .int bu8])), (x1, .inr (5, [.ref k8, .ref w8, .int (nI nz8), .int ch8])), (k8, .inl (ck8, L8, .inl f8)), (w8, .inl (cw8, L8, .inl g8))] := by subst ex9; subst es_i; subst ew_kA; subst ew_wA; subst ew_ckA; subst ew_cwA; subst ew_LA; subst ew_fA; subst ew_gA; subst ew_nzA; subst ew_chA; exact hD.sub [0, 1, 2, 3, 4, 5, 6, 7] (by decide) rfl
      have hK : va_K (dC, dI) vwCl [(ckA, .int), (cwA, .int), (ck8, .int), (cw8, .int)] s := by subst ex9; subst es_i; subst ew_kA; subst ew_wA; subst ew_ckA; subst ew_cwA; subst ew_LA; subst ew_fA; subst ew_gA; subst ew_nzA; subst ew_chA; exact hK.sub [0, 1, 2, 3] rfl
      have hi9 : i ≤ 1000 := by subst ex9; subst es_i; subst ew_kA; subst ew_wA; subst ew_ckA; subst ew_cwA; subst ew_LA; subst ew_fA; subst ew_gA; subst ew_nzA; subst ew_chA; subst en9; exact by omega
      have hn9 : 1001 ≤ i + n9 := by subst ex9; subst es_i; subst ew_kA; subst ew_wA; subst ew_ckA; subst ew_cwA; subst ew_LA; subst ew_fA; subst ew_gA; subst ew_nzA; subst ew_chA; subst en9; exact by omega
      have hR9 : rOK LA nzA := by subst ex9; subst es_i; subst ew_kA; subst ew_wA; subst ew_ckA; subst ew_cwA; subst ew_LA; subst ew_fA; subst ew_gA; subst ew_nzA; subst ew_chA; subst en9; exact hR9
      have hmn9 : L ≤ LA ∧ lgN L ≤ lgN LA := by subst ex9; subst es_i; subst ew_kA; subst ew_wA; subst ew_ckA; subst ew_cwA; subst ew_LA; subst ew_fA; subst ew_gA; subst ew_nzA; subst ew_chA; subst en9; exact ⟨Nat.le_refl _, Nat.le_refl _⟩
      refine W.widen (k := 2 * lgN LA - 2 * lgN L) (n := 4 * LA - 4 * L) (by omega) (by omega) ?_
      clear en9 es_i ew_kA ew_wA ew_ckA ew_cwA ew_LA ew_fA ew_gA ew_nzA ew_chA
      induction n9 generalizing i x9 kA wA ckA cwA LA fA gA nzA chA ls H locs with
      | zero => exact absurd hn9 (by omega)
      | succ n9 ih =>
        subst ex9
        refine lv_iload_n hx hb dX3_putAll_44 rfl (lv_at hl 0 rfl) ?_
        refine lv_iload_n hx hb dX3_putAll_45 rfl (lv_at hl 1 rfl) ?_
        refine lv_icmp_ge (tgt := 117) hx hb dX3_putAll_46 (by decide) (fun c_6 => ?_) (fun c_6 => ?_)
        ·
          have ic_6 : r_5.toInt ≤ ((i : Nat) : Int) := tx_le rfl (nI_toInt (by omega)) c_6
          refine lv_iload_n hx hb dX3_putAll_117 rfl (lv_at hl 1 rfl) ?_
          refine lv_i2l (v := r_5.toInt64) hx hb dX3_putAll_118 rfl ?_
          refine W.book (fun hz9_ hn9_ => ?_)
          have hcost : hT H + 4 * L ≤ hT s.heap + 4 * (LA) ∧ H.size + 2 * lgN L ≤ s.heap.size + 2 * lgN (LA) := by constructor <;> omega
          have hlg9_ := lg_rok hR9
          have hP9 := hP.sub (ws' := [(y0, .inr (6, [.ref x0, .int kd, .int wh, .int od, .int tu, .long lo, .long hi])), (x0, .inr (5, [.ref kA, .ref wA, .int (nI nzA), .int chA])), (kA, .inl (ckA, LA, .inl fA)), (wA, .inl (cwA, LA, .inl gA)), (y1, .inr (4, [.ref x1, .int kd8, .int wh8, .int (nI lim8), .int bu8])), (x1, .inr (5, [.ref k8, .ref w8, .int (nI nz8), .int ch8])), (k8, .inl (ck8, L8, .inl f8)), (w8, .inl (cw8, L8, .inl g8))]) [0, 1, 2, 3, 4, 5, 6, 7] rfl
          have hD9 := hD.sub (ws' := [(y0, .inr (6, [.ref x0, .int kd, .int wh, .int od, .int tu, .long lo, .long hi])), (x0, .inr (5, [.ref kA, .ref wA, .int (nI nzA), .int chA])), (kA, .inl (ckA, LA, .inl fA)), (wA, .inl (cwA, LA, .inl gA)), (y1, .inr (4, [.ref x1, .int kd8, .int wh8, .int (nI lim8), .int bu8])), (x1, .inr (5, [.ref k8, .ref w8, .int (nI nz8), .int ch8])), (k8, .inl (ck8, L8, .inl f8)), (w8, .inl (cw8, L8, .inl g8))]) [0, 1, 2, 3, 4, 5, 6, 7] (by decide) rfl
          have hK9 := hK.sub (tys' := [(ckA, .int), (cwA, .int), (ck8, .int), (cw8, .int)]) [0, 1, 2, 3] rfl
          refine W.widen (k := 120) (n := 52000) (by omega) (by omega) ?_
          refine vx_ret ?_
          exact W.lret (v := r_5.toInt64) hx hb hr (fun t ht hW => ⟨⟨r_5.toInt64, (kA, wA, ckA, cwA, LA, fA, gA, nzA, chA), rfl, hR9, by rw [ht]; exact hP9, va_K.moved hW.alike hK9, hD9, by rw [ht]; exact hcost⟩, hS.F ht⟩) hS.2.2 dX3_putAll_119
        ·
          have ic_6 : ((i : Nat) : Int) < r_5.toInt := tx_nle rfl (nI_toInt (by omega)) c_6
          have hlg9_ := lg_rok hR9
          refine lv_aload_n hx hb dX3_putAll_49 rfl (lv_at hl 3 rfl) ?_
          refine lv_iload_n hx hb dX3_putAll_50 rfl (lv_at hl 0 rfl) ?_
          have hPc := hP.sub (ws' := [(y1, .inr (4, [.ref x1, .int kd8, .int wh8, .int (nI lim8), .int bu8]))]) [4] rfl
          have hKc := hK.sub (tys' := []) [] rfl
          refine ro_calli (va_runU (As := [.int (nI i)]) (rest := []) ⟨hx, hb, hml, hown, hts⟩ (c_X3_placeOf_L l  dC dI H.size y1 (.ref x1) (.int kd8) (.int wh8) (.int (nI lim8)) (.int bu8) (nI i)) (va_cwU 1 hts gX3_putAll_X3_placeOf_u77X4 rfl rfl rfl rfl (by decide +kernel) ⟨(Nat.le_of_ble_eq_true rfl), (Nat.le_of_ble_eq_true rfl)⟩) ⟨pk_blindR, va_recv hKc hPc (ci := 4) (q0 := 0) rfl rfl, pk_callR hPc hKc⟩ rfl rfl hl.1 rfl (lv_room (Nat.le_of_ble_eq_true rfl)) dX3_putAll_51 ⟨(show 2 * lgN LA - 2 * lgN L + 0 ≤ 120 by omega), (show 4 * LA - 4 * L + 0 ≤ 52000 by omega)⟩) (fun r_7 ur_7 hw => ?_)
          clear hPc hKc
          try dsimp only at hw
          have jr_7 := hw
          refine W.eq (g2 := F0 m 54 ls [.int r_7]) rfl ?_
          refine lv_istore (lv' := [(4, .int r_7), (3, .int (nI i)), (2, .int r_5), (0, .ref y0), (1, .ref y1)]) hx hb dX3_putAll_54 hl (by decide) rfl (fun ls hl => ?_)
          refine lv_aload_n hx hb dX3_putAll_56 rfl (lv_at hl 4 rfl) ?_
          refine va_get (D := (dC, dI)) (ci := 4) (v := .ref x1) (C := RX4) (T := TX4) (N := 5) hx hb hts hi0_ hown hK hP 4 rfl rfl 0 (by decide) hw0_ (fun _ h9 => h9) rfl dX3_putAll_57 ?_
          refine lv_iload hx hb dX3_putAll_60 (lv_at hl 0 rfl) ?_
          have hPc := hP.sub (ws' := [(x1, .inr (5, [.ref k8, .ref w8, .int (nI nz8), .int ch8])), (k8, .inl (ck8, L8, .inl f8)), (w8, .inl (cw8, L8, .inl g8))]) [5, 6, 7] rfl
          have hKc := hK.sub (tys' := [(ck8, .int), (cw8, .int)]) [2, 3] rfl
          refine ro_calli (va_runV (As := [.int r_7]) (rest := []) ⟨hx, hb, hml, hown, hts⟩ (c_X5_key l  dC dI H.size x1 k8 w8 ck8 cw8 L8 f8 g8 nz8 ch8 r_7 hR8) (cwV 1 hts gX3_putAll_X5_key rfl rfl rfl (by decide +kernel) ⟨(Nat.le_of_ble_eq_true rfl), (Nat.le_of_ble_eq_true rfl)⟩) ⟨pk_blindR, va_recv hKc hPc (ci := 5) (q0 := 0) rfl rfl, pk_callR hPc hKc⟩ rfl rfl hl.1 rfl (lv_room (Nat.le_of_ble_eq_true rfl)) dX3_putAll_62 ⟨(show 2 * lgN LA - 2 * lgN L + 0 ≤ 120 by omega), (show 4 * LA - 4 * L + 0 ≤ 52000 by omega)⟩) (fun r_8 ur_8 hw => ?_)
          clear hPc hKc
          try dsimp only at hw
          have jr_8 := hw
          refine W.eq (g2 := F0 m 65 ls [.int r_8]) rfl ?_
          refine lv_istore (lv' := [(5, .int r_8), (4, .int r_7), (3, .int (nI i)), (2, .int r_5), (0, .ref y0), (1, .ref y1)]) hx hb dX3_putAll_65 hl (by decide) rfl (fun ls hl => ?_)
          refine lv_aload_n hx hb dX3_putAll_67 rfl (lv_at hl 5 rfl) ?_
          refine va_get (D := (dC, dI)) (ci := 4) (v := .ref x1) (C := RX4) (T := TX4) (N := 5) hx hb hts hi0_ hown hK hP 4 rfl rfl 0 (by decide) hw0_ (fun _ h9 => h9) rfl dX3_putAll_68 ?_
          refine lv_iload hx hb dX3_putAll_71 (lv_at hl 1 rfl) ?_
          have hPc := hP.sub (ws' := [(x1, .inr (5, [.ref k8, .ref w8, .int (nI nz8), .int ch8])), (k8, .inl (ck8, L8, .inl f8)), (w8, .inl (cw8, L8, .inl g8))]) [5, 6, 7] rfl
          have hKc := hK.sub (tys' := [(ck8, .int), (cw8, .int)]) [2, 3] rfl
          refine ro_calli (va_runV (As := [.int r_7]) (rest := []) ⟨hx, hb, hml, hown, hts⟩ (c_X5_value l  dC dI H.size x1 k8 w8 ck8 cw8 L8 f8 g8 nz8 ch8 r_7 hR8) (cwV 1 hts gX3_putAll_X5_value rfl rfl rfl (by decide +kernel) ⟨(Nat.le_of_ble_eq_true rfl), (Nat.le_of_ble_eq_true rfl)⟩) ⟨pk_blindR, va_recv hKc hPc (ci := 5) (q0 := 0) rfl rfl, pk_callR hPc hKc⟩ rfl rfl hl.1 rfl (lv_room (Nat.le_of_ble_eq_true rfl)) dX3_putAll_73 ⟨(show 2 * lgN LA - 2 * lgN L + 0 ≤ 120 by omega), (show 4 * LA - 4 * L + 0 ≤ 52000 by omega)⟩) (fun r_9 ur_9 hw => ?_)
          clear hPc hKc
          try dsimp only at hw
          have jr_9 := hw
          refine W.eq (g2 := F0 m 76 ls [.int r_9]) rfl ?_
          refine lv_istore (lv' := [(6, .int r_9), (5, .int r_8), (4, .int r_7), (3, .int (nI i)), (2, .int r_5), (0, .ref y0), (1, .ref y1)]) hx hb dX3_putAll_76 hl (by decide) rfl (fun ls hl => ?_)
          refine lv_aload_n hx hb dX3_putAll_78 rfl (lv_at hl 5 rfl) ?_
          refine lv_iload hx hb dX3_putAll_79 (lv_at hl 1 rfl) ?_
          have hPc := hP.sub (ws' := [(y0, .inr (6, [.ref x0, .int kd, .int wh, .int od, .int tu, .long lo, .long hi])), (x0, .inr (5, [.ref kA, .ref wA, .int (nI nzA), .int chA])), (kA, .inl (ckA, LA, .inl fA)), (wA, .inl (cwA, LA, .inl gA))]) [0, 1, 2, 3] rfl
          have hKc := hK.sub (tys' := [(ckA, .int), (cwA, .int)]) [0, 1] rfl
          refine ro_calli (va_runU (As := [.int r_8]) (rest := []) ⟨hx, hb, hml, hown, hts⟩ (c_X6_find l  dC dI H.size y0 kd wh od tu lo hi x0 kA wA ckA cwA LA fA gA nzA chA r_8 hR9 ho1 ho2) (va_cwA 1 hts gX3_putAll_X6_find_u46X6 rfl rfl rfl (hN.xw _ (List.mem_of_getElem? (l := p_xw) (i := 0) rfl)) (by decide +kernel) ⟨(Nat.le_of_ble_eq_true rfl), (Nat.le_of_ble_eq_true rfl)⟩) ⟨pk_blindR, va_recv hKc hPc (ci := 6) (q0 := 0) rfl rfl, pk_callR hPc hKc⟩ rfl rfl hl.1 rfl (lv_room (Nat.le_of_ble_eq_true rfl)) dX3_putAll_81 ⟨(show 2 * lgN LA - 2 * lgN L + 0 ≤ 120 by omega), (show 4 * LA - 4 * L + 0 ≤ 52000 by omega)⟩) (fun r_10 ur_10 hw => ?_)
          clear hPc hKc
          try dsimp only at hw
          have jr_10 := hw
          refine W.eq (g2 := F0 m 84 ls [.int r_10]) rfl ?_
          refine lv_istore (lv' := [(7, .int r_10), (6, .int r_9), (5, .int r_8), (4, .int r_7), (3, .int (nI i)), (2, .int r_5), (0, .ref y0), (1, .ref y1)]) hx hb dX3_putAll_84 hl (by decide) rfl (fun ls hl => ?_)
          refine lv_iload hx hb dX3_putAll_86 (lv_at hl 0 rfl) ?_
          refine lv_if_ge (tgt := 102) hx hb dX3_putAll_88 (by decide) (fun c_11 => ?_) (fun c_11 => ?_)
          ·
            have ic_11 : 0 ≤ r_10.toInt := tx_le (by decide) rfl c_11
            refine lv_aload_n hx hb dX3_putAll_102 rfl (lv_at hl 6 rfl) ?_
            refine lv_iload hx hb dX3_putAll_103 (lv_at hl 0 rfl) ?_
            refine lv_iload hx hb dX3_putAll_105 (lv_at hl 1 rfl) ?_
            have hPc := hP.sub (ws' := [(y0, .inr (6, [.ref x0, .int kd, .int wh, .int od, .int tu, .long lo, .long hi])), (x0, .inr (5, [.ref kA, .ref wA, .int (nI nzA), .int chA])), (kA, .inl (ckA, LA, .inl fA)), (wA, .inl (cwA, LA, .inl gA))]) [0, 1, 2, 3] rfl
            have hDc := hD.sub (ws' := [(y0, .inr (6, [.ref x0, .int kd, .int wh, .int od, .int tu, .long lo, .long hi])), (x0, .inr (5, [.ref kA, .ref wA, .int (nI nzA), .int chA])), (kA, .inl (ckA, LA, .inl fA)), (wA, .inl (cwA, LA, .inl gA))]) [0, 1, 2, 3] (by decide) rfl
            have hKc := hK.sub (tys' := [(ckA, .int), (cwA, .int)]) [0, 1] rfl
            have hFc := va_free (wc := [(y0, .inr (6, [.ref x0, .int kd, .int wh, .int od, .int tu, .long lo, .long hi])), (x0, .inr (5, [.ref kA, .ref wA, .int (nI nzA), .int chA])), (kA, .inl (ckA, LA, .inl fA)), (wA, .inl (cwA, LA, .inl gA))]) hD hS hA [0, 1, 2, 3] rfl
            have hZc := (hZ.kept hS.2.1).narrow hFc
            refine va_calll (va_runU (As := [.int r_10, .int r_9]) (rest := []) ⟨hx, hb, hml, hown, hts⟩ (c_X3_replace_S l hlt dC dI H.size y0 kd wh od tu lo hi x0 kA wA ckA cwA LA fA gA nzA chA r_10 r_9 hR9 ho1 ho2) (va_cwU 2 hts gX3_putAll_X3_replace_u55X6 rfl rfl rfl rfl (by decide +kernel) ⟨(Nat.le_of_ble_eq_true rfl), (Nat.le_of_ble_eq_true rfl)⟩) ⟨pk_blindX, va_recv hKc hPc (ci := 6) (q0 := 0) rfl rfl, pk_callX hPc hKc hDc hN hZc⟩ rfl rfl hl.1 rfl (lv_room (Nat.le_of_ble_eq_true rfl)) dX3_putAll_107 ⟨(show 2 * lgN LA - 2 * lgN L + 0 ≤ 120 by omega), (show 4 * LA - 4 * L + 0 ≤ 52000 by omega)⟩) hS (fun q _ h => hFc q h) hFc (fun r_12 ur_12 t H1 locs ht hvm hw hB hz1 hk1 hS => ?_)
            try dsimp only at hw
            have jr_12 := hw
            obtain ⟨hP1, hK1, hD1⟩ := hB
            rw [ht] at hP1
            have hK1 := va_K.moved hvm.symm hK1
            obtain ⟨hP, hD⟩ := va_join (wr := [(y1, .inr (4, [.ref x1, .int kd8, .int wh8, .int (nI lim8), .int bu8])), (x1, .inr (5, [.ref k8, .ref w8, .int (nI nz8), .int ch8])), (k8, .inl (ck8, L8, .inl f8)), (w8, .inl (cw8, L8, .inl g8))]) (w1 := [(y0, .inr (6, [.ref x0, .int kd, .int wh, .int od, .int tu, .long lo, .long hi])), (x0, .inr (5, [.ref kA, .ref wA, .int (nI nzA), .int ur_12.2.2])), (kA, .inl (ckA, LA, .inl ur_12.1)), (wA, .inl (cwA, LA, .inl ur_12.2.1))]) hP hD [0, 1, 2, 3] [4, 5, 6, 7] rfl rfl (by decide) (by decide) hk1 hFc hP1 hD1
            clear hk1 hz1 ht hPc hDc hKc hFc
            generalize H1 = H at hP hS ⊢
            replace hP : va_P (dC, dI) vwCl [(y1, .inr (4, [.ref x1, .int kd8, .int wh8, .int (nI lim8), .int bu8])), (x1, .inr (5, [.ref k8, .ref w8, .int (nI nz8), .int ch8])), (k8, .inl (ck8, L8, .inl f8)), (w8, .inl (cw8, L8, .inl g8)), (y0, .inr (6, [.ref x0, .int kd, .int wh, .int od, .int tu, .long lo, .long hi])), (x0, .inr (5, [.ref kA, .ref wA, .int (nI nzA), .int ur_12.2.2])), (kA, .inl (ckA, LA, .inl ur_12.1)), (wA, .inl (cwA, LA, .inl ur_12.2.1))] H := hP
            replace hD : va_D A [(y1, .inr (4, [.ref x1, .int kd8, .int wh8, .int (nI lim8), .int bu8])), (x1, .inr (5, [.ref k8, .ref w8, .int (nI nz8), .int ch8])), (k8, .inl (ck8, L8, .inl f8)), (w8, .inl (cw8, L8, .inl g8)), (y0, .inr (6, [.ref x0, .int kd, .int wh, .int od, .int tu, .long lo, .long hi])), (x0, .inr (5, [.ref kA, .ref wA, .int (nI nzA), .int ur_12.2.2])), (kA, .inl (ckA, LA, .inl ur_12.1)), (wA, .inl (cwA, LA, .inl ur_12.2.1))] := hD
            refine W.widen (k := 2 * lgN LA - 2 * lgN L) (n := 4 * LA - 4 * L) (by omega) (by omega) ?_
            refine W.eq (g2 := F0 m 110 ls [.long r_12]) rfl ?_
            refine lv_pop2_2 hx hb dX3_putAll_110 rfl ?_
            refine lv_iinc (v := nI (i + 1)) (lv' := [(3, .int (nI (i + 1))), (7, .int r_10), (6, .int r_9), (5, .int r_8), (4, .int r_7), (2, .int r_5), (0, .ref y0), (1, .ref y1)]) hx hb dX3_putAll_111 hl (k := 4) rfl (by rw [show Int32.ofInt 1 = nI 1 from rfl, nI_add]) (by decide) rfl (fun ls hl => ?_)
            refine lv_goto (tgt := 44) hx hb dX3_putAll_114 (by decide) ?_
            refine W.widen (k := 2 * lgN LA - 2 * lgN L) (n := 4 * LA - 4 * L) (by omega) (by omega) ?_
            exact ih (i := i + 1) (x9 := nI (i + 1)) (ex9 := rfl) (kA := kA) (wA := wA) (ckA := ckA) (cwA := cwA) (LA := LA) (fA := ur_12.1) (gA := ur_12.2.1) (nzA := nzA) (chA := ur_12.2.2) (ls := ls) (H := H) (locs := locs) (hP := hP.sub (ws' := [(y0, .inr (6, [.ref x0, .int kd, .int wh, .int od, .int tu, .long lo, .long hi])), (x0, .inr (5, [.ref kA, .ref wA, .int (nI nzA), .int ur_12.2.2])), (kA, .inl (ckA, LA, .inl ur_12.1)), (wA, .inl (cwA, LA, .inl ur_12.2.1)), (y1, .inr (4, [.ref x1, .int kd8, .int wh8, .int (nI lim8), .int bu8])), (x1, .inr (5, [.ref k8, .ref w8, .int (nI nz8), .int ch8])), (k8, .inl (ck8, L8, .inl f8)), (w8, .inl (cw8, L8, .inl g8))]) [4, 5, 6, 7, 0, 1, 2, 3] rfl) (hS := hS) (hD := hD.sub (ws' := [(y0, .inr (6, [.ref x0, .int kd, .int wh, .int od, .int tu, .long lo, .long hi])), (x0, .inr (5, [.ref kA, .ref wA, .int (nI nzA), .int ur_12.2.2])), (kA, .inl (ckA, LA, .inl ur_12.1)), (wA, .inl (cwA, LA, .inl ur_12.2.1)), (y1, .inr (4, [.ref x1, .int kd8, .int wh8, .int (nI lim8), .int bu8])), (x1, .inr (5, [.ref k8, .ref w8, .int (nI nz8), .int ch8])), (k8, .inl (ck8, L8, .inl f8)), (w8, .inl (cw8, L8, .inl g8))]) [4, 5, 6, 7, 0, 1, 2, 3] (by decide) rfl) (hK := hK.sub (tys' := [(ckA, .int), (cwA, .int), (ck8, .int), (cw8, .int)]) [0, 1, 2, 3] rfl) (hi9 := by omega) (hn9 := by omega) (hR9 := hR9) (hmn9 := ⟨by omega, by omega⟩) (hl := lv_sub hl [0, 5, 6, 7] rfl)
          ·
            have ic_11 : r_10.toInt < 0 := tx_nle (by decide) rfl c_11
            refine lv_aload_n hx hb dX3_putAll_91 rfl (lv_at hl 6 rfl) ?_
            refine lv_iload hx hb dX3_putAll_92 (lv_at hl 2 rfl) ?_
            refine lv_iload hx hb dX3_putAll_94 (lv_at hl 1 rfl) ?_
            have hPc := hP.sub (ws' := [(y0, .inr (6, [.ref x0, .int kd, .int wh, .int od, .int tu, .long lo, .long hi])), (x0, .inr (5, [.ref kA, .ref wA, .int (nI nzA), .int chA])), (kA, .inl (ckA, LA, .inl fA)), (wA, .inl (cwA, LA, .inl gA))]) [0, 1, 2, 3] rfl
            have hDc := hD.sub (ws' := [(y0, .inr (6, [.ref x0, .int kd, .int wh, .int od, .int tu, .long lo, .long hi])), (x0, .inr (5, [.ref kA, .ref wA, .int (nI nzA), .int chA])), (kA, .inl (ckA, LA, .inl fA)), (wA, .inl (cwA, LA, .inl gA))]) [0, 1, 2, 3] (by decide) rfl
            have hKc := hK.sub (tys' := [(ckA, .int), (cwA, .int)]) [0, 1] rfl
            have hFc := va_free (wc := [(y0, .inr (6, [.ref x0, .int kd, .int wh, .int od, .int tu, .long lo, .long hi])), (x0, .inr (5, [.ref kA, .ref wA, .int (nI nzA), .int chA])), (kA, .inl (ckA, LA, .inl fA)), (wA, .inl (cwA, LA, .inl gA))]) hD hS hA [0, 1, 2, 3] rfl
            refine W.book (fun hz8_ hn8_ => ?_)
            refine va_callv (va_runU (As := [.int r_8, .int r_9]) (rest := []) ⟨hx, hb, hml, hown, hts⟩ (c_X6_enter l  dC dI H.size (hT H) y0 kd wh od tu lo hi x0 kA wA ckA cwA LA fA gA nzA chA r_8 r_9 8000 hR9 ho1 ho2 (by unfold rOK at hR9; omega)) (va_cwA 2 hts gX3_putAll_X6_enter_u43X6 rfl rfl rfl (hN.xw _ (List.mem_of_getElem? (l := p_xw) (i := 1) rfl)) (by decide +kernel) ⟨(Nat.le_of_ble_eq_true rfl), (Nat.le_of_ble_eq_true rfl)⟩) ⟨pk_blindT, va_recv hKc hPc (ci := 6) (q0 := 0) rfl rfl, pk_callT hPc hKc hDc⟩ rfl rfl hl.1 rfl (lv_room (Nat.le_of_ble_eq_true rfl)) dX3_putAll_96 ⟨(show 2 * lgN LA - 2 * lgN L + 2 ≤ 120 by omega), (show 4 * LA - 4 * L + 8000 ≤ 52000 by omega)⟩) hS (fun q _ h => hFc q h) hFc (fun ur_13 t H1 locs ht hvm hw hB hz1 hk1 hS => ?_)
            try dsimp only at hw
            have jr_13 := hw
            obtain ⟨hP1, hK1, hD1, hC1_⟩ := hB
            rw [ht] at hP1 hC1_
            have hK1 := va_K.moved hvm.symm hK1
            obtain ⟨hP, hD⟩ := va_join (wr := [(y1, .inr (4, [.ref x1, .int kd8, .int wh8, .int (nI lim8), .int bu8])), (x1, .inr (5, [.ref k8, .ref w8, .int (nI nz8), .int ch8])), (k8, .inl (ck8, L8, .inl f8)), (w8, .inl (cw8, L8, .inl g8))]) (w1 := [(y0, .inr (6, [.ref x0, .int kd, .int wh, .int od, .int tu, .long lo, .long hi])), (x0, .inr (5, [.ref ur_13.1, .ref ur_13.2.1, .int (nI (ur_13.2.2.2.2.2.2.2.1)), .int ur_13.2.2.2.2.2.2.2.2])), (ur_13.1, .inl (ur_13.2.2.1, ur_13.2.2.2.2.1, .inl ur_13.2.2.2.2.2.1)), (ur_13.2.1, .inl (ur_13.2.2.2.1, ur_13.2.2.2.2.1, .inl ur_13.2.2.2.2.2.2.1))]) hP hD [0, 1, 2, 3] [4, 5, 6, 7] rfl rfl (by decide) (by decide) hk1 hFc hP1 hD1
            have hK := hK.app hK1
            have hK : va_K (dC, dI) vwCl [(ckA, .int), (cwA, .int), (ck8, .int), (cw8, .int), (ur_13.2.2.1, .int), (ur_13.2.2.2.1, .int)] s := hK
            have hl6_ := ln_mono hR9 jr_13
            have hn7_ : hT H1 ≤ hT s.heap + (4 * LA - 4 * L + (4 * (ur_13.2.2.2.2.1) - 4 * LA)) := by omega
            have hz7_ : H1.size ≤ s.heap.size + (2 * lgN LA - 2 * lgN L + (2 * lgN (ur_13.2.2.2.2.1) - 2 * lgN LA)) := by omega
            clear hC1_ hn8_ hz8_
            clear hk1 hz1 ht hPc hDc hKc hFc
            generalize H1 = H at hP hS hn7_ hz7_ ⊢
            replace hP : va_P (dC, dI) vwCl [(y1, .inr (4, [.ref x1, .int kd8, .int wh8, .int (nI lim8), .int bu8])), (x1, .inr (5, [.ref k8, .ref w8, .int (nI nz8), .int ch8])), (k8, .inl (ck8, L8, .inl f8)), (w8, .inl (cw8, L8, .inl g8)), (y0, .inr (6, [.ref x0, .int kd, .int wh, .int od, .int tu, .long lo, .long hi])), (x0, .inr (5, [.ref ur_13.1, .ref ur_13.2.1, .int (nI (ur_13.2.2.2.2.2.2.2.1)), .int ur_13.2.2.2.2.2.2.2.2])), (ur_13.1, .inl (ur_13.2.2.1, ur_13.2.2.2.2.1, .inl ur_13.2.2.2.2.2.1)), (ur_13.2.1, .inl (ur_13.2.2.2.1, ur_13.2.2.2.2.1, .inl ur_13.2.2.2.2.2.2.1))] H := hP
            replace hD : va_D A [(y1, .inr (4, [.ref x1, .int kd8, .int wh8, .int (nI lim8), .int bu8])), (x1, .inr (5, [.ref k8, .ref w8, .int (nI nz8), .int ch8])), (k8, .inl (ck8, L8, .inl f8)), (w8, .inl (cw8, L8, .inl g8)), (y0, .inr (6, [.ref x0, .int kd, .int wh, .int od, .int tu, .long lo, .long hi])), (x0, .inr (5, [.ref ur_13.1, .ref ur_13.2.1, .int (nI (ur_13.2.2.2.2.2.2.2.1)), .int ur_13.2.2.2.2.2.2.2.2])), (ur_13.1, .inl (ur_13.2.2.1, ur_13.2.2.2.2.1, .inl ur_13.2.2.2.2.2.1)), (ur_13.2.1, .inl (ur_13.2.2.2.1, ur_13.2.2.2.2.1, .inl ur_13.2.2.2.2.2.2.1))] := hD
            refine W.tight (k := 2 * lgN LA - 2 * lgN L + (2 * lgN (ur_13.2.2.2.2.1) - 2 * lgN LA)) (n := 4 * LA - 4 * L + (4 * (ur_13.2.2.2.2.1) - 4 * LA)) hz7_ hn7_ ?_
            clear hn7_ hz7_
            refine W.eq (g2 := F0 m 99 ls []) rfl ?_
            have hl6_ := ln_mono hR9 jr_13
            have hR9 : rOK (ur_13.2.2.2.2.1) (ur_13.2.2.2.2.2.2.2.1) := ln_ok jr_13
            refine lv_goto (tgt := 111) hx hb dX3_putAll_99 (by decide) ?_
            refine lv_iinc (v := nI (i + 1)) (lv' := [(3, .int (nI (i + 1))), (7, .int r_10), (6, .int r_9), (5, .int r_8), (4, .int r_7), (2, .int r_5), (0, .ref y0), (1, .ref y1)]) hx hb dX3_putAll_111 hl (k := 4) rfl (by rw [show Int32.ofInt 1 = nI 1 from rfl, nI_add]) (by decide) rfl (fun ls hl => ?_)
            refine lv_goto (tgt := 44) hx hb dX3_putAll_114 (by decide) ?_
            refine W.widen (k := 2 * lgN ur_13.2.2.2.2.1 - 2 * lgN L) (n := 4 * ur_13.2.2.2.2.1 - 4 * L) (by omega) (by omega) ?_
            exact ih (i := i + 1) (x9 := nI (i + 1)) (ex9 := rfl) (kA := ur_13.1) (wA := ur_13.2.1) (ckA := ur_13.2.2.1) (cwA := ur_13.2.2.2.1) (LA := ur_13.2.2.2.2.1) (fA := ur_13.2.2.2.2.2.1) (gA := ur_13.2.2.2.2.2.2.1) (nzA := ur_13.2.2.2.2.2.2.2.1) (chA := ur_13.2.2.2.2.2.2.2.2) (ls := ls) (H := H) (locs := locs) (hP := hP.sub (ws' := [(y0, .inr (6, [.ref x0, .int kd, .int wh, .int od, .int tu, .long lo, .long hi])), (x0, .inr (5, [.ref ur_13.1, .ref ur_13.2.1, .int (nI (ur_13.2.2.2.2.2.2.2.1)), .int ur_13.2.2.2.2.2.2.2.2])), (ur_13.1, .inl (ur_13.2.2.1, ur_13.2.2.2.2.1, .inl ur_13.2.2.2.2.2.1)), (ur_13.2.1, .inl (ur_13.2.2.2.1, ur_13.2.2.2.2.1, .inl ur_13.2.2.2.2.2.2.1)), (y1, .inr (4, [.ref x1, .int kd8, .int wh8, .int (nI lim8), .int bu8])), (x1, .inr (5, [.ref k8, .ref w8, .int (nI nz8), .int ch8])), (k8, .inl (ck8, L8, .inl f8)), (w8, .inl (cw8, L8, .inl g8))]) [4, 5, 6, 7, 0, 1, 2, 3] rfl) (hS := hS) (hD := hD.sub (ws' := [(y0, .inr (6, [.ref x0, .int kd, .int wh, .int od, .int tu, .long lo, .long hi])), (x0, .inr (5, [.ref ur_13.1, .ref ur_13.2.1, .int (nI (ur_13.2.2.2.2.2.2.2.1)), .int ur_13.2.2.2.2.2.2.2.2])), (ur_13.1, .inl (ur_13.2.2.1, ur_13.2.2.2.2.1, .inl ur_13.2.2.2.2.2.1)), (ur_13.2.1, .inl (ur_13.2.2.2.1, ur_13.2.2.2.2.1, .inl ur_13.2.2.2.2.2.2.1)), (y1, .inr (4, [.ref x1, .int kd8, .int wh8, .int (nI lim8), .int bu8])), (x1, .inr (5, [.ref k8, .ref w8, .int (nI nz8), .int ch8])), (k8, .inl (ck8, L8, .inl f8)), (w8, .inl (cw8, L8, .inl g8))]) [4, 5, 6, 7, 0, 1, 2, 3] (by decide) rfl) (hK := hK.sub (tys' := [(ur_13.2.2.1, .int), (ur_13.2.2.2.1, .int), (ck8, .int), (cw8, .int)]) [4, 5, 2, 3] rfl) (hi9 := by omega) (hn9 := by omega) (hR9 := hR9) (hmn9 := ⟨by omega, by omega⟩) (hl := lv_sub hl [0, 5, 6, 7] rfl)
    ·
      have ic_4 : r_3.toInt = 0 := tx_eq rfl (by decide) c_4
      have hP9 := hP.sub (ws' := [(y0, .inr (6, [.ref x0, .int kd, .int wh, .int od, .int tu, .long lo, .long hi])), (x0, .inr (5, [.ref k0, .ref w0, .int (nI nz), .int ch])), (k0, .inl (ck, L, .inl f)), (w0, .inl (cw, L, .inl g)), (y1, .inr (4, [.ref x1, .int kd8, .int wh8, .int (nI lim8), .int bu8])), (x1, .inr (5, [.ref k8, .ref w8, .int (nI nz8), .int ch8])), (k8, .inl (ck8, L8, .inl f8)), (w8, .inl (cw8, L8, .inl g8))]) [0, 1, 2, 3, 4, 5, 6, 7] rfl
      have hD9 := hD.sub (ws' := [(y0, .inr (6, [.ref x0, .int kd, .int wh, .int od, .int tu, .long lo, .long hi])), (x0, .inr (5, [.ref k0, .ref w0, .int (nI nz), .int ch])), (k0, .inl (ck, L, .inl f)), (w0, .inl (cw, L, .inl g)), (y1, .inr (4, [.ref x1, .int kd8, .int wh8, .int (nI lim8), .int bu8])), (x1, .inr (5, [.ref k8, .ref w8, .int (nI nz8), .int ch8])), (k8, .inl (ck8, L8, .inl f8)), (w8, .inl (cw8, L8, .inl g8))]) [0, 1, 2, 3, 4, 5, 6, 7] (by decide) rfl
      have hK9 := hK.sub (tys' := [(ck, .int), (cw, .int), (ck8, .int), (cw8, .int)]) [0, 1, 2, 3] rfl
      refine vx_tightX (XC0 := vx_X (fun _ : Unit => True) (fun (E : String) (_ : Unit) (t : State) => (E = "java/lang/IllegalArgumentException" ∨ E = "java/lang/IllegalStateException") ∧ va_P (dC, dI) vwCl [(y0, .inr (6, [.ref x0, .int kd, .int wh, .int od, .int tu, .long lo, .long hi])), (x0, .inr (5, [.ref k0, .ref w0, .int (nI nz), .int ch])), (k0, .inl (ck, L, .inl f)), (w0, .inl (cw, L, .inl g)), (y1, .inr (4, [.ref x1, .int kd8, .int wh8, .int (nI lim8), .int bu8])), (x1, .inr (5, [.ref k8, .ref w8, .int (nI nz8), .int ch8])), (k8, .inl (ck8, L8, .inl f8)), (w8, .inl (cw8, L8, .inl g8))] t.heap ∧ va_K (dC, dI) vwCl [(ck, .int), (cw, .int), (ck8, .int), (cw8, .int)] t ∧ va_D A [(y0, .inr (6, [.ref x0, .int kd, .int wh, .int od, .int tu, .long lo, .long hi])), (x0, .inr (5, [.ref k0, .ref w0, .int (nI nz), .int ch])), (k0, .inl (ck, L, .inl f)), (w0, .inl (cw, L, .inl g)), (y1, .inr (4, [.ref x1, .int kd8, .int wh8, .int (nI lim8), .int bu8])), (x1, .inr (5, [.ref k8, .ref w8, .int (nI nz8), .int ch8])), (k8, .inl (ck8, L8, .inl f8)), (w8, .inl (cw8, L8, .inl g8))]) A) 1 6 (by omega) (by omega) (fun E t9 h9 hz9 hn9 => by obtain ⟨u9, g1, g2, g3⟩ := h9; exact ⟨u9, g1, ⟨g2, hz9, hn9⟩, g3⟩) ?_
      obtain ⟨sa, hsa⟩ := hN.stX3_40
      exact vx_throwS hx hb hlt (own := RX3) (cls := "java/lang/IllegalStateException") (text := "full") (names := ["java/lang/RuntimeException", "java/lang/Exception"]) hown (by decide +kernel) (by decide +kernel) hw1_ hw2_ hsa (tx_hat hN.xw (fun w h => hts w (at_X3_putAll_27 w h)) ng_RX3_42) og_RX3_42 hZ.1 hZ.2 hS (by rw [hml]; exact hl.1) dX3_putAll_27 dX3_putAll_30 dX3_putAll_31 dX3_putAll_33 dX3_putAll_36 (fun x hx9 => (htab x hx9).elim) (Nat.le_of_ble_eq_true rfl) (Nat.le_of_ble_eq_true rfl) (Nat.le_of_ble_eq_true rfl) (Nat.le_of_ble_eq_true rfl) hlocks (fun t hvm hz hq => ⟨(), trivial, ⟨Or.inr rfl, hP9.kept (fun k x hx => hq x.1 (hP9 k x hx).lt), va_K.moved hvm hK9, hD9⟩, ⟨Nat.le_trans hS.1 hz, fun q h1 h2 => (hq q (Nat.lt_of_lt_of_le h1 hS.1)).trans (hS.2.1 q h1 h2)⟩⟩) hS.2.2 (Nat.le_of_ble_eq_true rfl) (Nat.le_of_ble_eq_true rfl)
set_option maxHeartbeats 4000000 in
set_option maxRecDepth 100000 in
/-- Keyed.putAll of S and S -/
theorem c_X3_putAll_SS (l : Launch) (hlt : l.stackTraces = false) (dC : Nat → ClassId) (dI : Nat → Nat → Nat) (sz : Nat) (T0 : Nat) (y0 : Nat) (kd : Int32) (wh : Int32) (od : Int32) (tu : Int32) (lo : Int64) (hi : Int64) (x0 : Nat) (k0 : Nat) (w0 : Nat) (ck : ClassId) (cw : ClassId) (L : Nat) (f : Nat → Int32) (g : Nat → Int32) (nz : Nat) (ch : Int32) (y1 : Nat) (kd8 : Int32) (wh8 : Int32) (od8 : Int32) (tu8 : Int32) (lo8 : Int64) (hi8 : Int64) (x1 : Nat) (k8 : Nat) (w8 : Nat) (ck8 : ClassId) (cw8 : ClassId) (L8 : Nat) (f8 : Nat → Int32) (g8 : Nat → Int32) (nz8 : Nat) (ch8 : Int32) (hR9 : rOK L nz) (ho1 : 0 ≤ od.toInt) (ho2 : od.toInt ≤ 3) (hR8 : rOK L8 nz8) (ho18 : 0 ≤ od8.toInt) (ho28 : od8.toInt ≤ 3) : vx_Met l yX3_putAll wsX3_putAll ({ frames := 7, cells := 120, slots := 52000, locals := 300 }) (va_Pc [.ref y0, .ref y1] (pk_PreXT (dC, dI) [(y0, .inr (6, [.ref x0, .int kd, .int wh, .int od, .int tu, .long lo, .long hi])), (x0, .inr (5, [.ref k0, .ref w0, .int (nI nz), .int ch])), (k0, .inl (ck, L, .inl f)), (w0, .inl (cw, L, .inl g)), (y1, .inr (6, [.ref x1, .int kd8, .int wh8, .int od8, .int tu8, .long lo8, .long hi8])), (x1, .inr (5, [.ref k8, .ref w8, .int (nI nz8), .int ch8])), (k8, .inl (ck8, L8, .inl f8)), (w8, .inl (cw8, L8, .inl g8))] [(ck, .int), (cw, .int), (ck8, .int), (cw8, .int)] sz T0)) (va_Ql (fun (x : Int64) (u : Nat × Nat × ClassId × ClassId × Nat × (Nat → Int32) × (Nat → Int32) × Nat × Int32) => rOK (u.2.2.2.2.1) (u.2.2.2.2.2.2.2.1)) (fun (u : Nat × Nat × ClassId × ClassId × Nat × (Nat → Int32) × (Nat → Int32) × Nat × Int32) (t : State) => va_P (dC, dI) vwCl [(y0, .inr (6, [.ref x0, .int kd, .int wh, .int od, .int tu, .long lo, .long hi])), (x0, .inr (5, [.ref u.1, .ref u.2.1, .int (nI (u.2.2.2.2.2.2.2.1)), .int u.2.2.2.2.2.2.2.2])), (u.1, .inl (u.2.2.1, u.2.2.2.2.1, .inl u.2.2.2.2.2.1)), (u.2.1, .inl (u.2.2.2.1, u.2.2.2.2.1, .inl u.2.2.2.2.2.2.1)), (y1, .inr (6, [.ref x1, .int kd8, .int wh8, .int od8, .int tu8, .long lo8, .long hi8])), (x1, .inr (5, [.ref k8, .ref w8, .int (nI nz8), .int ch8])), (k8, .inl (ck8, L8, .inl f8)), (w8, .inl (cw8, L8, .inl g8))] t.heap ∧ va_K (dC, dI) vwCl [(u.2.2.1, .int), (u.2.2.2.1, .int), (ck8, .int), (cw8, .int)] t ∧ va_D (va_A [(y0, .inr (6, [.ref x0, .int kd, .int wh, .int od, .int tu, .long lo, .long hi])), (x0, .inr (5, [.ref k0, .ref w0, .int (nI nz), .int ch])), (k0, .inl (ck, L, .inl f)), (w0, .inl (cw, L, .inl g)), (y1, .inr (6, [.ref x1, .int kd8, .int wh8, .int od8, .int tu8, .long lo8, .long hi8])), (x1, .inr (5, [.ref k8, .ref w8, .int (nI nz8), .int ch8])), (k8, .inl (ck8, L8, .inl f8)), (w8, .inl (cw8, L8, .inl g8))] sz) [(y0, .inr (6, [.ref x0, .int kd, .int wh, .int od, .int tu, .long lo, .long hi])), (x0, .inr (5, [.ref u.1, .ref u.2.1, .int (nI (u.2.2.2.2.2.2.2.1)), .int u.2.2.2.2.2.2.2.2])), (u.1, .inl (u.2.2.1, u.2.2.2.2.1, .inl u.2.2.2.2.2.1)), (u.2.1, .inl (u.2.2.2.1, u.2.2.2.2.1, .inl u.2.2.2.2.2.2.1)), (y1, .inr (6, [.ref x1, .int kd8, .int wh8, .int od8, .int tu8, .long lo8, .long hi8])), (x1, .inr (5, [.ref k8, .ref w8, .int (nI nz8), .int ch8])), (k8, .inl (ck8, L8, .inl f8)), (w8, .inl (cw8, L8, .inl g8))] ∧ hT t.heap + 4 * L ≤ T0 + 4 * (u.2.2.2.2.1) ∧ t.heap.size + 2 * lgN L ≤ sz + 2 * lgN (u.2.2.2.2.1)) (va_A [(y0, .inr (6, [.ref x0, .int kd, .int wh, .int od, .int tu, .long lo, .long hi])), (x0, .inr (5, [.ref k0, .ref w0, .int (nI nz), .int ch])), (k0, .inl (ck, L, .inl f)), (w0, .inl (cw, L, .inl g)), (y1, .inr (6, [.ref x1, .int kd8, .int wh8, .int od8, .int tu8, .long lo8, .long hi8])), (x1, .inr (5, [.ref k8, .ref w8, .int (nI nz8), .int ch8])), (k8, .inl (ck8, L8, .inl f8)), (w8, .inl (cw8, L8, .inl g8))] sz)) (vx_X (fun _ : Unit => True) (fun (E : String) (_ : Unit) (t : State) => ((E = "java/lang/IllegalArgumentException" ∨ E = "java/lang/IllegalStateException") ∧ va_P (dC, dI) vwCl [(y0, .inr (6, [.ref x0, .int kd, .int wh, .int od, .int tu, .long lo, .long hi])), (x0, .inr (5, [.ref k0, .ref w0, .int (nI nz), .int ch])), (k0, .inl (ck, L, .inl f)), (w0, .inl (cw, L, .inl g)), (y1, .inr (6, [.ref x1, .int kd8, .int wh8, .int od8, .int tu8, .long lo8, .long hi8])), (x1, .inr (5, [.ref k8, .ref w8, .int (nI nz8), .int ch8])), (k8, .inl (ck8, L8, .inl f8)), (w8, .inl (cw8, L8, .inl g8))] t.heap ∧ va_K (dC, dI) vwCl [(ck, .int), (cw, .int), (ck8, .int), (cw8, .int)] t ∧ va_D (va_A [(y0, .inr (6, [.ref x0, .int kd, .int wh, .int od, .int tu, .long lo, .long hi])), (x0, .inr (5, [.ref k0, .ref w0, .int (nI nz), .int ch])), (k0, .inl (ck, L, .inl f)), (w0, .inl (cw, L, .inl g)), (y1, .inr (6, [.ref x1, .int kd8, .int wh8, .int od8, .int tu8, .long lo8, .long hi8])), (x1, .inr (5, [.ref k8, .ref w8, .int (nI nz8), .int ch8])), (k8, .inl (ck8, L8, .inl f8)), (w8, .inl (cw8, L8, .inl g8))] sz) [(y0, .inr (6, [.ref x0, .int kd, .int wh, .int od, .int tu, .long lo, .long hi])), (x0, .inr (5, [.ref k0, .ref w0, .int (nI nz), .int ch])), (k0, .inl (ck, L, .inl f)), (w0, .inl (cw, L, .inl g)), (y1, .inr (6, [.ref x1, .int kd8, .int wh8, .int od8, .int tu8, .long lo8, .long hi8])), (x1, .inr (5, [.ref k8, .ref w8, .int (nI nz8), .int ch8])), (k8, .inl (ck8, L8, .inl f8)), (w8, .inl (cw8, L8, .inl g8))]) ∧ t.heap.size ≤ sz + 1 ∧ hT t.heap ≤ T0 + 6) (va_A [(y0, .inr (6, [.ref x0, .int kd, .int wh, .int od, .int tu, .long lo, .long hi])), (x0, .inr (5, [.ref k0, .ref w0, .int (nI nz), .int ch])), (k0, .inl (ck, L, .inl f)), (w0, .inl (cw, L, .inl g)), (y1, .inr (6, [.ref x1, .int kd8, .int wh8, .int od8, .int tu8, .long lo8, .long hi8])), (x1, .inr (5, [.ref k8, .ref w8, .int (nI nz8), .int ch8])), (k8, .inl (ck8, L8, .inl f8)), (w8, .inl (cw8, L8, .inl g8))] sz)) 120 52000 (va_A [(y0, .inr (6, [.ref x0, .int kd, .int wh, .int od, .int tu, .long lo, .long hi])), (x0, .inr (5, [.ref k0, .ref w0, .int (nI nz), .int ch])), (k0, .inl (ck, L, .inl f)), (w0, .inl (cw, L, .inl g)), (y1, .inr (6, [.ref x1, .int kd8, .int wh8, .int od8, .int tu8, .long lo8, .long hi8])), (x1, .inr (5, [.ref k8, .ref w8, .int (nI nz8), .int ch8])), (k8, .inl (ck8, L8, .inl f8)), (w8, .inl (cw8, L8, .inl g8))] sz) := by
  refine vx_ofW (cc := cX3_putAll) (maxL := 8) (ret := (some .long)) (by decide) rfl ?_
  intro p e s m args below meth c s₁ B hml htab hv
  obtain ⟨rfl, ⟨hsz, hP, hK, hD0, hN, hZ⟩, hT0⟩ := hv
  have hx := B.exec
  have hb := B.bytes
  have hr := B.returns
  have hts := atoms_spec (ws := wsX3_putAll) B.pre
  have hown : s.vm.findClass RX3 = some m.cls := findClass_of_methodNamed B.named
  have hlocks := B.notSynchronized
  subst hsz
  subst hT0
  have hD := hD0.self (sz := s.heap.size)
  generalize hAe : va_A [(y0, .inr (6, [.ref x0, .int kd, .int wh, .int od, .int tu, .long lo, .long hi])), (x0, .inr (5, [.ref k0, .ref w0, .int (nI nz), .int ch])), (k0, .inl (ck, L, .inl f)), (w0, .inl (cw, L, .inl g)), (y1, .inr (6, [.ref x1, .int kd8, .int wh8, .int od8, .int tu8, .long lo8, .long hi8])), (x1, .inr (5, [.ref k8, .ref w8, .int (nI nz8), .int ch8])), (k8, .inl (ck8, L8, .inl f8)), (w8, .inl (cw8, L8, .inl g8))] s.heap.size = A at hZ hD ⊢
  have hA : ∀ q : Nat, s.heap.size ≤ q → A q := fun q h => by rw [← hAe]; exact Or.inr h
  have hS : va_S A s.heap s.heap [] := va_S.rf
  have hP : va_P (dC, dI) vwCl [(y0, .inr (6, [.ref x0, .int kd, .int wh, .int od, .int tu, .long lo, .long hi])), (x0, .inr (5, [.ref k0, .ref w0, .int (nI nz), .int ch])), (k0, .inl (ck, L, .inl f)), (w0, .inl (cw, L, .inl g)), (y1, .inr (6, [.ref x1, .int kd8, .int wh8, .int od8, .int tu8, .long lo8, .long hi8])), (x1, .inr (5, [.ref k8, .ref w8, .int (nI nz8), .int ch8])), (k8, .inl (ck8, L8, .inl f8)), (w8, .inl (cw8, L8, .inl g8))] s.heap := hP
  have hl := lv_entry ([.ref y0, .ref y1]) (n := 8) (Nat.le_of_ble_eq_true rfl)
  rw [lg_entry_eq]
  generalize (lg_sl ([.ref y0, .ref y1]) ++ List.replicate (8 - (lg_sl ([.ref y0, .ref y1])).length) Slot.unset).toArray = ls at hl ⊢
  have hl : lv_has ls 8 [(0, .ref y0), (1, .ref y1)] := hl
  have hw0_ := hts (.fieldLink RX3 9 "KeyAtlas$Keyed" "rows" "LKeyAtlas$Rows;") (List.mem_of_getElem? (l := wsX3_putAll) (i := 5) rfl)
  have hw1_ := hts (.classLink RX3 38 "java/lang/IllegalStateException") (List.mem_of_getElem? (l := wsX3_putAll) (i := 3) rfl)
  have hw2_ := hts (.initialized "java/lang/IllegalStateException") (List.mem_of_getElem? (l := wsX3_putAll) (i := 4) rfl)
  have hi0_ : ∀ w ∈ u_ws RX6 TX6 7, w ∈ wsX3_putAll := fun w h => List.mem_cons_of_mem _ (List.mem_append_left _ (List.mem_append_left _ (List.mem_append_left _ (List.mem_append_right _ h))))
  obtain ⟨hL1, hL2, hz1, hz2⟩ := id hR9
  obtain ⟨hL18, hL28, hz18, hz28⟩ := id hR8
  refine lv_aload_n hx hb dX3_putAll_0 rfl (lv_at hl 1 rfl) ?_
  refine lv_aload_n hx hb dX3_putAll_1 rfl (lv_at hl 0 rfl) ?_
  refine lv_acmp_ne (rx := some y1) (ry := some y0) (tgt := 15) hx hb dX3_putAll_2 (by decide) (fun c_1 => ?_) (fun c_1 => absurd (hD.1 0 4 _ _ rfl rfl (Option.some.inj c_1).symm) (by decide))
  refine lv_aload_n hx hb dX3_putAll_15 rfl (lv_at hl 0 rfl) ?_
  refine lv_aload_n hx hb dX3_putAll_16 rfl (lv_at hl 0 rfl) ?_
  refine lv_aload_n hx hb dX3_putAll_17 rfl (lv_at hl 1 rfl) ?_
  have hPc := hP.sub (ws' := [(y0, .inr (6, [.ref x0, .int kd, .int wh, .int od, .int tu, .long lo, .long hi])), (x0, .inr (5, [.ref k0, .ref w0, .int (nI nz), .int ch])), (k0, .inl (ck, L, .inl f)), (w0, .inl (cw, L, .inl g)), (y1, .inr (6, [.ref x1, .int kd8, .int wh8, .int od8, .int tu8, .long lo8, .long hi8])), (x1, .inr (5, [.ref k8, .ref w8, .int (nI nz8), .int ch8])), (k8, .inl (ck8, L8, .inl f8)), (w8, .inl (cw8, L8, .inl g8))]) [0, 1, 2, 3, 4, 5, 6, 7] rfl
  have hKc := hK.sub (tys' := [(ck, .int), (cw, .int), (ck8, .int), (cw8, .int)]) [0, 1, 2, 3] rfl
  refine rox_calli (vx_runU (As := [.ref y1]) (rest := [.ref y0]) ⟨hx, hb, hml, hown, hts⟩ (c_X3_newKeysOf_SS l hlt dC dI s.heap.size y0 kd wh od tu lo hi x0 k0 w0 ck cw L f g nz ch y1 kd8 wh8 od8 tu8 lo8 hi8 x1 k8 w8 ck8 cw8 L8 f8 g8 nz8 ch8 hR9 ho1 ho2 hR8 ho18 ho28) (va_cwU 1 hts gX3_putAll_X3_newKeysOf_u90X6 rfl rfl rfl rfl (by decide +kernel) ⟨(Nat.le_of_ble_eq_true rfl), (Nat.le_of_ble_eq_true rfl)⟩) ⟨pk_blindXR, va_recv hKc hPc (ci := 6) (q0 := 0) rfl rfl, pk_callXR hPc hKc hN ((hZ.kept hS.2.1).narrow (fun q h9 => hA q (Nat.le_trans hS.1 h9)))⟩ rfl rfl hl.1 rfl (lv_room (Nat.le_of_ble_eq_true rfl)) dX3_putAll_18 ⟨(Nat.le_of_ble_eq_true rfl), (Nat.le_of_ble_eq_true rfl)⟩) hS (fun q h9 => hA q (Nat.le_trans hS.1 h9)) (fun E ce q9 u9 t H1 locs ht hvm hw hB hz1 hk1 hS hce hcv hcl => ?_) (fun r_2 ur_2 locs hw hS => ?_)
  ·
    try dsimp only at hB
    refine vx_tightO (XC0 := vx_X (fun _ : Unit => True) (fun (E : String) (_ : Unit) (t : State) => (E = "java/lang/IllegalArgumentException" ∨ E = "java/lang/IllegalStateException") ∧ va_P (dC, dI) vwCl [(y0, .inr (6, [.ref x0, .int kd, .int wh, .int od, .int tu, .long lo, .long hi])), (x0, .inr (5, [.ref k0, .ref w0, .int (nI nz), .int ch])), (k0, .inl (ck, L, .inl f)), (w0, .inl (cw, L, .inl g)), (y1, .inr (6, [.ref x1, .int kd8, .int wh8, .int od8, .int tu8, .long lo8, .long hi8])), (x1, .inr (5, [.ref k8, .ref w8, .int (nI nz8), .int ch8])), (k8, .inl (ck8, L8, .inl f8)), (w8, .inl (cw8, L8, .inl g8))] t.heap ∧ va_K (dC, dI) vwCl [(ck, .int), (cw, .int), (ck8, .int), (cw8, .int)] t ∧ va_D A [(y0, .inr (6, [.ref x0, .int kd, .int wh, .int od, .int tu, .long lo, .long hi])), (x0, .inr (5, [.ref k0, .ref w0, .int (nI nz), .int ch])), (k0, .inl (ck, L, .inl f)), (w0, .inl (cw, L, .inl g)), (y1, .inr (6, [.ref x1, .int kd8, .int wh8, .int od8, .int tu8, .long lo8, .long hi8])), (x1, .inr (5, [.ref k8, .ref w8, .int (nI nz8), .int ch8])), (k8, .inl (ck8, L8, .inl f8)), (w8, .inl (cw8, L8, .inl g8))]) A) 1 6 (by omega) (by omega) (fun E t9 h9 hz9 hn9 => by obtain ⟨u9, g1, g2, g3⟩ := h9; exact ⟨u9, g1, ⟨g2, hz9, hn9⟩, g3⟩) ?_
    exact vx_out (fun x hx9 => (htab x hx9).elim) hlocks hce hcv hcl (fun t9 ht9 hal9 => ⟨(), trivial, ⟨Or.inl hB, by rw [ht9]; exact hP.kept (fun k x hx => hk1 x.1 (hP k x hx).lt), va_K.moved hal9 hK, hD⟩, hS.F ht9⟩) hS.2.2 (by omega) (by omega)
  ·
    refine W.tight (k := 0) (n := 0) (Nat.le_refl _) (Nat.le_refl _) ?_
    clear hPc hKc
    try dsimp only at hw
    have jr_2 := hw
    refine W.eq (g2 := F0 m 21 ls [.int r_2, .ref y0]) rfl ?_
    have hPc := hP.sub (ws' := [(y0, .inr (6, [.ref x0, .int kd, .int wh, .int od, .int tu, .long lo, .long hi])), (x0, .inr (5, [.ref k0, .ref w0, .int (nI nz), .int ch])), (k0, .inl (ck, L, .inl f)), (w0, .inl (cw, L, .inl g))]) [0, 1, 2, 3] rfl
    have hKc := hK.sub (tys' := [(ck, .int), (cw, .int)]) [0, 1] rfl
    refine ro_calli (va_runU (As := [.int r_2]) (rest := []) ⟨hx, hb, hml, hown, hts⟩ (c_X6_hasRoomFor l  dC dI s.heap.size y0 kd wh od tu lo hi x0 k0 w0 ck cw L f g nz ch r_2 hR9 ho1 ho2) (va_cwO 1 hts gX3_putAll_X6_hasRoomFor_u35X6 rfl rfl rfl (List.mem_of_getElem? (l := wsX3_putAll) (i := 131) rfl) (by decide +kernel) ⟨(Nat.le_of_ble_eq_true rfl), (Nat.le_of_ble_eq_true rfl)⟩) ⟨pk_blindR, va_recv hKc hPc (ci := 6) (q0 := 0) rfl rfl, pk_callR hPc hKc⟩ rfl rfl hl.1 rfl (lv_room (Nat.le_of_ble_eq_true rfl)) dX3_putAll_21 ⟨(Nat.le_of_ble_eq_true rfl), (Nat.le_of_ble_eq_true rfl)⟩) (fun r_3 ur_3 hw => ?_)
    clear hPc hKc
    try dsimp only at hw
    have jr_3 := hw
    refine W.eq (g2 := F0 m 24 ls [.int r_3]) rfl ?_
    refine lv_if_ne (tgt := 37) hx hb dX3_putAll_24 (by decide) (fun c_4 => ?_) (fun c_4 => ?_)
    ·
      have ic_4 : ¬ r_3.toInt = 0 := tx_ne rfl (by decide) c_4
      refine lv_aload_n hx hb dX3_putAll_37 rfl (lv_at hl 1 rfl) ?_
      have hPc := hP.sub (ws' := [(y1, .inr (6, [.ref x1, .int kd8, .int wh8, .int od8, .int tu8, .long lo8, .long hi8])), (x1, .inr (5, [.ref k8, .ref w8, .int (nI nz8), .int ch8])), (k8, .inl (ck8, L8, .inl f8)), (w8, .inl (cw8, L8, .inl g8))]) [4, 5, 6, 7] rfl
      have hKc := hK.sub (tys' := [(ck8, .int), (cw8, .int)]) [2, 3] rfl
      refine ro_calli (va_runU (As := []) (rest := []) ⟨hx, hb, hml, hown, hts⟩ (c_X6_size l  dC dI s.heap.size y1 kd8 wh8 od8 tu8 lo8 hi8 x1 k8 w8 ck8 cw8 L8 f8 g8 nz8 ch8 hR8 ho18 ho28) (va_cwO 0 hts gX3_putAll_X6_size_u72X6 rfl rfl rfl (List.mem_of_getElem? (l := wsX3_putAll) (i := 16) rfl) (by decide +kernel) ⟨(Nat.le_of_ble_eq_true rfl), (Nat.le_of_ble_eq_true rfl)⟩) ⟨pk_blindR, va_recv hKc hPc (ci := 6) (q0 := 0) rfl rfl, pk_callR hPc hKc⟩ rfl rfl hl.1 rfl (lv_room (Nat.le_of_ble_eq_true rfl)) dX3_putAll_38 ⟨(Nat.le_of_ble_eq_true rfl), (Nat.le_of_ble_eq_true rfl)⟩) (fun r_5 ur_5 hw => ?_)
      clear hPc hKc
      try dsimp only at hw
      have jr_5 := hw
      refine W.eq (g2 := F0 m 41 ls [.int r_5]) rfl ?_
      have hsz9 : r_5.toInt ≤ 1000 := by have h9 := jr_5; omega
      refine lv_istore_n (lv' := [(2, .int r_5), (0, .ref y0), (1, .ref y1)]) hx hb dX3_putAll_41 rfl hl (by decide) rfl (fun ls hl => ?_)
      refine lv_iconst (v := 0) hx hb dX3_putAll_42 (by decide) ?_
      refine lv_istore_n (lv' := [(3, .int 0), (2, .int r_5), (0, .ref y0), (1, .ref y1)]) hx hb dX3_putAll_43 rfl hl (by decide) rfl (fun ls hl => ?_)
      obtain ⟨H, hH9⟩ : ∃ H : Heap, H = s.heap := ⟨_, rfl⟩
      refine tx_hv2 hH9 ?_
      have hP : va_P (dC, dI) vwCl [(y0, .inr (6, [.ref x0, .int kd, .int wh, .int od, .int tu, .long lo, .long hi])), (x0, .inr (5, [.ref k0, .ref w0, .int (nI nz), .int ch])), (k0, .inl (ck, L, .inl f)), (w0, .inl (cw, L, .inl g)), (y1, .inr (6, [.ref x1, .int kd8, .int wh8, .int od8, .int tu8, .long lo8, .long hi8])), (x1, .inr (5, [.ref k8, .ref w8, .int (nI nz8), .int ch8])), (k8, .inl (ck8, L8, .inl f8)), (w8, .inl (cw8, L8, .inl g8))] H := by rw [hH9]; exact hP
      replace hS : va_S A s.heap H locs := by rw [hH9]; exact hS
      clear hH9
      obtain ⟨i, es_i⟩ : ∃ z : Nat, z = 0 := ⟨_, rfl⟩
      obtain ⟨x9, ex9⟩ : ∃ y : Int32, y = nI i := ⟨_, rfl⟩
      obtain ⟨kA, ew_kA⟩ : ∃ z : Nat, z = k0 := ⟨_, rfl⟩
      obtain ⟨wA, ew_wA⟩ : ∃ z : Nat, z = w0 := ⟨_, rfl⟩
      obtain ⟨ckA, ew_ckA⟩ : ∃ z : ClassId, z = ck := ⟨_, rfl⟩
      obtain ⟨cwA, ew_cwA⟩ : ∃ z : ClassId, z = cw := ⟨_, rfl⟩
      obtain ⟨LA, ew_LA⟩ : ∃ z : Nat, z = L := ⟨_, rfl⟩
      obtain ⟨fA, ew_fA⟩ : ∃ z : (Nat → Int32), z = f := ⟨_, rfl⟩
      obtain ⟨gA, ew_gA⟩ : ∃ z : (Nat → Int32), z = g := ⟨_, rfl⟩
      obtain ⟨nzA, ew_nzA⟩ : ∃ z : Nat, z = nz := ⟨_, rfl⟩
      obtain ⟨chA, ew_chA⟩ : ∃ z : Int32, z = ch := ⟨_, rfl⟩
      obtain ⟨n9, en9⟩ : ∃ n : Nat, n = 1001 := ⟨_, rfl⟩
      replace hl : lv_has ls 8 [(3, .int x9), (2, .int r_5), (0, .ref y0), (1, .ref y1)] := by subst ex9; subst es_i; subst ew_kA; subst ew_wA; subst ew_ckA; subst ew_cwA; subst ew_LA; subst ew_fA; subst ew_gA; subst ew_nzA; subst ew_chA; exact hl
      replace hP : va_P (dC, dI) vwCl [(y0, .inr (6, [.ref x0, .int kd, .int wh, .int od, .int tu, .long lo, .long hi])), (x0, .inr (5, [.ref kA, .ref wA, .int (nI nzA), .int chA])), (kA, .inl (ckA, LA, .inl fA)), (wA, .inl (cwA, LA, .inl gA)), (y1, .inr (6, [.ref x1, .int kd8, .int wh8, .int od8, .int tu8, .long lo8, .long hi8])), (x1, .inr (5, [.ref k8, .ref w8, .int (nI nz8), .int ch8])), (k8, .inl (ck8, L8, .inl f8)), (w8, .inl (cw8, L8, .inl g8))] H := by subst ex9; subst es_i; subst ew_kA; subst ew_wA; subst ew_ckA; subst ew_cwA; subst ew_LA; subst ew_fA; subst ew_gA; subst ew_nzA; subst ew_chA; exact hP.sub [0, 1, 2, 3, 4, 5, 6, 7] rfl
      replace hD : va_D A [(y0, .inr (6, [.ref x0, .int kd, .int wh, .int od, .int tu, .long lo, .long hi])), (x0, .inr (5, [.ref kA, .ref wA, .int (nI nzA), .int chA])), (kA, .inl (ckA, LA, .inl fA)), (wA, .inl (cwA, LA, .inl gA)), (y1, .inr (6, [.ref x1, .int kd8, .int wh8, .int od8, .int tu8, .long lo8, .long hi8])), (x1, .inr (5, [.ref k8, .ref w8, .int (nI nz8), .int ch8])), (k8, .inl (ck8, L8, .inl f8)), (w8, .inl (cw8, L8, .inl g8))] := by subst ex9; subst es_i; subst ew_kA; subst ew_wA; subst ew_ckA; subst ew_cwA; subst ew_LA; subst ew_fA; subst ew_gA; subst ew_nzA; subst ew_chA; exact hD.sub [0, 1, 2, 3, 4, 5, 6, 7] (by decide) rfl
      have hK : va_K (dC, dI) vwCl [(ckA, .int), (cwA, .int), (ck8, .int), (cw8, .int)] s := by subst ex9; subst es_i; subst ew_kA; subst ew_wA; subst ew_ckA; subst ew_cwA; subst ew_LA; subst ew_fA; subst ew_gA; subst ew_nzA; subst ew_chA; exact hK.sub [0, 1, 2, 3] rfl
      have hi9 : i ≤ 1000 := by subst ex9; subst es_i; subst ew_kA; subst ew_wA; subst ew_ckA; subst ew_cwA; subst ew_LA; subst ew_fA; subst ew_gA; subst ew_nzA; subst ew_chA; subst en9; exact by omega
      have hn9 : 1001 ≤ i + n9 := by subst ex9; subst es_i; subst ew_kA; subst ew_wA; subst ew_ckA; subst ew_cwA; subst ew_LA; subst ew_fA; subst ew_gA; subst ew_nzA; subst ew_chA; subst en9; exact by omega
      have hR9 : rOK LA nzA := by subst ex9; subst es_i; subst ew_kA; subst ew_wA; subst ew_ckA; subst ew_cwA; subst ew_LA; subst ew_fA; subst ew_gA; subst ew_nzA; subst ew_chA; subst en9; exact hR9
      have hmn9 : L ≤ LA ∧ lgN L ≤ lgN LA := by subst ex9; subst es_i; subst ew_kA; subst ew_wA; subst ew_ckA; subst ew_cwA; subst ew_LA; subst ew_fA; subst ew_gA; subst ew_nzA; subst ew_chA; subst en9; exact ⟨Nat.le_refl _, Nat.le_refl _⟩
      refine W.widen (k := 2 * lgN LA - 2 * lgN L) (n := 4 * LA - 4 * L) (by omega) (by omega) ?_
      clear en9 es_i ew_kA ew_wA ew_ckA ew_cwA ew_LA ew_fA ew_gA ew_nzA ew_chA
      induction n9 generalizing i x9 kA wA ckA cwA LA fA gA nzA chA ls H locs with
      | zero => exact absurd hn9 (by omega)
      | succ n9 ih =>
        subst ex9
        refine lv_iload_n hx hb dX3_putAll_44 rfl (lv_at hl 0 rfl) ?_
        refine lv_iload_n hx hb dX3_putAll_45 rfl (lv_at hl 1 rfl) ?_
        refine lv_icmp_ge (tgt := 117) hx hb dX3_putAll_46 (by decide) (fun c_6 => ?_) (fun c_6 => ?_)
        ·
          have ic_6 : r_5.toInt ≤ ((i : Nat) : Int) := tx_le rfl (nI_toInt (by omega)) c_6
          refine lv_iload_n hx hb dX3_putAll_117 rfl (lv_at hl 1 rfl) ?_
          refine lv_i2l (v := r_5.toInt64) hx hb dX3_putAll_118 rfl ?_
          refine W.book (fun hz9_ hn9_ => ?_)
          have hcost : hT H + 4 * L ≤ hT s.heap + 4 * (LA) ∧ H.size + 2 * lgN L ≤ s.heap.size + 2 * lgN (LA) := by constructor <;> omega
          have hlg9_ := lg_rok hR9
          have hP9 := hP.sub (ws' := [(y0, .inr (6, [.ref x0, .int kd, .int wh, .int od, .int tu, .long lo, .long hi])), (x0, .inr (5, [.ref kA, .ref wA, .int (nI nzA), .int chA])), (kA, .inl (ckA, LA, .inl fA)), (wA, .inl (cwA, LA, .inl gA)), (y1, .inr (6, [.ref x1, .int kd8, .int wh8, .int od8, .int tu8, .long lo8, .long hi8])), (x1, .inr (5, [.ref k8, .ref w8, .int (nI nz8), .int ch8])), (k8, .inl (ck8, L8, .inl f8)), (w8, .inl (cw8, L8, .inl g8))]) [0, 1, 2, 3, 4, 5, 6, 7] rfl
          have hD9 := hD.sub (ws' := [(y0, .inr (6, [.ref x0, .int kd, .int wh, .int od, .int tu, .long lo, .long hi])), (x0, .inr (5, [.ref kA, .ref wA, .int (nI nzA), .int chA])), (kA, .inl (ckA, LA, .inl fA)), (wA, .inl (cwA, LA, .inl gA)), (y1, .inr (6, [.ref x1, .int kd8, .int wh8, .int od8, .int tu8, .long lo8, .long hi8])), (x1, .inr (5, [.ref k8, .ref w8, .int (nI nz8), .int ch8])), (k8, .inl (ck8, L8, .inl f8)), (w8, .inl (cw8, L8, .inl g8))]) [0, 1, 2, 3, 4, 5, 6, 7] (by decide) rfl
          have hK9 := hK.sub (tys' := [(ckA, .int), (cwA, .int), (ck8, .int), (cw8, .int)]) [0, 1, 2, 3] rfl
          refine W.widen (k := 120) (n := 52000) (by omega) (by omega) ?_
          refine vx_ret ?_
          exact W.lret (v := r_5.toInt64) hx hb hr (fun t ht hW => ⟨⟨r_5.toInt64, (kA, wA, ckA, cwA, LA, fA, gA, nzA, chA), rfl, hR9, by rw [ht]; exact hP9, va_K.moved hW.alike hK9, hD9, by rw [ht]; exact hcost⟩, hS.F ht⟩) hS.2.2 dX3_putAll_119
        ·
          have ic_6 : ((i : Nat) : Int) < r_5.toInt := tx_nle rfl (nI_toInt (by omega)) c_6
          have hlg9_ := lg_rok hR9
          refine lv_aload_n hx hb dX3_putAll_49 rfl (lv_at hl 3 rfl) ?_
          refine lv_iload_n hx hb dX3_putAll_50 rfl (lv_at hl 0 rfl) ?_
          have hPc := hP.sub (ws' := [(y1, .inr (6, [.ref x1, .int kd8, .int wh8, .int od8, .int tu8, .long lo8, .long hi8])), (x1, .inr (5, [.ref k8, .ref w8, .int (nI nz8), .int ch8])), (k8, .inl (ck8, L8, .inl f8)), (w8, .inl (cw8, L8, .inl g8))]) [4, 5, 6, 7] rfl
          have hKc := hK.sub (tys' := [(ck8, .int), (cw8, .int)]) [2, 3] rfl
          refine ro_calli (va_runU (As := [.int (nI i)]) (rest := []) ⟨hx, hb, hml, hown, hts⟩ (c_X6_placeOf l  dC dI H.size y1 kd8 wh8 od8 tu8 lo8 hi8 x1 k8 w8 ck8 cw8 L8 f8 g8 nz8 ch8 (nI i) hR8 ho18 ho28) (va_cwO 1 hts gX3_putAll_X6_placeOf_u77X6 rfl rfl rfl (List.mem_of_getElem? (l := wsX3_putAll) (i := 73) rfl) (by decide +kernel) ⟨(Nat.le_of_ble_eq_true rfl), (Nat.le_of_ble_eq_true rfl)⟩) ⟨pk_blindR, va_recv hKc hPc (ci := 6) (q0 := 0) rfl rfl, pk_callR hPc hKc⟩ rfl rfl hl.1 rfl (lv_room (Nat.le_of_ble_eq_true rfl)) dX3_putAll_51 ⟨(show 2 * lgN LA - 2 * lgN L + 0 ≤ 120 by omega), (show 4 * LA - 4 * L + 0 ≤ 52000 by omega)⟩) (fun r_7 ur_7 hw => ?_)
          clear hPc hKc
          try dsimp only at hw
          have jr_7 := hw
          refine W.eq (g2 := F0 m 54 ls [.int r_7]) rfl ?_
          refine lv_istore (lv' := [(4, .int r_7), (3, .int (nI i)), (2, .int r_5), (0, .ref y0), (1, .ref y1)]) hx hb dX3_putAll_54 hl (by decide) rfl (fun ls hl => ?_)
          refine lv_aload_n hx hb dX3_putAll_56 rfl (lv_at hl 4 rfl) ?_
          refine va_get (D := (dC, dI)) (ci := 6) (v := .ref x1) (C := RX6) (T := TX6) (N := 7) hx hb hts hi0_ hown hK hP 4 rfl rfl 0 (by decide) hw0_ (fun _ h9 => h9) rfl dX3_putAll_57 ?_
          refine lv_iload hx hb dX3_putAll_60 (lv_at hl 0 rfl) ?_
          have hPc := hP.sub (ws' := [(x1, .inr (5, [.ref k8, .ref w8, .int (nI nz8), .int ch8])), (k8, .inl (ck8, L8, .inl f8)), (w8, .inl (cw8, L8, .inl g8))]) [5, 6, 7] rfl
          have hKc := hK.sub (tys' := [(ck8, .int), (cw8, .int)]) [2, 3] rfl
          refine ro_calli (va_runV (As := [.int r_7]) (rest := []) ⟨hx, hb, hml, hown, hts⟩ (c_X5_key l  dC dI H.size x1 k8 w8 ck8 cw8 L8 f8 g8 nz8 ch8 r_7 hR8) (cwV 1 hts gX3_putAll_X5_key rfl rfl rfl (by decide +kernel) ⟨(Nat.le_of_ble_eq_true rfl), (Nat.le_of_ble_eq_true rfl)⟩) ⟨pk_blindR, va_recv hKc hPc (ci := 5) (q0 := 0) rfl rfl, pk_callR hPc hKc⟩ rfl rfl hl.1 rfl (lv_room (Nat.le_of_ble_eq_true rfl)) dX3_putAll_62 ⟨(show 2 * lgN LA - 2 * lgN L + 0 ≤ 120 by omega), (show 4 * LA - 4 * L + 0 ≤ 52000 by omega)⟩) (fun r_8 ur_8 hw => ?_)
          clear hPc hKc
          try dsimp only at hw
          have jr_8 := hw
          refine W.eq (g2 := F0 m 65 ls [.int r_8]) rfl ?_
          refine lv_istore (lv' := [(5, .int r_8), (4, .int r_7), (3, .int (nI i)), (2, .int r_5), (0, .ref y0), (1, .ref y1)]) hx hb dX3_putAll_65 hl (by decide) rfl (fun ls hl => ?_)
          refine lv_aload_n hx hb dX3_putAll_67 rfl (lv_at hl 5 rfl) ?_
          refine va_get (D := (dC, dI)) (ci := 6) (v := .ref x1) (C := RX6) (T := TX6) (N := 7) hx hb hts hi0_ hown hK hP 4 rfl rfl 0 (by decide) hw0_ (fun _ h9 => h9) rfl dX3_putAll_68 ?_
          refine lv_iload hx hb dX3_putAll_71 (lv_at hl 1 rfl) ?_
          have hPc := hP.sub (ws' := [(x1, .inr (5, [.ref k8, .ref w8, .int (nI nz8), .int ch8])), (k8, .inl (ck8, L8, .inl f8)), (w8, .inl (cw8, L8, .inl g8))]) [5, 6, 7] rfl
          have hKc := hK.sub (tys' := [(ck8, .int), (cw8, .int)]) [2, 3] rfl
          refine ro_calli (va_runV (As := [.int r_7]) (rest := []) ⟨hx, hb, hml, hown, hts⟩ (c_X5_value l  dC dI H.size x1 k8 w8 ck8 cw8 L8 f8 g8 nz8 ch8 r_7 hR8) (cwV 1 hts gX3_putAll_X5_value rfl rfl rfl (by decide +kernel) ⟨(Nat.le_of_ble_eq_true rfl), (Nat.le_of_ble_eq_true rfl)⟩) ⟨pk_blindR, va_recv hKc hPc (ci := 5) (q0 := 0) rfl rfl, pk_callR hPc hKc⟩ rfl rfl hl.1 rfl (lv_room (Nat.le_of_ble_eq_true rfl)) dX3_putAll_73 ⟨(show 2 * lgN LA - 2 * lgN L + 0 ≤ 120 by omega), (show 4 * LA - 4 * L + 0 ≤ 52000 by omega)⟩) (fun r_9 ur_9 hw => ?_)
          clear hPc hKc
          try dsimp only at hw
          have jr_9 := hw
          refine W.eq (g2 := F0 m 76 ls [.int r_9]) rfl ?_
          refine lv_istore (lv' := [(6, .int r_9), (5, .int r_8), (4, .int r_7), (3, .int (nI i)), (2, .int r_5), (0, .ref y0), (1, .ref y1)]) hx hb dX3_putAll_76 hl (by decide) rfl (fun ls hl => ?_)
          refine lv_aload_n hx hb dX3_putAll_78 rfl (lv_at hl 5 rfl) ?_
          refine lv_iload hx hb dX3_putAll_79 (lv_at hl 1 rfl) ?_
          have hPc := hP.sub (ws' := [(y0, .inr (6, [.ref x0, .int kd, .int wh, .int od, .int tu, .long lo, .long hi])), (x0, .inr (5, [.ref kA, .ref wA, .int (nI nzA), .int chA])), (kA, .inl (ckA, LA, .inl fA)), (wA, .inl (cwA, LA, .inl gA))]) [0, 1, 2, 3] rfl
          have hKc := hK.sub (tys' := [(ckA, .int), (cwA, .int)]) [0, 1] rfl
          refine ro_calli (va_runU (As := [.int r_8]) (rest := []) ⟨hx, hb, hml, hown, hts⟩ (c_X6_find l  dC dI H.size y0 kd wh od tu lo hi x0 kA wA ckA cwA LA fA gA nzA chA r_8 hR9 ho1 ho2) (va_cwA 1 hts gX3_putAll_X6_find_u46X6 rfl rfl rfl (hN.xw _ (List.mem_of_getElem? (l := p_xw) (i := 0) rfl)) (by decide +kernel) ⟨(Nat.le_of_ble_eq_true rfl), (Nat.le_of_ble_eq_true rfl)⟩) ⟨pk_blindR, va_recv hKc hPc (ci := 6) (q0 := 0) rfl rfl, pk_callR hPc hKc⟩ rfl rfl hl.1 rfl (lv_room (Nat.le_of_ble_eq_true rfl)) dX3_putAll_81 ⟨(show 2 * lgN LA - 2 * lgN L + 0 ≤ 120 by omega), (show 4 * LA - 4 * L + 0 ≤ 52000 by omega)⟩) (fun r_10 ur_10 hw => ?_)
          clear hPc hKc
          try dsimp only at hw
          have jr_10 := hw
          refine W.eq (g2 := F0 m 84 ls [.int r_10]) rfl ?_
          refine lv_istore (lv' := [(7, .int r_10), (6, .int r_9), (5, .int r_8), (4, .int r_7), (3, .int (nI i)), (2, .int r_5), (0, .ref y0), (1, .ref y1)]) hx hb dX3_putAll_84 hl (by decide) rfl (fun ls hl => ?_)
          refine lv_iload hx hb dX3_putAll_86 (lv_at hl 0 rfl) ?_
          refine lv_if_ge (tgt := 102) hx hb dX3_putAll_88 (by decide) (fun c_11 => ?_) (fun c_11 => ?_)
          ·
            have ic_11 : 0 ≤ r_10.toInt := tx_le (by decide) rfl c_11
            refine lv_aload_n hx hb dX3_putAll_102 rfl (lv_at hl 6 rfl) ?_
            refine lv_iload hx hb dX3_putAll_103 (lv_at hl 0 rfl) ?_
            refine lv_iload hx hb dX3_putAll_105 (lv_at hl 1 rfl) ?_
            have hPc := hP.sub (ws' := [(y0, .inr (6, [.ref x0, .int kd, .int wh, .int od, .int tu, .long lo, .long hi])), (x0, .inr (5, [.ref kA, .ref wA, .int (nI nzA), .int chA])), (kA, .inl (ckA, LA, .inl fA)), (wA, .inl (cwA, LA, .inl gA))]) [0, 1, 2, 3] rfl
            have hDc := hD.sub (ws' := [(y0, .inr (6, [.ref x0, .int kd, .int wh, .int od, .int tu, .long lo, .long hi])), (x0, .inr (5, [.ref kA, .ref wA, .int (nI nzA), .int chA])), (kA, .inl (ckA, LA, .inl fA)), (wA, .inl (cwA, LA, .inl gA))]) [0, 1, 2, 3] (by decide) rfl
            have hKc := hK.sub (tys' := [(ckA, .int), (cwA, .int)]) [0, 1] rfl
            have hFc := va_free (wc := [(y0, .inr (6, [.ref x0, .int kd, .int wh, .int od, .int tu, .long lo, .long hi])), (x0, .inr (5, [.ref kA, .ref wA, .int (nI nzA), .int chA])), (kA, .inl (ckA, LA, .inl fA)), (wA, .inl (cwA, LA, .inl gA))]) hD hS hA [0, 1, 2, 3] rfl
            have hZc := (hZ.kept hS.2.1).narrow hFc
            refine va_calll (va_runU (As := [.int r_10, .int r_9]) (rest := []) ⟨hx, hb, hml, hown, hts⟩ (c_X3_replace_S l hlt dC dI H.size y0 kd wh od tu lo hi x0 kA wA ckA cwA LA fA gA nzA chA r_10 r_9 hR9 ho1 ho2) (va_cwU 2 hts gX3_putAll_X3_replace_u55X6 rfl rfl rfl rfl (by decide +kernel) ⟨(Nat.le_of_ble_eq_true rfl), (Nat.le_of_ble_eq_true rfl)⟩) ⟨pk_blindX, va_recv hKc hPc (ci := 6) (q0 := 0) rfl rfl, pk_callX hPc hKc hDc hN hZc⟩ rfl rfl hl.1 rfl (lv_room (Nat.le_of_ble_eq_true rfl)) dX3_putAll_107 ⟨(show 2 * lgN LA - 2 * lgN L + 0 ≤ 120 by omega), (show 4 * LA - 4 * L + 0 ≤ 52000 by omega)⟩) hS (fun q _ h => hFc q h) hFc (fun r_12 ur_12 t H1 locs ht hvm hw hB hz1 hk1 hS => ?_)
            try dsimp only at hw
            have jr_12 := hw
            obtain ⟨hP1, hK1, hD1⟩ := hB
            rw [ht] at hP1
            have hK1 := va_K.moved hvm.symm hK1
            obtain ⟨hP, hD⟩ := va_join (wr := [(y1, .inr (6, [.ref x1, .int kd8, .int wh8, .int od8, .int tu8, .long lo8, .long hi8])), (x1, .inr (5, [.ref k8, .ref w8, .int (nI nz8), .int ch8])), (k8, .inl (ck8, L8, .inl f8)), (w8, .inl (cw8, L8, .inl g8))]) (w1 := [(y0, .inr (6, [.ref x0, .int kd, .int wh, .int od, .int tu, .long lo, .long hi])), (x0, .inr (5, [.ref kA, .ref wA, .int (nI nzA), .int ur_12.2.2])), (kA, .inl (ckA, LA, .inl ur_12.1)), (wA, .inl (cwA, LA, .inl ur_12.2.1))]) hP hD [0, 1, 2, 3] [4, 5, 6, 7] rfl rfl (by decide) (by decide) hk1 hFc hP1 hD1
            clear hk1 hz1 ht hPc hDc hKc hFc
            generalize H1 = H at hP hS ⊢
            replace hP : va_P (dC, dI) vwCl [(y1, .inr (6, [.ref x1, .int kd8, .int wh8, .int od8, .int tu8, .long lo8, .long hi8])), (x1, .inr (5, [.ref k8, .ref w8, .int (nI nz8), .int ch8])), (k8, .inl (ck8, L8, .inl f8)), (w8, .inl (cw8, L8, .inl g8)), (y0, .inr (6, [.ref x0, .int kd, .int wh, .int od, .int tu, .long lo, .long hi])), (x0, .inr (5, [.ref kA, .ref wA, .int (nI nzA), .int ur_12.2.2])), (kA, .inl (ckA, LA, .inl ur_12.1)), (wA, .inl (cwA, LA, .inl ur_12.2.1))] H := hP
            replace hD : va_D A [(y1, .inr (6, [.ref x1, .int kd8, .int wh8, .int od8, .int tu8, .long lo8, .long hi8])), (x1, .inr (5, [.ref k8, .ref w8, .int (nI nz8), .int ch8])), (k8, .inl (ck8, L8, .inl f8)), (w8, .inl (cw8, L8, .inl g8)), (y0, .inr (6, [.ref x0, .int kd, .int wh, .int od, .int tu, .long lo, .long hi])), (x0, .inr (5, [.ref kA, .ref wA, .int (nI nzA), .int ur_12.2.2])), (kA, .inl (ckA, LA, .inl ur_12.1)), (wA, .inl (cwA, LA, .inl ur_12.2.1))] := hD
            refine W.widen (k := 2 * lgN LA - 2 * lgN L) (n := 4 * LA - 4 * L) (by omega) (by omega) ?_
            refine W.eq (g2 := F0 m 110 ls [.long r_12]) rfl ?_
            refine lv_pop2_2 hx hb dX3_putAll_110 rfl ?_
            refine lv_iinc (v := nI (i + 1)) (lv' := [(3, .int (nI (i + 1))), (7, .int r_10), (6, .int r_9), (5, .int r_8), (4, .int r_7), (2, .int r_5), (0, .ref y0), (1, .ref y1)]) hx hb dX3_putAll_111 hl (k := 4) rfl (by rw [show Int32.ofInt 1 = nI 1 from rfl, nI_add]) (by decide) rfl (fun ls hl => ?_)
            refine lv_goto (tgt := 44) hx hb dX3_putAll_114 (by decide) ?_
            refine W.widen (k := 2 * lgN LA - 2 * lgN L) (n := 4 * LA - 4 * L) (by omega) (by omega) ?_
            exact ih (i := i + 1) (x9 := nI (i + 1)) (ex9 := rfl) (kA := kA) (wA := wA) (ckA := ckA) (cwA := cwA) (LA := LA) (fA := ur_12.1) (gA := ur_12.2.1) (nzA := nzA) (chA := ur_12.2.2) (ls := ls) (H := H) (locs := locs) (hP := hP.sub (ws' := [(y0, .inr (6, [.ref x0, .int kd, .int wh, .int od, .int tu, .long lo, .long hi])), (x0, .inr (5, [.ref kA, .ref wA, .int (nI nzA), .int ur_12.2.2])), (kA, .inl (ckA, LA, .inl ur_12.1)), (wA, .inl (cwA, LA, .inl ur_12.2.1)), (y1, .inr (6, [.ref x1, .int kd8, .int wh8, .int od8, .int tu8, .long lo8, .long hi8])), (x1, .inr (5, [.ref k8, .ref w8, .int (nI nz8), .int ch8])), (k8, .inl (ck8, L8, .inl f8)), (w8, .inl (cw8, L8, .inl g8))]) [4, 5, 6, 7, 0, 1, 2, 3] rfl) (hS := hS) (hD := hD.sub (ws' := [(y0, .inr (6, [.ref x0, .int kd, .int wh, .int od, .int tu, .long lo, .long hi])), (x0, .inr (5, [.ref kA, .ref wA, .int (nI nzA), .int ur_12.2.2])), (kA, .inl (ckA, LA, .inl ur_12.1)), (wA, .inl (cwA, LA, .inl ur_12.2.1)), (y1, .inr (6, [.ref x1, .int kd8, .int wh8, .int od8, .int tu8, .long lo8, .long hi8])), (x1, .inr (5, [.ref k8, .ref w8, .int (nI nz8), .int ch8])), (k8, .inl (ck8, L8, .inl f8)), (w8, .inl (cw8, L8, .inl g8))]) [4, 5, 6, 7, 0, 1, 2, 3] (by decide) rfl) (hK := hK.sub (tys' := [(ckA, .int), (cwA, .int), (ck8, .int), (cw8, .int)]) [0, 1, 2, 3] rfl) (hi9 := by omega) (hn9 := by omega) (hR9 := hR9) (hmn9 := ⟨by omega, by omega⟩) (hl := lv_sub hl [0, 5, 6, 7] rfl)
          ·
            have ic_11 : r_10.toInt < 0 := tx_nle (by decide) rfl c_11
            refine lv_aload_n hx hb dX3_putAll_91 rfl (lv_at hl 6 rfl) ?_
            refine lv_iload hx hb dX3_putAll_92 (lv_at hl 2 rfl) ?_
            refine lv_iload hx hb dX3_putAll_94 (lv_at hl 1 rfl) ?_
            have hPc := hP.sub (ws' := [(y0, .inr (6, [.ref x0, .int kd, .int wh, .int od, .int tu, .long lo, .long hi])), (x0, .inr (5, [.ref kA, .ref wA, .int (nI nzA), .int chA])), (kA, .inl (ckA, LA, .inl fA)), (wA, .inl (cwA, LA, .inl gA))]) [0, 1, 2, 3] rfl
            have hDc := hD.sub (ws' := [(y0, .inr (6, [.ref x0, .int kd, .int wh, .int od, .int tu, .long lo, .long hi])), (x0, .inr (5, [.ref kA, .ref wA, .int (nI nzA), .int chA])), (kA, .inl (ckA, LA, .inl fA)), (wA, .inl (cwA, LA, .inl gA))]) [0, 1, 2, 3] (by decide) rfl
            have hKc := hK.sub (tys' := [(ckA, .int), (cwA, .int)]) [0, 1] rfl
            have hFc := va_free (wc := [(y0, .inr (6, [.ref x0, .int kd, .int wh, .int od, .int tu, .long lo, .long hi])), (x0, .inr (5, [.ref kA, .ref wA, .int (nI nzA), .int chA])), (kA, .inl (ckA, LA, .inl fA)), (wA, .inl (cwA, LA, .inl gA))]) hD hS hA [0, 1, 2, 3] rfl
            refine W.book (fun hz8_ hn8_ => ?_)
            refine va_callv (va_runU (As := [.int r_8, .int r_9]) (rest := []) ⟨hx, hb, hml, hown, hts⟩ (c_X6_enter l  dC dI H.size (hT H) y0 kd wh od tu lo hi x0 kA wA ckA cwA LA fA gA nzA chA r_8 r_9 8000 hR9 ho1 ho2 (by unfold rOK at hR9; omega)) (va_cwA 2 hts gX3_putAll_X6_enter_u43X6 rfl rfl rfl (hN.xw _ (List.mem_of_getElem? (l := p_xw) (i := 1) rfl)) (by decide +kernel) ⟨(Nat.le_of_ble_eq_true rfl), (Nat.le_of_ble_eq_true rfl)⟩) ⟨pk_blindT, va_recv hKc hPc (ci := 6) (q0 := 0) rfl rfl, pk_callT hPc hKc hDc⟩ rfl rfl hl.1 rfl (lv_room (Nat.le_of_ble_eq_true rfl)) dX3_putAll_96 ⟨(show 2 * lgN LA - 2 * lgN L + 2 ≤ 120 by omega), (show 4 * LA - 4 * L + 8000 ≤ 52000 by omega)⟩) hS (fun q _ h => hFc q h) hFc (fun ur_13 t H1 locs ht hvm hw hB hz1 hk1 hS => ?_)
            try dsimp only at hw
            have jr_13 := hw
            obtain ⟨hP1, hK1, hD1, hC1_⟩ := hB
            rw [ht] at hP1 hC1_
            have hK1 := va_K.moved hvm.symm hK1
            obtain ⟨hP, hD⟩ := va_join (wr := [(y1, .inr (6, [.ref x1, .int kd8, .int wh8, .int od8, .int tu8, .long lo8, .long hi8])), (x1, .inr (5, [.ref k8, .ref w8, .int (nI nz8), .int ch8])), (k8, .inl (ck8, L8, .inl f8)), (w8, .inl (cw8, L8, .inl g8))]) (w1 := [(y0, .inr (6, [.ref x0, .int kd, .int wh, .int od, .int tu, .long lo, .long hi])), (x0, .inr (5, [.ref ur_13.1, .ref ur_13.2.1, .int (nI (ur_13.2.2.2.2.2.2.2.1)), .int ur_13.2.2.2.2.2.2.2.2])), (ur_13.1, .inl (ur_13.2.2.1, ur_13.2.2.2.2.1, .inl ur_13.2.2.2.2.2.1)), (ur_13.2.1, .inl (ur_13.2.2.2.1, ur_13.2.2.2.2.1, .inl ur_13.2.2.2.2.2.2.1))]) hP hD [0, 1, 2, 3] [4, 5, 6, 7] rfl rfl (by decide) (by decide) hk1 hFc hP1 hD1
            have hK := hK.app hK1
            have hK : va_K (dC, dI) vwCl [(ckA, .int), (cwA, .int), (ck8, .int), (cw8, .int), (ur_13.2.2.1, .int), (ur_13.2.2.2.1, .int)] s := hK
            have hl6_ := ln_mono hR9 jr_13
            have hn7_ : hT H1 ≤ hT s.heap + (4 * LA - 4 * L + (4 * (ur_13.2.2.2.2.1) - 4 * LA)) := by omega
            have hz7_ : H1.size ≤ s.heap.size + (2 * lgN LA - 2 * lgN L + (2 * lgN (ur_13.2.2.2.2.1) - 2 * lgN LA)) := by omega
            clear hC1_ hn8_ hz8_
            clear hk1 hz1 ht hPc hDc hKc hFc
            generalize H1 = H at hP hS hn7_ hz7_ ⊢
            replace hP : va_P (dC, dI) vwCl [(y1, .inr (6, [.ref x1, .int kd8, .int wh8, .int od8, .int tu8, .long lo8, .long hi8])), (x1, .inr (5, [.ref k8, .ref w8, .int (nI nz8), .int ch8])), (k8, .inl (ck8, L8, .inl f8)), (w8, .inl (cw8, L8, .inl g8)), (y0, .inr (6, [.ref x0, .int kd, .int wh, .int od, .int tu, .long lo, .long hi])), (x0, .inr (5, [.ref ur_13.1, .ref ur_13.2.1, .int (nI (ur_13.2.2.2.2.2.2.2.1)), .int ur_13.2.2.2.2.2.2.2.2])), (ur_13.1, .inl (ur_13.2.2.1, ur_13.2.2.2.2.1, .inl ur_13.2.2.2.2.2.1)), (ur_13.2.1, .inl (ur_13.2.2.2.1, ur_13.2.2.2.2.1, .inl ur_13.2.2.2.2.2.2.1))] H := hP
            replace hD : va_D A [(y1, .inr (6, [.ref x1, .int kd8, .int wh8, .int od8, .int tu8, .long lo8, .long hi8])), (x1, .inr (5, [.ref k8, .ref w8, .int (nI nz8), .int ch8])), (k8, .inl (ck8, L8, .inl f8)), (w8, .inl (cw8, L8, .inl g8)), (y0, .inr (6, [.ref x0, .int kd, .int wh, .int od, .int tu, .long lo, .long hi])), (x0, .inr (5, [.ref ur_13.1, .ref ur_13.2.1, .int (nI (ur_13.2.2.2.2.2.2.2.1)), .int ur_13.2.2.2.2.2.2.2.2])), (ur_13.1, .inl (ur_13.2.2.1, ur_13.2.2.2.2.1, .inl ur_13.2.2.2.2.2.1)), (ur_13.2.1, .inl (ur_13.2.2.2.1, ur_13.2.2.2.2.1, .inl ur_13.2.2.2.2.2.2.1))] := hD
            refine W.tight (k := 2 * lgN LA - 2 * lgN L + (2 * lgN (ur_13.2.2.2.2.1) - 2 * lgN LA)) (n := 4 * LA - 4 * L + (4 * (ur_13.2.2.2.2.1) - 4 * LA)) hz7_ hn7_ ?_
            clear hn7_ hz7_
            refine W.eq (g2 := F0 m 99 ls []) rfl ?_
            have hl6_ := ln_mono hR9 jr_13
            have hR9 : rOK (ur_13.2.2.2.2.1) (ur_13.2.2.2.2.2.2.2.1) := ln_ok jr_13
            refine lv_goto (tgt := 111) hx hb dX3_putAll_99 (by decide) ?_
            refine lv_iinc (v := nI (i + 1)) (lv' := [(3, .int (nI (i + 1))), (7, .int r_10), (6, .int r_9), (5, .int r_8), (4, .int r_7), (2, .int r_5), (0, .ref y0), (1, .ref y1)]) hx hb dX3_putAll_111 hl (k := 4) rfl (by rw [show Int32.ofInt 1 = nI 1 from rfl, nI_add]) (by decide) rfl (fun ls hl => ?_)
            refine lv_goto (tgt := 44) hx hb dX3_putAll_114 (by decide) ?_
            refine W.widen (k := 2 * lgN ur_13.2.2.2.2.1 - 2 * lgN L) (n := 4 * ur_13.2.2.2.2.1 - 4 * L) (by omega) (by omega) ?_
            exact ih (i := i + 1) (x9 := nI (i + 1)) (ex9 := rfl) (kA := ur_13.1) (wA := ur_13.2.1) (ckA := ur_13.2.2.1) (cwA := ur_13.2.2.2.1) (LA := ur_13.2.2.2.2.1) (fA := ur_13.2.2.2.2.2.1) (gA := ur_13.2.2.2.2.2.2.1) (nzA := ur_13.2.2.2.2.2.2.2.1) (chA := ur_13.2.2.2.2.2.2.2.2) (ls := ls) (H := H) (locs := locs) (hP := hP.sub (ws' := [(y0, .inr (6, [.ref x0, .int kd, .int wh, .int od, .int tu, .long lo, .long hi])), (x0, .inr (5, [.ref ur_13.1, .ref ur_13.2.1, .int (nI (ur_13.2.2.2.2.2.2.2.1)), .int ur_13.2.2.2.2.2.2.2.2])), (ur_13.1, .inl (ur_13.2.2.1, ur_13.2.2.2.2.1, .inl ur_13.2.2.2.2.2.1)), (ur_13.2.1, .inl (ur_13.2.2.2.1, ur_13.2.2.2.2.1, .inl ur_13.2.2.2.2.2.2.1)), (y1, .inr (6, [.ref x1, .int kd8, .int wh8, .int od8, .int tu8, .long lo8, .long hi8])), (x1, .inr (5, [.ref k8, .ref w8, .int (nI nz8), .int ch8])), (k8, .inl (ck8, L8, .inl f8)), (w8, .inl (cw8, L8, .inl g8))]) [4, 5, 6, 7, 0, 1, 2, 3] rfl) (hS := hS) (hD := hD.sub (ws' := [(y0, .inr (6, [.ref x0, .int kd, .int wh, .int od, .int tu, .long lo, .long hi])), (x0, .inr (5, [.ref ur_13.1, .ref ur_13.2.1, .int (nI (ur_13.2.2.2.2.2.2.2.1)), .int ur_13.2.2.2.2.2.2.2.2])), (ur_13.1, .inl (ur_13.2.2.1, ur_13.2.2.2.2.1, .inl ur_13.2.2.2.2.2.1)), (ur_13.2.1, .inl (ur_13.2.2.2.1, ur_13.2.2.2.2.1, .inl ur_13.2.2.2.2.2.2.1)), (y1, .inr (6, [.ref x1, .int kd8, .int wh8, .int od8, .int tu8, .long lo8, .long hi8])), (x1, .inr (5, [.ref k8, .ref w8, .int (nI nz8), .int ch8])), (k8, .inl (ck8, L8, .inl f8)), (w8, .inl (cw8, L8, .inl g8))]) [4, 5, 6, 7, 0, 1, 2, 3] (by decide) rfl) (hK := hK.sub (tys' := [(ur_13.2.2.1, .int), (ur_13.2.2.2.1, .int), (ck8, .int), (cw8, .int)]) [4, 5, 2, 3] rfl) (hi9 := by omega) (hn9 := by omega) (hR9 := hR9) (hmn9 := ⟨by omega, by omega⟩) (hl := lv_sub hl [0, 5, 6, 7] rfl)
    ·
      have ic_4 : r_3.toInt = 0 := tx_eq rfl (by decide) c_4
      have hP9 := hP.sub (ws' := [(y0, .inr (6, [.ref x0, .int kd, .int wh, .int od, .int tu, .long lo, .long hi])), (x0, .inr (5, [.ref k0, .ref w0, .int (nI nz), .int ch])), (k0, .inl (ck, L, .inl f)), (w0, .inl (cw, L, .inl g)), (y1, .inr (6, [.ref x1, .int kd8, .int wh8, .int od8, .int tu8, .long lo8, .long hi8])), (x1, .inr (5, [.ref k8, .ref w8, .int (nI nz8), .int ch8])), (k8, .inl (ck8, L8, .inl f8)), (w8, .inl (cw8, L8, .inl g8))]) [0, 1, 2, 3, 4, 5, 6, 7] rfl
      have hD9 := hD.sub (ws' := [(y0, .inr (6, [.ref x0, .int kd, .int wh, .int od, .int tu, .long lo, .long hi])), (x0, .inr (5, [.ref k0, .ref w0, .int (nI nz), .int ch])), (k0, .inl (ck, L, .inl f)), (w0, .inl (cw, L, .inl g)), (y1, .inr (6, [.ref x1, .int kd8, .int wh8, .int od8, .int tu8, .long lo8, .long hi8])), (x1, .inr (5, [.ref k8, .ref w8, .int (nI nz8), .int ch8])), (k8, .inl (ck8, L8, .inl f8)), (w8, .inl (cw8, L8, .inl g8))]) [0, 1, 2, 3, 4, 5, 6, 7] (by decide) rfl
      have hK9 := hK.sub (tys' := [(ck, .int), (cw, .int), (ck8, .int), (cw8, .int)]) [0, 1, 2, 3] rfl
      refine vx_tightX (XC0 := vx_X (fun _ : Unit => True) (fun (E : String) (_ : Unit) (t : State) => (E = "java/lang/IllegalArgumentException" ∨ E = "java/lang/IllegalStateException") ∧ va_P (dC, dI) vwCl [(y0, .inr (6, [.ref x0, .int kd, .int wh, .int od, .int tu, .long lo, .long hi])), (x0, .inr (5, [.ref k0, .ref w0, .int (nI nz), .int ch])), (k0, .inl (ck, L, .inl f)), (w0, .inl (cw, L, .inl g)), (y1, .inr (6, [.ref x1, .int kd8, .int wh8, .int od8, .int tu8, .long lo8, .long hi8])), (x1, .inr (5, [.ref k8, .ref w8, .int (nI nz8), .int ch8])), (k8, .inl (ck8, L8, .inl f8)), (w8, .inl (cw8, L8, .inl g8))] t.heap ∧ va_K (dC, dI) vwCl [(ck, .int), (cw, .int), (ck8, .int), (cw8, .int)] t ∧ va_D A [(y0, .inr (6, [.ref x0, .int kd, .int wh, .int od, .int tu, .long lo, .long hi])), (x0, .inr (5, [.ref k0, .ref w0, .int (nI nz), .int ch])), (k0, .inl (ck, L, .inl f)), (w0, .inl (cw, L, .inl g)), (y1, .inr (6, [.ref x1, .int kd8, .int wh8, .int od8, .int tu8, .long lo8, .long hi8])), (x1, .inr (5, [.ref k8, .ref w8, .int (nI nz8), .int ch8])), (k8, .inl (ck8, L8, .inl f8)), (w8, .inl (cw8, L8, .inl g8))]) A) 1 6 (by omega) (by omega) (fun E t9 h9 hz9 hn9 => by obtain ⟨u9, g1, g2, g3⟩ := h9; exact ⟨u9, g1, ⟨g2, hz9, hn9⟩, g3⟩) ?_
      obtain ⟨sa, hsa⟩ := hN.stX3_40
      exact vx_throwS hx hb hlt (own := RX3) (cls := "java/lang/IllegalStateException") (text := "full") (names := ["java/lang/RuntimeException", "java/lang/Exception"]) hown (by decide +kernel) (by decide +kernel) hw1_ hw2_ hsa (tx_hat hN.xw (fun w h => hts w (at_X3_putAll_27 w h)) ng_RX3_42) og_RX3_42 hZ.1 hZ.2 hS (by rw [hml]; exact hl.1) dX3_putAll_27 dX3_putAll_30 dX3_putAll_31 dX3_putAll_33 dX3_putAll_36 (fun x hx9 => (htab x hx9).elim) (Nat.le_of_ble_eq_true rfl) (Nat.le_of_ble_eq_true rfl) (Nat.le_of_ble_eq_true rfl) (Nat.le_of_ble_eq_true rfl) hlocks (fun t hvm hz hq => ⟨(), trivial, ⟨Or.inr rfl, hP9.kept (fun k x hx => hq x.1 (hP9 k x hx).lt), va_K.moved hvm hK9, hD9⟩, ⟨Nat.le_trans hS.1 hz, fun q h1 h2 => (hq q (Nat.lt_of_lt_of_le h1 hS.1)).trans (hS.2.1 q h1 h2)⟩⟩) hS.2.2 (Nat.le_of_ble_eq_true rfl) (Nat.le_of_ble_eq_true rfl)
set_option maxHeartbeats 4000000 in
set_option maxRecDepth 100000 in
/-- Keyed.putAll of S and S -/
theorem c_X3_putAll_SSe (l : Launch) (hlt : l.stackTraces = false) (dC : Nat → ClassId) (dI : Nat → Nat → Nat) (sz : Nat) (T0 : Nat) (y0 : Nat) (kd : Int32) (wh : Int32) (od : Int32) (tu : Int32) (lo : Int64) (hi : Int64) (x0 : Nat) (k0 : Nat) (w0 : Nat) (ck : ClassId) (cw : ClassId) (L : Nat) (f : Nat → Int32) (g : Nat → Int32) (nz : Nat) (ch : Int32) (y1 : Nat) (kd8 : Int32) (wh8 : Int32) (od8 : Int32) (tu8 : Int32) (lo8 : Int64) (hi8 : Int64) (hR9 : rOK L nz) (ho1 : 0 ≤ od.toInt) (ho2 : od.toInt ≤ 3) (ho18 : 0 ≤ od8.toInt) (ho28 : od8.toInt ≤ 3) : vx_Met l yX3_putAll wsX3_putAll ({ frames := 7, cells := 120, slots := 52000, locals := 300 }) (va_Pc [.ref y0, .ref y1] (pk_PreXT (dC, dI) [(y0, .inr (6, [.ref x0, .int kd, .int wh, .int od, .int tu, .long lo, .long hi])), (y1, .inr (6, [.ref x0, .int kd8, .int wh8, .int od8, .int tu8, .long lo8, .long hi8])), (x0, .inr (5, [.ref k0, .ref w0, .int (nI nz), .int ch])), (k0, .inl (ck, L, .inl f)), (w0, .inl (cw, L, .inl g))] [(ck, .int), (cw, .int)] sz T0)) (va_Ql (fun (x : Int64) (u : Nat × Nat × ClassId × ClassId × Nat × (Nat → Int32) × (Nat → Int32) × Nat × Int32) => rOK (u.2.2.2.2.1) (u.2.2.2.2.2.2.2.1)) (fun (u : Nat × Nat × ClassId × ClassId × Nat × (Nat → Int32) × (Nat → Int32) × Nat × Int32) (t : State) => va_P (dC, dI) vwCl [(y0, .inr (6, [.ref x0, .int kd, .int wh, .int od, .int tu, .long lo, .long hi])), (y1, .inr (6, [.ref x0, .int kd8, .int wh8, .int od8, .int tu8, .long lo8, .long hi8])), (x0, .inr (5, [.ref u.1, .ref u.2.1, .int (nI (u.2.2.2.2.2.2.2.1)), .int u.2.2.2.2.2.2.2.2])), (u.1, .inl (u.2.2.1, u.2.2.2.2.1, .inl u.2.2.2.2.2.1)), (u.2.1, .inl (u.2.2.2.1, u.2.2.2.2.1, .inl u.2.2.2.2.2.2.1))] t.heap ∧ va_K (dC, dI) vwCl [(u.2.2.1, .int), (u.2.2.2.1, .int)] t ∧ va_D (va_A [(y0, .inr (6, [.ref x0, .int kd, .int wh, .int od, .int tu, .long lo, .long hi])), (y1, .inr (6, [.ref x0, .int kd8, .int wh8, .int od8, .int tu8, .long lo8, .long hi8])), (x0, .inr (5, [.ref k0, .ref w0, .int (nI nz), .int ch])), (k0, .inl (ck, L, .inl f)), (w0, .inl (cw, L, .inl g))] sz) [(y0, .inr (6, [.ref x0, .int kd, .int wh, .int od, .int tu, .long lo, .long hi])), (y1, .inr (6, [.ref x0, .int kd8, .int wh8, .int od8, .int tu8, .long lo8, .long hi8])), (x0, .inr (5, [.ref u.1, .ref u.2.1, .int (nI (u.2.2.2.2.2.2.2.1)), .int u.2.2.2.2.2.2.2.2])), (u.1, .inl (u.2.2.1, u.2.2.2.2.1, .inl u.2.2.2.2.2.1)), (u.2.1, .inl (u.2.2.2.1, u.2.2.2.2.1, .inl u.2.2.2.2.2.2.1))] ∧ hT t.heap + 4 * L ≤ T0 + 4 * (u.2.2.2.2.1) ∧ t.heap.size + 2 * lgN L ≤ sz + 2 * lgN (u.2.2.2.2.1)) (va_A [(y0, .inr (6, [.ref x0, .int kd, .int wh, .int od, .int tu, .long lo, .long hi])), (y1, .inr (6, [.ref x0, .int kd8, .int wh8, .int od8, .int tu8, .long lo8, .long hi8])), (x0, .inr (5, [.ref k0, .ref w0, .int (nI nz), .int ch])), (k0, .inl (ck, L, .inl f)), (w0, .inl (cw, L, .inl g))] sz)) (vx_X (fun _ : Unit => True) (fun (E : String) (_ : Unit) (t : State) => ((E = "java/lang/IllegalArgumentException" ∨ E = "java/lang/IllegalStateException") ∧ va_P (dC, dI) vwCl [(y0, .inr (6, [.ref x0, .int kd, .int wh, .int od, .int tu, .long lo, .long hi])), (y1, .inr (6, [.ref x0, .int kd8, .int wh8, .int od8, .int tu8, .long lo8, .long hi8])), (x0, .inr (5, [.ref k0, .ref w0, .int (nI nz), .int ch])), (k0, .inl (ck, L, .inl f)), (w0, .inl (cw, L, .inl g))] t.heap ∧ va_K (dC, dI) vwCl [(ck, .int), (cw, .int)] t ∧ va_D (va_A [(y0, .inr (6, [.ref x0, .int kd, .int wh, .int od, .int tu, .long lo, .long hi])), (y1, .inr (6, [.ref x0, .int kd8, .int wh8, .int od8, .int tu8, .long lo8, .long hi8])), (x0, .inr (5, [.ref k0, .ref w0, .int (nI nz), .int ch])), (k0, .inl (ck, L, .inl f)), (w0, .inl (cw, L, .inl g))] sz) [(y0, .inr (6, [.ref x0, .int kd, .int wh, .int od, .int tu, .long lo, .long hi])), (y1, .inr (6, [.ref x0, .int kd8, .int wh8, .int od8, .int tu8, .long lo8, .long hi8])), (x0, .inr (5, [.ref k0, .ref w0, .int (nI nz), .int ch])), (k0, .inl (ck, L, .inl f)), (w0, .inl (cw, L, .inl g))]) ∧ t.heap.size ≤ sz + 1 ∧ hT t.heap ≤ T0 + 6) (va_A [(y0, .inr (6, [.ref x0, .int kd, .int wh, .int od, .int tu, .long lo, .long hi])), (y1, .inr (6, [.ref x0, .int kd8, .int wh8, .int od8, .int tu8, .long lo8, .long hi8])), (x0, .inr (5, [.ref k0, .ref w0, .int (nI nz), .int ch])), (k0, .inl (ck, L, .inl f)), (w0, .inl (cw, L, .inl g))] sz)) 120 52000 (va_A [(y0, .inr (6, [.ref x0, .int kd, .int wh, .int od, .int tu, .long lo, .long hi])), (y1, .inr (6, [.ref x0, .int kd8, .int wh8, .int od8, .int tu8, .long lo8, .long hi8])), (x0, .inr (5, [.ref k0, .ref w0, .int (nI nz), .int ch])), (k0, .inl (ck, L, .inl f)), (w0, .inl (cw, L, .inl g))] sz) := by
  refine vx_ofW (cc := cX3_putAll) (maxL := 8) (ret := (some .long)) (by decide) rfl ?_
  intro p e s m args below meth c s₁ B hml htab hv
  obtain ⟨rfl, ⟨hsz, hP, hK, hD0, hN, hZ⟩, hT0⟩ := hv
  have hx := B.exec
  have hb := B.bytes
  have hr := B.returns
  have hts := atoms_spec (ws := wsX3_putAll) B.pre
  have hown : s.vm.findClass RX3 = some m.cls := findClass_of_methodNamed B.named
  have hlocks := B.notSynchronized
  subst hsz
  subst hT0
  have hD := hD0.self (sz := s.heap.size)
  generalize hAe : va_A [(y0, .inr (6, [.ref x0, .int kd, .int wh, .int od, .int tu, .long lo, .long hi])), (y1, .inr (6, [.ref x0, .int kd8, .int wh8, .int od8, .int tu8, .long lo8, .long hi8])), (x0, .inr (5, [.ref k0, .ref w0, .int (nI nz), .int ch])), (k0, .inl (ck, L, .inl f)), (w0, .inl (cw, L, .inl g))] s.heap.size = A at hZ hD ⊢
  have hA : ∀ q : Nat, s.heap.size ≤ q → A q := fun q h => by rw [← hAe]; exact Or.inr h
  have hS : va_S A s.heap s.heap [] := va_S.rf
  have hP : va_P (dC, dI) vwCl [(y0, .inr (6, [.ref x0, .int kd, .int wh, .int od, .int tu, .long lo, .long hi])), (y1, .inr (6, [.ref x0, .int kd8, .int wh8, .int od8, .int tu8, .long lo8, .long hi8])), (x0, .inr (5, [.ref k0, .ref w0, .int (nI nz), .int ch])), (k0, .inl (ck, L, .inl f)), (w0, .inl (cw, L, .inl g))] s.heap := hP
  have hl := lv_entry ([.ref y0, .ref y1]) (n := 8) (Nat.le_of_ble_eq_true rfl)
  rw [lg_entry_eq]
  generalize (lg_sl ([.ref y0, .ref y1]) ++ List.replicate (8 - (lg_sl ([.ref y0, .ref y1])).length) Slot.unset).toArray = ls at hl ⊢
  have hl : lv_has ls 8 [(0, .ref y0), (1, .ref y1)] := hl
  have hw0_ := hts (.fieldLink RX3 9 "KeyAtlas$Keyed" "rows" "LKeyAtlas$Rows;") (List.mem_of_getElem? (l := wsX3_putAll) (i := 5) rfl)
  have hw1_ := hts (.classLink RX3 38 "java/lang/IllegalStateException") (List.mem_of_getElem? (l := wsX3_putAll) (i := 3) rfl)
  have hw2_ := hts (.initialized "java/lang/IllegalStateException") (List.mem_of_getElem? (l := wsX3_putAll) (i := 4) rfl)
  have hi0_ : ∀ w ∈ u_ws RX6 TX6 7, w ∈ wsX3_putAll := fun w h => List.mem_cons_of_mem _ (List.mem_append_left _ (List.mem_append_left _ (List.mem_append_left _ (List.mem_append_right _ h))))
  obtain ⟨hL1, hL2, hz1, hz2⟩ := id hR9
  refine lv_aload_n hx hb dX3_putAll_0 rfl (lv_at hl 1 rfl) ?_
  refine lv_aload_n hx hb dX3_putAll_1 rfl (lv_at hl 0 rfl) ?_
  refine lv_acmp_ne (rx := some y1) (ry := some y0) (tgt := 15) hx hb dX3_putAll_2 (by decide) (fun c_1 => ?_) (fun c_1 => absurd (hD.1 0 1 _ _ rfl rfl (Option.some.inj c_1).symm) (by decide))
  refine lv_aload_n hx hb dX3_putAll_15 rfl (lv_at hl 0 rfl) ?_
  refine lv_aload_n hx hb dX3_putAll_16 rfl (lv_at hl 0 rfl) ?_
  refine lv_aload_n hx hb dX3_putAll_17 rfl (lv_at hl 1 rfl) ?_
  have hPc := hP.sub (ws' := [(y0, .inr (6, [.ref x0, .int kd, .int wh, .int od, .int tu, .long lo, .long hi])), (x0, .inr (5, [.ref k0, .ref w0, .int (nI nz), .int ch])), (k0, .inl (ck, L, .inl f)), (w0, .inl (cw, L, .inl g)), (y1, .inr (6, [.ref x0, .int kd8, .int wh8, .int od8, .int tu8, .long lo8, .long hi8])), (x0, .inr (5, [.ref k0, .ref w0, .int (nI nz), .int ch])), (k0, .inl (ck, L, .inl f)), (w0, .inl (cw, L, .inl g))]) [0, 2, 3, 4, 1, 2, 3, 4] rfl
  have hKc := hK.sub (tys' := [(ck, .int), (cw, .int), (ck, .int), (cw, .int)]) [0, 1, 0, 1] rfl
  refine rox_calli (vx_runU (As := [.ref y1]) (rest := [.ref y0]) ⟨hx, hb, hml, hown, hts⟩ (c_X3_newKeysOf_SS l hlt dC dI s.heap.size y0 kd wh od tu lo hi x0 k0 w0 ck cw L f g nz ch y1 kd8 wh8 od8 tu8 lo8 hi8 x0 k0 w0 ck cw L f g nz ch hR9 ho1 ho2 hR9 ho18 ho28) (va_cwU 1 hts gX3_putAll_X3_newKeysOf_u90X6 rfl rfl rfl rfl (by decide +kernel) ⟨(Nat.le_of_ble_eq_true rfl), (Nat.le_of_ble_eq_true rfl)⟩) ⟨pk_blindXR, va_recv hKc hPc (ci := 6) (q0 := 0) rfl rfl, pk_callXR hPc hKc hN ((hZ.kept hS.2.1).narrow (fun q h9 => hA q (Nat.le_trans hS.1 h9)))⟩ rfl rfl hl.1 rfl (lv_room (Nat.le_of_ble_eq_true rfl)) dX3_putAll_18 ⟨(Nat.le_of_ble_eq_true rfl), (Nat.le_of_ble_eq_true rfl)⟩) hS (fun q h9 => hA q (Nat.le_trans hS.1 h9)) (fun E ce q9 u9 t H1 locs ht hvm hw hB hz1 hk1 hS hce hcv hcl => ?_) (fun r_2 ur_2 locs hw hS => ?_)
  ·
    try dsimp only at hB
    refine vx_tightO (XC0 := vx_X (fun _ : Unit => True) (fun (E : String) (_ : Unit) (t : State) => (E = "java/lang/IllegalArgumentException" ∨ E = "java/lang/IllegalStateException") ∧ va_P (dC, dI) vwCl [(y0, .inr (6, [.ref x0, .int kd, .int wh, .int od, .int tu, .long lo, .long hi])), (y1, .inr (6, [.ref x0, .int kd8, .int wh8, .int od8, .int tu8, .long lo8, .long hi8])), (x0, .inr (5, [.ref k0, .ref w0, .int (nI nz), .int ch])), (k0, .inl (ck, L, .inl f)), (w0, .inl (cw, L, .inl g))] t.heap ∧ va_K (dC, dI) vwCl [(ck, .int), (cw, .int)] t ∧ va_D A [(y0, .inr (6, [.ref x0, .int kd, .int wh, .int od, .int tu, .long lo, .long hi])), (y1, .inr (6, [.ref x0, .int kd8, .int wh8, .int od8, .int tu8, .long lo8, .long hi8])), (x0, .inr (5, [.ref k0, .ref w0, .int (nI nz), .int ch])), (k0, .inl (ck, L, .inl f)), (w0, .inl (cw, L, .inl g))]) A) 1 6 (by omega) (by omega) (fun E t9 h9 hz9 hn9 => by obtain ⟨u9, g1, g2, g3⟩ := h9; exact ⟨u9, g1, ⟨g2, hz9, hn9⟩, g3⟩) ?_
    exact vx_out (fun x hx9 => (htab x hx9).elim) hlocks hce hcv hcl (fun t9 ht9 hal9 => ⟨(), trivial, ⟨Or.inl hB, by rw [ht9]; exact hP.kept (fun k x hx => hk1 x.1 (hP k x hx).lt), va_K.moved hal9 hK, hD⟩, hS.F ht9⟩) hS.2.2 (by omega) (by omega)
  ·
    refine W.tight (k := 0) (n := 0) (Nat.le_refl _) (Nat.le_refl _) ?_
    clear hPc hKc
    try dsimp only at hw
    have jr_2 := hw
    refine W.eq (g2 := F0 m 21 ls [.int r_2, .ref y0]) rfl ?_
    have hPc := hP.sub (ws' := [(y0, .inr (6, [.ref x0, .int kd, .int wh, .int od, .int tu, .long lo, .long hi])), (x0, .inr (5, [.ref k0, .ref w0, .int (nI nz), .int ch])), (k0, .inl (ck, L, .inl f)), (w0, .inl (cw, L, .inl g))]) [0, 2, 3, 4] rfl
    have hKc := hK.sub (tys' := [(ck, .int), (cw, .int)]) [0, 1] rfl
    refine ro_calli (va_runU (As := [.int r_2]) (rest := []) ⟨hx, hb, hml, hown, hts⟩ (c_X6_hasRoomFor l  dC dI s.heap.size y0 kd wh od tu lo hi x0 k0 w0 ck cw L f g nz ch r_2 hR9 ho1 ho2) (va_cwO 1 hts gX3_putAll_X6_hasRoomFor_u35X6 rfl rfl rfl (List.mem_of_getElem? (l := wsX3_putAll) (i := 131) rfl) (by decide +kernel) ⟨(Nat.le_of_ble_eq_true rfl), (Nat.le_of_ble_eq_true rfl)⟩) ⟨pk_blindR, va_recv hKc hPc (ci := 6) (q0 := 0) rfl rfl, pk_callR hPc hKc⟩ rfl rfl hl.1 rfl (lv_room (Nat.le_of_ble_eq_true rfl)) dX3_putAll_21 ⟨(Nat.le_of_ble_eq_true rfl), (Nat.le_of_ble_eq_true rfl)⟩) (fun r_3 ur_3 hw => ?_)
    clear hPc hKc
    try dsimp only at hw
    have jr_3 := hw
    refine W.eq (g2 := F0 m 24 ls [.int r_3]) rfl ?_
    refine lv_if_ne (tgt := 37) hx hb dX3_putAll_24 (by decide) (fun c_4 => ?_) (fun c_4 => ?_)
    ·
      have ic_4 : ¬ r_3.toInt = 0 := tx_ne rfl (by decide) c_4
      refine lv_aload_n hx hb dX3_putAll_37 rfl (lv_at hl 1 rfl) ?_
      have hPc := hP.sub (ws' := [(y1, .inr (6, [.ref x0, .int kd8, .int wh8, .int od8, .int tu8, .long lo8, .long hi8])), (x0, .inr (5, [.ref k0, .ref w0, .int (nI nz), .int ch])), (k0, .inl (ck, L, .inl f)), (w0, .inl (cw, L, .inl g))]) [1, 2, 3, 4] rfl
      have hKc := hK.sub (tys' := [(ck, .int), (cw, .int)]) [0, 1] rfl
      refine ro_calli (va_runU (As := []) (rest := []) ⟨hx, hb, hml, hown, hts⟩ (c_X6_size l  dC dI s.heap.size y1 kd8 wh8 od8 tu8 lo8 hi8 x0 k0 w0 ck cw L f g nz ch hR9 ho18 ho28) (va_cwO 0 hts gX3_putAll_X6_size_u72X6 rfl rfl rfl (List.mem_of_getElem? (l := wsX3_putAll) (i := 16) rfl) (by decide +kernel) ⟨(Nat.le_of_ble_eq_true rfl), (Nat.le_of_ble_eq_true rfl)⟩) ⟨pk_blindR, va_recv hKc hPc (ci := 6) (q0 := 0) rfl rfl, pk_callR hPc hKc⟩ rfl rfl hl.1 rfl (lv_room (Nat.le_of_ble_eq_true rfl)) dX3_putAll_38 ⟨(Nat.le_of_ble_eq_true rfl), (Nat.le_of_ble_eq_true rfl)⟩) (fun r_5 ur_5 hw => ?_)
      clear hPc hKc
      try dsimp only at hw
      have jr_5 := hw
      refine W.eq (g2 := F0 m 41 ls [.int r_5]) rfl ?_
      have hsz9 : r_5.toInt ≤ 1000 := by have h9 := jr_5; omega
      refine lv_istore_n (lv' := [(2, .int r_5), (0, .ref y0), (1, .ref y1)]) hx hb dX3_putAll_41 rfl hl (by decide) rfl (fun ls hl => ?_)
      refine lv_iconst (v := 0) hx hb dX3_putAll_42 (by decide) ?_
      refine lv_istore_n (lv' := [(3, .int 0), (2, .int r_5), (0, .ref y0), (1, .ref y1)]) hx hb dX3_putAll_43 rfl hl (by decide) rfl (fun ls hl => ?_)
      obtain ⟨H, hH9⟩ : ∃ H : Heap, H = s.heap := ⟨_, rfl⟩
      refine tx_hv2 hH9 ?_
      have hP : va_P (dC, dI) vwCl [(y0, .inr (6, [.ref x0, .int kd, .int wh, .int od, .int tu, .long lo, .long hi])), (y1, .inr (6, [.ref x0, .int kd8, .int wh8, .int od8, .int tu8, .long lo8, .long hi8])), (x0, .inr (5, [.ref k0, .ref w0, .int (nI nz), .int ch])), (k0, .inl (ck, L, .inl f)), (w0, .inl (cw, L, .inl g))] H := by rw [hH9]; exact hP
      replace hS : va_S A s.heap H locs := by rw [hH9]; exact hS
      clear hH9
      obtain ⟨i, es_i⟩ : ∃ z : Nat, z = 0 := ⟨_, rfl⟩
      obtain ⟨x9, ex9⟩ : ∃ y : Int32, y = nI i := ⟨_, rfl⟩
      obtain ⟨kA, ew_kA⟩ : ∃ z : Nat, z = k0 := ⟨_, rfl⟩
      obtain ⟨wA, ew_wA⟩ : ∃ z : Nat, z = w0 := ⟨_, rfl⟩
      obtain ⟨ckA, ew_ckA⟩ : ∃ z : ClassId, z = ck := ⟨_, rfl⟩
      obtain ⟨cwA, ew_cwA⟩ : ∃ z : ClassId, z = cw := ⟨_, rfl⟩
      obtain ⟨LA, ew_LA⟩ : ∃ z : Nat, z = L := ⟨_, rfl⟩
      obtain ⟨fA, ew_fA⟩ : ∃ z : (Nat → Int32), z = f := ⟨_, rfl⟩
      obtain ⟨gA, ew_gA⟩ : ∃ z : (Nat → Int32), z = g := ⟨_, rfl⟩
      obtain ⟨nzA, ew_nzA⟩ : ∃ z : Nat, z = nz := ⟨_, rfl⟩
      obtain ⟨chA, ew_chA⟩ : ∃ z : Int32, z = ch := ⟨_, rfl⟩
      obtain ⟨n9, en9⟩ : ∃ n : Nat, n = 1001 := ⟨_, rfl⟩
      replace hl : lv_has ls 8 [(3, .int x9), (2, .int r_5), (0, .ref y0), (1, .ref y1)] := by subst ex9; subst es_i; subst ew_kA; subst ew_wA; subst ew_ckA; subst ew_cwA; subst ew_LA; subst ew_fA; subst ew_gA; subst ew_nzA; subst ew_chA; exact hl
      replace hP : va_P (dC, dI) vwCl [(y0, .inr (6, [.ref x0, .int kd, .int wh, .int od, .int tu, .long lo, .long hi])), (y1, .inr (6, [.ref x0, .int kd8, .int wh8, .int od8, .int tu8, .long lo8, .long hi8])), (x0, .inr (5, [.ref kA, .ref wA, .int (nI nzA), .int chA])), (kA, .inl (ckA, LA, .inl fA)), (wA, .inl (cwA, LA, .inl gA))] H := by subst ex9; subst es_i; subst ew_kA; subst ew_wA; subst ew_ckA; subst ew_cwA; subst ew_LA; subst ew_fA; subst ew_gA; subst ew_nzA; subst ew_chA; exact hP.sub [0, 1, 2, 3, 4] rfl
      replace hD : va_D A [(y0, .inr (6, [.ref x0, .int kd, .int wh, .int od, .int tu, .long lo, .long hi])), (y1, .inr (6, [.ref x0, .int kd8, .int wh8, .int od8, .int tu8, .long lo8, .long hi8])), (x0, .inr (5, [.ref kA, .ref wA, .int (nI nzA), .int chA])), (kA, .inl (ckA, LA, .inl fA)), (wA, .inl (cwA, LA, .inl gA))] := by subst ex9; subst es_i; subst ew_kA; subst ew_wA; subst ew_ckA; subst ew_cwA; subst ew_LA; subst ew_fA; subst ew_gA; subst ew_nzA; subst ew_chA; exact hD.sub [0, 1, 2, 3, 4] (by decide) rfl
      have hK : va_K (dC, dI) vwCl [(ckA, .int), (cwA, .int)] s := by subst ex9; subst es_i; subst ew_kA; subst ew_wA; subst ew_ckA; subst ew_cwA; subst ew_LA; subst ew_fA; subst ew_gA; subst ew_nzA; subst ew_chA; exact hK.sub [0, 1] rfl
      have hi9 : i ≤ 1000 := by subst ex9; subst es_i; subst ew_kA; subst ew_wA; subst ew_ckA; subst ew_cwA; subst ew_LA; subst ew_fA; subst ew_gA; subst ew_nzA; subst ew_chA; subst en9; exact by omega
      have hn9 : 1001 ≤ i + n9 := by subst ex9; subst es_i; subst ew_kA; subst ew_wA; subst ew_ckA; subst ew_cwA; subst ew_LA; subst ew_fA; subst ew_gA; subst ew_nzA; subst ew_chA; subst en9; exact by omega
      have hR9 : rOK LA nzA := by subst ex9; subst es_i; subst ew_kA; subst ew_wA; subst ew_ckA; subst ew_cwA; subst ew_LA; subst ew_fA; subst ew_gA; subst ew_nzA; subst ew_chA; subst en9; exact hR9
      have hmn9 : L ≤ LA ∧ lgN L ≤ lgN LA := by subst ex9; subst es_i; subst ew_kA; subst ew_wA; subst ew_ckA; subst ew_cwA; subst ew_LA; subst ew_fA; subst ew_gA; subst ew_nzA; subst ew_chA; subst en9; exact ⟨Nat.le_refl _, Nat.le_refl _⟩
      refine W.widen (k := 2 * lgN LA - 2 * lgN L) (n := 4 * LA - 4 * L) (by omega) (by omega) ?_
      clear en9 es_i ew_kA ew_wA ew_ckA ew_cwA ew_LA ew_fA ew_gA ew_nzA ew_chA
      induction n9 generalizing i x9 kA wA ckA cwA LA fA gA nzA chA ls H locs with
      | zero => exact absurd hn9 (by omega)
      | succ n9 ih =>
        subst ex9
        refine lv_iload_n hx hb dX3_putAll_44 rfl (lv_at hl 0 rfl) ?_
        refine lv_iload_n hx hb dX3_putAll_45 rfl (lv_at hl 1 rfl) ?_
        refine lv_icmp_ge (tgt := 117) hx hb dX3_putAll_46 (by decide) (fun c_6 => ?_) (fun c_6 => ?_)
        ·
          have ic_6 : r_5.toInt ≤ ((i : Nat) : Int) := tx_le rfl (nI_toInt (by omega)) c_6
          refine lv_iload_n hx hb dX3_putAll_117 rfl (lv_at hl 1 rfl) ?_
          refine lv_i2l (v := r_5.toInt64) hx hb dX3_putAll_118 rfl ?_
          refine W.book (fun hz9_ hn9_ => ?_)
          have hcost : hT H + 4 * L ≤ hT s.heap + 4 * (LA) ∧ H.size + 2 * lgN L ≤ s.heap.size + 2 * lgN (LA) := by constructor <;> omega
          have hlg9_ := lg_rok hR9
          have hP9 := hP.sub (ws' := [(y0, .inr (6, [.ref x0, .int kd, .int wh, .int od, .int tu, .long lo, .long hi])), (y1, .inr (6, [.ref x0, .int kd8, .int wh8, .int od8, .int tu8, .long lo8, .long hi8])), (x0, .inr (5, [.ref kA, .ref wA, .int (nI nzA), .int chA])), (kA, .inl (ckA, LA, .inl fA)), (wA, .inl (cwA, LA, .inl gA))]) [0, 1, 2, 3, 4] rfl
          have hD9 := hD.sub (ws' := [(y0, .inr (6, [.ref x0, .int kd, .int wh, .int od, .int tu, .long lo, .long hi])), (y1, .inr (6, [.ref x0, .int kd8, .int wh8, .int od8, .int tu8, .long lo8, .long hi8])), (x0, .inr (5, [.ref kA, .ref wA, .int (nI nzA), .int chA])), (kA, .inl (ckA, LA, .inl fA)), (wA, .inl (cwA, LA, .inl gA))]) [0, 1, 2, 3, 4] (by decide) rfl
          have hK9 := hK.sub (tys' := [(ckA, .int), (cwA, .int)]) [0, 1] rfl
          refine W.widen (k := 120) (n := 52000) (by omega) (by omega) ?_
          refine vx_ret ?_
          exact W.lret (v := r_5.toInt64) hx hb hr (fun t ht hW => ⟨⟨r_5.toInt64, (kA, wA, ckA, cwA, LA, fA, gA, nzA, chA), rfl, hR9, by rw [ht]; exact hP9, va_K.moved hW.alike hK9, hD9, by rw [ht]; exact hcost⟩, hS.F ht⟩) hS.2.2 dX3_putAll_119
        ·
          have ic_6 : ((i : Nat) : Int) < r_5.toInt := tx_nle rfl (nI_toInt (by omega)) c_6
          have hlg9_ := lg_rok hR9
          refine lv_aload_n hx hb dX3_putAll_49 rfl (lv_at hl 3 rfl) ?_
          refine lv_iload_n hx hb dX3_putAll_50 rfl (lv_at hl 0 rfl) ?_
          have hPc := hP.sub (ws' := [(y1, .inr (6, [.ref x0, .int kd8, .int wh8, .int od8, .int tu8, .long lo8, .long hi8])), (x0, .inr (5, [.ref kA, .ref wA, .int (nI nzA), .int chA])), (kA, .inl (ckA, LA, .inl fA)), (wA, .inl (cwA, LA, .inl gA))]) [1, 2, 3, 4] rfl
          have hKc := hK.sub (tys' := [(ckA, .int), (cwA, .int)]) [0, 1] rfl
          refine ro_calli (va_runU (As := [.int (nI i)]) (rest := []) ⟨hx, hb, hml, hown, hts⟩ (c_X6_placeOf l  dC dI H.size y1 kd8 wh8 od8 tu8 lo8 hi8 x0 kA wA ckA cwA LA fA gA nzA chA (nI i) hR9 ho18 ho28) (va_cwO 1 hts gX3_putAll_X6_placeOf_u77X6 rfl rfl rfl (List.mem_of_getElem? (l := wsX3_putAll) (i := 73) rfl) (by decide +kernel) ⟨(Nat.le_of_ble_eq_true rfl), (Nat.le_of_ble_eq_true rfl)⟩) ⟨pk_blindR, va_recv hKc hPc (ci := 6) (q0 := 0) rfl rfl, pk_callR hPc hKc⟩ rfl rfl hl.1 rfl (lv_room (Nat.le_of_ble_eq_true rfl)) dX3_putAll_51 ⟨(show 2 * lgN LA - 2 * lgN L + 0 ≤ 120 by omega), (show 4 * LA - 4 * L + 0 ≤ 52000 by omega)⟩) (fun r_7 ur_7 hw => ?_)
          clear hPc hKc
          try dsimp only at hw
          have jr_7 := hw
          refine W.eq (g2 := F0 m 54 ls [.int r_7]) rfl ?_
          refine lv_istore (lv' := [(4, .int r_7), (3, .int (nI i)), (2, .int r_5), (0, .ref y0), (1, .ref y1)]) hx hb dX3_putAll_54 hl (by decide) rfl (fun ls hl => ?_)
          refine lv_aload_n hx hb dX3_putAll_56 rfl (lv_at hl 4 rfl) ?_
          refine va_get (D := (dC, dI)) (ci := 6) (v := .ref x0) (C := RX6) (T := TX6) (N := 7) hx hb hts hi0_ hown hK hP 1 rfl rfl 0 (by decide) hw0_ (fun _ h9 => h9) rfl dX3_putAll_57 ?_
          refine lv_iload hx hb dX3_putAll_60 (lv_at hl 0 rfl) ?_
          have hPc := hP.sub (ws' := [(x0, .inr (5, [.ref kA, .ref wA, .int (nI nzA), .int chA])), (kA, .inl (ckA, LA, .inl fA)), (wA, .inl (cwA, LA, .inl gA))]) [2, 3, 4] rfl
          have hKc := hK.sub (tys' := [(ckA, .int), (cwA, .int)]) [0, 1] rfl
          refine ro_calli (va_runV (As := [.int r_7]) (rest := []) ⟨hx, hb, hml, hown, hts⟩ (c_X5_key l  dC dI H.size x0 kA wA ckA cwA LA fA gA nzA chA r_7 hR9) (cwV 1 hts gX3_putAll_X5_key rfl rfl rfl (by decide +kernel) ⟨(Nat.le_of_ble_eq_true rfl), (Nat.le_of_ble_eq_true rfl)⟩) ⟨pk_blindR, va_recv hKc hPc (ci := 5) (q0 := 0) rfl rfl, pk_callR hPc hKc⟩ rfl rfl hl.1 rfl (lv_room (Nat.le_of_ble_eq_true rfl)) dX3_putAll_62 ⟨(show 2 * lgN LA - 2 * lgN L + 0 ≤ 120 by omega), (show 4 * LA - 4 * L + 0 ≤ 52000 by omega)⟩) (fun r_8 ur_8 hw => ?_)
          clear hPc hKc
          try dsimp only at hw
          have jr_8 := hw
          refine W.eq (g2 := F0 m 65 ls [.int r_8]) rfl ?_
          refine lv_istore (lv' := [(5, .int r_8), (4, .int r_7), (3, .int (nI i)), (2, .int r_5), (0, .ref y0), (1, .ref y1)]) hx hb dX3_putAll_65 hl (by decide) rfl (fun ls hl => ?_)
          refine lv_aload_n hx hb dX3_putAll_67 rfl (lv_at hl 5 rfl) ?_
          refine va_get (D := (dC, dI)) (ci := 6) (v := .ref x0) (C := RX6) (T := TX6) (N := 7) hx hb hts hi0_ hown hK hP 1 rfl rfl 0 (by decide) hw0_ (fun _ h9 => h9) rfl dX3_putAll_68 ?_
          refine lv_iload hx hb dX3_putAll_71 (lv_at hl 1 rfl) ?_
          have hPc := hP.sub (ws' := [(x0, .inr (5, [.ref kA, .ref wA, .int (nI nzA), .int chA])), (kA, .inl (ckA, LA, .inl fA)), (wA, .inl (cwA, LA, .inl gA))]) [2, 3, 4] rfl
          have hKc := hK.sub (tys' := [(ckA, .int), (cwA, .int)]) [0, 1] rfl
          refine ro_calli (va_runV (As := [.int r_7]) (rest := []) ⟨hx, hb, hml, hown, hts⟩ (c_X5_value l  dC dI H.size x0 kA wA ckA cwA LA fA gA nzA chA r_7 hR9) (cwV 1 hts gX3_putAll_X5_value rfl rfl rfl (by decide +kernel) ⟨(Nat.le_of_ble_eq_true rfl), (Nat.le_of_ble_eq_true rfl)⟩) ⟨pk_blindR, va_recv hKc hPc (ci := 5) (q0 := 0) rfl rfl, pk_callR hPc hKc⟩ rfl rfl hl.1 rfl (lv_room (Nat.le_of_ble_eq_true rfl)) dX3_putAll_73 ⟨(show 2 * lgN LA - 2 * lgN L + 0 ≤ 120 by omega), (show 4 * LA - 4 * L + 0 ≤ 52000 by omega)⟩) (fun r_9 ur_9 hw => ?_)
          clear hPc hKc
          try dsimp only at hw
          have jr_9 := hw
          refine W.eq (g2 := F0 m 76 ls [.int r_9]) rfl ?_
          refine lv_istore (lv' := [(6, .int r_9), (5, .int r_8), (4, .int r_7), (3, .int (nI i)), (2, .int r_5), (0, .ref y0), (1, .ref y1)]) hx hb dX3_putAll_76 hl (by decide) rfl (fun ls hl => ?_)
          refine lv_aload_n hx hb dX3_putAll_78 rfl (lv_at hl 5 rfl) ?_
          refine lv_iload hx hb dX3_putAll_79 (lv_at hl 1 rfl) ?_
          have hPc := hP.sub (ws' := [(y0, .inr (6, [.ref x0, .int kd, .int wh, .int od, .int tu, .long lo, .long hi])), (x0, .inr (5, [.ref kA, .ref wA, .int (nI nzA), .int chA])), (kA, .inl (ckA, LA, .inl fA)), (wA, .inl (cwA, LA, .inl gA))]) [0, 2, 3, 4] rfl
          have hKc := hK.sub (tys' := [(ckA, .int), (cwA, .int)]) [0, 1] rfl
          refine ro_calli (va_runU (As := [.int r_8]) (rest := []) ⟨hx, hb, hml, hown, hts⟩ (c_X6_find l  dC dI H.size y0 kd wh od tu lo hi x0 kA wA ckA cwA LA fA gA nzA chA r_8 hR9 ho1 ho2) (va_cwA 1 hts gX3_putAll_X6_find_u46X6 rfl rfl rfl (hN.xw _ (List.mem_of_getElem? (l := p_xw) (i := 0) rfl)) (by decide +kernel) ⟨(Nat.le_of_ble_eq_true rfl), (Nat.le_of_ble_eq_true rfl)⟩) ⟨pk_blindR, va_recv hKc hPc (ci := 6) (q0 := 0) rfl rfl, pk_callR hPc hKc⟩ rfl rfl hl.1 rfl (lv_room (Nat.le_of_ble_eq_true rfl)) dX3_putAll_81 ⟨(show 2 * lgN LA - 2 * lgN L + 0 ≤ 120 by omega), (show 4 * LA - 4 * L + 0 ≤ 52000 by omega)⟩) (fun r_10 ur_10 hw => ?_)
          clear hPc hKc
          try dsimp only at hw
          have jr_10 := hw
          refine W.eq (g2 := F0 m 84 ls [.int r_10]) rfl ?_
          refine lv_istore (lv' := [(7, .int r_10), (6, .int r_9), (5, .int r_8), (4, .int r_7), (3, .int (nI i)), (2, .int r_5), (0, .ref y0), (1, .ref y1)]) hx hb dX3_putAll_84 hl (by decide) rfl (fun ls hl => ?_)
          refine lv_iload hx hb dX3_putAll_86 (lv_at hl 0 rfl) ?_
          refine lv_if_ge (tgt := 102) hx hb dX3_putAll_88 (by decide) (fun c_11 => ?_) (fun c_11 => ?_)
          ·
            have ic_11 : 0 ≤ r_10.toInt := tx_le (by decide) rfl c_11
            refine lv_aload_n hx hb dX3_putAll_102 rfl (lv_at hl 6 rfl) ?_
            refine lv_iload hx hb dX3_putAll_103 (lv_at hl 0 rfl) ?_
            refine lv_iload hx hb dX3_putAll_105 (lv_at hl 1 rfl) ?_
            have hPc := hP.sub (ws' := [(y0, .inr (6, [.ref x0, .int kd, .int wh, .int od, .int tu, .long lo, .long hi])), (x0, .inr (5, [.ref kA, .ref wA, .int (nI nzA), .int chA])), (kA, .inl (ckA, LA, .inl fA)), (wA, .inl (cwA, LA, .inl gA))]) [0, 2, 3, 4] rfl
            have hDc := hD.sub (ws' := [(y0, .inr (6, [.ref x0, .int kd, .int wh, .int od, .int tu, .long lo, .long hi])), (x0, .inr (5, [.ref kA, .ref wA, .int (nI nzA), .int chA])), (kA, .inl (ckA, LA, .inl fA)), (wA, .inl (cwA, LA, .inl gA))]) [0, 2, 3, 4] (by decide) rfl
            have hKc := hK.sub (tys' := [(ckA, .int), (cwA, .int)]) [0, 1] rfl
            have hFc := va_free (wc := [(y0, .inr (6, [.ref x0, .int kd, .int wh, .int od, .int tu, .long lo, .long hi])), (x0, .inr (5, [.ref kA, .ref wA, .int (nI nzA), .int chA])), (kA, .inl (ckA, LA, .inl fA)), (wA, .inl (cwA, LA, .inl gA))]) hD hS hA [0, 2, 3, 4] rfl
            have hZc := (hZ.kept hS.2.1).narrow hFc
            refine va_calll (va_runU (As := [.int r_10, .int r_9]) (rest := []) ⟨hx, hb, hml, hown, hts⟩ (c_X3_replace_S l hlt dC dI H.size y0 kd wh od tu lo hi x0 kA wA ckA cwA LA fA gA nzA chA r_10 r_9 hR9 ho1 ho2) (va_cwU 2 hts gX3_putAll_X3_replace_u55X6 rfl rfl rfl rfl (by decide +kernel) ⟨(Nat.le_of_ble_eq_true rfl), (Nat.le_of_ble_eq_true rfl)⟩) ⟨pk_blindX, va_recv hKc hPc (ci := 6) (q0 := 0) rfl rfl, pk_callX hPc hKc hDc hN hZc⟩ rfl rfl hl.1 rfl (lv_room (Nat.le_of_ble_eq_true rfl)) dX3_putAll_107 ⟨(show 2 * lgN LA - 2 * lgN L + 0 ≤ 120 by omega), (show 4 * LA - 4 * L + 0 ≤ 52000 by omega)⟩) hS (fun q _ h => hFc q h) hFc (fun r_12 ur_12 t H1 locs ht hvm hw hB hz1 hk1 hS => ?_)
            try dsimp only at hw
            have jr_12 := hw
            obtain ⟨hP1, hK1, hD1⟩ := hB
            rw [ht] at hP1
            have hK1 := va_K.moved hvm.symm hK1
            obtain ⟨hP, hD⟩ := va_join (wr := [(y1, .inr (6, [.ref x0, .int kd8, .int wh8, .int od8, .int tu8, .long lo8, .long hi8]))]) (w1 := [(y0, .inr (6, [.ref x0, .int kd, .int wh, .int od, .int tu, .long lo, .long hi])), (x0, .inr (5, [.ref kA, .ref wA, .int (nI nzA), .int ur_12.2.2])), (kA, .inl (ckA, LA, .inl ur_12.1)), (wA, .inl (cwA, LA, .inl ur_12.2.1))]) hP hD [0, 2, 3, 4] [1] rfl rfl (by decide) (by decide) hk1 hFc hP1 hD1
            clear hk1 hz1 ht hPc hDc hKc hFc
            generalize H1 = H at hP hS ⊢
            replace hP : va_P (dC, dI) vwCl [(y1, .inr (6, [.ref x0, .int kd8, .int wh8, .int od8, .int tu8, .long lo8, .long hi8])), (y0, .inr (6, [.ref x0, .int kd, .int wh, .int od, .int tu, .long lo, .long hi])), (x0, .inr (5, [.ref kA, .ref wA, .int (nI nzA), .int ur_12.2.2])), (kA, .inl (ckA, LA, .inl ur_12.1)), (wA, .inl (cwA, LA, .inl ur_12.2.1))] H := hP
            replace hD : va_D A [(y1, .inr (6, [.ref x0, .int kd8, .int wh8, .int od8, .int tu8, .long lo8, .long hi8])), (y0, .inr (6, [.ref x0, .int kd, .int wh, .int od, .int tu, .long lo, .long hi])), (x0, .inr (5, [.ref kA, .ref wA, .int (nI nzA), .int ur_12.2.2])), (kA, .inl (ckA, LA, .inl ur_12.1)), (wA, .inl (cwA, LA, .inl ur_12.2.1))] := hD
            refine W.widen (k := 2 * lgN LA - 2 * lgN L) (n := 4 * LA - 4 * L) (by omega) (by omega) ?_
            refine W.eq (g2 := F0 m 110 ls [.long r_12]) rfl ?_
            refine lv_pop2_2 hx hb dX3_putAll_110 rfl ?_
            refine lv_iinc (v := nI (i + 1)) (lv' := [(3, .int (nI (i + 1))), (7, .int r_10), (6, .int r_9), (5, .int r_8), (4, .int r_7), (2, .int r_5), (0, .ref y0), (1, .ref y1)]) hx hb dX3_putAll_111 hl (k := 4) rfl (by rw [show Int32.ofInt 1 = nI 1 from rfl, nI_add]) (by decide) rfl (fun ls hl => ?_)
            refine lv_goto (tgt := 44) hx hb dX3_putAll_114 (by decide) ?_
            refine W.widen (k := 2 * lgN LA - 2 * lgN L) (n := 4 * LA - 4 * L) (by omega) (by omega) ?_
            exact ih (i := i + 1) (x9 := nI (i + 1)) (ex9 := rfl) (kA := kA) (wA := wA) (ckA := ckA) (cwA := cwA) (LA := LA) (fA := ur_12.1) (gA := ur_12.2.1) (nzA := nzA) (chA := ur_12.2.2) (ls := ls) (H := H) (locs := locs) (hP := hP.sub (ws' := [(y0, .inr (6, [.ref x0, .int kd, .int wh, .int od, .int tu, .long lo, .long hi])), (y1, .inr (6, [.ref x0, .int kd8, .int wh8, .int od8, .int tu8, .long lo8, .long hi8])), (x0, .inr (5, [.ref kA, .ref wA, .int (nI nzA), .int ur_12.2.2])), (kA, .inl (ckA, LA, .inl ur_12.1)), (wA, .inl (cwA, LA, .inl ur_12.2.1))]) [1, 0, 2, 3, 4] rfl) (hS := hS) (hD := hD.sub (ws' := [(y0, .inr (6, [.ref x0, .int kd, .int wh, .int od, .int tu, .long lo, .long hi])), (y1, .inr (6, [.ref x0, .int kd8, .int wh8, .int od8, .int tu8, .long lo8, .long hi8])), (x0, .inr (5, [.ref kA, .ref wA, .int (nI nzA), .int ur_12.2.2])), (kA, .inl (ckA, LA, .inl ur_12.1)), (wA, .inl (cwA, LA, .inl ur_12.2.1))]) [1, 0, 2, 3, 4] (by decide) rfl) (hK := hK.sub (tys' := [(ckA, .int), (cwA, .int)]) [0, 1] rfl) (hi9 := by omega) (hn9 := by omega) (hR9 := hR9) (hmn9 := ⟨by omega, by omega⟩) (hl := lv_sub hl [0, 5, 6, 7] rfl)
          ·
            have ic_11 : r_10.toInt < 0 := tx_nle (by decide) rfl c_11
            refine lv_aload_n hx hb dX3_putAll_91 rfl (lv_at hl 6 rfl) ?_
            refine lv_iload hx hb dX3_putAll_92 (lv_at hl 2 rfl) ?_
            refine lv_iload hx hb dX3_putAll_94 (lv_at hl 1 rfl) ?_
            have hPc := hP.sub (ws' := [(y0, .inr (6, [.ref x0, .int kd, .int wh, .int od, .int tu, .long lo, .long hi])), (x0, .inr (5, [.ref kA, .ref wA, .int (nI nzA), .int chA])), (kA, .inl (ckA, LA, .inl fA)), (wA, .inl (cwA, LA, .inl gA))]) [0, 2, 3, 4] rfl
            have hDc := hD.sub (ws' := [(y0, .inr (6, [.ref x0, .int kd, .int wh, .int od, .int tu, .long lo, .long hi])), (x0, .inr (5, [.ref kA, .ref wA, .int (nI nzA), .int chA])), (kA, .inl (ckA, LA, .inl fA)), (wA, .inl (cwA, LA, .inl gA))]) [0, 2, 3, 4] (by decide) rfl
            have hKc := hK.sub (tys' := [(ckA, .int), (cwA, .int)]) [0, 1] rfl
            have hFc := va_free (wc := [(y0, .inr (6, [.ref x0, .int kd, .int wh, .int od, .int tu, .long lo, .long hi])), (x0, .inr (5, [.ref kA, .ref wA, .int (nI nzA), .int chA])), (kA, .inl (ckA, LA, .inl fA)), (wA, .inl (cwA, LA, .inl gA))]) hD hS hA [0, 2, 3, 4] rfl
            refine W.book (fun hz8_ hn8_ => ?_)
            refine va_callv (va_runU (As := [.int r_8, .int r_9]) (rest := []) ⟨hx, hb, hml, hown, hts⟩ (c_X6_enter l  dC dI H.size (hT H) y0 kd wh od tu lo hi x0 kA wA ckA cwA LA fA gA nzA chA r_8 r_9 8000 hR9 ho1 ho2 (by unfold rOK at hR9; omega)) (va_cwA 2 hts gX3_putAll_X6_enter_u43X6 rfl rfl rfl (hN.xw _ (List.mem_of_getElem? (l := p_xw) (i := 1) rfl)) (by decide +kernel) ⟨(Nat.le_of_ble_eq_true rfl), (Nat.le_of_ble_eq_true rfl)⟩) ⟨pk_blindT, va_recv hKc hPc (ci := 6) (q0 := 0) rfl rfl, pk_callT hPc hKc hDc⟩ rfl rfl hl.1 rfl (lv_room (Nat.le_of_ble_eq_true rfl)) dX3_putAll_96 ⟨(show 2 * lgN LA - 2 * lgN L + 2 ≤ 120 by omega), (show 4 * LA - 4 * L + 8000 ≤ 52000 by omega)⟩) hS (fun q _ h => hFc q h) hFc (fun ur_13 t H1 locs ht hvm hw hB hz1 hk1 hS => ?_)
            try dsimp only at hw
            have jr_13 := hw
            obtain ⟨hP1, hK1, hD1, hC1_⟩ := hB
            rw [ht] at hP1 hC1_
            have hK1 := va_K.moved hvm.symm hK1
            obtain ⟨hP, hD⟩ := va_join (wr := [(y1, .inr (6, [.ref x0, .int kd8, .int wh8, .int od8, .int tu8, .long lo8, .long hi8]))]) (w1 := [(y0, .inr (6, [.ref x0, .int kd, .int wh, .int od, .int tu, .long lo, .long hi])), (x0, .inr (5, [.ref ur_13.1, .ref ur_13.2.1, .int (nI (ur_13.2.2.2.2.2.2.2.1)), .int ur_13.2.2.2.2.2.2.2.2])), (ur_13.1, .inl (ur_13.2.2.1, ur_13.2.2.2.2.1, .inl ur_13.2.2.2.2.2.1)), (ur_13.2.1, .inl (ur_13.2.2.2.1, ur_13.2.2.2.2.1, .inl ur_13.2.2.2.2.2.2.1))]) hP hD [0, 2, 3, 4] [1] rfl rfl (by decide) (by decide) hk1 hFc hP1 hD1
            have hK := hK.app hK1
            have hK : va_K (dC, dI) vwCl [(ckA, .int), (cwA, .int), (ur_13.2.2.1, .int), (ur_13.2.2.2.1, .int)] s := hK
            have hl6_ := ln_mono hR9 jr_13
            have hn7_ : hT H1 ≤ hT s.heap + (4 * LA - 4 * L + (4 * (ur_13.2.2.2.2.1) - 4 * LA)) := by omega
            have hz7_ : H1.size ≤ s.heap.size + (2 * lgN LA - 2 * lgN L + (2 * lgN (ur_13.2.2.2.2.1) - 2 * lgN LA)) := by omega
            clear hC1_ hn8_ hz8_
            clear hk1 hz1 ht hPc hDc hKc hFc
            generalize H1 = H at hP hS hn7_ hz7_ ⊢
            replace hP : va_P (dC, dI) vwCl [(y1, .inr (6, [.ref x0, .int kd8, .int wh8, .int od8, .int tu8, .long lo8, .long hi8])), (y0, .inr (6, [.ref x0, .int kd, .int wh, .int od, .int tu, .long lo, .long hi])), (x0, .inr (5, [.ref ur_13.1, .ref ur_13.2.1, .int (nI (ur_13.2.2.2.2.2.2.2.1)), .int ur_13.2.2.2.2.2.2.2.2])), (ur_13.1, .inl (ur_13.2.2.1, ur_13.2.2.2.2.1, .inl ur_13.2.2.2.2.2.1)), (ur_13.2.1, .inl (ur_13.2.2.2.1, ur_13.2.2.2.2.1, .inl ur_13.2.2.2.2.2.2.1))] H := hP
            replace hD : va_D A [(y1, .inr (6, [.ref x0, .int kd8, .int wh8, .int od8, .int tu8, .long lo8, .long hi8])), (y0, .inr (6, [.ref x0, .int kd, .int wh, .int od, .int tu, .long lo, .long hi])), (x0, .inr (5, [.ref ur_13.1, .ref ur_13.2.1, .int (nI (ur_13.2.2.2.2.2.2.2.1)), .int ur_13.2.2.2.2.2.2.2.2])), (ur_13.1, .inl (ur_13.2.2.1, ur_13.2.2.2.2.1, .inl ur_13.2.2.2.2.2.1)), (ur_13.2.1, .inl (ur_13.2.2.2.1, ur_13.2.2.2.2.1, .inl ur_13.2.2.2.2.2.2.1))] := hD
            refine W.tight (k := 2 * lgN LA - 2 * lgN L + (2 * lgN (ur_13.2.2.2.2.1) - 2 * lgN LA)) (n := 4 * LA - 4 * L + (4 * (ur_13.2.2.2.2.1) - 4 * LA)) hz7_ hn7_ ?_
            clear hn7_ hz7_
            refine W.eq (g2 := F0 m 99 ls []) rfl ?_
            have hl6_ := ln_mono hR9 jr_13
            have hR9 : rOK (ur_13.2.2.2.2.1) (ur_13.2.2.2.2.2.2.2.1) := ln_ok jr_13
            refine lv_goto (tgt := 111) hx hb dX3_putAll_99 (by decide) ?_
            refine lv_iinc (v := nI (i + 1)) (lv' := [(3, .int (nI (i + 1))), (7, .int r_10), (6, .int r_9), (5, .int r_8), (4, .int r_7), (2, .int r_5), (0, .ref y0), (1, .ref y1)]) hx hb dX3_putAll_111 hl (k := 4) rfl (by rw [show Int32.ofInt 1 = nI 1 from rfl, nI_add]) (by decide) rfl (fun ls hl => ?_)
            refine lv_goto (tgt := 44) hx hb dX3_putAll_114 (by decide) ?_
            refine W.widen (k := 2 * lgN ur_13.2.2.2.2.1 - 2 * lgN L) (n := 4 * ur_13.2.2.2.2.1 - 4 * L) (by omega) (by omega) ?_
            exact ih (i := i + 1) (x9 := nI (i + 1)) (ex9 := rfl) (kA := ur_13.1) (wA := ur_13.2.1) (ckA := ur_13.2.2.1) (cwA := ur_13.2.2.2.1) (LA := ur_13.2.2.2.2.1) (fA := ur_13.2.2.2.2.2.1) (gA := ur_13.2.2.2.2.2.2.1) (nzA := ur_13.2.2.2.2.2.2.2.1) (chA := ur_13.2.2.2.2.2.2.2.2) (ls := ls) (H := H) (locs := locs) (hP := hP.sub (ws' := [(y0, .inr (6, [.ref x0, .int kd, .int wh, .int od, .int tu, .long lo, .long hi])), (y1, .inr (6, [.ref x0, .int kd8, .int wh8, .int od8, .int tu8, .long lo8, .long hi8])), (x0, .inr (5, [.ref ur_13.1, .ref ur_13.2.1, .int (nI (ur_13.2.2.2.2.2.2.2.1)), .int ur_13.2.2.2.2.2.2.2.2])), (ur_13.1, .inl (ur_13.2.2.1, ur_13.2.2.2.2.1, .inl ur_13.2.2.2.2.2.1)), (ur_13.2.1, .inl (ur_13.2.2.2.1, ur_13.2.2.2.2.1, .inl ur_13.2.2.2.2.2.2.1))]) [1, 0, 2, 3, 4] rfl) (hS := hS) (hD := hD.sub (ws' := [(y0, .inr (6, [.ref x0, .int kd, .int wh, .int od, .int tu, .long lo, .long hi])), (y1, .inr (6, [.ref x0, .int kd8, .int wh8, .int od8, .int tu8, .long lo8, .long hi8])), (x0, .inr (5, [.ref ur_13.1, .ref ur_13.2.1, .int (nI (ur_13.2.2.2.2.2.2.2.1)), .int ur_13.2.2.2.2.2.2.2.2])), (ur_13.1, .inl (ur_13.2.2.1, ur_13.2.2.2.2.1, .inl ur_13.2.2.2.2.2.1)), (ur_13.2.1, .inl (ur_13.2.2.2.1, ur_13.2.2.2.2.1, .inl ur_13.2.2.2.2.2.2.1))]) [1, 0, 2, 3, 4] (by decide) rfl) (hK := hK.sub (tys' := [(ur_13.2.2.1, .int), (ur_13.2.2.2.1, .int)]) [2, 3] rfl) (hi9 := by omega) (hn9 := by omega) (hR9 := hR9) (hmn9 := ⟨by omega, by omega⟩) (hl := lv_sub hl [0, 5, 6, 7] rfl)
    ·
      have ic_4 : r_3.toInt = 0 := tx_eq rfl (by decide) c_4
      have hP9 := hP.sub (ws' := [(y0, .inr (6, [.ref x0, .int kd, .int wh, .int od, .int tu, .long lo, .long hi])), (y1, .inr (6, [.ref x0, .int kd8, .int wh8, .int od8, .int tu8, .long lo8, .long hi8])), (x0, .inr (5, [.ref k0, .ref w0, .int (nI nz), .int ch])), (k0, .inl (ck, L, .inl f)), (w0, .inl (cw, L, .inl g))]) [0, 1, 2, 3, 4] rfl
      have hD9 := hD.sub (ws' := [(y0, .inr (6, [.ref x0, .int kd, .int wh, .int od, .int tu, .long lo, .long hi])), (y1, .inr (6, [.ref x0, .int kd8, .int wh8, .int od8, .int tu8, .long lo8, .long hi8])), (x0, .inr (5, [.ref k0, .ref w0, .int (nI nz), .int ch])), (k0, .inl (ck, L, .inl f)), (w0, .inl (cw, L, .inl g))]) [0, 1, 2, 3, 4] (by decide) rfl
      have hK9 := hK.sub (tys' := [(ck, .int), (cw, .int)]) [0, 1] rfl
      refine vx_tightX (XC0 := vx_X (fun _ : Unit => True) (fun (E : String) (_ : Unit) (t : State) => (E = "java/lang/IllegalArgumentException" ∨ E = "java/lang/IllegalStateException") ∧ va_P (dC, dI) vwCl [(y0, .inr (6, [.ref x0, .int kd, .int wh, .int od, .int tu, .long lo, .long hi])), (y1, .inr (6, [.ref x0, .int kd8, .int wh8, .int od8, .int tu8, .long lo8, .long hi8])), (x0, .inr (5, [.ref k0, .ref w0, .int (nI nz), .int ch])), (k0, .inl (ck, L, .inl f)), (w0, .inl (cw, L, .inl g))] t.heap ∧ va_K (dC, dI) vwCl [(ck, .int), (cw, .int)] t ∧ va_D A [(y0, .inr (6, [.ref x0, .int kd, .int wh, .int od, .int tu, .long lo, .long hi])), (y1, .inr (6, [.ref x0, .int kd8, .int wh8, .int od8, .int tu8, .long lo8, .long hi8])), (x0, .inr (5, [.ref k0, .ref w0, .int (nI nz), .int ch])), (k0, .inl (ck, L, .inl f)), (w0, .inl (cw, L, .inl g))]) A) 1 6 (by omega) (by omega) (fun E t9 h9 hz9 hn9 => by obtain ⟨u9, g1, g2, g3⟩ := h9; exact ⟨u9, g1, ⟨g2, hz9, hn9⟩, g3⟩) ?_
      obtain ⟨sa, hsa⟩ := hN.stX3_40
      exact vx_throwS hx hb hlt (own := RX3) (cls := "java/lang/IllegalStateException") (text := "full") (names := ["java/lang/RuntimeException", "java/lang/Exception"]) hown (by decide +kernel) (by decide +kernel) hw1_ hw2_ hsa (tx_hat hN.xw (fun w h => hts w (at_X3_putAll_27 w h)) ng_RX3_42) og_RX3_42 hZ.1 hZ.2 hS (by rw [hml]; exact hl.1) dX3_putAll_27 dX3_putAll_30 dX3_putAll_31 dX3_putAll_33 dX3_putAll_36 (fun x hx9 => (htab x hx9).elim) (Nat.le_of_ble_eq_true rfl) (Nat.le_of_ble_eq_true rfl) (Nat.le_of_ble_eq_true rfl) (Nat.le_of_ble_eq_true rfl) hlocks (fun t hvm hz hq => ⟨(), trivial, ⟨Or.inr rfl, hP9.kept (fun k x hx => hq x.1 (hP9 k x hx).lt), va_K.moved hvm hK9, hD9⟩, ⟨Nat.le_trans hS.1 hz, fun q h1 h2 => (hq q (Nat.lt_of_lt_of_le h1 hS.1)).trans (hS.2.1 q h1 h2)⟩⟩) hS.2.2 (Nat.le_of_ble_eq_true rfl) (Nat.le_of_ble_eq_true rfl)
