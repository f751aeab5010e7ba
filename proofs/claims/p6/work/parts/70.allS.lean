set_option maxRecDepth 20000 in
theorem gX7_map_X3_putAll_u124X6 : GoodIn wqX7_map (va_wsU RX7 124 RX6 "KeyAtlas$Keyed" ⟨"KeyAtlas$Keyed", "putAll", "(LKeyAtlas$Keyed;)J"⟩ yX3_putAll wsX3_putAll) := goodIn_app (goodIn_of _ (by decide +kernel)) ggX7_map_X3_putAll
set_option maxHeartbeats 4000000 in
set_option maxRecDepth 100000 in
/-- map, op 20, S and H -/
theorem c_X7_map20_SH (l : Launch) (hlt : l.stackTraces = false) (dC : Nat → ClassId) (dI : Nat → Nat → Nat) (sz : Nat) (T0 : Nat) (a0 : Nat) (qb : Nat) (cq : ClassId) (bq : Nat → Option Nat) (o : Nat) (y0 : Nat) (kd : Int32) (wh : Int32) (od : Int32) (tu : Int32) (lo : Int64) (hi : Int64) (x0 : Nat) (k0 : Nat) (w0 : Nat) (ck : ClassId) (cw : ClassId) (L : Nat) (f : Nat → Int32) (g : Nat → Int32) (nz : Nat) (ch : Int32) (o8 : Nat) (y1 : Nat) (kd8 : Int32) (wh8 : Int32) (cap8 : Nat) (ru8 : Int32) (tb8 : Nat) (b8 : Nat) (cb8 : ClassId) (bf8 : Nat → Int32) (x1 : Nat) (k8 : Nat) (w8 : Nat) (ck8 : ClassId) (cw8 : ClassId) (L8 : Nat) (f8 : Nat → Int32) (g8 : Nat → Int32) (nz8 : Nat) (ch8 : Int32) (p2 : Int32) (ho9 : o < 16) (hbo : bq o = some y0) (hR9 : rOK L nz) (ho1 : 0 ≤ od.toInt) (ho2 : od.toInt ≤ 3) (ho8 : o8 < 16) (hbo8 : bq o8 = some y1) (hH8 : hOK tb8 L8 nz8 cap8) : vx_Met l yX7_map wqX7_map ({ frames := 9, cells := 130, slots := 53000, locals := 400 }) (va_Pc [.ref a0, .int (nI o), .int 20, .int p2, .int (nI o8)] (pk_PreXT (dC, dI) [(a0, .inr (7, [.ref qb])), (qb, .inl (cq, 16, .inr (.inr (.inr (.inr bq))))), (y0, .inr (6, [.ref x0, .int kd, .int wh, .int od, .int tu, .long lo, .long hi])), (x0, .inr (5, [.ref k0, .ref w0, .int (nI nz), .int ch])), (k0, .inl (ck, L, .inl f)), (w0, .inl (cw, L, .inl g)), (y1, .inr (3, [.ref x1, .int kd8, .int wh8, .int (nI cap8), .int ru8, .int (nI tb8), .ref b8])), (x1, .inr (5, [.ref k8, .ref w8, .int (nI nz8), .int ch8])), (k8, .inl (ck8, L8, .inl f8)), (w8, .inl (cw8, L8, .inl g8)), (b8, .inl (cb8, tb8, .inl bf8))] [(cq, .object "KeyAtlas$Body"), (ck, .int), (cw, .int), (ck8, .int), (cw8, .int), (cb8, .boolean)] sz T0)) (va_Ql (fun (x : Int64) (u : Nat × Nat × ClassId × ClassId × Nat × (Nat → Int32) × (Nat → Int32) × Nat × Int32) => rOK (u.2.2.2.2.1) (u.2.2.2.2.2.2.2.1)) (fun (u : Nat × Nat × ClassId × ClassId × Nat × (Nat → Int32) × (Nat → Int32) × Nat × Int32) (t : State) => va_P (dC, dI) vwCl [(a0, .inr (7, [.ref qb])), (qb, .inl (cq, 16, .inr (.inr (.inr (.inr bq))))), (y0, .inr (6, [.ref x0, .int kd, .int wh, .int od, .int tu, .long lo, .long hi])), (x0, .inr (5, [.ref u.1, .ref u.2.1, .int (nI (u.2.2.2.2.2.2.2.1)), .int u.2.2.2.2.2.2.2.2])), (u.1, .inl (u.2.2.1, u.2.2.2.2.1, .inl u.2.2.2.2.2.1)), (u.2.1, .inl (u.2.2.2.1, u.2.2.2.2.1, .inl u.2.2.2.2.2.2.1)), (y1, .inr (3, [.ref x1, .int kd8, .int wh8, .int (nI cap8), .int ru8, .int (nI tb8), .ref b8])), (x1, .inr (5, [.ref k8, .ref w8, .int (nI nz8), .int ch8])), (k8, .inl (ck8, L8, .inl f8)), (w8, .inl (cw8, L8, .inl g8)), (b8, .inl (cb8, tb8, .inl bf8))] t.heap ∧ va_K (dC, dI) vwCl [(cq, .object "KeyAtlas$Body"), (u.2.2.1, .int), (u.2.2.2.1, .int), (ck8, .int), (cw8, .int), (cb8, .boolean)] t ∧ va_D (va_A [(a0, .inr (7, [.ref qb])), (qb, .inl (cq, 16, .inr (.inr (.inr (.inr bq))))), (y0, .inr (6, [.ref x0, .int kd, .int wh, .int od, .int tu, .long lo, .long hi])), (x0, .inr (5, [.ref k0, .ref w0, .int (nI nz), .int ch])), (k0, .inl (ck, L, .inl f)), (w0, .inl (cw, L, .inl g)), (y1, .inr (3, [.ref x1, .int kd8, .int wh8, .int (nI cap8), .int ru8, .int (nI tb8), .ref b8])), (x1, .inr (5, [.ref k8, .ref w8, .int (nI nz8), .int ch8])), (k8, .inl (ck8, L8, .inl f8)), (w8, .inl (cw8, L8, .inl g8)), (b8, .inl (cb8, tb8, .inl bf8))] sz) [(a0, .inr (7, [.ref qb])), (qb, .inl (cq, 16, .inr (.inr (.inr (.inr bq))))), (y0, .inr (6, [.ref x0, .int kd, .int wh, .int od, .int tu, .long lo, .long hi])), (x0, .inr (5, [.ref u.1, .ref u.2.1, .int (nI (u.2.2.2.2.2.2.2.1)), .int u.2.2.2.2.2.2.2.2])), (u.1, .inl (u.2.2.1, u.2.2.2.2.1, .inl u.2.2.2.2.2.1)), (u.2.1, .inl (u.2.2.2.1, u.2.2.2.2.1, .inl u.2.2.2.2.2.2.1)), (y1, .inr (3, [.ref x1, .int kd8, .int wh8, .int (nI cap8), .int ru8, .int (nI tb8), .ref b8])), (x1, .inr (5, [.ref k8, .ref w8, .int (nI nz8), .int ch8])), (k8, .inl (ck8, L8, .inl f8)), (w8, .inl (cw8, L8, .inl g8)), (b8, .inl (cb8, tb8, .inl bf8))] ∧ hT t.heap + 4 * L ≤ (T0 + 6) + 4 * (u.2.2.2.2.1) ∧ t.heap.size + 2 * lgN L ≤ (sz + 1) + 2 * lgN (u.2.2.2.2.1)) (va_A [(a0, .inr (7, [.ref qb])), (qb, .inl (cq, 16, .inr (.inr (.inr (.inr bq))))), (y0, .inr (6, [.ref x0, .int kd, .int wh, .int od, .int tu, .long lo, .long hi])), (x0, .inr (5, [.ref k0, .ref w0, .int (nI nz), .int ch])), (k0, .inl (ck, L, .inl f)), (w0, .inl (cw, L, .inl g)), (y1, .inr (3, [.ref x1, .int kd8, .int wh8, .int (nI cap8), .int ru8, .int (nI tb8), .ref b8])), (x1, .inr (5, [.ref k8, .ref w8, .int (nI nz8), .int ch8])), (k8, .inl (ck8, L8, .inl f8)), (w8, .inl (cw8, L8, .inl g8)), (b8, .inl (cb8, tb8, .inl bf8))] sz)) (vx_X (fun _ : Unit => True) (fun (E : String) (_ : Unit) (t : State) => ((E = "java/lang/IllegalArgumentException" ∨ E = "java/lang/IllegalStateException" ∨ E = "java/util/NoSuchElementException" ∨ E = "java/lang/UnsupportedOperationException") ∧ va_P (dC, dI) vwCl [(a0, .inr (7, [.ref qb])), (qb, .inl (cq, 16, .inr (.inr (.inr (.inr bq))))), (y0, .inr (6, [.ref x0, .int kd, .int wh, .int od, .int tu, .long lo, .long hi])), (x0, .inr (5, [.ref k0, .ref w0, .int (nI nz), .int ch])), (k0, .inl (ck, L, .inl f)), (w0, .inl (cw, L, .inl g)), (y1, .inr (3, [.ref x1, .int kd8, .int wh8, .int (nI cap8), .int ru8, .int (nI tb8), .ref b8])), (x1, .inr (5, [.ref k8, .ref w8, .int (nI nz8), .int ch8])), (k8, .inl (ck8, L8, .inl f8)), (w8, .inl (cw8, L8, .inl g8)), (b8, .inl (cb8, tb8, .inl bf8))] t.heap ∧ va_K (dC, dI) vwCl [(cq, .object "KeyAtlas$Body"), (ck, .int), (cw, .int), (ck8, .int), (cw8, .int), (cb8, .boolean)] t ∧ va_D (va_A [(a0, .inr (7, [.ref qb])), (qb, .inl (cq, 16, .inr (.inr (.inr (.inr bq))))), (y0, .inr (6, [.ref x0, .int kd, .int wh, .int od, .int tu, .long lo, .long hi])), (x0, .inr (5, [.ref k0, .ref w0, .int (nI nz), .int ch])), (k0, .inl (ck, L, .inl f)), (w0, .inl (cw, L, .inl g)), (y1, .inr (3, [.ref x1, .int kd8, .int wh8, .int (nI cap8), .int ru8, .int (nI tb8), .ref b8])), (x1, .inr (5, [.ref k8, .ref w8, .int (nI nz8), .int ch8])), (k8, .inl (ck8, L8, .inl f8)), (w8, .inl (cw8, L8, .inl g8)), (b8, .inl (cb8, tb8, .inl bf8))] sz) [(a0, .inr (7, [.ref qb])), (qb, .inl (cq, 16, .inr (.inr (.inr (.inr bq))))), (y0, .inr (6, [.ref x0, .int kd, .int wh, .int od, .int tu, .long lo, .long hi])), (x0, .inr (5, [.ref k0, .ref w0, .int (nI nz), .int ch])), (k0, .inl (ck, L, .inl f)), (w0, .inl (cw, L, .inl g)), (y1, .inr (3, [.ref x1, .int kd8, .int wh8, .int (nI cap8), .int ru8, .int (nI tb8), .ref b8])), (x1, .inr (5, [.ref k8, .ref w8, .int (nI nz8), .int ch8])), (k8, .inl (ck8, L8, .inl f8)), (w8, .inl (cw8, L8, .inl g8)), (b8, .inl (cb8, tb8, .inl bf8))]) ∧ t.heap.size ≤ sz + 1 ∧ hT t.heap ≤ T0 + 6) (va_A [(a0, .inr (7, [.ref qb])), (qb, .inl (cq, 16, .inr (.inr (.inr (.inr bq))))), (y0, .inr (6, [.ref x0, .int kd, .int wh, .int od, .int tu, .long lo, .long hi])), (x0, .inr (5, [.ref k0, .ref w0, .int (nI nz), .int ch])), (k0, .inl (ck, L, .inl f)), (w0, .inl (cw, L, .inl g)), (y1, .inr (3, [.ref x1, .int kd8, .int wh8, .int (nI cap8), .int ru8, .int (nI tb8), .ref b8])), (x1, .inr (5, [.ref k8, .ref w8, .int (nI nz8), .int ch8])), (k8, .inl (ck8, L8, .inl f8)), (w8, .inl (cw8, L8, .inl g8)), (b8, .inl (cb8, tb8, .inl bf8))] sz)) 130 53000 (va_A [(a0, .inr (7, [.ref qb])), (qb, .inl (cq, 16, .inr (.inr (.inr (.inr bq))))), (y0, .inr (6, [.ref x0, .int kd, .int wh, .int od, .int tu, .long lo, .long hi])), (x0, .inr (5, [.ref k0, .ref w0, .int (nI nz), .int ch])), (k0, .inl (ck, L, .inl f)), (w0, .inl (cw, L, .inl g)), (y1, .inr (3, [.ref x1, .int kd8, .int wh8, .int (nI cap8), .int ru8, .int (nI tb8), .ref b8])), (x1, .inr (5, [.ref k8, .ref w8, .int (nI nz8), .int ch8])), (k8, .inl (ck8, L8, .inl f8)), (w8, .inl (cw8, L8, .inl g8)), (b8, .inl (cb8, tb8, .inl bf8))] sz) := by
  refine vx_ofW (cc := cX7_map) (maxL := 10) (ret := (some .long)) (by decide) rfl ?_
  intro p e s m args below meth c s₁ B hml htab hv
  obtain ⟨rfl, ⟨hsz, hP, hK, hD0, hN, hZ⟩, hT0⟩ := hv
  have hx := B.exec
  have hb := B.bytes
  have hr := B.returns
  have hts := atoms_spec (ws := wqX7_map) B.pre
  have hown : s.vm.findClass RX7 = some m.cls := findClass_of_methodNamed B.named
  have hlocks := B.notSynchronized
  subst hsz
  subst hT0
  have hD := hD0.self (sz := s.heap.size)
  generalize hAe : va_A [(a0, .inr (7, [.ref qb])), (qb, .inl (cq, 16, .inr (.inr (.inr (.inr bq))))), (y0, .inr (6, [.ref x0, .int kd, .int wh, .int od, .int tu, .long lo, .long hi])), (x0, .inr (5, [.ref k0, .ref w0, .int (nI nz), .int ch])), (k0, .inl (ck, L, .inl f)), (w0, .inl (cw, L, .inl g)), (y1, .inr (3, [.ref x1, .int kd8, .int wh8, .int (nI cap8), .int ru8, .int (nI tb8), .ref b8])), (x1, .inr (5, [.ref k8, .ref w8, .int (nI nz8), .int ch8])), (k8, .inl (ck8, L8, .inl f8)), (w8, .inl (cw8, L8, .inl g8)), (b8, .inl (cb8, tb8, .inl bf8))] s.heap.size = A at hZ hD ⊢
  have hA : ∀ q : Nat, s.heap.size ≤ q → A q := fun q h => by rw [← hAe]; exact Or.inr h
  have hS : va_S A s.heap s.heap [] := va_S.rf
  have hP : va_P (dC, dI) vwCl [(a0, .inr (7, [.ref qb])), (qb, .inl (cq, 16, .inr (.inr (.inr (.inr bq))))), (y0, .inr (6, [.ref x0, .int kd, .int wh, .int od, .int tu, .long lo, .long hi])), (x0, .inr (5, [.ref k0, .ref w0, .int (nI nz), .int ch])), (k0, .inl (ck, L, .inl f)), (w0, .inl (cw, L, .inl g)), (y1, .inr (3, [.ref x1, .int kd8, .int wh8, .int (nI cap8), .int ru8, .int (nI tb8), .ref b8])), (x1, .inr (5, [.ref k8, .ref w8, .int (nI nz8), .int ch8])), (k8, .inl (ck8, L8, .inl f8)), (w8, .inl (cw8, L8, .inl g8)), (b8, .inl (cb8, tb8, .inl bf8))] s.heap := hP
  have hl := lv_entry ([.ref a0, .int (nI o), .int 20, .int p2, .int (nI o8)]) (n := 10) (Nat.le_of_ble_eq_true rfl)
  rw [lg_entry_eq]
  generalize (lg_sl ([.ref a0, .int (nI o), .int 20, .int p2, .int (nI o8)]) ++ List.replicate (10 - (lg_sl ([.ref a0, .int (nI o), .int 20, .int p2, .int (nI o8)])).length) Slot.unset).toArray = ls at hl ⊢
  have hl : lv_has ls 10 [(0, .ref a0), (1, .int (nI o)), (2, .int 20), (3, .int p2), (4, .int (nI o8))] := hl
  have hw0_ := hts (.fieldLink RX7 55 "KeyAtlas$Keyed" "kind" "I") (List.mem_of_getElem? (l := wqX7_map) (i := 5) rfl)
  have hw1_ := hts (.sameField "KeyAtlas$Keyed" "KeyAtlas$Body" "kind" "I") (List.mem_of_getElem? (l := wqX7_map) (i := 6) rfl)
  have hw2_ := hts (.classLink RX7 64 "java/lang/UnsupportedOperationException") (List.mem_of_getElem? (l := wqX7_map) (i := 3) rfl)
  have hw3_ := hts (.initialized "java/lang/UnsupportedOperationException") (List.mem_of_getElem? (l := wqX7_map) (i := 4) rfl)
  have hi0_ : ∀ w ∈ u_ws RX6 TX6 7, w ∈ wqX7_map := fun w h => List.mem_cons_of_mem _ (List.mem_append_left _ (List.mem_append_left _ (List.mem_append_left _ (List.mem_append_left _ (List.mem_append_left _ (List.mem_append_left _ (List.mem_append_left _ (List.mem_append_left _ (List.mem_append_left _ (List.mem_append_left _ (List.mem_append_right _ h)))))))))))
  refine lv_aload_n hx hb dX7_map_0 rfl (lv_at hl 0 rfl) ?_
  refine lv_iload_n hx hb dX7_map_1 rfl (lv_at hl 1 rfl) ?_
  have hPc := hP.sub (ws' := [(a0, .inr (7, [.ref qb])), (qb, .inl (cq, 16, .inr (.inr (.inr (.inr bq)))))]) [0, 1] rfl
  have hKc := hK.sub (tys' := [(cq, .object "KeyAtlas$Body")]) [0] rfl
  refine rox_callr (B := (fun (_ : Unit) (a : Nat) (t : State) => t.heap.size = s.heap.size ∧ ∃ j : Nat, j < 16 ∧ nI o = nI j ∧ bq j = some a)) (fun u9 x9 t9 h9 => h9.1) (vx_runV (As := [.int (nI o)]) (rest := []) ⟨hx, hb, hml, hown, hts⟩ (c_X7_bodyAt l hlt dC dI s.heap.size a0 qb cq bq (nI o)) (cwV 1 hts gX7_map_X7_bodyAt rfl rfl rfl (by decide +kernel) ⟨(Nat.le_of_ble_eq_true rfl), (Nat.le_of_ble_eq_true rfl)⟩) ⟨pk_blindXR, va_recv hKc hPc (ci := 7) (q0 := 0) rfl rfl, pk_callXR hPc hKc hN ((hZ.kept hS.2.1).narrow (fun q h9 => hA q (Nat.le_trans hS.1 h9)))⟩ rfl rfl hl.1 rfl (lv_room (Nat.le_of_ble_eq_true rfl)) dX7_map_2 ⟨(Nat.le_of_ble_eq_true rfl), (Nat.le_of_ble_eq_true rfl)⟩) hS (fun q h9 => hA q (Nat.le_trans hS.1 h9)) (fun E ce q9 u9 t H1 locs ht hvm hw hB hz1 hk1 hS hce hcv hcl => ?_) (fun r_1 ur_1 t9 locs hw hB9 hS => ?_)
  ·
    try dsimp only at hB
    exact bq_no ho9 hbo hB.2
  ·
    refine W.tight (k := 0) (n := 0) (Nat.le_refl _) (Nat.le_refl _) ?_
    clear hPc hKc
    try dsimp only at hw
    have jr_1 := hw
    refine W.eq (g2 := F0 m 5 ls [.ref y0]) (by rw [show r_1 = y0 from bq_is ho9 hbo hB9.2]) ?_
    refine lv_astore (lv' := [(5, .ref y0), (0, .ref a0), (1, .int (nI o)), (2, .int 20), (3, .int p2), (4, .int (nI o8))]) hx hb dX7_map_5 hl (by decide) rfl (fun ls hl => ?_)
    refine lv_iload_n hx hb dX7_map_7 rfl (lv_at hl 3 rfl) ?_
    refine lv_bipush (v := 19) hx hb dX7_map_8 (by decide) ?_
    refine lv_icmp_eq (tgt := 19) hx hb dX7_map_10 (by decide) (fun c_2 => absurd c_2 (by decide)) (fun c_2 => ?_)
    refine lv_iload_n hx hb dX7_map_13 rfl (lv_at hl 3 rfl) ?_
    refine lv_bipush (v := 20) hx hb dX7_map_14 (by decide) ?_
    refine lv_icmp_ne (tgt := 23) hx hb dX7_map_16 (by decide) (fun c_3 => absurd c_3 (by decide)) (fun c_3 => ?_)
    refine lv_iconst (v := 1) hx hb dX7_map_19 (by decide) ?_
    refine lv_goto (tgt := 24) hx hb dX7_map_20 (by decide) ?_
    refine lv_istore (lv' := [(6, .int 1), (5, .ref y0), (0, .ref a0), (1, .int (nI o)), (2, .int 20), (3, .int p2), (4, .int (nI o8))]) hx hb dX7_map_24 hl (by decide) rfl (fun ls hl => ?_)
    refine lv_iload hx hb dX7_map_26 (lv_at hl 0 rfl) ?_
    refine lv_if_eq (tgt := 40) hx hb dX7_map_28 (by decide) (fun c_4 => absurd c_4 (by decide)) (fun c_4 => ?_)
    refine lv_aload_n hx hb dX7_map_31 rfl (lv_at hl 2 rfl) ?_
    refine lv_iload hx hb dX7_map_32 (lv_at hl 6 rfl) ?_
    have hPc := hP.sub (ws' := [(a0, .inr (7, [.ref qb])), (qb, .inl (cq, 16, .inr (.inr (.inr (.inr bq)))))]) [0, 1] rfl
    have hKc := hK.sub (tys' := [(cq, .object "KeyAtlas$Body")]) [0] rfl
    refine rox_callr (B := (fun (_ : Unit) (a : Nat) (t : State) => t.heap.size = s.heap.size ∧ ∃ j : Nat, j < 16 ∧ nI o8 = nI j ∧ bq j = some a)) (fun u9 x9 t9 h9 => h9.1) (vx_runV (As := [.int (nI o8)]) (rest := []) ⟨hx, hb, hml, hown, hts⟩ (c_X7_bodyAt l hlt dC dI s.heap.size a0 qb cq bq (nI o8)) (cwV 1 hts gX7_map_X7_bodyAt rfl rfl rfl (by decide +kernel) ⟨(Nat.le_of_ble_eq_true rfl), (Nat.le_of_ble_eq_true rfl)⟩) ⟨pk_blindXR, va_recv hKc hPc (ci := 7) (q0 := 0) rfl rfl, pk_callXR hPc hKc hN ((hZ.kept hS.2.1).narrow (fun q h9 => hA q (Nat.le_trans hS.1 h9)))⟩ rfl rfl hl.1 rfl (lv_room (Nat.le_of_ble_eq_true rfl)) dX7_map_34 ⟨(Nat.le_of_ble_eq_true rfl), (Nat.le_of_ble_eq_true rfl)⟩) hS (fun q h9 => hA q (Nat.le_trans hS.1 h9)) (fun E ce q9 u9 t H1 locs ht hvm hw hB hz1 hk1 hS hce hcv hcl => ?_) (fun r_5 ur_5 t9 locs hw hB9 hS => ?_)
    ·
      try dsimp only at hB
      exact bq_no ho8 hbo8 hB.2
    ·
      refine W.tight (k := 0) (n := 0) (Nat.le_refl _) (Nat.le_refl _) ?_
      clear hPc hKc
      try dsimp only at hw
      have jr_5 := hw
      refine W.eq (g2 := F0 m 37 ls [.ref y1]) (by rw [show r_5 = y1 from bq_is ho8 hbo8 hB9.2]) ?_
      refine lv_goto (tgt := 42) hx hb dX7_map_37 (by decide) ?_
      refine lv_astore (lv' := [(7, .ref y1), (6, .int 1), (5, .ref y0), (0, .ref a0), (1, .int (nI o)), (2, .int 20), (3, .int p2), (4, .int (nI o8))]) hx hb dX7_map_42 hl (by decide) rfl (fun ls hl => ?_)
      refine lv_aload hx hb dX7_map_44 (lv_at hl 2 rfl) ?_
      have hPc := hP.sub (ws' := [(y0, .inr (6, [.ref x0, .int kd, .int wh, .int od, .int tu, .long lo, .long hi]))]) [2] rfl
      have hKc := hK.sub (tys' := []) [] rfl
      refine ro_callr (B := (fun (_ : Unit) (a : Nat) (t : State) => t.heap.size = s.heap.size ∧ a = y0)) (fun u9 x9 t9 h9 => h9.1) (va_runS (As := [.ref y0]) (rest := []) ⟨hx, hb, hml, hown, hts⟩ (c_X7_asMap_S l hlt dC dI s.heap.size y0 ([.ref x0, .int kd, .int wh, .int od, .int tu, .long lo, .long hi])) (va_cwS 1 hts gX7_map_X7_asMap rfl rfl rfl (by decide +kernel) ⟨(Nat.le_of_ble_eq_true rfl), (Nat.le_of_ble_eq_true rfl)⟩) ⟨pk_blindRX, pk_callRX hPc hKc hN⟩ rfl rfl hl.1 rfl (lv_room (Nat.le_of_ble_eq_true rfl)) dX7_map_46 ⟨(Nat.le_of_ble_eq_true rfl), (Nat.le_of_ble_eq_true rfl)⟩) (fun r_6 ur_6 t9 hw hB9 => ?_)
      clear hPc hKc
      try dsimp only at hw
      have jr_6 := hw
      refine W.eq (g2 := F0 m 49 ls [.ref y0]) (by rw [show r_6 = y0 from hB9.2]) ?_
      refine lv_astore (lv' := [(8, .ref y0), (7, .ref y1), (6, .int 1), (5, .ref y0), (0, .ref a0), (1, .int (nI o)), (2, .int 20), (3, .int p2), (4, .int (nI o8))]) hx hb dX7_map_49 hl (by decide) rfl (fun ls hl => ?_)
      refine lv_aload hx hb dX7_map_51 (lv_at hl 1 rfl) ?_
      have hPc := hP.sub (ws' := [(y1, .inr (3, [.ref x1, .int kd8, .int wh8, .int (nI cap8), .int ru8, .int (nI tb8), .ref b8]))]) [6] rfl
      have hKc := hK.sub (tys' := []) [] rfl
      refine ro_callr (B := (fun (_ : Unit) (a : Nat) (t : State) => t.heap.size = s.heap.size ∧ a = y1)) (fun u9 x9 t9 h9 => h9.1) (va_runS (As := [.ref y1]) (rest := []) ⟨hx, hb, hml, hown, hts⟩ (c_X7_asMap_H l hlt dC dI s.heap.size y1 ([.ref x1, .int kd8, .int wh8, .int (nI cap8), .int ru8, .int (nI tb8), .ref b8])) (va_cwS 1 hts gX7_map_X7_asMap rfl rfl rfl (by decide +kernel) ⟨(Nat.le_of_ble_eq_true rfl), (Nat.le_of_ble_eq_true rfl)⟩) ⟨pk_blindRX, pk_callRX hPc hKc hN⟩ rfl rfl hl.1 rfl (lv_room (Nat.le_of_ble_eq_true rfl)) dX7_map_53 ⟨(Nat.le_of_ble_eq_true rfl), (Nat.le_of_ble_eq_true rfl)⟩) (fun r_7 ur_7 t9 hw hB9 => ?_)
      clear hPc hKc
      try dsimp only at hw
      have jr_7 := hw
      refine W.eq (g2 := F0 m 56 ls [.ref y1]) (by rw [show r_7 = y1 from hB9.2]) ?_
      refine lv_astore (lv' := [(9, .ref y1), (8, .ref y0), (7, .ref y1), (6, .int 1), (5, .ref y0), (0, .ref a0), (1, .int (nI o)), (2, .int 20), (3, .int p2), (4, .int (nI o8))]) hx hb dX7_map_56 hl (by decide) rfl (fun ls hl => ?_)
      refine lv_iload_n hx hb dX7_map_58 rfl (lv_at hl 7 rfl) ?_
      refine lv_if_lt (tgt := 68) hx hb dX7_map_59 (by decide) (fun c_8 => absurd c_8 (by decide)) (fun c_8 => ?_)
      refine lv_iload_n hx hb dX7_map_62 rfl (lv_at hl 7 rfl) ?_
      refine lv_bipush (v := 25) hx hb dX7_map_63 (by decide) ?_
      refine lv_icmp_le (tgt := 78) hx hb dX7_map_65 (by decide) (fun c_9 => ?_) (fun c_9 => absurd c_9 (by decide))
      refine lv_aload hx hb dX7_map_78 (lv_at hl 1 rfl) ?_
      refine va_get (D := (dC, dI)) (ci := 6) (v := .int kd) (C := RX6) (T := TX6) (N := 7) hx hb hts hi0_ hown hK hP 2 rfl rfl 1 (by decide) hw0_ (u_same hw1_) rfl dX7_map_80 ?_
      refine lv_iload_n hx hb dX7_map_83 rfl (lv_at hl 7 rfl) ?_
      have hPc := hP.sub (ws' := []) [] rfl
      have hKc := hK.sub (tys' := []) [] rfl
      refine ro_calli (va_runS (As := [.int kd, .int 20]) (rest := []) ⟨hx, hb, hml, hown, hts⟩ (c_X7_hasOp l  dC dI s.heap.size kd 20) (va_cwS 2 hts gX7_map_X7_hasOp rfl rfl rfl (by decide +kernel) ⟨(Nat.le_of_ble_eq_true rfl), (Nat.le_of_ble_eq_true rfl)⟩) ⟨pk_blindR, pk_callR hPc hKc⟩ rfl rfl hl.1 rfl (lv_room (Nat.le_of_ble_eq_true rfl)) dX7_map_84 ⟨(Nat.le_of_ble_eq_true rfl), (Nat.le_of_ble_eq_true rfl)⟩) (fun r_10 ur_10 hw => ?_)
      clear hPc hKc
      try dsimp only at hw
      have jr_10 := hw
      refine W.eq (g2 := F0 m 87 ls [.int r_10]) rfl ?_
      refine lv_if_ne (tgt := 100) hx hb dX7_map_87 (by decide) (fun c_11 => ?_) (fun c_11 => ?_)
      ·
        have ic_11 : ¬ r_10.toInt = 0 := tx_ne rfl (by decide) c_11
        refine lv_iload_n hx hb dX7_map_100 rfl (lv_at hl 7 rfl) ?_
        refine lv_tableIn (x := 20) (off := 306) (tgt := 407) hx hb dX7_map_101 (by decide) (by decide) (by decide) (by decide) ?_
        refine lv_aload hx hb dX7_map_407 (lv_at hl 1 rfl) ?_
        refine lv_aload hx hb dX7_map_409 (lv_at hl 0 rfl) ?_
        have hPc := hP.sub (ws' := [(y0, .inr (6, [.ref x0, .int kd, .int wh, .int od, .int tu, .long lo, .long hi])), (x0, .inr (5, [.ref k0, .ref w0, .int (nI nz), .int ch])), (k0, .inl (ck, L, .inl f)), (w0, .inl (cw, L, .inl g)), (y1, .inr (3, [.ref x1, .int kd8, .int wh8, .int (nI cap8), .int ru8, .int (nI tb8), .ref b8])), (x1, .inr (5, [.ref k8, .ref w8, .int (nI nz8), .int ch8])), (k8, .inl (ck8, L8, .inl f8)), (w8, .inl (cw8, L8, .inl g8)), (b8, .inl (cb8, tb8, .inl bf8))]) [2, 3, 4, 5, 6, 7, 8, 9, 10] rfl
        have hDc := hD.sub (ws' := [(y0, .inr (6, [.ref x0, .int kd, .int wh, .int od, .int tu, .long lo, .long hi])), (x0, .inr (5, [.ref k0, .ref w0, .int (nI nz), .int ch])), (k0, .inl (ck, L, .inl f)), (w0, .inl (cw, L, .inl g)), (y1, .inr (3, [.ref x1, .int kd8, .int wh8, .int (nI cap8), .int ru8, .int (nI tb8), .ref b8])), (x1, .inr (5, [.ref k8, .ref w8, .int (nI nz8), .int ch8])), (k8, .inl (ck8, L8, .inl f8)), (w8, .inl (cw8, L8, .inl g8)), (b8, .inl (cb8, tb8, .inl bf8))]) [2, 3, 4, 5, 6, 7, 8, 9, 10] (by decide) rfl
        have hKc := hK.sub (tys' := [(ck, .int), (cw, .int), (ck8, .int), (cw8, .int), (cb8, .boolean)]) [1, 2, 3, 4, 5] rfl
        have hFc := va_free (wc := [(y0, .inr (6, [.ref x0, .int kd, .int wh, .int od, .int tu, .long lo, .long hi])), (x0, .inr (5, [.ref k0, .ref w0, .int (nI nz), .int ch])), (k0, .inl (ck, L, .inl f)), (w0, .inl (cw, L, .inl g)), (y1, .inr (3, [.ref x1, .int kd8, .int wh8, .int (nI cap8), .int ru8, .int (nI tb8), .ref b8])), (x1, .inr (5, [.ref k8, .ref w8, .int (nI nz8), .int ch8])), (k8, .inl (ck8, L8, .inl f8)), (w8, .inl (cw8, L8, .inl g8)), (b8, .inl (cb8, tb8, .inl bf8))]) hD hS hA [2, 3, 4, 5, 6, 7, 8, 9, 10] rfl
        have hZc := (hZ.kept hS.2.1).narrow hFc
        refine vx_calll (vx_runU (As := [.ref y1]) (rest := []) ⟨hx, hb, hml, hown, hts⟩ (c_X3_putAll_SH l hlt dC dI s.heap.size (hT s.heap) y0 kd wh od tu lo hi x0 k0 w0 ck cw L f g nz ch y1 kd8 wh8 cap8 ru8 tb8 b8 cb8 bf8 x1 k8 w8 ck8 cw8 L8 f8 g8 nz8 ch8 hR9 ho1 ho2 hH8) (va_cwU 1 hts gX7_map_X3_putAll_u124X6 rfl rfl rfl rfl (by decide +kernel) ⟨(Nat.le_of_ble_eq_true rfl), (Nat.le_of_ble_eq_true rfl)⟩) ⟨pk_blindXT, va_recv hKc hPc (ci := 6) (q0 := 0) rfl rfl, pk_callXT hPc hKc hDc hN hZc⟩ rfl rfl hl.1 rfl (lv_room (Nat.le_of_ble_eq_true rfl)) dX7_map_411 ⟨(Nat.le_of_ble_eq_true rfl), (Nat.le_of_ble_eq_true rfl)⟩) hS (fun q _ h => hFc q h) hFc (fun q _ h => hFc q h) (fun E ce q9 u9 t H1 locs ht hvm hw hB hz1 hk1 hS hce hcv hcl => ?_) (fun r_12 ur_12 t H1 locs ht hvm hw hB hz1 hk1 hS => ?_)
        ·
          try dsimp only at hB
          obtain ⟨hB8, hB7⟩ := hB
          obtain ⟨hE8, hP8, hK8, hD8⟩ := hB8
          rw [ht] at hP8
          obtain ⟨hP7, -⟩ := va_join (wr := [(a0, .inr (7, [.ref qb])), (qb, .inl (cq, 16, .inr (.inr (.inr (.inr bq)))))]) (w1 := [(y0, .inr (6, [.ref x0, .int kd, .int wh, .int od, .int tu, .long lo, .long hi])), (x0, .inr (5, [.ref k0, .ref w0, .int (nI nz), .int ch])), (k0, .inl (ck, L, .inl f)), (w0, .inl (cw, L, .inl g)), (y1, .inr (3, [.ref x1, .int kd8, .int wh8, .int (nI cap8), .int ru8, .int (nI tb8), .ref b8])), (x1, .inr (5, [.ref k8, .ref w8, .int (nI nz8), .int ch8])), (k8, .inl (ck8, L8, .inl f8)), (w8, .inl (cw8, L8, .inl g8)), (b8, .inl (cb8, tb8, .inl bf8))]) hP hD [2, 3, 4, 5, 6, 7, 8, 9, 10] [0, 1] rfl rfl (by decide) (by decide) hk1 hFc hP8 hD8
          have hP6 := hP7.sub (ws' := [(a0, .inr (7, [.ref qb])), (qb, .inl (cq, 16, .inr (.inr (.inr (.inr bq))))), (y0, .inr (6, [.ref x0, .int kd, .int wh, .int od, .int tu, .long lo, .long hi])), (x0, .inr (5, [.ref k0, .ref w0, .int (nI nz), .int ch])), (k0, .inl (ck, L, .inl f)), (w0, .inl (cw, L, .inl g)), (y1, .inr (3, [.ref x1, .int kd8, .int wh8, .int (nI cap8), .int ru8, .int (nI tb8), .ref b8])), (x1, .inr (5, [.ref k8, .ref w8, .int (nI nz8), .int ch8])), (k8, .inl (ck8, L8, .inl f8)), (w8, .inl (cw8, L8, .inl g8)), (b8, .inl (cb8, tb8, .inl bf8))]) [0, 1, 2, 3, 4, 5, 6, 7, 8, 9, 10] rfl
          exact vx_out (fun x hx9 => (htab x hx9).elim) hlocks hce hcv hcl (fun t9 ht9 hal9 => ⟨(), trivial, ⟨⟨hE8.elim (fun h => Or.inl h) (fun h => Or.inr (Or.inl h)), by rw [ht9]; exact hP6, va_K.moved hal9 hK, hD⟩, by rw [ht9, ← ht]; exact hB7.1, by rw [ht9, ← ht]; exact hB7.2⟩, hS.F ht9⟩) hS.2.2 (by omega) (by omega)
        ·
          try dsimp only at hw
          have jr_12 := hw
          obtain ⟨hP1, hK1, hD1, hC1_⟩ := hB
          rw [ht] at hP1 hC1_
          have hK1 := va_K.moved hvm.symm hK1
          obtain ⟨hP, hD⟩ := va_join (wr := [(a0, .inr (7, [.ref qb])), (qb, .inl (cq, 16, .inr (.inr (.inr (.inr bq)))))]) (w1 := [(y0, .inr (6, [.ref x0, .int kd, .int wh, .int od, .int tu, .long lo, .long hi])), (x0, .inr (5, [.ref ur_12.1, .ref ur_12.2.1, .int (nI (ur_12.2.2.2.2.2.2.2.1)), .int ur_12.2.2.2.2.2.2.2.2])), (ur_12.1, .inl (ur_12.2.2.1, ur_12.2.2.2.2.1, .inl ur_12.2.2.2.2.2.1)), (ur_12.2.1, .inl (ur_12.2.2.2.1, ur_12.2.2.2.2.1, .inl ur_12.2.2.2.2.2.2.1)), (y1, .inr (3, [.ref x1, .int kd8, .int wh8, .int (nI cap8), .int ru8, .int (nI tb8), .ref b8])), (x1, .inr (5, [.ref k8, .ref w8, .int (nI nz8), .int ch8])), (k8, .inl (ck8, L8, .inl f8)), (w8, .inl (cw8, L8, .inl g8)), (b8, .inl (cb8, tb8, .inl bf8))]) hP hD [2, 3, 4, 5, 6, 7, 8, 9, 10] [0, 1] rfl rfl (by decide) (by decide) hk1 hFc hP1 hD1
          have hK := hK.app hK1
          have hK : va_K (dC, dI) vwCl [(cq, .object "KeyAtlas$Body"), (ck, .int), (cw, .int), (ck8, .int), (cw8, .int), (cb8, .boolean), (ur_12.2.2.1, .int), (ur_12.2.2.2.1, .int), (ck8, .int), (cw8, .int), (cb8, .boolean)] s := hK
          have hcs1_ : hT H1 + 4 * L ≤ hT s.heap + 4 * (ur_12.2.2.2.2.1) := hC1_.1
          have hcs2_ : H1.size + 2 * lgN L ≤ s.heap.size + 2 * lgN (ur_12.2.2.2.2.1) := hC1_.2
          clear hC1_
          clear hk1 hz1 ht hPc hDc hKc hFc
          generalize H1 = H at hP hS hcs1_ hcs2_ ⊢
          replace hP : va_P (dC, dI) vwCl [(a0, .inr (7, [.ref qb])), (qb, .inl (cq, 16, .inr (.inr (.inr (.inr bq))))), (y0, .inr (6, [.ref x0, .int kd, .int wh, .int od, .int tu, .long lo, .long hi])), (x0, .inr (5, [.ref ur_12.1, .ref ur_12.2.1, .int (nI (ur_12.2.2.2.2.2.2.2.1)), .int ur_12.2.2.2.2.2.2.2.2])), (ur_12.1, .inl (ur_12.2.2.1, ur_12.2.2.2.2.1, .inl ur_12.2.2.2.2.2.1)), (ur_12.2.1, .inl (ur_12.2.2.2.1, ur_12.2.2.2.2.1, .inl ur_12.2.2.2.2.2.2.1)), (y1, .inr (3, [.ref x1, .int kd8, .int wh8, .int (nI cap8), .int ru8, .int (nI tb8), .ref b8])), (x1, .inr (5, [.ref k8, .ref w8, .int (nI nz8), .int ch8])), (k8, .inl (ck8, L8, .inl f8)), (w8, .inl (cw8, L8, .inl g8)), (b8, .inl (cb8, tb8, .inl bf8))] H := hP
          replace hD : va_D A [(a0, .inr (7, [.ref qb])), (qb, .inl (cq, 16, .inr (.inr (.inr (.inr bq))))), (y0, .inr (6, [.ref x0, .int kd, .int wh, .int od, .int tu, .long lo, .long hi])), (x0, .inr (5, [.ref ur_12.1, .ref ur_12.2.1, .int (nI (ur_12.2.2.2.2.2.2.2.1)), .int ur_12.2.2.2.2.2.2.2.2])), (ur_12.1, .inl (ur_12.2.2.1, ur_12.2.2.2.2.1, .inl ur_12.2.2.2.2.2.1)), (ur_12.2.1, .inl (ur_12.2.2.2.1, ur_12.2.2.2.2.1, .inl ur_12.2.2.2.2.2.2.1)), (y1, .inr (3, [.ref x1, .int kd8, .int wh8, .int (nI cap8), .int ru8, .int (nI tb8), .ref b8])), (x1, .inr (5, [.ref k8, .ref w8, .int (nI nz8), .int ch8])), (k8, .inl (ck8, L8, .inl f8)), (w8, .inl (cw8, L8, .inl g8)), (b8, .inl (cb8, tb8, .inl bf8))] := hD
          refine W.widen (k := 120) (n := 52000) (Nat.le_of_ble_eq_true rfl) (Nat.le_of_ble_eq_true rfl) ?_
          refine W.eq (g2 := F0 m 414 ls [.long r_12]) rfl ?_
          refine W.book (fun hz9_ hn9_ => ?_)
          have hcost : hT H + 4 * L ≤ (hT s.heap + 6) + 4 * (ur_12.2.2.2.2.1) ∧ H.size + 2 * lgN L ≤ (s.heap.size + 1) + 2 * lgN (ur_12.2.2.2.2.1) := by constructor <;> omega
          have hP9 := hP.sub (ws' := [(a0, .inr (7, [.ref qb])), (qb, .inl (cq, 16, .inr (.inr (.inr (.inr bq))))), (y0, .inr (6, [.ref x0, .int kd, .int wh, .int od, .int tu, .long lo, .long hi])), (x0, .inr (5, [.ref ur_12.1, .ref ur_12.2.1, .int (nI (ur_12.2.2.2.2.2.2.2.1)), .int ur_12.2.2.2.2.2.2.2.2])), (ur_12.1, .inl (ur_12.2.2.1, ur_12.2.2.2.2.1, .inl ur_12.2.2.2.2.2.1)), (ur_12.2.1, .inl (ur_12.2.2.2.1, ur_12.2.2.2.2.1, .inl ur_12.2.2.2.2.2.2.1)), (y1, .inr (3, [.ref x1, .int kd8, .int wh8, .int (nI cap8), .int ru8, .int (nI tb8), .ref b8])), (x1, .inr (5, [.ref k8, .ref w8, .int (nI nz8), .int ch8])), (k8, .inl (ck8, L8, .inl f8)), (w8, .inl (cw8, L8, .inl g8)), (b8, .inl (cb8, tb8, .inl bf8))]) [0, 1, 2, 3, 4, 5, 6, 7, 8, 9, 10] rfl
          have hD9 := hD.sub (ws' := [(a0, .inr (7, [.ref qb])), (qb, .inl (cq, 16, .inr (.inr (.inr (.inr bq))))), (y0, .inr (6, [.ref x0, .int kd, .int wh, .int od, .int tu, .long lo, .long hi])), (x0, .inr (5, [.ref ur_12.1, .ref ur_12.2.1, .int (nI (ur_12.2.2.2.2.2.2.2.1)), .int ur_12.2.2.2.2.2.2.2.2])), (ur_12.1, .inl (ur_12.2.2.1, ur_12.2.2.2.2.1, .inl ur_12.2.2.2.2.2.1)), (ur_12.2.1, .inl (ur_12.2.2.2.1, ur_12.2.2.2.2.1, .inl ur_12.2.2.2.2.2.2.1)), (y1, .inr (3, [.ref x1, .int kd8, .int wh8, .int (nI cap8), .int ru8, .int (nI tb8), .ref b8])), (x1, .inr (5, [.ref k8, .ref w8, .int (nI nz8), .int ch8])), (k8, .inl (ck8, L8, .inl f8)), (w8, .inl (cw8, L8, .inl g8)), (b8, .inl (cb8, tb8, .inl bf8))]) [0, 1, 2, 3, 4, 5, 6, 7, 8, 9, 10] (by decide) rfl
          have hK9 := hK.sub (tys' := [(cq, .object "KeyAtlas$Body"), (ur_12.2.2.1, .int), (ur_12.2.2.2.1, .int), (ck8, .int), (cw8, .int), (cb8, .boolean)]) [0, 6, 7, 3, 4, 5] rfl
          refine W.widen (k := 130) (n := 53000) (Nat.le_of_ble_eq_true rfl) (Nat.le_of_ble_eq_true rfl) ?_
          refine vx_ret ?_
          exact W.lret (v := r_12) hx hb hr (fun t ht hW => ⟨⟨r_12, (ur_12.1, ur_12.2.1, ur_12.2.2.1, ur_12.2.2.2.1, ur_12.2.2.2.2.1, ur_12.2.2.2.2.2.1, ur_12.2.2.2.2.2.2.1, ur_12.2.2.2.2.2.2.2.1, ur_12.2.2.2.2.2.2.2.2), rfl, jr_12, by rw [ht]; exact hP9, va_K.moved hW.alike hK9, hD9, by rw [ht]; exact hcost⟩, hS.F ht⟩) hS.2.2 dX7_map_414
      ·
        have ic_11 : r_10.toInt = 0 := tx_eq rfl (by decide) c_11
        have hP9 := hP.sub (ws' := [(a0, .inr (7, [.ref qb])), (qb, .inl (cq, 16, .inr (.inr (.inr (.inr bq))))), (y0, .inr (6, [.ref x0, .int kd, .int wh, .int od, .int tu, .long lo, .long hi])), (x0, .inr (5, [.ref k0, .ref w0, .int (nI nz), .int ch])), (k0, .inl (ck, L, .inl f)), (w0, .inl (cw, L, .inl g)), (y1, .inr (3, [.ref x1, .int kd8, .int wh8, .int (nI cap8), .int ru8, .int (nI tb8), .ref b8])), (x1, .inr (5, [.ref k8, .ref w8, .int (nI nz8), .int ch8])), (k8, .inl (ck8, L8, .inl f8)), (w8, .inl (cw8, L8, .inl g8)), (b8, .inl (cb8, tb8, .inl bf8))]) [0, 1, 2, 3, 4, 5, 6, 7, 8, 9, 10] rfl
        have hD9 := hD.sub (ws' := [(a0, .inr (7, [.ref qb])), (qb, .inl (cq, 16, .inr (.inr (.inr (.inr bq))))), (y0, .inr (6, [.ref x0, .int kd, .int wh, .int od, .int tu, .long lo, .long hi])), (x0, .inr (5, [.ref k0, .ref w0, .int (nI nz), .int ch])), (k0, .inl (ck, L, .inl f)), (w0, .inl (cw, L, .inl g)), (y1, .inr (3, [.ref x1, .int kd8, .int wh8, .int (nI cap8), .int ru8, .int (nI tb8), .ref b8])), (x1, .inr (5, [.ref k8, .ref w8, .int (nI nz8), .int ch8])), (k8, .inl (ck8, L8, .inl f8)), (w8, .inl (cw8, L8, .inl g8)), (b8, .inl (cb8, tb8, .inl bf8))]) [0, 1, 2, 3, 4, 5, 6, 7, 8, 9, 10] (by decide) rfl
        have hK9 := hK.sub (tys' := [(cq, .object "KeyAtlas$Body"), (ck, .int), (cw, .int), (ck8, .int), (cw8, .int), (cb8, .boolean)]) [0, 1, 2, 3, 4, 5] rfl
        refine vx_tightX (XC0 := vx_X (fun _ : Unit => True) (fun (E : String) (_ : Unit) (t : State) => (E = "java/lang/IllegalArgumentException" ∨ E = "java/lang/IllegalStateException" ∨ E = "java/util/NoSuchElementException" ∨ E = "java/lang/UnsupportedOperationException") ∧ va_P (dC, dI) vwCl [(a0, .inr (7, [.ref qb])), (qb, .inl (cq, 16, .inr (.inr (.inr (.inr bq))))), (y0, .inr (6, [.ref x0, .int kd, .int wh, .int od, .int tu, .long lo, .long hi])), (x0, .inr (5, [.ref k0, .ref w0, .int (nI nz), .int ch])), (k0, .inl (ck, L, .inl f)), (w0, .inl (cw, L, .inl g)), (y1, .inr (3, [.ref x1, .int kd8, .int wh8, .int (nI cap8), .int ru8, .int (nI tb8), .ref b8])), (x1, .inr (5, [.ref k8, .ref w8, .int (nI nz8), .int ch8])), (k8, .inl (ck8, L8, .inl f8)), (w8, .inl (cw8, L8, .inl g8)), (b8, .inl (cb8, tb8, .inl bf8))] t.heap ∧ va_K (dC, dI) vwCl [(cq, .object "KeyAtlas$Body"), (ck, .int), (cw, .int), (ck8, .int), (cw8, .int), (cb8, .boolean)] t ∧ va_D A [(a0, .inr (7, [.ref qb])), (qb, .inl (cq, 16, .inr (.inr (.inr (.inr bq))))), (y0, .inr (6, [.ref x0, .int kd, .int wh, .int od, .int tu, .long lo, .long hi])), (x0, .inr (5, [.ref k0, .ref w0, .int (nI nz), .int ch])), (k0, .inl (ck, L, .inl f)), (w0, .inl (cw, L, .inl g)), (y1, .inr (3, [.ref x1, .int kd8, .int wh8, .int (nI cap8), .int ru8, .int (nI tb8), .ref b8])), (x1, .inr (5, [.ref k8, .ref w8, .int (nI nz8), .int ch8])), (k8, .inl (ck8, L8, .inl f8)), (w8, .inl (cw8, L8, .inl g8)), (b8, .inl (cb8, tb8, .inl bf8))]) A) 1 6 (by omega) (by omega) (fun E t9 h9 hz9 hn9 => by obtain ⟨u9, g1, g2, g3⟩ := h9; exact ⟨u9, g1, ⟨g2, hz9, hn9⟩, g3⟩) ?_
        obtain ⟨sa, hsa⟩ := hN.stX7_66
        exact vx_throwS hx hb hlt (own := RX7) (cls := "java/lang/UnsupportedOperationException") (text := "op is not for this kind") (names := ["java/lang/RuntimeException", "java/lang/Exception"]) hown (by decide +kernel) (by decide +kernel) hw2_ hw3_ hsa (tx_hat hN.xw (fun w h => hts w (at_X7_map_90 w h)) ng_RX7_68) og_RX7_68 hZ.1 hZ.2 hS (by rw [hml]; exact hl.1) dX7_map_90 dX7_map_93 dX7_map_94 dX7_map_96 dX7_map_99 (fun x hx9 => (htab x hx9).elim) (Nat.le_of_ble_eq_true rfl) (Nat.le_of_ble_eq_true rfl) (Nat.le_of_ble_eq_true rfl) (Nat.le_of_ble_eq_true rfl) hlocks (fun t hvm hz hq => ⟨(), trivial, ⟨Or.inr (Or.inr (Or.inr rfl)), hP9.kept (fun k x hx => hq x.1 (hP9 k x hx).lt), va_K.moved hvm hK9, hD9⟩, ⟨Nat.le_trans hS.1 hz, fun q h1 h2 => (hq q (Nat.lt_of_lt_of_le h1 hS.1)).trans (hS.2.1 q h1 h2)⟩⟩) hS.2.2 (Nat.le_of_ble_eq_true rfl) (Nat.le_of_ble_eq_true rfl)
set_option maxHeartbeats 4000000 in
set_option maxRecDepth 100000 in
/-- map, op 20, S and L -/
theorem c_X7_map20_SL (l : Launch) (hlt : l.stackTraces = false) (dC : Nat → ClassId) (dI : Nat → Nat → Nat) (sz : Nat) (T0 : Nat) (a0 : Nat) (qb : Nat) (cq : ClassId) (bq : Nat → Option Nat) (o : Nat) (y0 : Nat) (kd : Int32) (wh : Int32) (od : Int32) (tu : Int32) (lo : Int64) (hi : Int64) (x0 : Nat) (k0 : Nat) (w0 : Nat) (ck : ClassId) (cw : ClassId) (L : Nat) (f : Nat → Int32) (g : Nat → Int32) (nz : Nat) (ch : Int32) (o8 : Nat) (y1 : Nat) (kd8 : Int32) (wh8 : Int32) (lim8 : Nat) (bu8 : Int32) (x1 : Nat) (k8 : Nat) (w8 : Nat) (ck8 : ClassId) (cw8 : ClassId) (L8 : Nat) (f8 : Nat → Int32) (g8 : Nat → Int32) (nz8 : Nat) (ch8 : Int32) (p2 : Int32) (ho9 : o < 16) (hbo : bq o = some y0) (hR9 : rOK L nz) (ho1 : 0 ≤ od.toInt) (ho2 : od.toInt ≤ 3) (ho8 : o8 < 16) (hbo8 : bq o8 = some y1) (hR8 : rOK L8 nz8) (hlim8 : lim8 ≤ 1000) : vx_Met l yX7_map wqX7_map ({ frames := 9, cells := 130, slots := 53000, locals := 400 }) (va_Pc [.ref a0, .int (nI o), .int 20, .int p2, .int (nI o8)] (pk_PreXT (dC, dI) [(a0, .inr (7, [.ref qb])), (qb, .inl (cq, 16, .inr (.inr (.inr (.inr bq))))), (y0, .inr (6, [.ref x0, .int kd, .int wh, .int od, .int tu, .long lo, .long hi])), (x0, .inr (5, [.ref k0, .ref w0, .int (nI nz), .int ch])), (k0, .inl (ck, L, .inl f)), (w0, .inl (cw, L, .inl g)), (y1, .inr (4, [.ref x1, .int kd8, .int wh8, .int (nI lim8), .int bu8])), (x1, .inr (5, [.ref k8, .ref w8, .int (nI nz8), .int ch8])), (k8, .inl (ck8, L8, .inl f8)), (w8, .inl (cw8, L8, .inl g8))] [(cq, .object "KeyAtlas$Body"), (ck, .int), (cw, .int), (ck8, .int), (cw8, .int)] sz T0)) (va_Ql (fun (x : Int64) (u : Nat × Nat × ClassId × ClassId × Nat × (Nat → Int32) × (Nat → Int32) × Nat × Int32) => rOK (u.2.2.2.2.1) (u.2.2.2.2.2.2.2.1)) (fun (u : Nat × Nat × ClassId × ClassId × Nat × (Nat → Int32) × (Nat → Int32) × Nat × Int32) (t : State) => va_P (dC, dI) vwCl [(a0, .inr (7, [.ref qb])), (qb, .inl (cq, 16, .inr (.inr (.inr (.inr bq))))), (y0, .inr (6, [.ref x0, .int kd, .int wh, .int od, .int tu, .long lo, .long hi])), (x0, .inr (5, [.ref u.1, .ref u.2.1, .int (nI (u.2.2.2.2.2.2.2.1)), .int u.2.2.2.2.2.2.2.2])), (u.1, .inl (u.2.2.1, u.2.2.2.2.1, .inl u.2.2.2.2.2.1)), (u.2.1, .inl (u.2.2.2.1, u.2.2.2.2.1, .inl u.2.2.2.2.2.2.1)), (y1, .inr (4, [.ref x1, .int kd8, .int wh8, .int (nI lim8), .int bu8])), (x1, .inr (5, [.ref k8, .ref w8, .int (nI nz8), .int ch8])), (k8, .inl (ck8, L8, .inl f8)), (w8, .inl (cw8, L8, .inl g8))] t.heap ∧ va_K (dC, dI) vwCl [(cq, .object "KeyAtlas$Body"), (u.2.2.1, .int), (u.2.2.2.1, .int), (ck8, .int), (cw8, .int)] t ∧ va_D (va_A [(a0, .inr (7, [.ref qb])), (qb, .inl (cq, 16, .inr (.inr (.inr (.inr bq))))), (y0, .inr (6, [.ref x0, .int kd, .int wh, .int od, .int tu, .long lo, .long hi])), (x0, .inr (5, [.ref k0, .ref w0, .int (nI nz), .int ch])), (k0, .inl (ck, L, .inl f)), (w0, .inl (cw, L, .inl g)), (y1, .inr (4, [.ref x1, .int kd8, .int wh8, .int (nI lim8), .int bu8])), (x1, .inr (5, [.ref k8, .ref w8, .int (nI nz8), .int ch8])), (k8, .inl (ck8, L8, .inl f8)), (w8, .inl (cw8, L8, .inl g8))] sz) [(a0, .inr (7, [.ref qb])), (qb, .inl (cq, 16, .inr (.inr (.inr (.inr bq))))), (y0, .inr (6, [.ref x0, .int kd, .int wh, .int od, .int tu, .long lo, .long hi])), (x0, .inr (5, [.ref u.1, .ref u.2.1, .int (nI (u.2.2.2.2.2.2.2.1)), .int u.2.2.2.2.2.2.2.2])), (u.1, .inl (u.2.2.1, u.2.2.2.2.1, .inl u.2.2.2.2.2.1)), (u.2.1, .inl (u.2.2.2.1, u.2.2.2.2.1, .inl u.2.2.2.2.2.2.1)), (y1, .inr (4, [.ref x1, .int kd8, .int wh8, .int (nI lim8), .int bu8])), (x1, .inr (5, [.ref k8, .ref w8, .int (nI nz8), .int ch8])), (k8, .inl (ck8, L8, .inl f8)), (w8, .inl (cw8, L8, .inl g8))] ∧ hT t.heap + 4 * L ≤ (T0 + 6) + 4 * (u.2.2.2.2.1) ∧ t.heap.size + 2 * lgN L ≤ (sz + 1) + 2 * lgN (u.2.2.2.2.1)) (va_A [(a0, .inr (7, [.ref qb])), (qb, .inl (cq, 16, .inr (.inr (.inr (.inr bq))))), (y0, .inr (6, [.ref x0, .int kd, .int wh, .int od, .int tu, .long lo, .long hi])), (x0, .inr (5, [.ref k0, .ref w0, .int (nI nz), .int ch])), (k0, .inl (ck, L, .inl f)), (w0, .inl (cw, L, .inl g)), (y1, .inr (4, [.ref x1, .int kd8, .int wh8, .int (nI lim8), .int bu8])), (x1, .inr (5, [.ref k8, .ref w8, .int (nI nz8), .int ch8])), (k8, .inl (ck8, L8, .inl f8)), (w8, .inl (cw8, L8, .inl g8))] sz)) (vx_X (fun _ : Unit => True) (fun (E : String) (_ : Unit) (t : State) => ((E = "java/lang/IllegalArgumentException" ∨ E = "java/lang/IllegalStateException" ∨ E = "java/util/NoSuchElementException" ∨ E = "java/lang/UnsupportedOperationException") ∧ va_P (dC, dI) vwCl [(a0, .inr (7, [.ref qb])), (qb, .inl (cq, 16, .inr (.inr (.inr (.inr bq))))), (y0, .inr (6, [.ref x0, .int kd, .int wh, .int od, .int tu, .long lo, .long hi])), (x0, .inr (5, [.ref k0, .ref w0, .int (nI nz), .int ch])), (k0, .inl (ck, L, .inl f)), (w0, .inl (cw, L, .inl g)), (y1, .inr (4, [.ref x1, .int kd8, .int wh8, .int (nI lim8), .int bu8])), (x1, .inr (5, [.ref k8, .ref w8, .int (nI nz8), .int ch8])), (k8, .inl (ck8, L8, .inl f8)), (w8, .inl (cw8, L8, .inl g8))] t.heap ∧ va_K (dC, dI) vwCl [(cq, .object "KeyAtlas$Body"), (ck, .int), (cw, .int), (ck8, .int), (cw8, .int)] t ∧ va_D (va_A [(a0, .inr (7, [.ref qb])), (qb, .inl (cq, 16, .inr (.inr (.inr (.inr bq))))), (y0, .inr (6, [.ref x0, .int kd, .int wh, .int od, .int tu, .long lo, .long hi])), (x0, .inr (5, [.ref k0, .ref w0, .int (nI nz), .int ch])), (k0, .inl (ck, L, .inl f)), (w0, .inl (cw, L, .inl g)), (y1, .inr (4, [.ref x1, .int kd8, .int wh8, .int (nI lim8), .int bu8])), (x1, .inr (5, [.ref k8, .ref w8, .int (nI nz8), .int ch8])), (k8, .inl (ck8, L8, .inl f8)), (w8, .inl (cw8, L8, .inl g8))] sz) [(a0, .inr (7, [.ref qb])), (qb, .inl (cq, 16, .inr (.inr (.inr (.inr bq))))), (y0, .inr (6, [.ref x0, .int kd, .int wh, .int od, .int tu, .long lo, .long hi])), (x0, .inr (5, [.ref k0, .ref w0, .int (nI nz), .int ch])), (k0, .inl (ck, L, .inl f)), (w0, .inl (cw, L, .inl g)), (y1, .inr (4, [.ref x1, .int kd8, .int wh8, .int (nI lim8), .int bu8])), (x1, .inr (5, [.ref k8, .ref w8, .int (nI nz8), .int ch8])), (k8, .inl (ck8, L8, .inl f8)), (w8, .inl (cw8, L8, .inl g8))]) ∧ t.heap.size ≤ sz + 1 ∧ hT t.heap ≤ T0 + 6) (va_A [(a0, .inr (7, [.ref qb])), (qb, .inl (cq, 16, .inr (.inr (.inr (.inr bq))))), (y0, .inr (6, [.ref x0, .int kd, .int wh, .int od, .int tu, .long lo, .long hi])), (x0, .inr (5, [.ref k0, .ref w0, .int (nI nz), .int ch])), (k0, .inl (ck, L, .inl f)), (w0, .inl (cw, L, .inl g)), (y1, .inr (4, [.ref x1, .int kd8, .int wh8, .int (nI lim8), .int bu8])), (x1, .inr (5, [.ref k8, .ref w8, .int (nI nz8), .int ch8])), (k8, .inl (ck8, L8, .inl f8)), (w8, .inl (cw8, L8, .inl g8))] sz)) 130 53000 (va_A [(a0, .inr (7, [.ref qb])), (qb, .inl (cq, 16, .inr (.inr (.inr (.inr bq))))), (y0, .inr (6, [.ref x0, .int kd, .int wh, .int od, .int tu, .long lo, .long hi])), (x0, .inr (5, [.ref k0, .ref w0, .int (nI nz), .int ch])), (k0, .inl (ck, L, .inl f)), (w0, .inl (cw, L, .inl g)), (y1, .inr (4, [.ref x1, .int kd8, .int wh8, .int (nI lim8), .int bu8])), (x1, .inr (5, [.ref k8, .ref w8, .int (nI nz8), .int ch8])), (k8, .inl (ck8, L8, .inl f8)), (w8, .inl (cw8, L8, .inl g8))] sz) := by
  refine vx_ofW (cc := cX7_map) (maxL := 10) (ret := (some .long)) (by decide) rfl ?_
  intro p e s m args below meth c s₁ B hml htab hv
  obtain ⟨rfl, ⟨hsz, hP, hK, hD0, hN, hZ⟩, hT0⟩ := hv
  have hx := B.exec
  have hb := B.bytes
  have hr := B.returns
  have hts := atoms_spec (ws := wqX7_map) B.pre
  have hown : s.vm.findClass RX7 = some m.cls := findClass_of_methodNamed B.named
  have hlocks := B.notSynchronized
  subst hsz
  subst hT0
  have hD := hD0.self (sz := s.heap.size)
  generalize hAe : va_A [(a0, .inr (7, [.ref qb])), (qb, .inl (cq, 16, .inr (.inr (.inr (.inr bq))))), (y0, .inr (6, [.ref x0, .int kd, .int wh, .int od, .int tu, .long lo, .long hi])), (x0, .inr (5, [.ref k0, .ref w0, .int (nI nz), .int ch])), (k0, .inl (ck, L, .inl f)), (w0, .inl (cw, L, .inl g)), (y1, .inr (4, [.ref x1, .int kd8, .int wh8, .int (nI lim8), .int bu8])), (x1, .inr (5, [.ref k8, .ref w8, .int (nI nz8), .int ch8])), (k8, .inl (ck8, L8, .inl f8)), (w8, .inl (cw8, L8, .inl g8))] s.heap.size = A at hZ hD ⊢
  have hA : ∀ q : Nat, s.heap.size ≤ q → A q := fun q h => by rw [← hAe]; exact Or.inr h
  have hS : va_S A s.heap s.heap [] := va_S.rf
  have hP : va_P (dC, dI) vwCl [(a0, .inr (7, [.ref qb])), (qb, .inl (cq, 16, .inr (.inr (.inr (.inr bq))))), (y0, .inr (6, [.ref x0, .int kd, .int wh, .int od, .int tu, .long lo, .long hi])), (x0, .inr (5, [.ref k0, .ref w0, .int (nI nz), .int ch])), (k0, .inl (ck, L, .inl f)), (w0, .inl (cw, L, .inl g)), (y1, .inr (4, [.ref x1, .int kd8, .int wh8, .int (nI lim8), .int bu8])), (x1, .inr (5, [.ref k8, .ref w8, .int (nI nz8), .int ch8])), (k8, .inl (ck8, L8, .inl f8)), (w8, .inl (cw8, L8, .inl g8))] s.heap := hP
  have hl := lv_entry ([.ref a0, .int (nI o), .int 20, .int p2, .int (nI o8)]) (n := 10) (Nat.le_of_ble_eq_true rfl)
  rw [lg_entry_eq]
  generalize (lg_sl ([.ref a0, .int (nI o), .int 20, .int p2, .int (nI o8)]) ++ List.replicate (10 - (lg_sl ([.ref a0, .int (nI o), .int 20, .int p2, .int (nI o8)])).length) Slot.unset).toArray = ls at hl ⊢
  have hl : lv_has ls 10 [(0, .ref a0), (1, .int (nI o)), (2, .int 20), (3, .int p2), (4, .int (nI o8))] := hl
  have hw0_ := hts (.fieldLink RX7 55 "KeyAtlas$Keyed" "kind" "I") (List.mem_of_getElem? (l := wqX7_map) (i := 5) rfl)
  have hw1_ := hts (.sameField "KeyAtlas$Keyed" "KeyAtlas$Body" "kind" "I") (List.mem_of_getElem? (l := wqX7_map) (i := 6) rfl)
  have hw2_ := hts (.classLink RX7 64 "java/lang/UnsupportedOperationException") (List.mem_of_getElem? (l := wqX7_map) (i := 3) rfl)
  have hw3_ := hts (.initialized "java/lang/UnsupportedOperationException") (List.mem_of_getElem? (l := wqX7_map) (i := 4) rfl)
  have hi0_ : ∀ w ∈ u_ws RX6 TX6 7, w ∈ wqX7_map := fun w h => List.mem_cons_of_mem _ (List.mem_append_left _ (List.mem_append_left _ (List.mem_append_left _ (List.mem_append_left _ (List.mem_append_left _ (List.mem_append_left _ (List.mem_append_left _ (List.mem_append_left _ (List.mem_append_left _ (List.mem_append_left _ (List.mem_append_right _ h)))))))))))
  refine lv_aload_n hx hb dX7_map_0 rfl (lv_at hl 0 rfl) ?_
  refine lv_iload_n hx hb dX7_map_1 rfl (lv_at hl 1 rfl) ?_
  have hPc := hP.sub (ws' := [(a0, .inr (7, [.ref qb])), (qb, .inl (cq, 16, .inr (.inr (.inr (.inr bq)))))]) [0, 1] rfl
  have hKc := hK.sub (tys' := [(cq, .object "KeyAtlas$Body")]) [0] rfl
  refine rox_callr (B := (fun (_ : Unit) (a : Nat) (t : State) => t.heap.size = s.heap.size ∧ ∃ j : Nat, j < 16 ∧ nI o = nI j ∧ bq j = some a)) (fun u9 x9 t9 h9 => h9.1) (vx_runV (As := [.int (nI o)]) (rest := []) ⟨hx, hb, hml, hown, hts⟩ (c_X7_bodyAt l hlt dC dI s.heap.size a0 qb cq bq (nI o)) (cwV 1 hts gX7_map_X7_bodyAt rfl rfl rfl (by decide +kernel) ⟨(Nat.le_of_ble_eq_true rfl), (Nat.le_of_ble_eq_true rfl)⟩) ⟨pk_blindXR, va_recv hKc hPc (ci := 7) (q0 := 0) rfl rfl, pk_callXR hPc hKc hN ((hZ.kept hS.2.1).narrow (fun q h9 => hA q (Nat.le_trans hS.1 h9)))⟩ rfl rfl hl.1 rfl (lv_room (Nat.le_of_ble_eq_true rfl)) dX7_map_2 ⟨(Nat.le_of_ble_eq_true rfl), (Nat.le_of_ble_eq_true rfl)⟩) hS (fun q h9 => hA q (Nat.le_trans hS.1 h9)) (fun E ce q9 u9 t H1 locs ht hvm hw hB hz1 hk1 hS hce hcv hcl => ?_) (fun r_1 ur_1 t9 locs hw hB9 hS => ?_)
  ·
    try dsimp only at hB
    exact bq_no ho9 hbo hB.2
  ·
    refine W.tight (k := 0) (n := 0) (Nat.le_refl _) (Nat.le_refl _) ?_
    clear hPc hKc
    try dsimp only at hw
    have jr_1 := hw
    refine W.eq (g2 := F0 m 5 ls [.ref y0]) (by rw [show r_1 = y0 from bq_is ho9 hbo hB9.2]) ?_
    refine lv_astore (lv' := [(5, .ref y0), (0, .ref a0), (1, .int (nI o)), (2, .int 20), (3, .int p2), (4, .int (nI o8))]) hx hb dX7_map_5 hl (by decide) rfl (fun ls hl => ?_)
    refine lv_iload_n hx hb dX7_map_7 rfl (lv_at hl 3 rfl) ?_
    refine lv_bipush (v := 19) hx hb dX7_map_8 (by decide) ?_
    refine lv_icmp_eq (tgt := 19) hx hb dX7_map_10 (by decide) (fun c_2 => absurd c_2 (by decide)) (fun c_2 => ?_)
    refine lv_iload_n hx hb dX7_map_13 rfl (lv_at hl 3 rfl) ?_
    refine lv_bipush (v := 20) hx hb dX7_map_14 (by decide) ?_
    refine lv_icmp_ne (tgt := 23) hx hb dX7_map_16 (by decide) (fun c_3 => absurd c_3 (by decide)) (fun c_3 => ?_)
    refine lv_iconst (v := 1) hx hb dX7_map_19 (by decide) ?_
    refine lv_goto (tgt := 24) hx hb dX7_map_20 (by decide) ?_
    refine lv_istore (lv' := [(6, .int 1), (5, .ref y0), (0, .ref a0), (1, .int (nI o)), (2, .int 20), (3, .int p2), (4, .int (nI o8))]) hx hb dX7_map_24 hl (by decide) rfl (fun ls hl => ?_)
    refine lv_iload hx hb dX7_map_26 (lv_at hl 0 rfl) ?_
    refine lv_if_eq (tgt := 40) hx hb dX7_map_28 (by decide) (fun c_4 => absurd c_4 (by decide)) (fun c_4 => ?_)
    refine lv_aload_n hx hb dX7_map_31 rfl (lv_at hl 2 rfl) ?_
    refine lv_iload hx hb dX7_map_32 (lv_at hl 6 rfl) ?_
    have hPc := hP.sub (ws' := [(a0, .inr (7, [.ref qb])), (qb, .inl (cq, 16, .inr (.inr (.inr (.inr bq)))))]) [0, 1] rfl
    have hKc := hK.sub (tys' := [(cq, .object "KeyAtlas$Body")]) [0] rfl
    refine rox_callr (B := (fun (_ : Unit) (a : Nat) (t : State) => t.heap.size = s.heap.size ∧ ∃ j : Nat, j < 16 ∧ nI o8 = nI j ∧ bq j = some a)) (fun u9 x9 t9 h9 => h9.1) (vx_runV (As := [.int (nI o8)]) (rest := []) ⟨hx, hb, hml, hown, hts⟩ (c_X7_bodyAt l hlt dC dI s.heap.size a0 qb cq bq (nI o8)) (cwV 1 hts gX7_map_X7_bodyAt rfl rfl rfl (by decide +kernel) ⟨(Nat.le_of_ble_eq_true rfl), (Nat.le_of_ble_eq_true rfl)⟩) ⟨pk_blindXR, va_recv hKc hPc (ci := 7) (q0 := 0) rfl rfl, pk_callXR hPc hKc hN ((hZ.kept hS.2.1).narrow (fun q h9 => hA q (Nat.le_trans hS.1 h9)))⟩ rfl rfl hl.1 rfl (lv_room (Nat.le_of_ble_eq_true rfl)) dX7_map_34 ⟨(Nat.le_of_ble_eq_true rfl), (Nat.le_of_ble_eq_true rfl)⟩) hS (fun q h9 => hA q (Nat.le_trans hS.1 h9)) (fun E ce q9 u9 t H1 locs ht hvm hw hB hz1 hk1 hS hce hcv hcl => ?_) (fun r_5 ur_5 t9 locs hw hB9 hS => ?_)
    ·
      try dsimp only at hB
      exact bq_no ho8 hbo8 hB.2
    ·
      refine W.tight (k := 0) (n := 0) (Nat.le_refl _) (Nat.le_refl _) ?_
      clear hPc hKc
      try dsimp only at hw
      have jr_5 := hw
      refine W.eq (g2 := F0 m 37 ls [.ref y1]) (by rw [show r_5 = y1 from bq_is ho8 hbo8 hB9.2]) ?_
      refine lv_goto (tgt := 42) hx hb dX7_map_37 (by decide) ?_
      refine lv_astore (lv' := [(7, .ref y1), (6, .int 1), (5, .ref y0), (0, .ref a0), (1, .int (nI o)), (2, .int 20), (3, .int p2), (4, .int (nI o8))]) hx hb dX7_map_42 hl (by decide) rfl (fun ls hl => ?_)
      refine lv_aload hx hb dX7_map_44 (lv_at hl 2 rfl) ?_
      have hPc := hP.sub (ws' := [(y0, .inr (6, [.ref x0, .int kd, .int wh, .int od, .int tu, .long lo, .long hi]))]) [2] rfl
      have hKc := hK.sub (tys' := []) [] rfl
      refine ro_callr (B := (fun (_ : Unit) (a : Nat) (t : State) => t.heap.size = s.heap.size ∧ a = y0)) (fun u9 x9 t9 h9 => h9.1) (va_runS (As := [.ref y0]) (rest := []) ⟨hx, hb, hml, hown, hts⟩ (c_X7_asMap_S l hlt dC dI s.heap.size y0 ([.ref x0, .int kd, .int wh, .int od, .int tu, .long lo, .long hi])) (va_cwS 1 hts gX7_map_X7_asMap rfl rfl rfl (by decide +kernel) ⟨(Nat.le_of_ble_eq_true rfl), (Nat.le_of_ble_eq_true rfl)⟩) ⟨pk_blindRX, pk_callRX hPc hKc hN⟩ rfl rfl hl.1 rfl (lv_room (Nat.le_of_ble_eq_true rfl)) dX7_map_46 ⟨(Nat.le_of_ble_eq_true rfl), (Nat.le_of_ble_eq_true rfl)⟩) (fun r_6 ur_6 t9 hw hB9 => ?_)
      clear hPc hKc
      try dsimp only at hw
      have jr_6 := hw
      refine W.eq (g2 := F0 m 49 ls [.ref y0]) (by rw [show r_6 = y0 from hB9.2]) ?_
      refine lv_astore (lv' := [(8, .ref y0), (7, .ref y1), (6, .int 1), (5, .ref y0), (0, .ref a0), (1, .int (nI o)), (2, .int 20), (3, .int p2), (4, .int (nI o8))]) hx hb dX7_map_49 hl (by decide) rfl (fun ls hl => ?_)
      refine lv_aload hx hb dX7_map_51 (lv_at hl 1 rfl) ?_
      have hPc := hP.sub (ws' := [(y1, .inr (4, [.ref x1, .int kd8, .int wh8, .int (nI lim8), .int bu8]))]) [6] rfl
      have hKc := hK.sub (tys' := []) [] rfl
      refine ro_callr (B := (fun (_ : Unit) (a : Nat) (t : State) => t.heap.size = s.heap.size ∧ a = y1)) (fun u9 x9 t9 h9 => h9.1) (va_runS (As := [.ref y1]) (rest := []) ⟨hx, hb, hml, hown, hts⟩ (c_X7_asMap_L l hlt dC dI s.heap.size y1 ([.ref x1, .int kd8, .int wh8, .int (nI lim8), .int bu8])) (va_cwS 1 hts gX7_map_X7_asMap rfl rfl rfl (by decide +kernel) ⟨(Nat.le_of_ble_eq_true rfl), (Nat.le_of_ble_eq_true rfl)⟩) ⟨pk_blindRX, pk_callRX hPc hKc hN⟩ rfl rfl hl.1 rfl (lv_room (Nat.le_of_ble_eq_true rfl)) dX7_map_53 ⟨(Nat.le_of_ble_eq_true rfl), (Nat.le_of_ble_eq_true rfl)⟩) (fun r_7 ur_7 t9 hw hB9 => ?_)
      clear hPc hKc
      try dsimp only at hw
      have jr_7 := hw
      refine W.eq (g2 := F0 m 56 ls [.ref y1]) (by rw [show r_7 = y1 from hB9.2]) ?_
      refine lv_astore (lv' := [(9, .ref y1), (8, .ref y0), (7, .ref y1), (6, .int 1), (5, .ref y0), (0, .ref a0), (1, .int (nI o)), (2, .int 20), (3, .int p2), (4, .int (nI o8))]) hx hb dX7_map_56 hl (by decide) rfl (fun ls hl => ?_)
      refine lv_iload_n hx hb dX7_map_58 rfl (lv_at hl 7 rfl) ?_
      refine lv_if_lt (tgt := 68) hx hb dX7_map_59 (by decide) (fun c_8 => absurd c_8 (by decide)) (fun c_8 => ?_)
      refine lv_iload_n hx hb dX7_map_62 rfl (lv_at hl 7 rfl) ?_
      refine lv_bipush (v := 25) hx hb dX7_map_63 (by decide) ?_
      refine lv_icmp_le (tgt := 78) hx hb dX7_map_65 (by decide) (fun c_9 => ?_) (fun c_9 => absurd c_9 (by decide))
      refine lv_aload hx hb dX7_map_78 (lv_at hl 1 rfl) ?_
      refine va_get (D := (dC, dI)) (ci := 6) (v := .int kd) (C := RX6) (T := TX6) (N := 7) hx hb hts hi0_ hown hK hP 2 rfl rfl 1 (by decide) hw0_ (u_same hw1_) rfl dX7_map_80 ?_
      refine lv_iload_n hx hb dX7_map_83 rfl (lv_at hl 7 rfl) ?_
      have hPc := hP.sub (ws' := []) [] rfl
      have hKc := hK.sub (tys' := []) [] rfl
      refine ro_calli (va_runS (As := [.int kd, .int 20]) (rest := []) ⟨hx, hb, hml, hown, hts⟩ (c_X7_hasOp l  dC dI s.heap.size kd 20) (va_cwS 2 hts gX7_map_X7_hasOp rfl rfl rfl (by decide +kernel) ⟨(Nat.le_of_ble_eq_true rfl), (Nat.le_of_ble_eq_true rfl)⟩) ⟨pk_blindR, pk_callR hPc hKc⟩ rfl rfl hl.1 rfl (lv_room (Nat.le_of_ble_eq_true rfl)) dX7_map_84 ⟨(Nat.le_of_ble_eq_true rfl), (Nat.le_of_ble_eq_true rfl)⟩) (fun r_10 ur_10 hw => ?_)
      clear hPc hKc
      try dsimp only at hw
      have jr_10 := hw
      refine W.eq (g2 := F0 m 87 ls [.int r_10]) rfl ?_
      refine lv_if_ne (tgt := 100) hx hb dX7_map_87 (by decide) (fun c_11 => ?_) (fun c_11 => ?_)
      ·
        have ic_11 : ¬ r_10.toInt = 0 := tx_ne rfl (by decide) c_11
        refine lv_iload_n hx hb dX7_map_100 rfl (lv_at hl 7 rfl) ?_
        refine lv_tableIn (x := 20) (off := 306) (tgt := 407) hx hb dX7_map_101 (by decide) (by decide) (by decide) (by decide) ?_
        refine lv_aload hx hb dX7_map_407 (lv_at hl 1 rfl) ?_
        refine lv_aload hx hb dX7_map_409 (lv_at hl 0 rfl) ?_
        have hPc := hP.sub (ws' := [(y0, .inr (6, [.ref x0, .int kd, .int wh, .int od, .int tu, .long lo, .long hi])), (x0, .inr (5, [.ref k0, .ref w0, .int (nI nz), .int ch])), (k0, .inl (ck, L, .inl f)), (w0, .inl (cw, L, .inl g)), (y1, .inr (4, [.ref x1, .int kd8, .int wh8, .int (nI lim8), .int bu8])), (x1, .inr (5, [.ref k8, .ref w8, .int (nI nz8), .int ch8])), (k8, .inl (ck8, L8, .inl f8)), (w8, .inl (cw8, L8, .inl g8))]) [2, 3, 4, 5, 6, 7, 8, 9] rfl
        have hDc := hD.sub (ws' := [(y0, .inr (6, [.ref x0, .int kd, .int wh, .int od, .int tu, .long lo, .long hi])), (x0, .inr (5, [.ref k0, .ref w0, .int (nI nz), .int ch])), (k0, .inl (ck, L, .inl f)), (w0, .inl (cw, L, .inl g)), (y1, .inr (4, [.ref x1, .int kd8, .int wh8, .int (nI lim8), .int bu8])), (x1, .inr (5, [.ref k8, .ref w8, .int (nI nz8), .int ch8])), (k8, .inl (ck8, L8, .inl f8)), (w8, .inl (cw8, L8, .inl g8))]) [2, 3, 4, 5, 6, 7, 8, 9] (by decide) rfl
        have hKc := hK.sub (tys' := [(ck, .int), (cw, .int), (ck8, .int), (cw8, .int)]) [1, 2, 3, 4] rfl
        have hFc := va_free (wc := [(y0, .inr (6, [.ref x0, .int kd, .int wh, .int od, .int tu, .long lo, .long hi])), (x0, .inr (5, [.ref k0, .ref w0, .int (nI nz), .int ch])), (k0, .inl (ck, L, .inl f)), (w0, .inl (cw, L, .inl g)), (y1, .inr (4, [.ref x1, .int kd8, .int wh8, .int (nI lim8), .int bu8])), (x1, .inr (5, [.ref k8, .ref w8, .int (nI nz8), .int ch8])), (k8, .inl (ck8, L8, .inl f8)), (w8, .inl (cw8, L8, .inl g8))]) hD hS hA [2, 3, 4, 5, 6, 7, 8, 9] rfl
        have hZc := (hZ.kept hS.2.1).narrow hFc
        refine vx_calll (vx_runU (As := [.ref y1]) (rest := []) ⟨hx, hb, hml, hown, hts⟩ (c_X3_putAll_SL l hlt dC dI s.heap.size (hT s.heap) y0 kd wh od tu lo hi x0 k0 w0 ck cw L f g nz ch y1 kd8 wh8 lim8 bu8 x1 k8 w8 ck8 cw8 L8 f8 g8 nz8 ch8 hR9 ho1 ho2 hR8 hlim8) (va_cwU 1 hts gX7_map_X3_putAll_u124X6 rfl rfl rfl rfl (by decide +kernel) ⟨(Nat.le_of_ble_eq_true rfl), (Nat.le_of_ble_eq_true rfl)⟩) ⟨pk_blindXT, va_recv hKc hPc (ci := 6) (q0 := 0) rfl rfl, pk_callXT hPc hKc hDc hN hZc⟩ rfl rfl hl.1 rfl (lv_room (Nat.le_of_ble_eq_true rfl)) dX7_map_411 ⟨(Nat.le_of_ble_eq_true rfl), (Nat.le_of_ble_eq_true rfl)⟩) hS (fun q _ h => hFc q h) hFc (fun q _ h => hFc q h) (fun E ce q9 u9 t H1 locs ht hvm hw hB hz1 hk1 hS hce hcv hcl => ?_) (fun r_12 ur_12 t H1 locs ht hvm hw hB hz1 hk1 hS => ?_)
        ·
          try dsimp only at hB
          obtain ⟨hB8, hB7⟩ := hB
          obtain ⟨hE8, hP8, hK8, hD8⟩ := hB8
          rw [ht] at hP8
          obtain ⟨hP7, -⟩ := va_join (wr := [(a0, .inr (7, [.ref qb])), (qb, .inl (cq, 16, .inr (.inr (.inr (.inr bq)))))]) (w1 := [(y0, .inr (6, [.ref x0, .int kd, .int wh, .int od, .int tu, .long lo, .long hi])), (x0, .inr (5, [.ref k0, .ref w0, .int (nI nz), .int ch])), (k0, .inl (ck, L, .inl f)), (w0, .inl (cw, L, .inl g)), (y1, .inr (4, [.ref x1, .int kd8, .int wh8, .int (nI lim8), .int bu8])), (x1, .inr (5, [.ref k8, .ref w8, .int (nI nz8), .int ch8])), (k8, .inl (ck8, L8, .inl f8)), (w8, .inl (cw8, L8, .inl g8))]) hP hD [2, 3, 4, 5, 6, 7, 8, 9] [0, 1] rfl rfl (by decide) (by decide) hk1 hFc hP8 hD8
          have hP6 := hP7.sub (ws' := [(a0, .inr (7, [.ref qb])), (qb, .inl (cq, 16, .inr (.inr (.inr (.inr bq))))), (y0, .inr (6, [.ref x0, .int kd, .int wh, .int od, .int tu, .long lo, .long hi])), (x0, .inr (5, [.ref k0, .ref w0, .int (nI nz), .int ch])), (k0, .inl (ck, L, .inl f)), (w0, .inl (cw, L, .inl g)), (y1, .inr (4, [.ref x1, .int kd8, .int wh8, .int (nI lim8), .int bu8])), (x1, .inr (5, [.ref k8, .ref w8, .int (nI nz8), .int ch8])), (k8, .inl (ck8, L8, .inl f8)), (w8, .inl (cw8, L8, .inl g8))]) [0, 1, 2, 3, 4, 5, 6, 7, 8, 9] rfl
          exact vx_out (fun x hx9 => (htab x hx9).elim) hlocks hce hcv hcl (fun t9 ht9 hal9 => ⟨(), trivial, ⟨⟨hE8.elim (fun h => Or.inl h) (fun h => Or.inr (Or.inl h)), by rw [ht9]; exact hP6, va_K.moved hal9 hK, hD⟩, by rw [ht9, ← ht]; exact hB7.1, by rw [ht9, ← ht]; exact hB7.2⟩, hS.F ht9⟩) hS.2.2 (by omega) (by omega)
        ·
          try dsimp only at hw
          have jr_12 := hw
          obtain ⟨hP1, hK1, hD1, hC1_⟩ := hB
          rw [ht] at hP1 hC1_
          have hK1 := va_K.moved hvm.symm hK1
          obtain ⟨hP, hD⟩ := va_join (wr := [(a0, .inr (7, [.ref qb])), (qb, .inl (cq, 16, .inr (.inr (.inr (.inr bq)))))]) (w1 := [(y0, .inr (6, [.ref x0, .int kd, .int wh, .int od, .int tu, .long lo, .long hi])), (x0, .inr (5, [.ref ur_12.1, .ref ur_12.2.1, .int (nI (ur_12.2.2.2.2.2.2.2.1)), .int ur_12.2.2.2.2.2.2.2.2])), (ur_12.1, .inl (ur_12.2.2.1, ur_12.2.2.2.2.1, .inl ur_12.2.2.2.2.2.1)), (ur_12.2.1, .inl (ur_12.2.2.2.1, ur_12.2.2.2.2.1, .inl ur_12.2.2.2.2.2.2.1)), (y1, .inr (4, [.ref x1, .int kd8, .int wh8, .int (nI lim8), .int bu8])), (x1, .inr (5, [.ref k8, .ref w8, .int (nI nz8), .int ch8])), (k8, .inl (ck8, L8, .inl f8)), (w8, .inl (cw8, L8, .inl g8))]) hP hD [2, 3, 4, 5, 6, 7, 8, 9] [0, 1] rfl rfl (by decide) (by decide) hk1 hFc hP1 hD1
          have hK := hK.app hK1
          have hK : va_K (dC, dI) vwCl [(cq, .object "KeyAtlas$Body"), (ck, .int), (cw, .int), (ck8, .int), (cw8, .int), (ur_12.2.2.1, .int), (ur_12.2.2.2.1, .int), (ck8, .int), (cw8, .int)] s := hK
          have hcs1_ : hT H1 + 4 * L ≤ hT s.heap + 4 * (ur_12.2.2.2.2.1) := hC1_.1
          have hcs2_ : H1.size + 2 * lgN L ≤ s.heap.size + 2 * lgN (ur_12.2.2.2.2.1) := hC1_.2
          clear hC1_
          clear hk1 hz1 ht hPc hDc hKc hFc
          generalize H1 = H at hP hS hcs1_ hcs2_ ⊢
          replace hP : va_P (dC, dI) vwCl [(a0, .inr (7, [.ref qb])), (qb, .inl (cq, 16, .inr (.inr (.inr (.inr bq))))), (y0, .inr (6, [.ref x0, .int kd, .int wh, .int od, .int tu, .long lo, .long hi])), (x0, .inr (5, [.ref ur_12.1, .ref ur_12.2.1, .int (nI (ur_12.2.2.2.2.2.2.2.1)), .int ur_12.2.2.2.2.2.2.2.2])), (ur_12.1, .inl (ur_12.2.2.1, ur_12.2.2.2.2.1, .inl ur_12.2.2.2.2.2.1)), (ur_12.2.1, .inl (ur_12.2.2.2.1, ur_12.2.2.2.2.1, .inl ur_12.2.2.2.2.2.2.1)), (y1, .inr (4, [.ref x1, .int kd8, .int wh8, .int (nI lim8), .int bu8])), (x1, .inr (5, [.ref k8, .ref w8, .int (nI nz8), .int ch8])), (k8, .inl (ck8, L8, .inl f8)), (w8, .inl (cw8, L8, .inl g8))] H := hP
          replace hD : va_D A [(a0, .inr (7, [.ref qb])), (qb, .inl (cq, 16, .inr (.inr (.inr (.inr bq))))), (y0, .inr (6, [.ref x0, .int kd, .int wh, .int od, .int tu, .long lo, .long hi])), (x0, .inr (5, [.ref ur_12.1, .ref ur_12.2.1, .int (nI (ur_12.2.2.2.2.2.2.2.1)), .int ur_12.2.2.2.2.2.2.2.2])), (ur_12.1, .inl (ur_12.2.2.1, ur_12.2.2.2.2.1, .inl ur_12.2.2.2.2.2.1)), (ur_12.2.1, .inl (ur_12.2.2.2.1, ur_12.2.2.2.2.1, .inl ur_12.2.2.2.2.2.2.1)), (y1, .inr (4, [.ref x1, .int kd8, .int wh8, .int (nI lim8), .int bu8])), (x1, .inr (5, [.ref k8, .ref w8, .int (nI nz8), .int ch8])), (k8, .inl (ck8, L8, .inl f8)), (w8, .inl (cw8, L8, .inl g8))] := hD
          refine W.widen (k := 120) (n := 52000) (Nat.le_of_ble_eq_true rfl) (Nat.le_of_ble_eq_true rfl) ?_
          refine W.eq (g2 := F0 m 414 ls [.long r_12]) rfl ?_
          refine W.book (fun hz9_ hn9_ => ?_)
          have hcost : hT H + 4 * L ≤ (hT s.heap + 6) + 4 * (ur_12.2.2.2.2.1) ∧ H.size + 2 * lgN L ≤ (s.heap.size + 1) + 2 * lgN (ur_12.2.2.2.2.1) := by constructor <;> omega
          have hP9 := hP.sub (ws' := [(a0, .inr (7, [.ref qb])), (qb, .inl (cq, 16, .inr (.inr (.inr (.inr bq))))), (y0, .inr (6, [.ref x0, .int kd, .int wh, .int od, .int tu, .long lo, .long hi])), (x0, .inr (5, [.ref ur_12.1, .ref ur_12.2.1, .int (nI (ur_12.2.2.2.2.2.2.2.1)), .int ur_12.2.2.2.2.2.2.2.2])), (ur_12.1, .inl (ur_12.2.2.1, ur_12.2.2.2.2.1, .inl ur_12.2.2.2.2.2.1)), (ur_12.2.1, .inl (ur_12.2.2.2.1, ur_12.2.2.2.2.1, .inl ur_12.2.2.2.2.2.2.1)), (y1, .inr (4, [.ref x1, .int kd8, .int wh8, .int (nI lim8), .int bu8])), (x1, .inr (5, [.ref k8, .ref w8, .int (nI nz8), .int ch8])), (k8, .inl (ck8, L8, .inl f8)), (w8, .inl (cw8, L8, .inl g8))]) [0, 1, 2, 3, 4, 5, 6, 7, 8, 9] rfl
          have hD9 := hD.sub (ws' := [(a0, .inr (7, [.ref qb])), (qb, .inl (cq, 16, .inr (.inr (.inr (.inr bq))))), (y0, .inr (6, [.ref x0, .int kd, .int wh, .int od, .int tu, .long lo, .long hi])), (x0, .inr (5, [.ref ur_12.1, .ref ur_12.2.1, .int (nI (ur_12.2.2.2.2.2.2.2.1)), .int ur_12.2.2.2.2.2.2.2.2])), (ur_12.1, .inl (ur_12.2.2.1, ur_12.2.2.2.2.1, .inl ur_12.2.2.2.2.2.1)), (ur_12.2.1, .inl (ur_12.2.2.2.1, ur_12.2.2.2.2.1, .inl ur_12.2.2.2.2.2.2.1)), (y1, .inr (4, [.ref x1, .int kd8, .int wh8, .int (nI lim8), .int bu8])), (x1, .inr (5, [.ref k8, .ref w8, .int (nI nz8), .int ch8])), (k8, .inl (ck8, L8, .inl f8)), (w8, .inl (cw8, L8, .inl g8))]) [0, 1, 2, 3, 4, 5, 6, 7, 8, 9] (by decide) rfl
          have hK9 := hK.sub (tys' := [(cq, .object "KeyAtlas$Body"), (ur_12.2.2.1, .int), (ur_12.2.2.2.1, .int), (ck8, .int), (cw8, .int)]) [0, 5, 6, 3, 4] rfl
          refine W.widen (k := 130) (n := 53000) (Nat.le_of_ble_eq_true rfl) (Nat.le_of_ble_eq_true rfl) ?_
          refine vx_ret ?_
          exact W.lret (v := r_12) hx hb hr (fun t ht hW => ⟨⟨r_12, (ur_12.1, ur_12.2.1, ur_12.2.2.1, ur_12.2.2.2.1, ur_12.2.2.2.2.1, ur_12.2.2.2.2.2.1, ur_12.2.2.2.2.2.2.1, ur_12.2.2.2.2.2.2.2.1, ur_12.2.2.2.2.2.2.2.2), rfl, jr_12, by rw [ht]; exact hP9, va_K.moved hW.alike hK9, hD9, by rw [ht]; exact hcost⟩, hS.F ht⟩) hS.2.2 dX7_map_414
      ·
        have ic_11 : r_10.toInt = 0 := tx_eq rfl (by decide) c_11
        have hP9 := hP.sub (ws' := [(a0, .inr (7, [.ref qb])), (qb, .inl (cq, 16, .inr (.inr (.inr (.inr bq))))), (y0, .inr (6, [.ref x0, .int kd, .int wh, .int od, .int tu, .long lo, .long hi])), (x0, .inr (5, [.ref k0, .ref w0, .int (nI nz), .int ch])), (k0, .inl (ck, L, .inl f)), (w0, .inl (cw, L, .inl g)), (y1, .inr (4, [.ref x1, .int kd8, .int wh8, .int (nI lim8), .int bu8])), (x1, .inr (5, [.ref k8, .ref w8, .int (nI nz8), .int ch8])), (k8, .inl (ck8, L8, .inl f8)), (w8, .inl (cw8, L8, .inl g8))]) [0, 1, 2, 3, 4, 5, 6, 7, 8, 9] rfl
        have hD9 := hD.sub (ws' := [(a0, .inr (7, [.ref qb])), (qb, .inl (cq, 16, .inr (.inr (.inr (.inr bq))))), (y0, .inr (6, [.ref x0, .int kd, .int wh, .int od, .int tu, .long lo, .long hi])), (x0, .inr (5, [.ref k0, .ref w0, .int (nI nz), .int ch])), (k0, .inl (ck, L, .inl f)), (w0, .inl (cw, L, .inl g)), (y1, .inr (4, [.ref x1, .int kd8, .int wh8, .int (nI lim8), .int bu8])), (x1, .inr (5, [.ref k8, .ref w8, .int (nI nz8), .int ch8])), (k8, .inl (ck8, L8, .inl f8)), (w8, .inl (cw8, L8, .inl g8))]) [0, 1, 2, 3, 4, 5, 6, 7, 8, 9] (by decide) rfl
        have hK9 := hK.sub (tys' := [(cq, .object "KeyAtlas$Body"), (ck, .int), (cw, .int), (ck8, .int), (cw8, .int)]) [0, 1, 2, 3, 4] rfl
        refine vx_tightX (XC0 := vx_X (fun _ : Unit => True) (fun (E : String) (_ : Unit) (t : State) => (E = "java/lang/IllegalArgumentException" ∨ E = "java/lang/IllegalStateException" ∨ E = "java/util/NoSuchElementException" ∨ E = "java/lang/UnsupportedOperationException") ∧ va_P (dC, dI) vwCl [(a0, .inr (7, [.ref qb])), (qb, .inl (cq, 16, .inr (.inr (.inr (.inr bq))))), (y0, .inr (6, [.ref x0, .int kd, .int wh, .int od, .int tu, .long lo, .long hi])), (x0, .inr (5, [.ref k0, .ref w0, .int (nI nz), .int ch])), (k0, .inl (ck, L, .inl f)), (w0, .inl (cw, L, .inl g)), (y1, .inr (4, [.ref x1, .int kd8, .int wh8, .int (nI lim8), .int bu8])), (x1, .inr (5, [.ref k8, .ref w8, .int (nI nz8), .int ch8])), (k8, .inl (ck8, L8, .inl f8)), (w8, .inl (cw8, L8, .inl g8))] t.heap ∧ va_K (dC, dI) vwCl [(cq, .object "KeyAtlas$Body"), (ck, .int), (cw, .int), (ck8, .int), (cw8, .int)] t ∧ va_D A [(a0, .inr (7, [.ref qb])), (qb, .inl (cq, 16, .inr (.inr (.inr (.inr bq))))), (y0, .inr (6, [.ref x0, .int kd, .int wh, .int od, .int tu, .long lo, .long hi])), (x0, .inr (5, [.ref k0, .ref w0, .int (nI nz), .int ch])), (k0, .inl (ck, L, .inl f)), (w0, .inl (cw, L, .inl g)), (y1, .inr (4, [.ref x1, .int kd8, .int wh8, .int (nI lim8), .int bu8])), (x1, .inr (5, [.ref k8, .ref w8, .int (nI nz8), .int ch8])), (k8, .inl (ck8, L8, .inl f8)), (w8, .inl (cw8, L8, .inl g8))]) A) 1 6 (by omega) (by omega) (fun E t9 h9 hz9 hn9 => by obtain ⟨u9, g1, g2, g3⟩ := h9; exact ⟨u9, g1, ⟨g2, hz9, hn9⟩, g3⟩) ?_
        obtain ⟨sa, hsa⟩ := hN.stX7_66
        exact vx_throwS hx hb hlt (own := RX7) (cls := "java/lang/UnsupportedOperationException") (text := "op is not for this kind") (names := ["java/lang/RuntimeException", "java/lang/Exception"]) hown (by decide +kernel) (by decide +kernel) hw2_ hw3_ hsa (tx_hat hN.xw (fun w h => hts w (at_X7_map_90 w h)) ng_RX7_68) og_RX7_68 hZ.1 hZ.2 hS (by rw [hml]; exact hl.1) dX7_map_90 dX7_map_93 dX7_map_94 dX7_map_96 dX7_map_99 (fun x hx9 => (htab x hx9).elim) (Nat.le_of_ble_eq_true rfl) (Nat.le_of_ble_eq_true rfl) (Nat.le_of_ble_eq_true rfl) (Nat.le_of_ble_eq_true rfl) hlocks (fun t hvm hz hq => ⟨(), trivial, ⟨Or.inr (Or.inr (Or.inr rfl)), hP9.kept (fun k x hx => hq x.1 (hP9 k x hx).lt), va_K.moved hvm hK9, hD9⟩, ⟨Nat.le_trans hS.1 hz, fun q h1 h2 => (hq q (Nat.lt_of_lt_of_le h1 hS.1)).trans (hS.2.1 q h1 h2)⟩⟩) hS.2.2 (Nat.le_of_ble_eq_true rfl) (Nat.le_of_ble_eq_true rfl)
set_option maxHeartbeats 4000000 in
set_option maxRecDepth 100000 in
/-- map, op 20, S and S -/
theorem c_X7_map20_SS (l : Launch) (hlt : l.stackTraces = false) (dC : Nat → ClassId) (dI : Nat → Nat → Nat) (sz : Nat) (T0 : Nat) (a0 : Nat) (qb : Nat) (cq : ClassId) (bq : Nat → Option Nat) (o : Nat) (y0 : Nat) (kd : Int32) (wh : Int32) (od : Int32) (tu : Int32) (lo : Int64) (hi : Int64) (x0 : Nat) (k0 : Nat) (w0 : Nat) (ck : ClassId) (cw : ClassId) (L : Nat) (f : Nat → Int32) (g : Nat → Int32) (nz : Nat) (ch : Int32) (o8 : Nat) (y1 : Nat) (kd8 : Int32) (wh8 : Int32) (od8 : Int32) (tu8 : Int32) (lo8 : Int64) (hi8 : Int64) (x1 : Nat) (k8 : Nat) (w8 : Nat) (ck8 : ClassId) (cw8 : ClassId) (L8 : Nat) (f8 : Nat → Int32) (g8 : Nat → Int32) (nz8 : Nat) (ch8 : Int32) (p2 : Int32) (ho9 : o < 16) (hbo : bq o = some y0) (hR9 : rOK L nz) (ho1 : 0 ≤ od.toInt) (ho2 : od.toInt ≤ 3) (ho8 : o8 < 16) (hbo8 : bq o8 = some y1) (hR8 : rOK L8 nz8) (ho18 : 0 ≤ od8.toInt) (ho28 : od8.toInt ≤ 3) : vx_Met l yX7_map wqX7_map ({ frames := 9, cells := 130, slots := 53000, locals := 400 }) (va_Pc [.ref a0, .int (nI o), .int 20, .int p2, .int (nI o8)] (pk_PreXT (dC, dI) [(a0, .inr (7, [.ref qb])), (qb, .inl (cq, 16, .inr (.inr (.inr (.inr bq))))), (y0, .inr (6, [.ref x0, .int kd, .int wh, .int od, .int tu, .long lo, .long hi])), (x0, .inr (5, [.ref k0, .ref w0, .int (nI nz), .int ch])), (k0, .inl (ck, L, .inl f)), (w0, .inl (cw, L, .inl g)), (y1, .inr (6, [.ref x1, .int kd8, .int wh8, .int od8, .int tu8, .long lo8, .long hi8])), (x1, .inr (5, [.ref k8, .ref w8, .int (nI nz8), .int ch8])), (k8, .inl (ck8, L8, .inl f8)), (w8, .inl (cw8, L8, .inl g8))] [(cq, .object "KeyAtlas$Body"), (ck, .int), (cw, .int), (ck8, .int), (cw8, .int)] sz T0)) (va_Ql (fun (x : Int64) (u : Nat × Nat × ClassId × ClassId × Nat × (Nat → Int32) × (Nat → Int32) × Nat × Int32) => rOK (u.2.2.2.2.1) (u.2.2.2.2.2.2.2.1)) (fun (u : Nat × Nat × ClassId × ClassId × Nat × (Nat → Int32) × (Nat → Int32) × Nat × Int32) (t : State) => va_P (dC, dI) vwCl [(a0, .inr (7, [.ref qb])), (qb, .inl (cq, 16, .inr (.inr (.inr (.inr bq))))), (y0, .inr (6, [.ref x0, .int kd, .int wh, .int od, .int tu, .long lo, .long hi])), (x0, .inr (5, [.ref u.1, .ref u.2.1, .int (nI (u.2.2.2.2.2.2.2.1)), .int u.2.2.2.2.2.2.2.2])), (u.1, .inl (u.2.2.1, u.2.2.2.2.1, .inl u.2.2.2.2.2.1)), (u.2.1, .inl (u.2.2.2.1, u.2.2.2.2.1, .inl u.2.2.2.2.2.2.1)), (y1, .inr (6, [.ref x1, .int kd8, .int wh8, .int od8, .int tu8, .long lo8, .long hi8])), (x1, .inr (5, [.ref k8, .ref w8, .int (nI nz8), .int ch8])), (k8, .inl (ck8, L8, .inl f8)), (w8, .inl (cw8, L8, .inl g8))] t.heap ∧ va_K (dC, dI) vwCl [(cq, .object "KeyAtlas$Body"), (u.2.2.1, .int), (u.2.2.2.1, .int), (ck8, .int), (cw8, .int)] t ∧ va_D (va_A [(a0, .inr (7, [.ref qb])), (qb, .inl (cq, 16, .inr (.inr (.inr (.inr bq))))), (y0, .inr (6, [.ref x0, .int kd, .int wh, .int od, .int tu, .long lo, .long hi])), (x0, .inr (5, [.ref k0, .ref w0, .int (nI nz), .int ch])), (k0, .inl (ck, L, .inl f)), (w0, .inl (cw, L, .inl g)), (y1, .inr (6, [.ref x1, .int kd8, .int wh8, .int od8, .int tu8, .long lo8, .long hi8])), (x1, .inr (5, [.ref k8, .ref w8, .int (nI nz8), .int ch8])), (k8, .inl (ck8, L8, .inl f8)), (w8, .inl (cw8, L8, .inl g8))] sz) [(a0, .inr (7, [.ref qb])), (qb, .inl (cq, 16, .inr (.inr (.inr (.inr bq))))), (y0, .inr (6, [.ref x0, .int kd, .int wh, .int od, .int tu, .long lo, .long hi])), (x0, .inr (5, [.ref u.1, .ref u.2.1, .int (nI (u.2.2.2.2.2.2.2.1)), .int u.2.2.2.2.2.2.2.2])), (u.1, .inl (u.2.2.1, u.2.2.2.2.1, .inl u.2.2.2.2.2.1)), (u.2.1, .inl (u.2.2.2.1, u.2.2.2.2.1, .inl u.2.2.2.2.2.2.1)), (y1, .inr (6, [.ref x1, .int kd8, .int wh8, .int od8, .int tu8, .long lo8, .long hi8])), (x1, .inr (5, [.ref k8, .ref w8, .int (nI nz8), .int ch8])), (k8, .inl (ck8, L8, .inl f8)), (w8, .inl (cw8, L8, .inl g8))] ∧ hT t.heap + 4 * L ≤ (T0 + 6) + 4 * (u.2.2.2.2.1) ∧ t.heap.size + 2 * lgN L ≤ (sz + 1) + 2 * lgN (u.2.2.2.2.1)) (va_A [(a0, .inr (7, [.ref qb])), (qb, .inl (cq, 16, .inr (.inr (.inr (.inr bq))))), (y0, .inr (6, [.ref x0, .int kd, .int wh, .int od, .int tu, .long lo, .long hi])), (x0, .inr (5, [.ref k0, .ref w0, .int (nI nz), .int ch])), (k0, .inl (ck, L, .inl f)), (w0, .inl (cw, L, .inl g)), (y1, .inr (6, [.ref x1, .int kd8, .int wh8, .int od8, .int tu8, .long lo8, .long hi8])), (x1, .inr (5, [.ref k8, .ref w8, .int (nI nz8), .int ch8])), (k8, .inl (ck8, L8, .inl f8)), (w8, .inl (cw8, L8, .inl g8))] sz)) (vx_X (fun _ : Unit => True) (fun (E : String) (_ : Unit) (t : State) => ((E = "java/lang/IllegalArgumentException" ∨ E = "java/lang/IllegalStateException" ∨ E = "java/util/NoSuchElementException" ∨ E = "java/lang/UnsupportedOperationException") ∧ va_P (dC, dI) vwCl [(a0, .inr (7, [.ref qb])), (qb, .inl (cq, 16, .inr (.inr (.inr (.inr bq))))), (y0, .inr (6, [.ref x0, .int kd, .int wh, .int od, .int tu, .long lo, .long hi])), (x0, .inr (5, [.ref k0, .ref w0, .int (nI nz), .int ch])), (k0, .inl (ck, L, .inl f)), (w0, .inl (cw, L, .inl g)), (y1, .inr (6, [.ref x1, .int kd8, .int wh8, .int od8, .int tu8, .long lo8, .long hi8])), (x1, .inr (5, [.ref k8, .ref w8, .int (nI nz8), .int ch8])), (k8, .inl (ck8, L8, .inl f8)), (w8, .inl (cw8, L8, .inl g8))] t.heap ∧ va_K (dC, dI) vwCl [(cq, .object "KeyAtlas$Body"), (ck, .int), (cw, .int), (ck8, .int), (cw8, .int)] t ∧ va_D (va_A [(a0, .inr (7, [.ref qb])), (qb, .inl (cq, 16, .inr (.inr (.inr (.inr bq))))), (y0, .inr (6, [.ref x0, .int kd, .int wh, .int od, .int tu, .long lo, .long hi])), (x0, .inr (5, [.ref k0, .ref w0, .int (nI nz), .int ch])), (k0, .inl (ck, L, .inl f)), (w0, .inl (cw, L, .inl g)), (y1, .inr (6, [.ref x1, .int kd8, .int wh8, .int od8, .int tu8, .long lo8, .long hi8])), (x1, .inr (5, [.ref k8, .ref w8, .int (nI nz8), .int ch8])), (k8, .inl (ck8, L8, .inl f8)), (w8, .inl (cw8, L8, .inl g8))] sz) [(a0, .inr (7, [.ref qb])), (qb, .inl (cq, 16, .inr (.inr (.inr (.inr bq))))), (y0, .inr (6, [.ref x0, .int kd, .int wh, .int od, .int tu, .long lo, .long hi])), (x0, .inr (5, [.ref k0, .ref w0, .int (nI nz), .int ch])), (k0, .inl (ck, L, .inl f)), (w0, .inl (cw, L, .inl g)), (y1, .inr (6, [.ref x1, .int kd8, .int wh8, .int od8, .int tu8, .long lo8, .long hi8])), (x1, .inr (5, [.ref k8, .ref w8, .int (nI nz8), .int ch8])), (k8, .inl (ck8, L8, .inl f8)), (w8, .inl (cw8, L8, .inl g8))]) ∧ t.heap.size ≤ sz + 1 ∧ hT t.heap ≤ T0 + 6) (va_A [(a0, .inr (7, [.ref qb])), (qb, .inl (cq, 16, .inr (.inr (.inr (.inr bq))))), (y0, .inr (6, [.ref x0, .int kd, .int wh, .int od, .int tu, .long lo, .long hi])), (x0, .inr (5, [.ref k0, .ref w0, .int (nI nz), .int ch])), (k0, .inl (ck, L, .inl f)), (w0, .inl (cw, L, .inl g)), (y1, .inr (6, [.ref x1, .int kd8, .int wh8, .int od8, .int tu8, .long lo8, .long hi8])), (x1, .inr (5, [.ref k8, .ref w8, .int (nI nz8), .int ch8])), (k8, .inl (ck8, L8, .inl f8)), (w8, .inl (cw8, L8, .inl g8))] sz)) 130 53000 (va_A [(a0, .inr (7, [.ref qb])), (qb, .inl (cq, 16, .inr (.inr (.inr (.inr bq))))), (y0, .inr (6, [.ref x0, .int kd, .int wh, .int od, .int tu, .long lo, .long hi])), (x0, .inr (5, [.ref k0, .ref w0, .int (nI nz), .int ch])), (k0, .inl (ck, L, .inl f)), (w0, .inl (cw, L, .inl g)), (y1, .inr (6, [.ref x1, .int kd8, .int wh8, .int od8, .int tu8, .long lo8, .long hi8])), (x1, .inr (5, [.ref k8, .ref w8, .int (nI nz8), .int ch8])), (k8, .inl (ck8, L8, .inl f8)), (w8, .inl (cw8, L8, .inl g8))] sz) := by
  refine vx_ofW (cc := cX7_map) (maxL := 10) (ret := (some .long)) (by decide) rfl ?_
  intro p e s m args below meth c s₁ B hml htab hv
  obtain ⟨rfl, ⟨hsz, hP, hK, hD0, hN, hZ⟩, hT0⟩ := hv
  have hx := B.exec
  have hb := B.bytes
  have hr := B.returns
  have hts := atoms_spec (ws := wqX7_map) B.pre
  have hown : s.vm.findClass RX7 = some m.cls := findClass_of_methodNamed B.named
  have hlocks := B.notSynchronized
  subst hsz
  subst hT0
  have hD := hD0.self (sz := s.heap.size)
  generalize hAe : va_A [(a0, .inr (7, [.ref qb])), (qb, .inl (cq, 16, .inr (.inr (.inr (.inr bq))))), (y0, .inr (6, [.ref x0, .int kd, .int wh, .int od, .int tu, .long lo, .long hi])), (x0, .inr (5, [.ref k0, .ref w0, .int (nI nz), .int ch])), (k0, .inl (ck, L, .inl f)), (w0, .inl (cw, L, .inl g)), (y1, .inr (6, [.ref x1, .int kd8, .int wh8, .int od8, .int tu8, .long lo8, .long hi8])), (x1, .inr (5, [.ref k8, .ref w8, .int (nI nz8), .int ch8])), (k8, .inl (ck8, L8, .inl f8)), (w8, .inl (cw8, L8, .inl g8))] s.heap.size = A at hZ hD ⊢
  have hA : ∀ q : Nat, s.heap.size ≤ q → A q := fun q h => by rw [← hAe]; exact Or.inr h
  have hS : va_S A s.heap s.heap [] := va_S.rf
  have hP : va_P (dC, dI) vwCl [(a0, .inr (7, [.ref qb])), (qb, .inl (cq, 16, .inr (.inr (.inr (.inr bq))))), (y0, .inr (6, [.ref x0, .int kd, .int wh, .int od, .int tu, .long lo, .long hi])), (x0, .inr (5, [.ref k0, .ref w0, .int (nI nz), .int ch])), (k0, .inl (ck, L, .inl f)), (w0, .inl (cw, L, .inl g)), (y1, .inr (6, [.ref x1, .int kd8, .int wh8, .int od8, .int tu8, .long lo8, .long hi8])), (x1, .inr (5, [.ref k8, .ref w8, .int (nI nz8), .int ch8])), (k8, .inl (ck8, L8, .inl f8)), (w8, .inl (cw8, L8, .inl g8))] s.heap := hP
  have hl := lv_entry ([.ref a0, .int (nI o), .int 20, .int p2, .int (nI o8)]) (n := 10) (Nat.le_of_ble_eq_true rfl)
  rw [lg_entry_eq]
  generalize (lg_sl ([.ref a0, .int (nI o), .int 20, .int p2, .int (nI o8)]) ++ List.replicate (10 - (lg_sl ([.ref a0, .int (nI o), .int 20, .int p2, .int (nI o8)])).length) Slot.unset).toArray = ls at hl ⊢
  have hl : lv_has ls 10 [(0, .ref a0), (1, .int (nI o)), (2, .int 20), (3, .int p2), (4, .int (nI o8))] := hl
  have hw0_ := hts (.fieldLink RX7 55 "KeyAtlas$Keyed" "kind" "I") (List.mem_of_getElem? (l := wqX7_map) (i := 5) rfl)
  have hw1_ := hts (.sameField "KeyAtlas$Keyed" "KeyAtlas$Body" "kind" "I") (List.mem_of_getElem? (l := wqX7_map) (i := 6) rfl)
  have hw2_ := hts (.classLink RX7 64 "java/lang/UnsupportedOperationException") (List.mem_of_getElem? (l := wqX7_map) (i := 3) rfl)
  have hw3_ := hts (.initialized "java/lang/UnsupportedOperationException") (List.mem_of_getElem? (l := wqX7_map) (i := 4) rfl)
  have hi0_ : ∀ w ∈ u_ws RX6 TX6 7, w ∈ wqX7_map := fun w h => List.mem_cons_of_mem _ (List.mem_append_left _ (List.mem_append_left _ (List.mem_append_left _ (List.mem_append_left _ (List.mem_append_left _ (List.mem_append_left _ (List.mem_append_left _ (List.mem_append_left _ (List.mem_append_left _ (List.mem_append_left _ (List.mem_append_right _ h)))))))))))
  refine lv_aload_n hx hb dX7_map_0 rfl (lv_at hl 0 rfl) ?_
  refine lv_iload_n hx hb dX7_map_1 rfl (lv_at hl 1 rfl) ?_
  have hPc := hP.sub (ws' := [(a0, .inr (7, [.ref qb])), (qb, .inl (cq, 16, .inr (.inr (.inr (.inr bq)))))]) [0, 1] rfl
  have hKc := hK.sub (tys' := [(cq, .object "KeyAtlas$Body")]) [0] rfl
  refine rox_callr (B := (fun (_ : Unit) (a : Nat) (t : State) => t.heap.size = s.heap.size ∧ ∃ j : Nat, j < 16 ∧ nI o = nI j ∧ bq j = some a)) (fun u9 x9 t9 h9 => h9.1) (vx_runV (As := [.int (nI o)]) (rest := []) ⟨hx, hb, hml, hown, hts⟩ (c_X7_bodyAt l hlt dC dI s.heap.size a0 qb cq bq (nI o)) (cwV 1 hts gX7_map_X7_bodyAt rfl rfl rfl (by decide +kernel) ⟨(Nat.le_of_ble_eq_true rfl), (Nat.le_of_ble_eq_true rfl)⟩) ⟨pk_blindXR, va_recv hKc hPc (ci := 7) (q0 := 0) rfl rfl, pk_callXR hPc hKc hN ((hZ.kept hS.2.1).narrow (fun q h9 => hA q (Nat.le_trans hS.1 h9)))⟩ rfl rfl hl.1 rfl (lv_room (Nat.le_of_ble_eq_true rfl)) dX7_map_2 ⟨(Nat.le_of_ble_eq_true rfl), (Nat.le_of_ble_eq_true rfl)⟩) hS (fun q h9 => hA q (Nat.le_trans hS.1 h9)) (fun E ce q9 u9 t H1 locs ht hvm hw hB hz1 hk1 hS hce hcv hcl => ?_) (fun r_1 ur_1 t9 locs hw hB9 hS => ?_)
  ·
    try dsimp only at hB
    exact bq_no ho9 hbo hB.2
  ·
    refine W.tight (k := 0) (n := 0) (Nat.le_refl _) (Nat.le_refl _) ?_
    clear hPc hKc
    try dsimp only at hw
    have jr_1 := hw
    refine W.eq (g2 := F0 m 5 ls [.ref y0]) (by rw [show r_1 = y0 from bq_is ho9 hbo hB9.2]) ?_
    refine lv_astore (lv' := [(5, .ref y0), (0, .ref a0), (1, .int (nI o)), (2, .int 20), (3, .int p2), (4, .int (nI o8))]) hx hb dX7_map_5 hl (by decide) rfl (fun ls hl => ?_)
    refine lv_iload_n hx hb dX7_map_7 rfl (lv_at hl 3 rfl) ?_
    refine lv_bipush (v := 19) hx hb dX7_map_8 (by decide) ?_
    refine lv_icmp_eq (tgt := 19) hx hb dX7_map_10 (by decide) (fun c_2 => absurd c_2 (by decide)) (fun c_2 => ?_)
    refine lv_iload_n hx hb dX7_map_13 rfl (lv_at hl 3 rfl) ?_
    refine lv_bipush (v := 20) hx hb dX7_map_14 (by decide) ?_
    refine lv_icmp_ne (tgt := 23) hx hb dX7_map_16 (by decide) (fun c_3 => absurd c_3 (by decide)) (fun c_3 => ?_)
    refine lv_iconst (v := 1) hx hb dX7_map_19 (by decide) ?_
    refine lv_goto (tgt := 24) hx hb dX7_map_20 (by decide) ?_
    refine lv_istore (lv' := [(6, .int 1), (5, .ref y0), (0, .ref a0), (1, .int (nI o)), (2, .int 20), (3, .int p2), (4, .int (nI o8))]) hx hb dX7_map_24 hl (by decide) rfl (fun ls hl => ?_)
    refine lv_iload hx hb dX7_map_26 (lv_at hl 0 rfl) ?_
    refine lv_if_eq (tgt := 40) hx hb dX7_map_28 (by decide) (fun c_4 => absurd c_4 (by decide)) (fun c_4 => ?_)
    refine lv_aload_n hx hb dX7_map_31 rfl (lv_at hl 2 rfl) ?_
    refine lv_iload hx hb dX7_map_32 (lv_at hl 6 rfl) ?_
    have hPc := hP.sub (ws' := [(a0, .inr (7, [.ref qb])), (qb, .inl (cq, 16, .inr (.inr (.inr (.inr bq)))))]) [0, 1] rfl
    have hKc := hK.sub (tys' := [(cq, .object "KeyAtlas$Body")]) [0] rfl
    refine rox_callr (B := (fun (_ : Unit) (a : Nat) (t : State) => t.heap.size = s.heap.size ∧ ∃ j : Nat, j < 16 ∧ nI o8 = nI j ∧ bq j = some a)) (fun u9 x9 t9 h9 => h9.1) (vx_runV (As := [.int (nI o8)]) (rest := []) ⟨hx, hb, hml, hown, hts⟩ (c_X7_bodyAt l hlt dC dI s.heap.size a0 qb cq bq (nI o8)) (cwV 1 hts gX7_map_X7_bodyAt rfl rfl rfl (by decide +kernel) ⟨(Nat.le_of_ble_eq_true rfl), (Nat.le_of_ble_eq_true rfl)⟩) ⟨pk_blindXR, va_recv hKc hPc (ci := 7) (q0 := 0) rfl rfl, pk_callXR hPc hKc hN ((hZ.kept hS.2.1).narrow (fun q h9 => hA q (Nat.le_trans hS.1 h9)))⟩ rfl rfl hl.1 rfl (lv_room (Nat.le_of_ble_eq_true rfl)) dX7_map_34 ⟨(Nat.le_of_ble_eq_true rfl), (Nat.le_of_ble_eq_true rfl)⟩) hS (fun q h9 => hA q (Nat.le_trans hS.1 h9)) (fun E ce q9 u9 t H1 locs ht hvm hw hB hz1 hk1 hS hce hcv hcl => ?_) (fun r_5 ur_5 t9 locs hw hB9 hS => ?_)
    ·
      try dsimp only at hB
      exact bq_no ho8 hbo8 hB.2
    ·
      refine W.tight (k := 0) (n := 0) (Nat.le_refl _) (Nat.le_refl _) ?_
      clear hPc hKc
      try dsimp only at hw
      have jr_5 := hw
      refine W.eq (g2 := F0 m 37 ls [.ref y1]) (by rw [show r_5 = y1 from bq_is ho8 hbo8 hB9.2]) ?_
      refine lv_goto (tgt := 42) hx hb dX7_map_37 (by decide) ?_
      refine lv_astore (lv' := [(7, .ref y1), (6, .int 1), (5, .ref y0), (0, .ref a0), (1, .int (nI o)), (2, .int 20), (3, .int p2), (4, .int (nI o8))]) hx hb dX7_map_42 hl (by decide) rfl (fun ls hl => ?_)
      refine lv_aload hx hb dX7_map_44 (lv_at hl 2 rfl) ?_
      have hPc := hP.sub (ws' := [(y0, .inr (6, [.ref x0, .int kd, .int wh, .int od, .int tu, .long lo, .long hi]))]) [2] rfl
      have hKc := hK.sub (tys' := []) [] rfl
      refine ro_callr (B := (fun (_ : Unit) (a : Nat) (t : State) => t.heap.size = s.heap.size ∧ a = y0)) (fun u9 x9 t9 h9 => h9.1) (va_runS (As := [.ref y0]) (rest := []) ⟨hx, hb, hml, hown, hts⟩ (c_X7_asMap_S l hlt dC dI s.heap.size y0 ([.ref x0, .int kd, .int wh, .int od, .int tu, .long lo, .long hi])) (va_cwS 1 hts gX7_map_X7_asMap rfl rfl rfl (by decide +kernel) ⟨(Nat.le_of_ble_eq_true rfl), (Nat.le_of_ble_eq_true rfl)⟩) ⟨pk_blindRX, pk_callRX hPc hKc hN⟩ rfl rfl hl.1 rfl (lv_room (Nat.le_of_ble_eq_true rfl)) dX7_map_46 ⟨(Nat.le_of_ble_eq_true rfl), (Nat.le_of_ble_eq_true rfl)⟩) (fun r_6 ur_6 t9 hw hB9 => ?_)
      clear hPc hKc
      try dsimp only at hw
      have jr_6 := hw
      refine W.eq (g2 := F0 m 49 ls [.ref y0]) (by rw [show r_6 = y0 from hB9.2]) ?_
      refine lv_astore (lv' := [(8, .ref y0), (7, .ref y1), (6, .int 1), (5, .ref y0), (0, .ref a0), (1, .int (nI o)), (2, .int 20), (3, .int p2), (4, .int (nI o8))]) hx hb dX7_map_49 hl (by decide) rfl (fun ls hl => ?_)
      refine lv_aload hx hb dX7_map_51 (lv_at hl 1 rfl) ?_
      have hPc := hP.sub (ws' := [(y1, .inr (6, [.ref x1, .int kd8, .int wh8, .int od8, .int tu8, .long lo8, .long hi8]))]) [6] rfl
      have hKc := hK.sub (tys' := []) [] rfl
      refine ro_callr (B := (fun (_ : Unit) (a : Nat) (t : State) => t.heap.size = s.heap.size ∧ a = y1)) (fun u9 x9 t9 h9 => h9.1) (va_runS (As := [.ref y1]) (rest := []) ⟨hx, hb, hml, hown, hts⟩ (c_X7_asMap_S l hlt dC dI s.heap.size y1 ([.ref x1, .int kd8, .int wh8, .int od8, .int tu8, .long lo8, .long hi8])) (va_cwS 1 hts gX7_map_X7_asMap rfl rfl rfl (by decide +kernel) ⟨(Nat.le_of_ble_eq_true rfl), (Nat.le_of_ble_eq_true rfl)⟩) ⟨pk_blindRX, pk_callRX hPc hKc hN⟩ rfl rfl hl.1 rfl (lv_room (Nat.le_of_ble_eq_true rfl)) dX7_map_53 ⟨(Nat.le_of_ble_eq_true rfl), (Nat.le_of_ble_eq_true rfl)⟩) (fun r_7 ur_7 t9 hw hB9 => ?_)
      clear hPc hKc
      try dsimp only at hw
      have jr_7 := hw
      refine W.eq (g2 := F0 m 56 ls [.ref y1]) (by rw [show r_7 = y1 from hB9.2]) ?_
      refine lv_astore (lv' := [(9, .ref y1), (8, .ref y0), (7, .ref y1), (6, .int 1), (5, .ref y0), (0, .ref a0), (1, .int (nI o)), (2, .int 20), (3, .int p2), (4, .int (nI o8))]) hx hb dX7_map_56 hl (by decide) rfl (fun ls hl => ?_)
      refine lv_iload_n hx hb dX7_map_58 rfl (lv_at hl 7 rfl) ?_
      refine lv_if_lt (tgt := 68) hx hb dX7_map_59 (by decide) (fun c_8 => absurd c_8 (by decide)) (fun c_8 => ?_)
      refine lv_iload_n hx hb dX7_map_62 rfl (lv_at hl 7 rfl) ?_
      refine lv_bipush (v := 25) hx hb dX7_map_63 (by decide) ?_
      refine lv_icmp_le (tgt := 78) hx hb dX7_map_65 (by decide) (fun c_9 => ?_) (fun c_9 => absurd c_9 (by decide))
      refine lv_aload hx hb dX7_map_78 (lv_at hl 1 rfl) ?_
      refine va_get (D := (dC, dI)) (ci := 6) (v := .int kd) (C := RX6) (T := TX6) (N := 7) hx hb hts hi0_ hown hK hP 2 rfl rfl 1 (by decide) hw0_ (u_same hw1_) rfl dX7_map_80 ?_
      refine lv_iload_n hx hb dX7_map_83 rfl (lv_at hl 7 rfl) ?_
      have hPc := hP.sub (ws' := []) [] rfl
      have hKc := hK.sub (tys' := []) [] rfl
      refine ro_calli (va_runS (As := [.int kd, .int 20]) (rest := []) ⟨hx, hb, hml, hown, hts⟩ (c_X7_hasOp l  dC dI s.heap.size kd 20) (va_cwS 2 hts gX7_map_X7_hasOp rfl rfl rfl (by decide +kernel) ⟨(Nat.le_of_ble_eq_true rfl), (Nat.le_of_ble_eq_true rfl)⟩) ⟨pk_blindR, pk_callR hPc hKc⟩ rfl rfl hl.1 rfl (lv_room (Nat.le_of_ble_eq_true rfl)) dX7_map_84 ⟨(Nat.le_of_ble_eq_true rfl), (Nat.le_of_ble_eq_true rfl)⟩) (fun r_10 ur_10 hw => ?_)
      clear hPc hKc
      try dsimp only at hw
      have jr_10 := hw
      refine W.eq (g2 := F0 m 87 ls [.int r_10]) rfl ?_
      refine lv_if_ne (tgt := 100) hx hb dX7_map_87 (by decide) (fun c_11 => ?_) (fun c_11 => ?_)
      ·
        have ic_11 : ¬ r_10.toInt = 0 := tx_ne rfl (by decide) c_11
        refine lv_iload_n hx hb dX7_map_100 rfl (lv_at hl 7 rfl) ?_
        refine lv_tableIn (x := 20) (off := 306) (tgt := 407) hx hb dX7_map_101 (by decide) (by decide) (by decide) (by decide) ?_
        refine lv_aload hx hb dX7_map_407 (lv_at hl 1 rfl) ?_
        refine lv_aload hx hb dX7_map_409 (lv_at hl 0 rfl) ?_
        have hPc := hP.sub (ws' := [(y0, .inr (6, [.ref x0, .int kd, .int wh, .int od, .int tu, .long lo, .long hi])), (x0, .inr (5, [.ref k0, .ref w0, .int (nI nz), .int ch])), (k0, .inl (ck, L, .inl f)), (w0, .inl (cw, L, .inl g)), (y1, .inr (6, [.ref x1, .int kd8, .int wh8, .int od8, .int tu8, .long lo8, .long hi8])), (x1, .inr (5, [.ref k8, .ref w8, .int (nI nz8), .int ch8])), (k8, .inl (ck8, L8, .inl f8)), (w8, .inl (cw8, L8, .inl g8))]) [2, 3, 4, 5, 6, 7, 8, 9] rfl
        have hDc := hD.sub (ws' := [(y0, .inr (6, [.ref x0, .int kd, .int wh, .int od, .int tu, .long lo, .long hi])), (x0, .inr (5, [.ref k0, .ref w0, .int (nI nz), .int ch])), (k0, .inl (ck, L, .inl f)), (w0, .inl (cw, L, .inl g)), (y1, .inr (6, [.ref x1, .int kd8, .int wh8, .int od8, .int tu8, .long lo8, .long hi8])), (x1, .inr (5, [.ref k8, .ref w8, .int (nI nz8), .int ch8])), (k8, .inl (ck8, L8, .inl f8)), (w8, .inl (cw8, L8, .inl g8))]) [2, 3, 4, 5, 6, 7, 8, 9] (by decide) rfl
        have hKc := hK.sub (tys' := [(ck, .int), (cw, .int), (ck8, .int), (cw8, .int)]) [1, 2, 3, 4] rfl
        have hFc := va_free (wc := [(y0, .inr (6, [.ref x0, .int kd, .int wh, .int od, .int tu, .long lo, .long hi])), (x0, .inr (5, [.ref k0, .ref w0, .int (nI nz), .int ch])), (k0, .inl (ck, L, .inl f)), (w0, .inl (cw, L, .inl g)), (y1, .inr (6, [.ref x1, .int kd8, .int wh8, .int od8, .int tu8, .long lo8, .long hi8])), (x1, .inr (5, [.ref k8, .ref w8, .int (nI nz8), .int ch8])), (k8, .inl (ck8, L8, .inl f8)), (w8, .inl (cw8, L8, .inl g8))]) hD hS hA [2, 3, 4, 5, 6, 7, 8, 9] rfl
        have hZc := (hZ.kept hS.2.1).narrow hFc
        refine vx_calll (vx_runU (As := [.ref y1]) (rest := []) ⟨hx, hb, hml, hown, hts⟩ (c_X3_putAll_SS l hlt dC dI s.heap.size (hT s.heap) y0 kd wh od tu lo hi x0 k0 w0 ck cw L f g nz ch y1 kd8 wh8 od8 tu8 lo8 hi8 x1 k8 w8 ck8 cw8 L8 f8 g8 nz8 ch8 hR9 ho1 ho2 hR8 ho18 ho28) (va_cwU 1 hts gX7_map_X3_putAll_u124X6 rfl rfl rfl rfl (by decide +kernel) ⟨(Nat.le_of_ble_eq_true rfl), (Nat.le_of_ble_eq_true rfl)⟩) ⟨pk_blindXT, va_recv hKc hPc (ci := 6) (q0 := 0) rfl rfl, pk_callXT hPc hKc hDc hN hZc⟩ rfl rfl hl.1 rfl (lv_room (Nat.le_of_ble_eq_true rfl)) dX7_map_411 ⟨(Nat.le_of_ble_eq_true rfl), (Nat.le_of_ble_eq_true rfl)⟩) hS (fun q _ h => hFc q h) hFc (fun q _ h => hFc q h) (fun E ce q9 u9 t H1 locs ht hvm hw hB hz1 hk1 hS hce hcv hcl => ?_) (fun r_12 ur_12 t H1 locs ht hvm hw hB hz1 hk1 hS => ?_)
        ·
          try dsimp only at hB
          obtain ⟨hB8, hB7⟩ := hB
          obtain ⟨hE8, hP8, hK8, hD8⟩ := hB8
          rw [ht] at hP8
          obtain ⟨hP7, -⟩ := va_join (wr := [(a0, .inr (7, [.ref qb])), (qb, .inl (cq, 16, .inr (.inr (.inr (.inr bq)))))]) (w1 := [(y0, .inr (6, [.ref x0, .int kd, .int wh, .int od, .int tu, .long lo, .long hi])), (x0, .inr (5, [.ref k0, .ref w0, .int (nI nz), .int ch])), (k0, .inl (ck, L, .inl f)), (w0, .inl (cw, L, .inl g)), (y1, .inr (6, [.ref x1, .int kd8, .int wh8, .int od8, .int tu8, .long lo8, .long hi8])), (x1, .inr (5, [.ref k8, .ref w8, .int (nI nz8), .int ch8])), (k8, .inl (ck8, L8, .inl f8)), (w8, .inl (cw8, L8, .inl g8))]) hP hD [2, 3, 4, 5, 6, 7, 8, 9] [0, 1] rfl rfl (by decide) (by decide) hk1 hFc hP8 hD8
          have hP6 := hP7.sub (ws' := [(a0, .inr (7, [.ref qb])), (qb, .inl (cq, 16, .inr (.inr (.inr (.inr bq))))), (y0, .inr (6, [.ref x0, .int kd, .int wh, .int od, .int tu, .long lo, .long hi])), (x0, .inr (5, [.ref k0, .ref w0, .int (nI nz), .int ch])), (k0, .inl (ck, L, .inl f)), (w0, .inl (cw, L, .inl g)), (y1, .inr (6, [.ref x1, .int kd8, .int wh8, .int od8, .int tu8, .long lo8, .long hi8])), (x1, .inr (5, [.ref k8, .ref w8, .int (nI nz8), .int ch8])), (k8, .inl (ck8, L8, .inl f8)), (w8, .inl (cw8, L8, .inl g8))]) [0, 1, 2, 3, 4, 5, 6, 7, 8, 9] rfl
          exact vx_out (fun x hx9 => (htab x hx9).elim) hlocks hce hcv hcl (fun t9 ht9 hal9 => ⟨(), trivial, ⟨⟨hE8.elim (fun h => Or.inl h) (fun h => Or.inr (Or.inl h)), by rw [ht9]; exact hP6, va_K.moved hal9 hK, hD⟩, by rw [ht9, ← ht]; exact hB7.1, by rw [ht9, ← ht]; exact hB7.2⟩, hS.F ht9⟩) hS.2.2 (by omega) (by omega)
        ·
          try dsimp only at hw
          have jr_12 := hw
          obtain ⟨hP1, hK1, hD1, hC1_⟩ := hB
          rw [ht] at hP1 hC1_
          have hK1 := va_K.moved hvm.symm hK1
          obtain ⟨hP, hD⟩ := va_join (wr := [(a0, .inr (7, [.ref qb])), (qb, .inl (cq, 16, .inr (.inr (.inr (.inr bq)))))]) (w1 := [(y0, .inr (6, [.ref x0, .int kd, .int wh, .int od, .int tu, .long lo, .long hi])), (x0, .inr (5, [.ref ur_12.1, .ref ur_12.2.1, .int (nI (ur_12.2.2.2.2.2.2.2.1)), .int ur_12.2.2.2.2.2.2.2.2])), (ur_12.1, .inl (ur_12.2.2.1, ur_12.2.2.2.2.1, .inl ur_12.2.2.2.2.2.1)), (ur_12.2.1, .inl (ur_12.2.2.2.1, ur_12.2.2.2.2.1, .inl ur_12.2.2.2.2.2.2.1)), (y1, .inr (6, [.ref x1, .int kd8, .int wh8, .int od8, .int tu8, .long lo8, .long hi8])), (x1, .inr (5, [.ref k8, .ref w8, .int (nI nz8), .int ch8])), (k8, .inl (ck8, L8, .inl f8)), (w8, .inl (cw8, L8, .inl g8))]) hP hD [2, 3, 4, 5, 6, 7, 8, 9] [0, 1] rfl rfl (by decide) (by decide) hk1 hFc hP1 hD1
          have hK := hK.app hK1
          have hK : va_K (dC, dI) vwCl [(cq, .object "KeyAtlas$Body"), (ck, .int), (cw, .int), (ck8, .int), (cw8, .int), (ur_12.2.2.1, .int), (ur_12.2.2.2.1, .int), (ck8, .int), (cw8, .int)] s := hK
          have hcs1_ : hT H1 + 4 * L ≤ hT s.heap + 4 * (ur_12.2.2.2.2.1) := hC1_.1
          have hcs2_ : H1.size + 2 * lgN L ≤ s.heap.size + 2 * lgN (ur_12.2.2.2.2.1) := hC1_.2
          clear hC1_
          clear hk1 hz1 ht hPc hDc hKc hFc
          generalize H1 = H at hP hS hcs1_ hcs2_ ⊢
          replace hP : va_P (dC, dI) vwCl [(a0, .inr (7, [.ref qb])), (qb, .inl (cq, 16, .inr (.inr (.inr (.inr bq))))), (y0, .inr (6, [.ref x0, .int kd, .int wh, .int od, .int tu, .long lo, .long hi])), (x0, .inr (5, [.ref ur_12.1, .ref ur_12.2.1, .int (nI (ur_12.2.2.2.2.2.2.2.1)), .int ur_12.2.2.2.2.2.2.2.2])), (ur_12.1, .inl (ur_12.2.2.1, ur_12.2.2.2.2.1, .inl ur_12.2.2.2.2.2.1)), (ur_12.2.1, .inl (ur_12.2.2.2.1, ur_12.2.2.2.2.1, .inl ur_12.2.2.2.2.2.2.1)), (y1, .inr (6, [.ref x1, .int kd8, .int wh8, .int od8, .int tu8, .long lo8, .long hi8])), (x1, .inr (5, [.ref k8, .ref w8, .int (nI nz8), .int ch8])), (k8, .inl (ck8, L8, .inl f8)), (w8, .inl (cw8, L8, .inl g8))] H := hP
          replace hD : va_D A [(a0, .inr (7, [.ref qb])), (qb, .inl (cq, 16, .inr (.inr (.inr (.inr bq))))), (y0, .inr (6, [.ref x0, .int kd, .int wh, .int od, .int tu, .long lo, .long hi])), (x0, .inr (5, [.ref ur_12.1, .ref ur_12.2.1, .int (nI (ur_12.2.2.2.2.2.2.2.1)), .int ur_12.2.2.2.2.2.2.2.2])), (ur_12.1, .inl (ur_12.2.2.1, ur_12.2.2.2.2.1, .inl ur_12.2.2.2.2.2.1)), (ur_12.2.1, .inl (ur_12.2.2.2.1, ur_12.2.2.2.2.1, .inl ur_12.2.2.2.2.2.2.1)), (y1, .inr (6, [.ref x1, .int kd8, .int wh8, .int od8, .int tu8, .long lo8, .long hi8])), (x1, .inr (5, [.ref k8, .ref w8, .int (nI nz8), .int ch8])), (k8, .inl (ck8, L8, .inl f8)), (w8, .inl (cw8, L8, .inl g8))] := hD
          refine W.widen (k := 120) (n := 52000) (Nat.le_of_ble_eq_true rfl) (Nat.le_of_ble_eq_true rfl) ?_
          refine W.eq (g2 := F0 m 414 ls [.long r_12]) rfl ?_
          refine W.book (fun hz9_ hn9_ => ?_)
          have hcost : hT H + 4 * L ≤ (hT s.heap + 6) + 4 * (ur_12.2.2.2.2.1) ∧ H.size + 2 * lgN L ≤ (s.heap.size + 1) + 2 * lgN (ur_12.2.2.2.2.1) := by constructor <;> omega
          have hP9 := hP.sub (ws' := [(a0, .inr (7, [.ref qb])), (qb, .inl (cq, 16, .inr (.inr (.inr (.inr bq))))), (y0, .inr (6, [.ref x0, .int kd, .int wh, .int od, .int tu, .long lo, .long hi])), (x0, .inr (5, [.ref ur_12.1, .ref ur_12.2.1, .int (nI (ur_12.2.2.2.2.2.2.2.1)), .int ur_12.2.2.2.2.2.2.2.2])), (ur_12.1, .inl (ur_12.2.2.1, ur_12.2.2.2.2.1, .inl ur_12.2.2.2.2.2.1)), (ur_12.2.1, .inl (ur_12.2.2.2.1, ur_12.2.2.2.2.1, .inl ur_12.2.2.2.2.2.2.1)), (y1, .inr (6, [.ref x1, .int kd8, .int wh8, .int od8, .int tu8, .long lo8, .long hi8])), (x1, .inr (5, [.ref k8, .ref w8, .int (nI nz8), .int ch8])), (k8, .inl (ck8, L8, .inl f8)), (w8, .inl (cw8, L8, .inl g8))]) [0, 1, 2, 3, 4, 5, 6, 7, 8, 9] rfl
          have hD9 := hD.sub (ws' := [(a0, .inr (7, [.ref qb])), (qb, .inl (cq, 16, .inr (.inr (.inr (.inr bq))))), (y0, .inr (6, [.ref x0, .int kd, .int wh, .int od, .int tu, .long lo, .long hi])), (x0, .inr (5, [.ref ur_12.1, .ref ur_12.2.1, .int (nI (ur_12.2.2.2.2.2.2.2.1)), .int ur_12.2.2.2.2.2.2.2.2])), (ur_12.1, .inl (ur_12.2.2.1, ur_12.2.2.2.2.1, .inl ur_12.2.2.2.2.2.1)), (ur_12.2.1, .inl (ur_12.2.2.2.1, ur_12.2.2.2.2.1, .inl ur_12.2.2.2.2.2.2.1)), (y1, .inr (6, [.ref x1, .int kd8, .int wh8, .int od8, .int tu8, .long lo8, .long hi8])), (x1, .inr (5, [.ref k8, .ref w8, .int (nI nz8), .int ch8])), (k8, .inl (ck8, L8, .inl f8)), (w8, .inl (cw8, L8, .inl g8))]) [0, 1, 2, 3, 4, 5, 6, 7, 8, 9] (by decide) rfl
          have hK9 := hK.sub (tys' := [(cq, .object "KeyAtlas$Body"), (ur_12.2.2.1, .int), (ur_12.2.2.2.1, .int), (ck8, .int), (cw8, .int)]) [0, 5, 6, 3, 4] rfl
          refine W.widen (k := 130) (n := 53000) (Nat.le_of_ble_eq_true rfl) (Nat.le_of_ble_eq_true rfl) ?_
          refine vx_ret ?_
          exact W.lret (v := r_12) hx hb hr (fun t ht hW => ⟨⟨r_12, (ur_12.1, ur_12.2.1, ur_12.2.2.1, ur_12.2.2.2.1, ur_12.2.2.2.2.1, ur_12.2.2.2.2.2.1, ur_12.2.2.2.2.2.2.1, ur_12.2.2.2.2.2.2.2.1, ur_12.2.2.2.2.2.2.2.2), rfl, jr_12, by rw [ht]; exact hP9, va_K.moved hW.alike hK9, hD9, by rw [ht]; exact hcost⟩, hS.F ht⟩) hS.2.2 dX7_map_414
      ·
        have ic_11 : r_10.toInt = 0 := tx_eq rfl (by decide) c_11
        have hP9 := hP.sub (ws' := [(a0, .inr (7, [.ref qb])), (qb, .inl (cq, 16, .inr (.inr (.inr (.inr bq))))), (y0, .inr (6, [.ref x0, .int kd, .int wh, .int od, .int tu, .long lo, .long hi])), (x0, .inr (5, [.ref k0, .ref w0, .int (nI nz), .int ch])), (k0, .inl (ck, L, .inl f)), (w0, .inl (cw, L, .inl g)), (y1, .inr (6, [.ref x1, .int kd8, .int wh8, .int od8, .int tu8, .long lo8, .long hi8])), (x1, .inr (5, [.ref k8, .ref w8, .int (nI nz8), .int ch8])), (k8, .inl (ck8, L8, .inl f8)), (w8, .inl (cw8, L8, .inl g8))]) [0, 1, 2, 3, 4, 5, 6, 7, 8, 9] rfl
        have hD9 := hD.sub (ws' := [(a0, .inr (7, [.ref qb])), (qb, .inl (cq, 16, .inr (.inr (.inr (.inr bq))))), (y0, .inr (6, [.ref x0, .int kd, .int wh, .int od, .int tu, .long lo, .long hi])), (x0, .inr (5, [.ref k0, .ref w0, .int (nI nz), .int ch])), (k0, .inl (ck, L, .inl f)), (w0, .inl (cw, L, .inl g)), (y1, .inr (6, [.ref x1, .int kd8, .int wh8, .int od8, .int tu8, .long lo8, .long hi8])), (x1, .inr (5, [.ref k8, .ref w8, .int (nI nz8), .int ch8])), (k8, .inl (ck8, L8, .inl f8)), (w8, .inl (cw8, L8, .inl g8))]) [0, 1, 2, 3, 4, 5, 6, 7, 8, 9] (by decide) rfl
        have hK9 := hK.sub (tys' := [(cq, .object "KeyAtlas$Body"), (ck, .int), (cw, .int), (ck8, .int), (cw8, .int)]) [0, 1, 2, 3, 4] rfl
        refine vx_tightX (XC0 := vx_X (fun _ : Unit => True) (fun (E : String) (_ : Unit) (t : State) => (E = "java/lang/IllegalArgumentException" ∨ E = "java/lang/IllegalStateException" ∨ E = "java/util/NoSuchElementException" ∨ E = "java/lang/UnsupportedOperationException") ∧ va_P (dC, dI) vwCl [(a0, .inr (7, [.ref qb])), (qb, .inl (cq, 16, .inr (.inr (.inr (.inr bq))))), (y0, .inr (6, [.ref x0, .int kd, .int wh, .int od, .int tu, .long lo, .long hi])), (x0, .inr (5, [.ref k0, .ref w0, .int (nI nz), .int ch])), (k0, .inl (ck, L, .inl f)), (w0, .inl (cw, L, .inl g)), (y1, .inr (6, [.ref x1, .int kd8, .int wh8, .int od8, .int tu8, .long lo8, .long hi8])), (x1, .inr (5, [.ref k8, .ref w8, .int (nI nz8), .int ch8])), (k8, .inl (ck8, L8, .inl f8)), (w8, .inl (cw8, L8, .inl g8))] t.heap ∧ va_K (dC, dI) vwCl [(cq, .object "KeyAtlas$Body"), (ck, .int), (cw, .int), (ck8, .int), (cw8, .int)] t ∧ va_D A [(a0, .inr (7, [.ref qb])), (qb, .inl (cq, 16, .inr (.inr (.inr (.inr bq))))), (y0, .inr (6, [.ref x0, .int kd, .int wh, .int od, .int tu, .long lo, .long hi])), (x0, .inr (5, [.ref k0, .ref w0, .int (nI nz), .int ch])), (k0, .inl (ck, L, .inl f)), (w0, .inl (cw, L, .inl g)), (y1, .inr (6, [.ref x1, .int kd8, .int wh8, .int od8, .int tu8, .long lo8, .long hi8])), (x1, .inr (5, [.ref k8, .ref w8, .int (nI nz8), .int ch8])), (k8, .inl (ck8, L8, .inl f8)), (w8, .inl (cw8, L8, .inl g8))]) A) 1 6 (by omega) (by omega) (fun E t9 h9 hz9 hn9 => by obtain ⟨u9, g1, g2, g3⟩ := h9; exact ⟨u9, g1, ⟨g2, hz9, hn9⟩, g3⟩) ?_
        obtain ⟨sa, hsa⟩ := hN.stX7_66
        exact vx_throwS hx hb hlt (own := RX7) (cls := "java/lang/UnsupportedOperationException") (text := "op is not for this kind") (names := ["java/lang/RuntimeException", "java/lang/Exception"]) hown (by decide +kernel) (by decide +kernel) hw2_ hw3_ hsa (tx_hat hN.xw (fun w h => hts w (at_X7_map_90 w h)) ng_RX7_68) og_RX7_68 hZ.1 hZ.2 hS (by rw [hml]; exact hl.1) dX7_map_90 dX7_map_93 dX7_map_94 dX7_map_96 dX7_map_99 (fun x hx9 => (htab x hx9).elim) (Nat.le_of_ble_eq_true rfl) (Nat.le_of_ble_eq_true rfl) (Nat.le_of_ble_eq_true rfl) (Nat.le_of_ble_eq_true rfl) hlocks (fun t hvm hz hq => ⟨(), trivial, ⟨Or.inr (Or.inr (Or.inr rfl)), hP9.kept (fun k x hx => hq x.1 (hP9 k x hx).lt), va_K.moved hvm hK9, hD9⟩, ⟨Nat.le_trans hS.1 hz, fun q h1 h2 => (hq q (Nat.lt_of_lt_of_le h1 hS.1)).trans (hS.2.1 q h1 h2)⟩⟩) hS.2.2 (Nat.le_of_ble_eq_true rfl) (Nat.le_of_ble_eq_true rfl)
set_option maxHeartbeats 4000000 in
set_option maxRecDepth 100000 in
/-- map, op 20, S and S -/
theorem c_X7_map20_SSe (l : Launch) (hlt : l.stackTraces = false) (dC : Nat → ClassId) (dI : Nat → Nat → Nat) (sz : Nat) (T0 : Nat) (a0 : Nat) (qb : Nat) (cq : ClassId) (bq : Nat → Option Nat) (o : Nat) (y0 : Nat) (kd : Int32) (wh : Int32) (od : Int32) (tu : Int32) (lo : Int64) (hi : Int64) (x0 : Nat) (k0 : Nat) (w0 : Nat) (ck : ClassId) (cw : ClassId) (L : Nat) (f : Nat → Int32) (g : Nat → Int32) (nz : Nat) (ch : Int32) (o8 : Nat) (y1 : Nat) (kd8 : Int32) (wh8 : Int32) (od8 : Int32) (tu8 : Int32) (lo8 : Int64) (hi8 : Int64) (p2 : Int32) (ho9 : o < 16) (hbo : bq o = some y0) (hR9 : rOK L nz) (ho1 : 0 ≤ od.toInt) (ho2 : od.toInt ≤ 3) (ho8 : o8 < 16) (hbo8 : bq o8 = some y1) (ho18 : 0 ≤ od8.toInt) (ho28 : od8.toInt ≤ 3) : vx_Met l yX7_map wqX7_map ({ frames := 9, cells := 130, slots := 53000, locals := 400 }) (va_Pc [.ref a0, .int (nI o), .int 20, .int p2, .int (nI o8)] (pk_PreXT (dC, dI) [(a0, .inr (7, [.ref qb])), (qb, .inl (cq, 16, .inr (.inr (.inr (.inr bq))))), (y0, .inr (6, [.ref x0, .int kd, .int wh, .int od, .int tu, .long lo, .long hi])), (y1, .inr (6, [.ref x0, .int kd8, .int wh8, .int od8, .int tu8, .long lo8, .long hi8])), (x0, .inr (5, [.ref k0, .ref w0, .int (nI nz), .int ch])), (k0, .inl (ck, L, .inl f)), (w0, .inl (cw, L, .inl g))] [(cq, .object "KeyAtlas$Body"), (ck, .int), (cw, .int)] sz T0)) (va_Ql (fun (x : Int64) (u : Nat × Nat × ClassId × ClassId × Nat × (Nat → Int32) × (Nat → Int32) × Nat × Int32) => rOK (u.2.2.2.2.1) (u.2.2.2.2.2.2.2.1)) (fun (u : Nat × Nat × ClassId × ClassId × Nat × (Nat → Int32) × (Nat → Int32) × Nat × Int32) (t : State) => va_P (dC, dI) vwCl [(a0, .inr (7, [.ref qb])), (qb, .inl (cq, 16, .inr (.inr (.inr (.inr bq))))), (y0, .inr (6, [.ref x0, .int kd, .int wh, .int od, .int tu, .long lo, .long hi])), (y1, .inr (6, [.ref x0, .int kd8, .int wh8, .int od8, .int tu8, .long lo8, .long hi8])), (x0, .inr (5, [.ref u.1, .ref u.2.1, .int (nI (u.2.2.2.2.2.2.2.1)), .int u.2.2.2.2.2.2.2.2])), (u.1, .inl (u.2.2.1, u.2.2.2.2.1, .inl u.2.2.2.2.2.1)), (u.2.1, .inl (u.2.2.2.1, u.2.2.2.2.1, .inl u.2.2.2.2.2.2.1))] t.heap ∧ va_K (dC, dI) vwCl [(cq, .object "KeyAtlas$Body"), (u.2.2.1, .int), (u.2.2.2.1, .int)] t ∧ va_D (va_A [(a0, .inr (7, [.ref qb])), (qb, .inl (cq, 16, .inr (.inr (.inr (.inr bq))))), (y0, .inr (6, [.ref x0, .int kd, .int wh, .int od, .int tu, .long lo, .long hi])), (y1, .inr (6, [.ref x0, .int kd8, .int wh8, .int od8, .int tu8, .long lo8, .long hi8])), (x0, .inr (5, [.ref k0, .ref w0, .int (nI nz), .int ch])), (k0, .inl (ck, L, .inl f)), (w0, .inl (cw, L, .inl g))] sz) [(a0, .inr (7, [.ref qb])), (qb, .inl (cq, 16, .inr (.inr (.inr (.inr bq))))), (y0, .inr (6, [.ref x0, .int kd, .int wh, .int od, .int tu, .long lo, .long hi])), (y1, .inr (6, [.ref x0, .int kd8, .int wh8, .int od8, .int tu8, .long lo8, .long hi8])), (x0, .inr (5, [.ref u.1, .ref u.2.1, .int (nI (u.2.2.2.2.2.2.2.1)), .int u.2.2.2.2.2.2.2.2])), (u.1, .inl (u.2.2.1, u.2.2.2.2.1, .inl u.2.2.2.2.2.1)), (u.2.1, .inl (u.2.2.2.1, u.2.2.2.2.1, .inl u.2.2.2.2.2.2.1))] ∧ hT t.heap + 4 * L ≤ (T0 + 6) + 4 * (u.2.2.2.2.1) ∧ t.heap.size + 2 * lgN L ≤ (sz + 1) + 2 * lgN (u.2.2.2.2.1)) (va_A [(a0, .inr (7, [.ref qb])), (qb, .inl (cq, 16, .inr (.inr (.inr (.inr bq))))), (y0, .inr (6, [.ref x0, .int kd, .int wh, .int od, .int tu, .long lo, .long hi])), (y1, .inr (6, [.ref x0, .int kd8, .int wh8, .int od8, .int tu8, .long lo8, .long hi8])), (x0, .inr (5, [.ref k0, .ref w0, .int (nI nz), .int ch])), (k0, .inl (ck, L, .inl f)), (w0, .inl (cw, L, .inl g))] sz)) (vx_X (fun _ : Unit => True) (fun (E : String) (_ : Unit) (t : State) => ((E = "java/lang/IllegalArgumentException" ∨ E = "java/lang/IllegalStateException" ∨ E = "java/util/NoSuchElementException" ∨ E = "java/lang/UnsupportedOperationException") ∧ va_P (dC, dI) vwCl [(a0, .inr (7, [.ref qb])), (qb, .inl (cq, 16, .inr (.inr (.inr (.inr bq))))), (y0, .inr (6, [.ref x0, .int kd, .int wh, .int od, .int tu, .long lo, .long hi])), (y1, .inr (6, [.ref x0, .int kd8, .int wh8, .int od8, .int tu8, .long lo8, .long hi8])), (x0, .inr (5, [.ref k0, .ref w0, .int (nI nz), .int ch])), (k0, .inl (ck, L, .inl f)), (w0, .inl (cw, L, .inl g))] t.heap ∧ va_K (dC, dI) vwCl [(cq, .object "KeyAtlas$Body"), (ck, .int), (cw, .int)] t ∧ va_D (va_A [(a0, .inr (7, [.ref qb])), (qb, .inl (cq, 16, .inr (.inr (.inr (.inr bq))))), (y0, .inr (6, [.ref x0, .int kd, .int wh, .int od, .int tu, .long lo, .long hi])), (y1, .inr (6, [.ref x0, .int kd8, .int wh8, .int od8, .int tu8, .long lo8, .long hi8])), (x0, .inr (5, [.ref k0, .ref w0, .int (nI nz), .int ch])), (k0, .inl (ck, L, .inl f)), (w0, .inl (cw, L, .inl g))] sz) [(a0, .inr (7, [.ref qb])), (qb, .inl (cq, 16, .inr (.inr (.inr (.inr bq))))), (y0, .inr (6, [.ref x0, .int kd, .int wh, .int od, .int tu, .long lo, .long hi])), (y1, .inr (6, [.ref x0, .int kd8, .int wh8, .int od8, .int tu8, .long lo8, .long hi8])), (x0, .inr (5, [.ref k0, .ref w0, .int (nI nz), .int ch])), (k0, .inl (ck, L, .inl f)), (w0, .inl (cw, L, .inl g))]) ∧ t.heap.size ≤ sz + 1 ∧ hT t.heap ≤ T0 + 6) (va_A [(a0, .inr (7, [.ref qb])), (qb, .inl (cq, 16, .inr (.inr (.inr (.inr bq))))), (y0, .inr (6, [.ref x0, .int kd, .int wh, .int od, .int tu, .long lo, .long hi])), (y1, .inr (6, [.ref x0, .int kd8, .int wh8, .int od8, .int tu8, .long lo8, .long hi8])), (x0, .inr (5, [.ref k0, .ref w0, .int (nI nz), .int ch])), (k0, .inl (ck, L, .inl f)), (w0, .inl (cw, L, .inl g))] sz)) 130 53000 (va_A [(a0, .inr (7, [.ref qb])), (qb, .inl (cq, 16, .inr (.inr (.inr (.inr bq))))), (y0, .inr (6, [.ref x0, .int kd, .int wh, .int od, .int tu, .long lo, .long hi])), (y1, .inr (6, [.ref x0, .int kd8, .int wh8, .int od8, .int tu8, .long lo8, .long hi8])), (x0, .inr (5, [.ref k0, .ref w0, .int (nI nz), .int ch])), (k0, .inl (ck, L, .inl f)), (w0, .inl (cw, L, .inl g))] sz) := by
  refine vx_ofW (cc := cX7_map) (maxL := 10) (ret := (some .long)) (by decide) rfl ?_
  intro p e s m args below meth c s₁ B hml htab hv
  obtain ⟨rfl, ⟨hsz, hP, hK, hD0, hN, hZ⟩, hT0⟩ := hv
  have hx := B.exec
  have hb := B.bytes
  have hr := B.returns
  have hts := atoms_spec (ws := wqX7_map) B.pre
  have hown : s.vm.findClass RX7 = some m.cls := findClass_of_methodNamed B.named
  have hlocks := B.notSynchronized
  subst hsz
  subst hT0
  have hD := hD0.self (sz := s.heap.size)
  generalize hAe : va_A [(a0, .inr (7, [.ref qb])), (qb, .inl (cq, 16, .inr (.inr (.inr (.inr bq))))), (y0, .inr (6, [.ref x0, .int kd, .int wh, .int od, .int tu, .long lo, .long hi])), (y1, .inr (6, [.ref x0, .int kd8, .int wh8, .int od8, .int tu8, .long lo8, .long hi8])), (x0, .inr (5, [.ref k0, .ref w0, .int (nI nz), .int ch])), (k0, .inl (ck, L, .inl f)), (w0, .inl (cw, L, .inl g))] s.heap.size = A at hZ hD ⊢
  have hA : ∀ q : Nat, s.heap.size ≤ q → A q := fun q h => by rw [← hAe]; exact Or.inr h
  have hS : va_S A s.heap s.heap [] := va_S.rf
  have hP : va_P (dC, dI) vwCl [(a0, .inr (7, [.ref qb])), (qb, .inl (cq, 16, .inr (.inr (.inr (.inr bq))))), (y0, .inr (6, [.ref x0, .int kd, .int wh, .int od, .int tu, .long lo, .long hi])), (y1, .inr (6, [.ref x0, .int kd8, .int wh8, .int od8, .int tu8, .long lo8, .long hi8])), (x0, .inr (5, [.ref k0, .ref w0, .int (nI nz), .int ch])), (k0, .inl (ck, L, .inl f)), (w0, .inl (cw, L, .inl g))] s.heap := hP
  have hl := lv_entry ([.ref a0, .int (nI o), .int 20, .int p2, .int (nI o8)]) (n := 10) (Nat.le_of_ble_eq_true rfl)
  rw [lg_entry_eq]
  generalize (lg_sl ([.ref a0, .int (nI o), .int 20, .int p2, .int (nI o8)]) ++ List.replicate (10 - (lg_sl ([.ref a0, .int (nI o), .int 20, .int p2, .int (nI o8)])).length) Slot.unset).toArray = ls at hl ⊢
  have hl : lv_has ls 10 [(0, .ref a0), (1, .int (nI o)), (2, .int 20), (3, .int p2), (4, .int (nI o8))] := hl
  have hw0_ := hts (.fieldLink RX7 55 "KeyAtlas$Keyed" "kind" "I") (List.mem_of_getElem? (l := wqX7_map) (i := 5) rfl)
  have hw1_ := hts (.sameField "KeyAtlas$Keyed" "KeyAtlas$Body" "kind" "I") (List.mem_of_getElem? (l := wqX7_map) (i := 6) rfl)
  have hw2_ := hts (.classLink RX7 64 "java/lang/UnsupportedOperationException") (List.mem_of_getElem? (l := wqX7_map) (i := 3) rfl)
  have hw3_ := hts (.initialized "java/lang/UnsupportedOperationException") (List.mem_of_getElem? (l := wqX7_map) (i := 4) rfl)
  have hi0_ : ∀ w ∈ u_ws RX6 TX6 7, w ∈ wqX7_map := fun w h => List.mem_cons_of_mem _ (List.mem_append_left _ (List.mem_append_left _ (List.mem_append_left _ (List.mem_append_left _ (List.mem_append_left _ (List.mem_append_left _ (List.mem_append_left _ (List.mem_append_left _ (List.mem_append_left _ (List.mem_append_left _ (List.mem_append_right _ h)))))))))))
  refine lv_aload_n hx hb dX7_map_0 rfl (lv_at hl 0 rfl) ?_
  refine lv_iload_n hx hb dX7_map_1 rfl (lv_at hl 1 rfl) ?_
  have hPc := hP.sub (ws' := [(a0, .inr (7, [.ref qb])), (qb, .inl (cq, 16, .inr (.inr (.inr (.inr bq)))))]) [0, 1] rfl
  have hKc := hK.sub (tys' := [(cq, .object "KeyAtlas$Body")]) [0] rfl
  refine rox_callr (B := (fun (_ : Unit) (a : Nat) (t : State) => t.heap.size = s.heap.size ∧ ∃ j : Nat, j < 16 ∧ nI o = nI j ∧ bq j = some a)) (fun u9 x9 t9 h9 => h9.1) (vx_runV (As := [.int (nI o)]) (rest := []) ⟨hx, hb, hml, hown, hts⟩ (c_X7_bodyAt l hlt dC dI s.heap.size a0 qb cq bq (nI o)) (cwV 1 hts gX7_map_X7_bodyAt rfl rfl rfl (by decide +kernel) ⟨(Nat.le_of_ble_eq_true rfl), (Nat.le_of_ble_eq_true rfl)⟩) ⟨pk_blindXR, va_recv hKc hPc (ci := 7) (q0 := 0) rfl rfl, pk_callXR hPc hKc hN ((hZ.kept hS.2.1).narrow (fun q h9 => hA q (Nat.le_trans hS.1 h9)))⟩ rfl rfl hl.1 rfl (lv_room (Nat.le_of_ble_eq_true rfl)) dX7_map_2 ⟨(Nat.le_of_ble_eq_true rfl), (Nat.le_of_ble_eq_true rfl)⟩) hS (fun q h9 => hA q (Nat.le_trans hS.1 h9)) (fun E ce q9 u9 t H1 locs ht hvm hw hB hz1 hk1 hS hce hcv hcl => ?_) (fun r_1 ur_1 t9 locs hw hB9 hS => ?_)
  ·
    try dsimp only at hB
    exact bq_no ho9 hbo hB.2
  ·
    refine W.tight (k := 0) (n := 0) (Nat.le_refl _) (Nat.le_refl _) ?_
    clear hPc hKc
    try dsimp only at hw
    have jr_1 := hw
    refine W.eq (g2 := F0 m 5 ls [.ref y0]) (by rw [show r_1 = y0 from bq_is ho9 hbo hB9.2]) ?_
    refine lv_astore (lv' := [(5, .ref y0), (0, .ref a0), (1, .int (nI o)), (2, .int 20), (3, .int p2), (4, .int (nI o8))]) hx hb dX7_map_5 hl (by decide) rfl (fun ls hl => ?_)
    refine lv_iload_n hx hb dX7_map_7 rfl (lv_at hl 3 rfl) ?_
    refine lv_bipush (v := 19) hx hb dX7_map_8 (by decide) ?_
    refine lv_icmp_eq (tgt := 19) hx hb dX7_map_10 (by decide) (fun c_2 => absurd c_2 (by decide)) (fun c_2 => ?_)
    refine lv_iload_n hx hb dX7_map_13 rfl (lv_at hl 3 rfl) ?_
    refine lv_bipush (v := 20) hx hb dX7_map_14 (by decide) ?_
    refine lv_icmp_ne (tgt := 23) hx hb dX7_map_16 (by decide) (fun c_3 => absurd c_3 (by decide)) (fun c_3 => ?_)
    refine lv_iconst (v := 1) hx hb dX7_map_19 (by decide) ?_
    refine lv_goto (tgt := 24) hx hb dX7_map_20 (by decide) ?_
    refine lv_istore (lv' := [(6, .int 1), (5, .ref y0), (0, .ref a0), (1, .int (nI o)), (2, .int 20), (3, .int p2), (4, .int (nI o8))]) hx hb dX7_map_24 hl (by decide) rfl (fun ls hl => ?_)
    refine lv_iload hx hb dX7_map_26 (lv_at hl 0 rfl) ?_
    refine lv_if_eq (tgt := 40) hx hb dX7_map_28 (by decide) (fun c_4 => absurd c_4 (by decide)) (fun c_4 => ?_)
    refine lv_aload_n hx hb dX7_map_31 rfl (lv_at hl 2 rfl) ?_
    refine lv_iload hx hb dX7_map_32 (lv_at hl 6 rfl) ?_
    have hPc := hP.sub (ws' := [(a0, .inr (7, [.ref qb])), (qb, .inl (cq, 16, .inr (.inr (.inr (.inr bq)))))]) [0, 1] rfl
    have hKc := hK.sub (tys' := [(cq, .object "KeyAtlas$Body")]) [0] rfl
    refine rox_callr (B := (fun (_ : Unit) (a : Nat) (t : State) => t.heap.size = s.heap.size ∧ ∃ j : Nat, j < 16 ∧ nI o8 = nI j ∧ bq j = some a)) (fun u9 x9 t9 h9 => h9.1) (vx_runV (As := [.int (nI o8)]) (rest := []) ⟨hx, hb, hml, hown, hts⟩ (c_X7_bodyAt l hlt dC dI s.heap.size a0 qb cq bq (nI o8)) (cwV 1 hts gX7_map_X7_bodyAt rfl rfl rfl (by decide +kernel) ⟨(Nat.le_of_ble_eq_true rfl), (Nat.le_of_ble_eq_true rfl)⟩) ⟨pk_blindXR, va_recv hKc hPc (ci := 7) (q0 := 0) rfl rfl, pk_callXR hPc hKc hN ((hZ.kept hS.2.1).narrow (fun q h9 => hA q (Nat.le_trans hS.1 h9)))⟩ rfl rfl hl.1 rfl (lv_room (Nat.le_of_ble_eq_true rfl)) dX7_map_34 ⟨(Nat.le_of_ble_eq_true rfl), (Nat.le_of_ble_eq_true rfl)⟩) hS (fun q h9 => hA q (Nat.le_trans hS.1 h9)) (fun E ce q9 u9 t H1 locs ht hvm hw hB hz1 hk1 hS hce hcv hcl => ?_) (fun r_5 ur_5 t9 locs hw hB9 hS => ?_)
    ·
      try dsimp only at hB
      exact bq_no ho8 hbo8 hB.2
    ·
      refine W.tight (k := 0) (n := 0) (Nat.le_refl _) (Nat.le_refl _) ?_
      clear hPc hKc
      try dsimp only at hw
      have jr_5 := hw
      refine W.eq (g2 := F0 m 37 ls [.ref y1]) (by rw [show r_5 = y1 from bq_is ho8 hbo8 hB9.2]) ?_
      refine lv_goto (tgt := 42) hx hb dX7_map_37 (by decide) ?_
      refine lv_astore (lv' := [(7, .ref y1), (6, .int 1), (5, .ref y0), (0, .ref a0), (1, .int (nI o)), (2, .int 20), (3, .int p2), (4, .int (nI o8))]) hx hb dX7_map_42 hl (by decide) rfl (fun ls hl => ?_)
      refine lv_aload hx hb dX7_map_44 (lv_at hl 2 rfl) ?_
      have hPc := hP.sub (ws' := [(y0, .inr (6, [.ref x0, .int kd, .int wh, .int od, .int tu, .long lo, .long hi]))]) [2] rfl
      have hKc := hK.sub (tys' := []) [] rfl
      refine ro_callr (B := (fun (_ : Unit) (a : Nat) (t : State) => t.heap.size = s.heap.size ∧ a = y0)) (fun u9 x9 t9 h9 => h9.1) (va_runS (As := [.ref y0]) (rest := []) ⟨hx, hb, hml, hown, hts⟩ (c_X7_asMap_S l hlt dC dI s.heap.size y0 ([.ref x0, .int kd, .int wh, .int od, .int tu, .long lo, .long hi])) (va_cwS 1 hts gX7_map_X7_asMap rfl rfl rfl (by decide +kernel) ⟨(Nat.le_of_ble_eq_true rfl), (Nat.le_of_ble_eq_true rfl)⟩) ⟨pk_blindRX, pk_callRX hPc hKc hN⟩ rfl rfl hl.1 rfl (lv_room (Nat.le_of_ble_eq_true rfl)) dX7_map_46 ⟨(Nat.le_of_ble_eq_true rfl), (Nat.le_of_ble_eq_true rfl)⟩) (fun r_6 ur_6 t9 hw hB9 => ?_)
      clear hPc hKc
      try dsimp only at hw
      have jr_6 := hw
      refine W.eq (g2 := F0 m 49 ls [.ref y0]) (by rw [show r_6 = y0 from hB9.2]) ?_
      refine lv_astore (lv' := [(8, .ref y0), (7, .ref y1), (6, .int 1), (5, .ref y0), (0, .ref a0), (1, .int (nI o)), (2, .int 20), (3, .int p2), (4, .int (nI o8))]) hx hb dX7_map_49 hl (by decide) rfl (fun ls hl => ?_)
      refine lv_aload hx hb dX7_map_51 (lv_at hl 1 rfl) ?_
      have hPc := hP.sub (ws' := [(y1, .inr (6, [.ref x0, .int kd8, .int wh8, .int od8, .int tu8, .long lo8, .long hi8]))]) [3] rfl
      have hKc := hK.sub (tys' := []) [] rfl
      refine ro_callr (B := (fun (_ : Unit) (a : Nat) (t : State) => t.heap.size = s.heap.size ∧ a = y1)) (fun u9 x9 t9 h9 => h9.1) (va_runS (As := [.ref y1]) (rest := []) ⟨hx, hb, hml, hown, hts⟩ (c_X7_asMap_S l hlt dC dI s.heap.size y1 ([.ref x0, .int kd8, .int wh8, .int od8, .int tu8, .long lo8, .long hi8])) (va_cwS 1 hts gX7_map_X7_asMap rfl rfl rfl (by decide +kernel) ⟨(Nat.le_of_ble_eq_true rfl), (Nat.le_of_ble_eq_true rfl)⟩) ⟨pk_blindRX, pk_callRX hPc hKc hN⟩ rfl rfl hl.1 rfl (lv_room (Nat.le_of_ble_eq_true rfl)) dX7_map_53 ⟨(Nat.le_of_ble_eq_true rfl), (Nat.le_of_ble_eq_true rfl)⟩) (fun r_7 ur_7 t9 hw hB9 => ?_)
      clear hPc hKc
      try dsimp only at hw
      have jr_7 := hw
      refine W.eq (g2 := F0 m 56 ls [.ref y1]) (by rw [show r_7 = y1 from hB9.2]) ?_
      refine lv_astore (lv' := [(9, .ref y1), (8, .ref y0), (7, .ref y1), (6, .int 1), (5, .ref y0), (0, .ref a0), (1, .int (nI o)), (2, .int 20), (3, .int p2), (4, .int (nI o8))]) hx hb dX7_map_56 hl (by decide) rfl (fun ls hl => ?_)
      refine lv_iload_n hx hb dX7_map_58 rfl (lv_at hl 7 rfl) ?_
      refine lv_if_lt (tgt := 68) hx hb dX7_map_59 (by decide) (fun c_8 => absurd c_8 (by decide)) (fun c_8 => ?_)
      refine lv_iload_n hx hb dX7_map_62 rfl (lv_at hl 7 rfl) ?_
      refine lv_bipush (v := 25) hx hb dX7_map_63 (by decide) ?_
      refine lv_icmp_le (tgt := 78) hx hb dX7_map_65 (by decide) (fun c_9 => ?_) (fun c_9 => absurd c_9 (by decide))
      refine lv_aload hx hb dX7_map_78 (lv_at hl 1 rfl) ?_
      refine va_get (D := (dC, dI)) (ci := 6) (v := .int kd) (C := RX6) (T := TX6) (N := 7) hx hb hts hi0_ hown hK hP 2 rfl rfl 1 (by decide) hw0_ (u_same hw1_) rfl dX7_map_80 ?_
      refine lv_iload_n hx hb dX7_map_83 rfl (lv_at hl 7 rfl) ?_
      have hPc := hP.sub (ws' := []) [] rfl
      have hKc := hK.sub (tys' := []) [] rfl
      refine ro_calli (va_runS (As := [.int kd, .int 20]) (rest := []) ⟨hx, hb, hml, hown, hts⟩ (c_X7_hasOp l  dC dI s.heap.size kd 20) (va_cwS 2 hts gX7_map_X7_hasOp rfl rfl rfl (by decide +kernel) ⟨(Nat.le_of_ble_eq_true rfl), (Nat.le_of_ble_eq_true rfl)⟩) ⟨pk_blindR, pk_callR hPc hKc⟩ rfl rfl hl.1 rfl (lv_room (Nat.le_of_ble_eq_true rfl)) dX7_map_84 ⟨(Nat.le_of_ble_eq_true rfl), (Nat.le_of_ble_eq_true rfl)⟩) (fun r_10 ur_10 hw => ?_)
      clear hPc hKc
      try dsimp only at hw
      have jr_10 := hw
      refine W.eq (g2 := F0 m 87 ls [.int r_10]) rfl ?_
      refine lv_if_ne (tgt := 100) hx hb dX7_map_87 (by decide) (fun c_11 => ?_) (fun c_11 => ?_)
      ·
        have ic_11 : ¬ r_10.toInt = 0 := tx_ne rfl (by decide) c_11
        refine lv_iload_n hx hb dX7_map_100 rfl (lv_at hl 7 rfl) ?_
        refine lv_tableIn (x := 20) (off := 306) (tgt := 407) hx hb dX7_map_101 (by decide) (by decide) (by decide) (by decide) ?_
        refine lv_aload hx hb dX7_map_407 (lv_at hl 1 rfl) ?_
        refine lv_aload hx hb dX7_map_409 (lv_at hl 0 rfl) ?_
        have hPc := hP.sub (ws' := [(y0, .inr (6, [.ref x0, .int kd, .int wh, .int od, .int tu, .long lo, .long hi])), (y1, .inr (6, [.ref x0, .int kd8, .int wh8, .int od8, .int tu8, .long lo8, .long hi8])), (x0, .inr (5, [.ref k0, .ref w0, .int (nI nz), .int ch])), (k0, .inl (ck, L, .inl f)), (w0, .inl (cw, L, .inl g))]) [2, 3, 4, 5, 6] rfl
        have hDc := hD.sub (ws' := [(y0, .inr (6, [.ref x0, .int kd, .int wh, .int od, .int tu, .long lo, .long hi])), (y1, .inr (6, [.ref x0, .int kd8, .int wh8, .int od8, .int tu8, .long lo8, .long hi8])), (x0, .inr (5, [.ref k0, .ref w0, .int (nI nz), .int ch])), (k0, .inl (ck, L, .inl f)), (w0, .inl (cw, L, .inl g))]) [2, 3, 4, 5, 6] (by decide) rfl
        have hKc := hK.sub (tys' := [(ck, .int), (cw, .int)]) [1, 2] rfl
        have hFc := va_free (wc := [(y0, .inr (6, [.ref x0, .int kd, .int wh, .int od, .int tu, .long lo, .long hi])), (y1, .inr (6, [.ref x0, .int kd8, .int wh8, .int od8, .int tu8, .long lo8, .long hi8])), (x0, .inr (5, [.ref k0, .ref w0, .int (nI nz), .int ch])), (k0, .inl (ck, L, .inl f)), (w0, .inl (cw, L, .inl g))]) hD hS hA [2, 3, 4, 5, 6] rfl
        have hZc := (hZ.kept hS.2.1).narrow hFc
        refine vx_calll (vx_runU (As := [.ref y1]) (rest := []) ⟨hx, hb, hml, hown, hts⟩ (c_X3_putAll_SSe l hlt dC dI s.heap.size (hT s.heap) y0 kd wh od tu lo hi x0 k0 w0 ck cw L f g nz ch y1 kd8 wh8 od8 tu8 lo8 hi8 hR9 ho1 ho2 ho18 ho28) (va_cwU 1 hts gX7_map_X3_putAll_u124X6 rfl rfl rfl rfl (by decide +kernel) ⟨(Nat.le_of_ble_eq_true rfl), (Nat.le_of_ble_eq_true rfl)⟩) ⟨pk_blindXT, va_recv hKc hPc (ci := 6) (q0 := 0) rfl rfl, pk_callXT hPc hKc hDc hN hZc⟩ rfl rfl hl.1 rfl (lv_room (Nat.le_of_ble_eq_true rfl)) dX7_map_411 ⟨(Nat.le_of_ble_eq_true rfl), (Nat.le_of_ble_eq_true rfl)⟩) hS (fun q _ h => hFc q h) hFc (fun q _ h => hFc q h) (fun E ce q9 u9 t H1 locs ht hvm hw hB hz1 hk1 hS hce hcv hcl => ?_) (fun r_12 ur_12 t H1 locs ht hvm hw hB hz1 hk1 hS => ?_)
        ·
          try dsimp only at hB
          obtain ⟨hB8, hB7⟩ := hB
          obtain ⟨hE8, hP8, hK8, hD8⟩ := hB8
          rw [ht] at hP8
          obtain ⟨hP7, -⟩ := va_join (wr := [(a0, .inr (7, [.ref qb])), (qb, .inl (cq, 16, .inr (.inr (.inr (.inr bq)))))]) (w1 := [(y0, .inr (6, [.ref x0, .int kd, .int wh, .int od, .int tu, .long lo, .long hi])), (y1, .inr (6, [.ref x0, .int kd8, .int wh8, .int od8, .int tu8, .long lo8, .long hi8])), (x0, .inr (5, [.ref k0, .ref w0, .int (nI nz), .int ch])), (k0, .inl (ck, L, .inl f)), (w0, .inl (cw, L, .inl g))]) hP hD [2, 3, 4, 5, 6] [0, 1] rfl rfl (by decide) (by decide) hk1 hFc hP8 hD8
          have hP6 := hP7.sub (ws' := [(a0, .inr (7, [.ref qb])), (qb, .inl (cq, 16, .inr (.inr (.inr (.inr bq))))), (y0, .inr (6, [.ref x0, .int kd, .int wh, .int od, .int tu, .long lo, .long hi])), (y1, .inr (6, [.ref x0, .int kd8, .int wh8, .int od8, .int tu8, .long lo8, .long hi8])), (x0, .inr (5, [.ref k0, .ref w0, .int (nI nz), .int ch])), (k0, .inl (ck, L, .inl f)), (w0, .inl (cw, L, .inl g))]) [0, 1, 2, 3, 4, 5, 6] rfl
          exact vx_out (fun x hx9 => (htab x hx9).elim) hlocks hce hcv hcl (fun t9 ht9 hal9 => ⟨(), trivial, ⟨⟨hE8.elim (fun h => Or.inl h) (fun h => Or.inr (Or.inl h)), by rw [ht9]; exact hP6, va_K.moved hal9 hK, hD⟩, by rw [ht9, ← ht]; exact hB7.1, by rw [ht9, ← ht]; exact hB7.2⟩, hS.F ht9⟩) hS.2.2 (by omega) (by omega)
        ·
          try dsimp only at hw
          have jr_12 := hw
          obtain ⟨hP1, hK1, hD1, hC1_⟩ := hB
          rw [ht] at hP1 hC1_
          have hK1 := va_K.moved hvm.symm hK1
          obtain ⟨hP, hD⟩ := va_join (wr := [(a0, .inr (7, [.ref qb])), (qb, .inl (cq, 16, .inr (.inr (.inr (.inr bq)))))]) (w1 := [(y0, .inr (6, [.ref x0, .int kd, .int wh, .int od, .int tu, .long lo, .long hi])), (y1, .inr (6, [.ref x0, .int kd8, .int wh8, .int od8, .int tu8, .long lo8, .long hi8])), (x0, .inr (5, [.ref ur_12.1, .ref ur_12.2.1, .int (nI (ur_12.2.2.2.2.2.2.2.1)), .int ur_12.2.2.2.2.2.2.2.2])), (ur_12.1, .inl (ur_12.2.2.1, ur_12.2.2.2.2.1, .inl ur_12.2.2.2.2.2.1)), (ur_12.2.1, .inl (ur_12.2.2.2.1, ur_12.2.2.2.2.1, .inl ur_12.2.2.2.2.2.2.1))]) hP hD [2, 3, 4, 5, 6] [0, 1] rfl rfl (by decide) (by decide) hk1 hFc hP1 hD1
          have hK := hK.app hK1
          have hK : va_K (dC, dI) vwCl [(cq, .object "KeyAtlas$Body"), (ck, .int), (cw, .int), (ur_12.2.2.1, .int), (ur_12.2.2.2.1, .int)] s := hK
          have hcs1_ : hT H1 + 4 * L ≤ hT s.heap + 4 * (ur_12.2.2.2.2.1) := hC1_.1
          have hcs2_ : H1.size + 2 * lgN L ≤ s.heap.size + 2 * lgN (ur_12.2.2.2.2.1) := hC1_.2
          clear hC1_
          clear hk1 hz1 ht hPc hDc hKc hFc
          generalize H1 = H at hP hS hcs1_ hcs2_ ⊢
          replace hP : va_P (dC, dI) vwCl [(a0, .inr (7, [.ref qb])), (qb, .inl (cq, 16, .inr (.inr (.inr (.inr bq))))), (y0, .inr (6, [.ref x0, .int kd, .int wh, .int od, .int tu, .long lo, .long hi])), (y1, .inr (6, [.ref x0, .int kd8, .int wh8, .int od8, .int tu8, .long lo8, .long hi8])), (x0, .inr (5, [.ref ur_12.1, .ref ur_12.2.1, .int (nI (ur_12.2.2.2.2.2.2.2.1)), .int ur_12.2.2.2.2.2.2.2.2])), (ur_12.1, .inl (ur_12.2.2.1, ur_12.2.2.2.2.1, .inl ur_12.2.2.2.2.2.1)), (ur_12.2.1, .inl (ur_12.2.2.2.1, ur_12.2.2.2.2.1, .inl ur_12.2.2.2.2.2.2.1))] H := hP
          replace hD : va_D A [(a0, .inr (7, [.ref qb])), (qb, .inl (cq, 16, .inr (.inr (.inr (.inr bq))))), (y0, .inr (6, [.ref x0, .int kd, .int wh, .int od, .int tu, .long lo, .long hi])), (y1, .inr (6, [.ref x0, .int kd8, .int wh8, .int od8, .int tu8, .long lo8, .long hi8])), (x0, .inr (5, [.ref ur_12.1, .ref ur_12.2.1, .int (nI (ur_12.2.2.2.2.2.2.2.1)), .int ur_12.2.2.2.2.2.2.2.2])), (ur_12.1, .inl (ur_12.2.2.1, ur_12.2.2.2.2.1, .inl ur_12.2.2.2.2.2.1)), (ur_12.2.1, .inl (ur_12.2.2.2.1, ur_12.2.2.2.2.1, .inl ur_12.2.2.2.2.2.2.1))] := hD
          refine W.widen (k := 120) (n := 52000) (Nat.le_of_ble_eq_true rfl) (Nat.le_of_ble_eq_true rfl) ?_
          refine W.eq (g2 := F0 m 414 ls [.long r_12]) rfl ?_
          refine W.book (fun hz9_ hn9_ => ?_)
          have hcost : hT H + 4 * L ≤ (hT s.heap + 6) + 4 * (ur_12.2.2.2.2.1) ∧ H.size + 2 * lgN L ≤ (s.heap.size + 1) + 2 * lgN (ur_12.2.2.2.2.1) := by constructor <;> omega
          have hP9 := hP.sub (ws' := [(a0, .inr (7, [.ref qb])), (qb, .inl (cq, 16, .inr (.inr (.inr (.inr bq))))), (y0, .inr (6, [.ref x0, .int kd, .int wh, .int od, .int tu, .long lo, .long hi])), (y1, .inr (6, [.ref x0, .int kd8, .int wh8, .int od8, .int tu8, .long lo8, .long hi8])), (x0, .inr (5, [.ref ur_12.1, .ref ur_12.2.1, .int (nI (ur_12.2.2.2.2.2.2.2.1)), .int ur_12.2.2.2.2.2.2.2.2])), (ur_12.1, .inl (ur_12.2.2.1, ur_12.2.2.2.2.1, .inl ur_12.2.2.2.2.2.1)), (ur_12.2.1, .inl (ur_12.2.2.2.1, ur_12.2.2.2.2.1, .inl ur_12.2.2.2.2.2.2.1))]) [0, 1, 2, 3, 4, 5, 6] rfl
          have hD9 := hD.sub (ws' := [(a0, .inr (7, [.ref qb])), (qb, .inl (cq, 16, .inr (.inr (.inr (.inr bq))))), (y0, .inr (6, [.ref x0, .int kd, .int wh, .int od, .int tu, .long lo, .long hi])), (y1, .inr (6, [.ref x0, .int kd8, .int wh8, .int od8, .int tu8, .long lo8, .long hi8])), (x0, .inr (5, [.ref ur_12.1, .ref ur_12.2.1, .int (nI (ur_12.2.2.2.2.2.2.2.1)), .int ur_12.2.2.2.2.2.2.2.2])), (ur_12.1, .inl (ur_12.2.2.1, ur_12.2.2.2.2.1, .inl ur_12.2.2.2.2.2.1)), (ur_12.2.1, .inl (ur_12.2.2.2.1, ur_12.2.2.2.2.1, .inl ur_12.2.2.2.2.2.2.1))]) [0, 1, 2, 3, 4, 5, 6] (by decide) rfl
          have hK9 := hK.sub (tys' := [(cq, .object "KeyAtlas$Body"), (ur_12.2.2.1, .int), (ur_12.2.2.2.1, .int)]) [0, 3, 4] rfl
          refine W.widen (k := 130) (n := 53000) (Nat.le_of_ble_eq_true rfl) (Nat.le_of_ble_eq_true rfl) ?_
          refine vx_ret ?_
          exact W.lret (v := r_12) hx hb hr (fun t ht hW => ⟨⟨r_12, (ur_12.1, ur_12.2.1, ur_12.2.2.1, ur_12.2.2.2.1, ur_12.2.2.2.2.1, ur_12.2.2.2.2.2.1, ur_12.2.2.2.2.2.2.1, ur_12.2.2.2.2.2.2.2.1, ur_12.2.2.2.2.2.2.2.2), rfl, jr_12, by rw [ht]; exact hP9, va_K.moved hW.alike hK9, hD9, by rw [ht]; exact hcost⟩, hS.F ht⟩) hS.2.2 dX7_map_414
      ·
        have ic_11 : r_10.toInt = 0 := tx_eq rfl (by decide) c_11
        have hP9 := hP.sub (ws' := [(a0, .inr (7, [.ref qb])), (qb, .inl (cq, 16, .inr (.inr (.inr (.inr bq))))), (y0, .inr (6, [.ref x0, .int kd, .int wh, .int od, .int tu, .long lo, .long hi])), (y1, .inr (6, [.ref x0, .int kd8, .int wh8, .int od8, .int tu8, .long lo8, .long hi8])), (x0, .inr (5, [.ref k0, .ref w0, .int (nI nz), .int ch])), (k0, .inl (ck, L, .inl f)), (w0, .inl (cw, L, .inl g))]) [0, 1, 2, 3, 4, 5, 6] rfl
        have hD9 := hD.sub (ws' := [(a0, .inr (7, [.ref qb])), (qb, .inl (cq, 16, .inr (.inr (.inr (.inr bq))))), (y0, .inr (6, [.ref x0, .int kd, .int wh, .int od, .int tu, .long lo, .long hi])), (y1, .inr (6, [.ref x0, .int kd8, .int wh8, .int od8, .int tu8, .long lo8, .long hi8])), (x0, .inr (5, [.ref k0, .ref w0, .int (nI nz), .int ch])), (k0, .inl (ck, L, .inl f)), (w0, .inl (cw, L, .inl g))]) [0, 1, 2, 3, 4, 5, 6] (by decide) rfl
        have hK9 := hK.sub (tys' := [(cq, .object "KeyAtlas$Body"), (ck, .int), (cw, .int)]) [0, 1, 2] rfl
        refine vx_tightX (XC0 := vx_X (fun _ : Unit => True) (fun (E : String) (_ : Unit) (t : State) => (E = "java/lang/IllegalArgumentException" ∨ E = "java/lang/IllegalStateException" ∨ E = "java/util/NoSuchElementException" ∨ E = "java/lang/UnsupportedOperationException") ∧ va_P (dC, dI) vwCl [(a0, .inr (7, [.ref qb])), (qb, .inl (cq, 16, .inr (.inr (.inr (.inr bq))))), (y0, .inr (6, [.ref x0, .int kd, .int wh, .int od, .int tu, .long lo, .long hi])), (y1, .inr (6, [.ref x0, .int kd8, .int wh8, .int od8, .int tu8, .long lo8, .long hi8])), (x0, .inr (5, [.ref k0, .ref w0, .int (nI nz), .int ch])), (k0, .inl (ck, L, .inl f)), (w0, .inl (cw, L, .inl g))] t.heap ∧ va_K (dC, dI) vwCl [(cq, .object "KeyAtlas$Body"), (ck, .int), (cw, .int)] t ∧ va_D A [(a0, .inr (7, [.ref qb])), (qb, .inl (cq, 16, .inr (.inr (.inr (.inr bq))))), (y0, .inr (6, [.ref x0, .int kd, .int wh, .int od, .int tu, .long lo, .long hi])), (y1, .inr (6, [.ref x0, .int kd8, .int wh8, .int od8, .int tu8, .long lo8, .long hi8])), (x0, .inr (5, [.ref k0, .ref w0, .int (nI nz), .int ch])), (k0, .inl (ck, L, .inl f)), (w0, .inl (cw, L, .inl g))]) A) 1 6 (by omega) (by omega) (fun E t9 h9 hz9 hn9 => by obtain ⟨u9, g1, g2, g3⟩ := h9; exact ⟨u9, g1, ⟨g2, hz9, hn9⟩, g3⟩) ?_
        obtain ⟨sa, hsa⟩ := hN.stX7_66
        exact vx_throwS hx hb hlt (own := RX7) (cls := "java/lang/UnsupportedOperationException") (text := "op is not for this kind") (names := ["java/lang/RuntimeException", "java/lang/Exception"]) hown (by decide +kernel) (by decide +kernel) hw2_ hw3_ hsa (tx_hat hN.xw (fun w h => hts w (at_X7_map_90 w h)) ng_RX7_68) og_RX7_68 hZ.1 hZ.2 hS (by rw [hml]; exact hl.1) dX7_map_90 dX7_map_93 dX7_map_94 dX7_map_96 dX7_map_99 (fun x hx9 => (htab x hx9).elim) (Nat.le_of_ble_eq_true rfl) (Nat.le_of_ble_eq_true rfl) (Nat.le_of_ble_eq_true rfl) (Nat.le_of_ble_eq_true rfl) hlocks (fun t hvm hz hq => ⟨(), trivial, ⟨Or.inr (Or.inr (Or.inr rfl)), hP9.kept (fun k x hx => hq x.1 (hP9 k x hx).lt), va_K.moved hvm hK9, hD9⟩, ⟨Nat.le_trans hS.1 hz, fun q h1 h2 => (hq q (Nat.lt_of_lt_of_le h1 hS.1)).trans (hS.2.1 q h1 h2)⟩⟩) hS.2.2 (Nat.le_of_ble_eq_true rfl) (Nat.le_of_ble_eq_true rfl)
