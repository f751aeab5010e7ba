set_option maxRecDepth 20000 in
theorem gX7_map_X3_isSameAs_u120X4 : GoodIn wqX7_map (va_wsU RX7 120 RX4 "KeyAtlas$Keyed" ⟨"KeyAtlas$Keyed", "isSameAs", "(LKeyAtlas$Keyed;)Z"⟩ yX3_isSameAs wsX3_isSameAs) := goodIn_app (goodIn_of _ (by decide +kernel)) ggX7_map_X3_isSameAs
set_option maxHeartbeats 4000000 in
set_option maxRecDepth 100000 in
/-- map, op 19, L and H -/
theorem c_X7_map19_LH (l : Launch) (hlt : l.stackTraces = false) (dC : Nat → ClassId) (dI : Nat → Nat → Nat) (sz : Nat) (a0 : Nat) (qb : Nat) (cq : ClassId) (bq : Nat → Option Nat) (o : Nat) (y0 : Nat) (kd : Int32) (wh : Int32) (lim : Nat) (bu : Int32) (x0 : Nat) (k0 : Nat) (w0 : Nat) (ck : ClassId) (cw : ClassId) (L : Nat) (f : Nat → Int32) (g : Nat → Int32) (nz : Nat) (ch : Int32) (o8 : Nat) (y1 : Nat) (kd8 : Int32) (wh8 : Int32) (cap8 : Nat) (ru8 : Int32) (tb8 : Nat) (b8 : Nat) (cb8 : ClassId) (bf8 : Nat → Int32) (x1 : Nat) (k8 : Nat) (w8 : Nat) (ck8 : ClassId) (cw8 : ClassId) (L8 : Nat) (f8 : Nat → Int32) (g8 : Nat → Int32) (nz8 : Nat) (ch8 : Int32) (p2 : Int32) (ho9 : o < 16) (hbo : bq o = some y0) (hR9 : rOK L nz) (hlim : lim ≤ 1000) (ho8 : o8 < 16) (hbo8 : bq o8 = some y1) (hH8 : hOK tb8 L8 nz8 cap8) : vx_Met l yX7_map wqX7_map ({ frames := 9, cells := 3, slots := 18, locals := 360 }) (va_Pc [.ref a0, .int (nI o), .int 19, .int p2, .int (nI o8)] (pk_PreXR (dC, dI) [(a0, .inr (7, [.ref qb])), (qb, .inl (cq, 16, .inr (.inr (.inr (.inr bq))))), (y0, .inr (4, [.ref x0, .int kd, .int wh, .int (nI lim), .int bu])), (x0, .inr (5, [.ref k0, .ref w0, .int (nI nz), .int ch])), (k0, .inl (ck, L, .inl f)), (w0, .inl (cw, L, .inl g)), (y1, .inr (3, [.ref x1, .int kd8, .int wh8, .int (nI cap8), .int ru8, .int (nI tb8), .ref b8])), (x1, .inr (5, [.ref k8, .ref w8, .int (nI nz8), .int ch8])), (k8, .inl (ck8, L8, .inl f8)), (w8, .inl (cw8, L8, .inl g8)), (b8, .inl (cb8, tb8, .inl bf8))] [(cq, .object "KeyAtlas$Body"), (ck, .int), (cw, .int), (ck8, .int), (cw8, .int), (cb8, .boolean)] sz)) (va_Ql (fun (_ : Int64) (_ : Unit) => True) (fun _ (t : State) => t.heap.size = sz) (roN sz)) (vx_X (fun _ : Unit => True) (fun (E : String) (_ : Unit) (t : State) => E = "java/lang/UnsupportedOperationException") (roN sz)) 3 18 (roN sz) := by
  refine vx_ofW (cc := cX7_map) (maxL := 10) (ret := (some .long)) (by decide) rfl ?_
  intro p e s m args below meth c s₁ B hml htab hv
  obtain ⟨rfl, hsz, hP, hK, hN, hZ⟩ := hv
  have hx := B.exec
  have hb := B.bytes
  have hr := B.returns
  have hts := atoms_spec (ws := wqX7_map) B.pre
  have hown : s.vm.findClass RX7 = some m.cls := findClass_of_methodNamed B.named
  have hlocks := B.notSynchronized
  subst hsz
  generalize hAe : roN s.heap.size = A at hZ ⊢
  have hA : ∀ q : Nat, s.heap.size ≤ q → A q := fun q h => by rw [← hAe]; exact h
  have hS : va_S A s.heap s.heap [] := va_S.rf
  have hP : va_P (dC, dI) vwCl [(a0, .inr (7, [.ref qb])), (qb, .inl (cq, 16, .inr (.inr (.inr (.inr bq))))), (y0, .inr (4, [.ref x0, .int kd, .int wh, .int (nI lim), .int bu])), (x0, .inr (5, [.ref k0, .ref w0, .int (nI nz), .int ch])), (k0, .inl (ck, L, .inl f)), (w0, .inl (cw, L, .inl g)), (y1, .inr (3, [.ref x1, .int kd8, .int wh8, .int (nI cap8), .int ru8, .int (nI tb8), .ref b8])), (x1, .inr (5, [.ref k8, .ref w8, .int (nI nz8), .int ch8])), (k8, .inl (ck8, L8, .inl f8)), (w8, .inl (cw8, L8, .inl g8)), (b8, .inl (cb8, tb8, .inl bf8))] s.heap := hP
  have hl := lv_entry ([.ref a0, .int (nI o), .int 19, .int p2, .int (nI o8)]) (n := 10) (Nat.le_of_ble_eq_true rfl)
  rw [lg_entry_eq]
  generalize (lg_sl ([.ref a0, .int (nI o), .int 19, .int p2, .int (nI o8)]) ++ List.replicate (10 - (lg_sl ([.ref a0, .int (nI o), .int 19, .int p2, .int (nI o8)])).length) Slot.unset).toArray = ls at hl ⊢
  have hl : lv_has ls 10 [(0, .ref a0), (1, .int (nI o)), (2, .int 19), (3, .int p2), (4, .int (nI o8))] := hl
  have hw0_ := hts (.fieldLink RX7 55 "KeyAtlas$Keyed" "kind" "I") (List.mem_of_getElem? (l := wqX7_map) (i := 5) rfl)
  have hw1_ := hts (.sameField "KeyAtlas$Keyed" "KeyAtlas$Body" "kind" "I") (List.mem_of_getElem? (l := wqX7_map) (i := 6) rfl)
  have hw2_ := hts (.classLink RX7 64 "java/lang/UnsupportedOperationException") (List.mem_of_getElem? (l := wqX7_map) (i := 3) rfl)
  have hw3_ := hts (.initialized "java/lang/UnsupportedOperationException") (List.mem_of_getElem? (l := wqX7_map) (i := 4) rfl)
  have hi0_ : ∀ w ∈ u_ws RX4 TX4 5, w ∈ wqX7_map := fun w h => List.mem_cons_of_mem _ (List.mem_append_left _ (List.mem_append_left _ (List.mem_append_left _ (List.mem_append_left _ (List.mem_append_left _ (List.mem_append_left _ (List.mem_append_left _ (List.mem_append_left _ (List.mem_append_left _ (List.mem_append_left _ (List.mem_append_left _ (List.mem_append_right _ h))))))))))))
  obtain ⟨hL1, hL2, hz1, hz2⟩ := id hR9
  have hR8 : rOK L8 nz8 := hH8.1
  have htb8 := hOK_tb hH8
  obtain ⟨hL18, hL28, hz18, hz28⟩ := id hR8
  refine lv_aload_n hx hb dX7_map_0 rfl (lv_at hl 0 rfl) ?_
  refine lv_iload_n hx hb dX7_map_1 rfl (lv_at hl 1 rfl) ?_
  have hPc := hP.sub (ws' := [(a0, .inr (7, [.ref qb])), (qb, .inl (cq, 16, .inr (.inr (.inr (.inr bq)))))]) [0, 1] rfl
  have hKc := hK.sub (tys' := [(cq, .object "KeyAtlas$Body")]) [0] rfl
  refine rox_callr (B := (fun (_ : Unit) (a : Nat) (t : State) => t.heap.size = s.heap.size ∧ ∃ j : Nat, j < 16 ∧ nI o = nI j ∧ bq j = some a)) (fun u9 x9 t9 h9 => h9.1) (vx_runV (As := [.int (nI o)]) (rest := []) ⟨hx, hb, hml, hown, hts⟩ (c_X7_bodyAt l hlt dC dI s.heap.size a0 qb cq bq (nI o)) (cwV 1 hts gX7_map_X7_bodyAt rfl rfl rfl (by decide +kernel) ⟨(Nat.le_of_ble_eq_true rfl), (Nat.le_of_ble_eq_true rfl)⟩) ⟨pk_blindXR, va_recv hKc hPc (ci := 7) (q0 := 0) rfl rfl, pk_callXR hPc hKc hN ((hZ.kept hS.2.1).narrow (fun q h9 => hA q (Nat.le_trans hS.1 h9)))⟩ rfl rfl hl.1 rfl (lv_room (Nat.le_of_ble_eq_true rfl)) dX7_map_2 ⟨(Nat.le_of_ble_eq_true rfl), (Nat.le_of_ble_eq_true rfl)⟩) hS (fun q h9 => hA q (Nat.le_trans hS.1 h9)) (fun E ce q9 u9 t H1 locs ht hvm hw hB hz1 hk1 hS hce hcv hcl => ?_) (fun r_1 ur_1 t9 locs hw hB9 hS => ?_)
  ·
    try dsimp only at hB
    exact bq_no ho9 hbo hB.2
  ·
    refine W.tight (k := 0) (n := 0) (Nat.le_refl _) (Nat.le_refl _) ?_
    clear hPc hKc
    try dsimp only at hw
    have jr_1 := hw
    refine W.eq (g2 := F0 m 5 ls [.ref y0]) (by rw [show r_1 = y0 from bq_is ho9 hbo hB9.2]) ?_
    refine lv_astore (lv' := [(5, .ref y0), (0, .ref a0), (1, .int (nI o)), (2, .int 19), (3, .int p2), (4, .int (nI o8))]) hx hb dX7_map_5 hl (by decide) rfl (fun ls hl => ?_)
    refine lv_iload_n hx hb dX7_map_7 rfl (lv_at hl 3 rfl) ?_
    refine lv_bipush (v := 19) hx hb dX7_map_8 (by decide) ?_
    refine lv_icmp_eq (tgt := 19) hx hb dX7_map_10 (by decide) (fun c_2 => ?_) (fun c_2 => absurd c_2 (by decide))
    refine lv_iconst (v := 1) hx hb dX7_map_19 (by decide) ?_
    refine lv_goto (tgt := 24) hx hb dX7_map_20 (by decide) ?_
    refine lv_istore (lv' := [(6, .int 1), (5, .ref y0), (0, .ref a0), (1, .int (nI o)), (2, .int 19), (3, .int p2), (4, .int (nI o8))]) hx hb dX7_map_24 hl (by decide) rfl (fun ls hl => ?_)
    refine lv_iload hx hb dX7_map_26 (lv_at hl 0 rfl) ?_
    refine lv_if_eq (tgt := 40) hx hb dX7_map_28 (by decide) (fun c_3 => absurd c_3 (by decide)) (fun c_3 => ?_)
    refine lv_aload_n hx hb dX7_map_31 rfl (lv_at hl 2 rfl) ?_
    refine lv_iload hx hb dX7_map_32 (lv_at hl 6 rfl) ?_
    have hPc := hP.sub (ws' := [(a0, .inr (7, [.ref qb])), (qb, .inl (cq, 16, .inr (.inr (.inr (.inr bq)))))]) [0, 1] rfl
    have hKc := hK.sub (tys' := [(cq, .object "KeyAtlas$Body")]) [0] rfl
    refine rox_callr (B := (fun (_ : Unit) (a : Nat) (t : State) => t.heap.size = s.heap.size ∧ ∃ j : Nat, j < 16 ∧ nI o8 = nI j ∧ bq j = some a)) (fun u9 x9 t9 h9 => h9.1) (vx_runV (As := [.int (nI o8)]) (rest := []) ⟨hx, hb, hml, hown, hts⟩ (c_X7_bodyAt l hlt dC dI s.heap.size a0 qb cq bq (nI o8)) (cwV 1 hts gX7_map_X7_bodyAt rfl rfl rfl (by decide +kernel) ⟨(Nat.le_of_ble_eq_true rfl), (Nat.le_of_ble_eq_true rfl)⟩) ⟨pk_blindXR, va_recv hKc hPc (ci := 7) (q0 := 0) rfl rfl, pk_callXR hPc hKc hN ((hZ.kept hS.2.1).narrow (fun q h9 => hA q (Nat.le_trans hS.1 h9)))⟩ rfl rfl hl.1 rfl (lv_room (Nat.le_of_ble_eq_true rfl)) dX7_map_34 ⟨(Nat.le_of_ble_eq_true rfl), (Nat.le_of_ble_eq_true rfl)⟩) hS (fun q h9 => hA q (Nat.le_trans hS.1 h9)) (fun E ce q9 u9 t H1 locs ht hvm hw hB hz1 hk1 hS hce hcv hcl => ?_) (fun r_4 ur_4 t9 locs hw hB9 hS => ?_)
    ·
      try dsimp only at hB
      exact bq_no ho8 hbo8 hB.2
    ·
      refine W.tight (k := 0) (n := 0) (Nat.le_refl _) (Nat.le_refl _) ?_
      clear hPc hKc
      try dsimp only at hw
      have jr_4 := hw
      refine W.eq (g2 := F0 m 37 ls [.ref y1]) (by rw [show r_4 = y1 from bq_is ho8 hbo8 hB9.2]) ?_
      refine lv_goto (tgt := 42) hx hb dX7_map_37 (by decide) ?_
      refine lv_astore (lv' := [(7, .ref y1), (6, .int 1), (5, .ref y0), (0, .ref a0), (1, .int (nI o)), (2, .int 19), (3, .int p2), (4, .int (nI o8))]) hx hb dX7_map_42 hl (by decide) rfl (fun ls hl => ?_)
      refine lv_aload hx hb dX7_map_44 (lv_at hl 2 rfl) ?_
      have hPc := hP.sub (ws' := [(y0, .inr (4, [.ref x0, .int kd, .int wh, .int (nI lim), .int bu]))]) [2] rfl
      have hKc := hK.sub (tys' := []) [] rfl
      refine ro_callr (B := (fun (_ : Unit) (a : Nat) (t : State) => t.heap.size = s.heap.size ∧ a = y0)) (fun u9 x9 t9 h9 => h9.1) (va_runS (As := [.ref y0]) (rest := []) ⟨hx, hb, hml, hown, hts⟩ (c_X7_asMap_L l hlt dC dI s.heap.size y0 ([.ref x0, .int kd, .int wh, .int (nI lim), .int bu])) (va_cwS 1 hts gX7_map_X7_asMap rfl rfl rfl (by decide +kernel) ⟨(Nat.le_of_ble_eq_true rfl), (Nat.le_of_ble_eq_true rfl)⟩) ⟨pk_blindRX, pk_callRX hPc hKc hN⟩ rfl rfl hl.1 rfl (lv_room (Nat.le_of_ble_eq_true rfl)) dX7_map_46 ⟨(Nat.le_of_ble_eq_true rfl), (Nat.le_of_ble_eq_true rfl)⟩) (fun r_5 ur_5 t9 hw hB9 => ?_)
      clear hPc hKc
      try dsimp only at hw
      have jr_5 := hw
      refine W.eq (g2 := F0 m 49 ls [.ref y0]) (by rw [show r_5 = y0 from hB9.2]) ?_
      refine lv_astore (lv' := [(8, .ref y0), (7, .ref y1), (6, .int 1), (5, .ref y0), (0, .ref a0), (1, .int (nI o)), (2, .int 19), (3, .int p2), (4, .int (nI o8))]) hx hb dX7_map_49 hl (by decide) rfl (fun ls hl => ?_)
      refine lv_aload hx hb dX7_map_51 (lv_at hl 1 rfl) ?_
      have hPc := hP.sub (ws' := [(y1, .inr (3, [.ref x1, .int kd8, .int wh8, .int (nI cap8), .int ru8, .int (nI tb8), .ref b8]))]) [6] rfl
      have hKc := hK.sub (tys' := []) [] rfl
      refine ro_callr (B := (fun (_ : Unit) (a : Nat) (t : State) => t.heap.size = s.heap.size ∧ a = y1)) (fun u9 x9 t9 h9 => h9.1) (va_runS (As := [.ref y1]) (rest := []) ⟨hx, hb, hml, hown, hts⟩ (c_X7_asMap_H l hlt dC dI s.heap.size y1 ([.ref x1, .int kd8, .int wh8, .int (nI cap8), .int ru8, .int (nI tb8), .ref b8])) (va_cwS 1 hts gX7_map_X7_asMap rfl rfl rfl (by decide +kernel) ⟨(Nat.le_of_ble_eq_true rfl), (Nat.le_of_ble_eq_true rfl)⟩) ⟨pk_blindRX, pk_callRX hPc hKc hN⟩ rfl rfl hl.1 rfl (lv_room (Nat.le_of_ble_eq_true rfl)) dX7_map_53 ⟨(Nat.le_of_ble_eq_true rfl), (Nat.le_of_ble_eq_true rfl)⟩) (fun r_6 ur_6 t9 hw hB9 => ?_)
      clear hPc hKc
      try dsimp only at hw
      have jr_6 := hw
      refine W.eq (g2 := F0 m 56 ls [.ref y1]) (by rw [show r_6 = y1 from hB9.2]) ?_
      refine lv_astore (lv' := [(9, .ref y1), (8, .ref y0), (7, .ref y1), (6, .int 1), (5, .ref y0), (0, .ref a0), (1, .int (nI o)), (2, .int 19), (3, .int p2), (4, .int (nI o8))]) hx hb dX7_map_56 hl (by decide) rfl (fun ls hl => ?_)
      refine lv_iload_n hx hb dX7_map_58 rfl (lv_at hl 7 rfl) ?_
      refine lv_if_lt (tgt := 68) hx hb dX7_map_59 (by decide) (fun c_7 => absurd c_7 (by decide)) (fun c_7 => ?_)
      refine lv_iload_n hx hb dX7_map_62 rfl (lv_at hl 7 rfl) ?_
      refine lv_bipush (v := 25) hx hb dX7_map_63 (by decide) ?_
      refine lv_icmp_le (tgt := 78) hx hb dX7_map_65 (by decide) (fun c_8 => ?_) (fun c_8 => absurd c_8 (by decide))
      refine lv_aload hx hb dX7_map_78 (lv_at hl 1 rfl) ?_
      refine va_get (D := (dC, dI)) (ci := 4) (v := .int kd) (C := RX4) (T := TX4) (N := 5) hx hb hts hi0_ hown hK hP 2 rfl rfl 1 (by decide) hw0_ (u_same hw1_) rfl dX7_map_80 ?_
      refine lv_iload_n hx hb dX7_map_83 rfl (lv_at hl 7 rfl) ?_
      have hPc := hP.sub (ws' := []) [] rfl
      have hKc := hK.sub (tys' := []) [] rfl
      refine ro_calli (va_runS (As := [.int kd, .int 19]) (rest := []) ⟨hx, hb, hml, hown, hts⟩ (c_X7_hasOp l  dC dI s.heap.size kd 19) (va_cwS 2 hts gX7_map_X7_hasOp rfl rfl rfl (by decide +kernel) ⟨(Nat.le_of_ble_eq_true rfl), (Nat.le_of_ble_eq_true rfl)⟩) ⟨pk_blindR, pk_callR hPc hKc⟩ rfl rfl hl.1 rfl (lv_room (Nat.le_of_ble_eq_true rfl)) dX7_map_84 ⟨(Nat.le_of_ble_eq_true rfl), (Nat.le_of_ble_eq_true rfl)⟩) (fun r_9 ur_9 hw => ?_)
      clear hPc hKc
      try dsimp only at hw
      have jr_9 := hw
      refine W.eq (g2 := F0 m 87 ls [.int r_9]) rfl ?_
      refine lv_if_ne (tgt := 100) hx hb dX7_map_87 (by decide) (fun c_10 => ?_) (fun c_10 => ?_)
      ·
        have ic_10 : ¬ r_9.toInt = 0 := tx_ne rfl (by decide) c_10
        refine lv_iload_n hx hb dX7_map_100 rfl (lv_at hl 7 rfl) ?_
        refine lv_tableIn (x := 19) (off := 290) (tgt := 391) hx hb dX7_map_101 (by decide) (by decide) (by decide) (by decide) ?_
        refine lv_aload hx hb dX7_map_391 (lv_at hl 1 rfl) ?_
        refine lv_aload hx hb dX7_map_393 (lv_at hl 0 rfl) ?_
        have hPc := hP.sub (ws' := [(y0, .inr (4, [.ref x0, .int kd, .int wh, .int (nI lim), .int bu])), (x0, .inr (5, [.ref k0, .ref w0, .int (nI nz), .int ch])), (k0, .inl (ck, L, .inl f)), (w0, .inl (cw, L, .inl g)), (y1, .inr (3, [.ref x1, .int kd8, .int wh8, .int (nI cap8), .int ru8, .int (nI tb8), .ref b8])), (x1, .inr (5, [.ref k8, .ref w8, .int (nI nz8), .int ch8])), (k8, .inl (ck8, L8, .inl f8)), (w8, .inl (cw8, L8, .inl g8)), (b8, .inl (cb8, tb8, .inl bf8))]) [2, 3, 4, 5, 6, 7, 8, 9, 10] rfl
        have hKc := hK.sub (tys' := [(ck, .int), (cw, .int), (ck8, .int), (cw8, .int), (cb8, .boolean)]) [1, 2, 3, 4, 5] rfl
        refine ro_calli (va_runU (As := [.ref y1]) (rest := []) ⟨hx, hb, hml, hown, hts⟩ (c_X3_isSameAs_LH l hlt dC dI s.heap.size y0 kd wh lim bu x0 k0 w0 ck cw L f g nz ch y1 kd8 wh8 cap8 ru8 tb8 b8 cb8 bf8 x1 k8 w8 ck8 cw8 L8 f8 g8 nz8 ch8 hR9 hlim hH8) (va_cwU 1 hts gX7_map_X3_isSameAs_u120X4 rfl rfl rfl rfl (by decide +kernel) ⟨(Nat.le_of_ble_eq_true rfl), (Nat.le_of_ble_eq_true rfl)⟩) ⟨pk_blindRX, va_recv hKc hPc (ci := 4) (q0 := 0) rfl rfl, pk_callRX hPc hKc hN⟩ rfl rfl hl.1 rfl (lv_room (Nat.le_of_ble_eq_true rfl)) dX7_map_395 ⟨(Nat.le_of_ble_eq_true rfl), (Nat.le_of_ble_eq_true rfl)⟩) (fun r_11 ur_11 hw => ?_)
        clear hPc hKc
        try dsimp only at hw
        have jr_11 := hw
        refine W.eq (g2 := F0 m 398 ls [.int r_11]) rfl ?_
        refine lv_if_eq (tgt := 405) hx hb dX7_map_398 (by decide) (fun c_12 => ?_) (fun c_12 => ?_)
        ·
          have ic_12 : r_11.toInt = 0 := tx_eq rfl (by decide) c_12
          refine lv_lconst (v := 0) hx hb dX7_map_405 (by decide) ?_
          refine W.widen (k := 3) (n := 18) (Nat.le_of_ble_eq_true rfl) (Nat.le_of_ble_eq_true rfl) ?_
          refine vx_ret ?_
          exact W.lret (v := 0) hx hb hr (fun t ht hW => ⟨⟨0, (), rfl, trivial, congrArg Array.size ht⟩, hS.F ht⟩) hS.2.2 dX7_map_406
        ·
          have ic_12 : ¬ r_11.toInt = 0 := tx_ne rfl (by decide) c_12
          refine lv_lconst (v := 1) hx hb dX7_map_401 (by decide) ?_
          refine lv_goto (tgt := 406) hx hb dX7_map_402 (by decide) ?_
          refine W.widen (k := 3) (n := 18) (Nat.le_of_ble_eq_true rfl) (Nat.le_of_ble_eq_true rfl) ?_
          refine vx_ret ?_
          exact W.lret (v := 1) hx hb hr (fun t ht hW => ⟨⟨1, (), rfl, trivial, congrArg Array.size ht⟩, hS.F ht⟩) hS.2.2 dX7_map_406
      ·
        have ic_10 : r_9.toInt = 0 := tx_eq rfl (by decide) c_10
        obtain ⟨sa, hsa⟩ := hN.stX7_66
        exact vx_throwS hx hb hlt (own := RX7) (cls := "java/lang/UnsupportedOperationException") (text := "op is not for this kind") (names := ["java/lang/RuntimeException", "java/lang/Exception"]) hown (by decide +kernel) (by decide +kernel) hw2_ hw3_ hsa (tx_hat hN.xw (fun w h => hts w (at_X7_map_90 w h)) ng_RX7_68) og_RX7_68 hZ.1 hZ.2 hS (by rw [hml]; exact hl.1) dX7_map_90 dX7_map_93 dX7_map_94 dX7_map_96 dX7_map_99 (fun x hx9 => (htab x hx9).elim) (Nat.le_of_ble_eq_true rfl) (Nat.le_of_ble_eq_true rfl) (Nat.le_of_ble_eq_true rfl) (Nat.le_of_ble_eq_true rfl) hlocks (fun t hvm hz hq => ⟨(), trivial, rfl, ⟨Nat.le_trans hS.1 hz, fun q h1 h2 => (hq q (Nat.lt_of_lt_of_le h1 hS.1)).trans (hS.2.1 q h1 h2)⟩⟩) hS.2.2 (Nat.le_of_ble_eq_true rfl) (Nat.le_of_ble_eq_true rfl)
set_option maxHeartbeats 4000000 in
set_option maxRecDepth 100000 in
/-- map, op 19, L and L -/
theorem c_X7_map19_LL (l : Launch) (hlt : l.stackTraces = false) (dC : Nat → ClassId) (dI : Nat → Nat → Nat) (sz : Nat) (a0 : Nat) (qb : Nat) (cq : ClassId) (bq : Nat → Option Nat) (o : Nat) (y0 : Nat) (kd : Int32) (wh : Int32) (lim : Nat) (bu : Int32) (x0 : Nat) (k0 : Nat) (w0 : Nat) (ck : ClassId) (cw : ClassId) (L : Nat) (f : Nat → Int32) (g : Nat → Int32) (nz : Nat) (ch : Int32) (o8 : Nat) (y1 : Nat) (kd8 : Int32) (wh8 : Int32) (lim8 : Nat) (bu8 : Int32) (x1 : Nat) (k8 : Nat) (w8 : Nat) (ck8 : ClassId) (cw8 : ClassId) (L8 : Nat) (f8 : Nat → Int32) (g8 : Nat → Int32) (nz8 : Nat) (ch8 : Int32) (p2 : Int32) (ho9 : o < 16) (hbo : bq o = some y0) (hR9 : rOK L nz) (hlim : lim ≤ 1000) (ho8 : o8 < 16) (hbo8 : bq o8 = some y1) (hR8 : rOK L8 nz8) (hlim8 : lim8 ≤ 1000) : vx_Met l yX7_map wqX7_map ({ frames := 9, cells := 3, slots := 18, locals := 360 }) (va_Pc [.ref a0, .int (nI o), .int 19, .int p2, .int (nI o8)] (pk_PreXR (dC, dI) [(a0, .inr (7, [.ref qb])), (qb, .inl (cq, 16, .inr (.inr (.inr (.inr bq))))), (y0, .inr (4, [.ref x0, .int kd, .int wh, .int (nI lim), .int bu])), (x0, .inr (5, [.ref k0, .ref w0, .int (nI nz), .int ch])), (k0, .inl (ck, L, .inl f)), (w0, .inl (cw, L, .inl g)), (y1, .inr (4, [.ref x1, .int kd8, .int wh8, .int (nI lim8), .int bu8])), (x1, .inr (5, [.ref k8, .ref w8, .int (nI nz8), .int ch8])), (k8, .inl (ck8, L8, .inl f8)), (w8, .inl (cw8, L8, .inl g8))] [(cq, .object "KeyAtlas$Body"), (ck, .int), (cw, .int), (ck8, .int), (cw8, .int)] sz)) (va_Ql (fun (_ : Int64) (_ : Unit) => True) (fun _ (t : State) => t.heap.size = sz) (roN sz)) (vx_X (fun _ : Unit => True) (fun (E : String) (_ : Unit) (t : State) => E = "java/lang/UnsupportedOperationException") (roN sz)) 3 18 (roN sz) := by
  refine vx_ofW (cc := cX7_map) (maxL := 10) (ret := (some .long)) (by decide) rfl ?_
  intro p e s m args below meth c s₁ B hml htab hv
  obtain ⟨rfl, hsz, hP, hK, hN, hZ⟩ := hv
  have hx := B.exec
  have hb := B.bytes
  have hr := B.returns
  have hts := atoms_spec (ws := wqX7_map) B.pre
  have hown : s.vm.findClass RX7 = some m.cls := findClass_of_methodNamed B.named
  have hlocks := B.notSynchronized
  subst hsz
  generalize hAe : roN s.heap.size = A at hZ ⊢
  have hA : ∀ q : Nat, s.heap.size ≤ q → A q := fun q h => by rw [← hAe]; exact h
  have hS : va_S A s.heap s.heap [] := va_S.rf
  have hP : va_P (dC, dI) vwCl [(a0, .inr (7, [.ref qb])), (qb, .inl (cq, 16, .inr (.inr (.inr (.inr bq))))), (y0, .inr (4, [.ref x0, .int kd, .int wh, .int (nI lim), .int bu])), (x0, .inr (5, [.ref k0, .ref w0, .int (nI nz), .int ch])), (k0, .inl (ck, L, .inl f)), (w0, .inl (cw, L, .inl g)), (y1, .inr (4, [.ref x1, .int kd8, .int wh8, .int (nI lim8), .int bu8])), (x1, .inr (5, [.ref k8, .ref w8, .int (nI nz8), .int ch8])), (k8, .inl (ck8, L8, .inl f8)), (w8, .inl (cw8, L8, .inl g8))] s.heap := hP
  have hl := lv_entry ([.ref a0, .int (nI o), .int 19, .int p2, .int (nI o8)]) (n := 10) (Nat.le_of_ble_eq_true rfl)
  rw [lg_entry_eq]
  generalize (lg_sl ([.ref a0, .int (nI o), .int 19, .int p2, .int (nI o8)]) ++ List.replicate (10 - (lg_sl ([.ref a0, .int (nI o), .int 19, .int p2, .int (nI o8)])).length) Slot.unset).toArray = ls at hl ⊢
  have hl : lv_has ls 10 [(0, .ref a0), (1, .int (nI o)), (2, .int 19), (3, .int p2), (4, .int (nI o8))] := hl
  have hw0_ := hts (.fieldLink RX7 55 "KeyAtlas$Keyed" "kind" "I") (List.mem_of_getElem? (l := wqX7_map) (i := 5) rfl)
  have hw1_ := hts (.sameField "KeyAtlas$Keyed" "KeyAtlas$Body" "kind" "I") (List.mem_of_getElem? (l := wqX7_map) (i := 6) rfl)
  have hw2_ := hts (.classLink RX7 64 "java/lang/UnsupportedOperationException") (List.mem_of_getElem? (l := wqX7_map) (i := 3) rfl)
  have hw3_ := hts (.initialized "java/lang/UnsupportedOperationException") (List.mem_of_getElem? (l := wqX7_map) (i := 4) rfl)
  have hi0_ : ∀ w ∈ u_ws RX4 TX4 5, w ∈ wqX7_map := fun w h => List.mem_cons_of_mem _ (List.mem_append_left _ (List.mem_append_left _ (List.mem_append_left _ (List.mem_append_left _ (List.mem_append_left _ (List.mem_append_left _ (List.mem_append_left _ (List.mem_append_left _ (List.mem_append_left _ (List.mem_append_left _ (List.mem_append_left _ (List.mem_append_right _ h))))))))))))
  obtain ⟨hL1, hL2, hz1, hz2⟩ := id hR9
  obtain ⟨hL18, hL28, hz18, hz28⟩ := id hR8
  refine lv_aload_n hx hb dX7_map_0 rfl (lv_at hl 0 rfl) ?_
  refine lv_iload_n hx hb dX7_map_1 rfl (lv_at hl 1 rfl) ?_
  have hPc := hP.sub (ws' := [(a0, .inr (7, [.ref qb])), (qb, .inl (cq, 16, .inr (.inr (.inr (.inr bq)))))]) [0, 1] rfl
  have hKc := hK.sub (tys' := [(cq, .object "KeyAtlas$Body")]) [0] rfl
  refine rox_callr (B := (fun (_ : Unit) (a : Nat) (t : State) => t.heap.size = s.heap.size ∧ ∃ j : Nat, j < 16 ∧ nI o = nI j ∧ bq j = some a)) (fun u9 x9 t9 h9 => h9.1) (vx_runV (As := [.int (nI o)]) (rest := []) ⟨hx, hb, hml, hown, hts⟩ (c_X7_bodyAt l hlt dC dI s.heap.size a0 qb cq bq (nI o)) (cwV 1 hts gX7_map_X7_bodyAt rfl rfl rfl (by decide +kernel) ⟨(Nat.le_of_ble_eq_true rfl), (Nat.le_of_ble_eq_true rfl)⟩) ⟨pk_blindXR, va_recv hKc hPc (ci := 7) (q0 := 0) rfl rfl, pk_callXR hPc hKc hN ((hZ.kept hS.2.1).narrow (fun q h9 => hA q (Nat.le_trans hS.1 h9)))⟩ rfl rfl hl.1 rfl (lv_room (Nat.le_of_ble_eq_true rfl)) dX7_map_2 ⟨(Nat.le_of_ble_eq_true rfl), (Nat.le_of_ble_eq_true rfl)⟩) hS (fun q h9 => hA q (Nat.le_trans hS.1 h9)) (fun E ce q9 u9 t H1 locs ht hvm hw hB hz1 hk1 hS hce hcv hcl => ?_) (fun r_1 ur_1 t9 locs hw hB9 hS => ?_)
  ·
    try dsimp only at hB
    exact bq_no ho9 hbo hB.2
  ·
    refine W.tight (k := 0) (n := 0) (Nat.le_refl _) (Nat.le_refl _) ?_
    clear hPc hKc
    try dsimp only at hw
    have jr_1 := hw
    refine W.eq (g2 := F0 m 5 ls [.ref y0]) (by rw [show r_1 = y0 from bq_is ho9 hbo hB9.2]) ?_
    refine lv_astore (lv' := [(5, .ref y0), (0, .ref a0), (1, .int (nI o)), (2, .int 19), (3, .int p2), (4, .int (nI o8))]) hx hb dX7_map_5 hl (by decide) rfl (fun ls hl => ?_)
    refine lv_iload_n hx hb dX7_map_7 rfl (lv_at hl 3 rfl) ?_
    refine lv_bipush (v := 19) hx hb dX7_map_8 (by decide) ?_
    refine lv_icmp_eq (tgt := 19) hx hb dX7_map_10 (by decide) (fun c_2 => ?_) (fun c_2 => absurd c_2 (by decide))
    refine lv_iconst (v := 1) hx hb dX7_map_19 (by decide) ?_
    refine lv_goto (tgt := 24) hx hb dX7_map_20 (by decide) ?_
    refine lv_istore (lv' := [(6, .int 1), (5, .ref y0), (0, .ref a0), (1, .int (nI o)), (2, .int 19), (3, .int p2), (4, .int (nI o8))]) hx hb dX7_map_24 hl (by decide) rfl (fun ls hl => ?_)
    refine lv_iload hx hb dX7_map_26 (lv_at hl 0 rfl) ?_
    refine lv_if_eq (tgt := 40) hx hb dX7_map_28 (by decide) (fun c_3 => absurd c_3 (by decide)) (fun c_3 => ?_)
    refine lv_aload_n hx hb dX7_map_31 rfl (lv_at hl 2 rfl) ?_
    refine lv_iload hx hb dX7_map_32 (lv_at hl 6 rfl) ?_
    have hPc := hP.sub (ws' := [(a0, .inr (7, [.ref qb])), (qb, .inl (cq, 16, .inr (.inr (.inr (.inr bq)))))]) [0, 1] rfl
    have hKc := hK.sub (tys' := [(cq, .object "KeyAtlas$Body")]) [0] rfl
    refine rox_callr (B := (fun (_ : Unit) (a : Nat) (t : State) => t.heap.size = s.heap.size ∧ ∃ j : Nat, j < 16 ∧ nI o8 = nI j ∧ bq j = some a)) (fun u9 x9 t9 h9 => h9.1) (vx_runV (As := [.int (nI o8)]) (rest := []) ⟨hx, hb, hml, hown, hts⟩ (c_X7_bodyAt l hlt dC dI s.heap.size a0 qb cq bq (nI o8)) (cwV 1 hts gX7_map_X7_bodyAt rfl rfl rfl (by decide +kernel) ⟨(Nat.le_of_ble_eq_true rfl), (Nat.le_of_ble_eq_true rfl)⟩) ⟨pk_blindXR, va_recv hKc hPc (ci := 7) (q0 := 0) rfl rfl, pk_callXR hPc hKc hN ((hZ.kept hS.2.1).narrow (fun q h9 => hA q (Nat.le_trans hS.1 h9)))⟩ rfl rfl hl.1 rfl (lv_room (Nat.le_of_ble_eq_true rfl)) dX7_map_34 ⟨(Nat.le_of_ble_eq_true rfl), (Nat.le_of_ble_eq_true rfl)⟩) hS (fun q h9 => hA q (Nat.le_trans hS.1 h9)) (fun E ce q9 u9 t H1 locs ht hvm hw hB hz1 hk1 hS hce hcv hcl => ?_) (fun r_4 ur_4 t9 locs hw hB9 hS => ?_)
    ·
      try dsimp only at hB
      exact bq_no ho8 hbo8 hB.2
    ·
      refine W.tight (k := 0) (n := 0) (Nat.le_refl _) (Nat.le_refl _) ?_
      clear hPc hKc
      try dsimp only at hw
      have jr_4 := hw
      refine W.eq (g2 := F0 m 37 ls [.ref y1]) (by rw [show r_4 = y1 from bq_is ho8 hbo8 hB9.2]) ?_
      refine lv_goto (tgt := 42) hx hb dX7_map_37 (by decide) ?_
      refine lv_astore (lv' := [(7, .ref y1), (6, .int 1), (5, .ref y0), (0, .ref a0), (1, .int (nI o)), (2, .int 19), (3, .int p2), (4, .int (nI o8))]) hx hb dX7_map_42 hl (by decide) rfl (fun ls hl => ?_)
      refine lv_aload hx hb dX7_map_44 (lv_at hl 2 rfl) ?_
      have hPc := hP.sub (ws' := [(y0, .inr (4, [.ref x0, .int kd, .int wh, .int (nI lim), .int bu]))]) [2] rfl
      have hKc := hK.sub (tys' := []) [] rfl
      refine ro_callr (B := (fun (_ : Unit) (a : Nat) (t : State) => t.heap.size = s.heap.size ∧ a = y0)) (fun u9 x9 t9 h9 => h9.1) (va_runS (As := [.ref y0]) (rest := []) ⟨hx, hb, hml, hown, hts⟩ (c_X7_asMap_L l hlt dC dI s.heap.size y0 ([.ref x0, .int kd, .int wh, .int (nI lim), .int bu])) (va_cwS 1 hts gX7_map_X7_asMap rfl rfl rfl (by decide +kernel) ⟨(Nat.le_of_ble_eq_true rfl), (Nat.le_of_ble_eq_true rfl)⟩) ⟨pk_blindRX, pk_callRX hPc hKc hN⟩ rfl rfl hl.1 rfl (lv_room (Nat.le_of_ble_eq_true rfl)) dX7_map_46 ⟨(Nat.le_of_ble_eq_true rfl), (Nat.le_of_ble_eq_true rfl)⟩) (fun r_5 ur_5 t9 hw hB9 => ?_)
      clear hPc hKc
      try dsimp only at hw
      have jr_5 := hw
      refine W.eq (g2 := F0 m 49 ls [.ref y0]) (by rw [show r_5 = y0 from hB9.2]) ?_
      refine lv_astore (lv' := [(8, .ref y0), (7, .ref y1), (6, .int 1), (5, .ref y0), (0, .ref a0), (1, .int (nI o)), (2, .int 19), (3, .int p2), (4, .int (nI o8))]) hx hb dX7_map_49 hl (by decide) rfl (fun ls hl => ?_)
      refine lv_aload hx hb dX7_map_51 (lv_at hl 1 rfl) ?_
      have hPc := hP.sub (ws' := [(y1, .inr (4, [.ref x1, .int kd8, .int wh8, .int (nI lim8), .int bu8]))]) [6] rfl
      have hKc := hK.sub (tys' := []) [] rfl
      refine ro_callr (B := (fun (_ : Unit) (a : Nat) (t : State) => t.heap.size = s.heap.size ∧ a = y1)) (fun u9 x9 t9 h9 => h9.1) (va_runS (As := [.ref y1]) (rest := []) ⟨hx, hb, hml, hown, hts⟩ (c_X7_asMap_L l hlt dC dI s.heap.size y1 ([.ref x1, .int kd8, .int wh8, .int (nI lim8), .int bu8])) (va_cwS 1 hts gX7_map_X7_asMap rfl rfl rfl (by decide +kernel) ⟨(Nat.le_of_ble_eq_true rfl), (Nat.le_of_ble_eq_true rfl)⟩) ⟨pk_blindRX, pk_callRX hPc hKc hN⟩ rfl rfl hl.1 rfl (lv_room (Nat.le_of_ble_eq_true rfl)) dX7_map_53 ⟨(Nat.le_of_ble_eq_true rfl), (Nat.le_of_ble_eq_true rfl)⟩) (fun r_6 ur_6 t9 hw hB9 => ?_)
      clear hPc hKc
      try dsimp only at hw
      have jr_6 := hw
      refine W.eq (g2 := F0 m 56 ls [.ref y1]) (by rw [show r_6 = y1 from hB9.2]) ?_
      refine lv_astore (lv' := [(9, .ref y1), (8, .ref y0), (7, .ref y1), (6, .int 1), (5, .ref y0), (0, .ref a0), (1, .int (nI o)), (2, .int 19), (3, .int p2), (4, .int (nI o8))]) hx hb dX7_map_56 hl (by decide) rfl (fun ls hl => ?_)
      refine lv_iload_n hx hb dX7_map_58 rfl (lv_at hl 7 rfl) ?_
      refine lv_if_lt (tgt := 68) hx hb dX7_map_59 (by decide) (fun c_7 => absurd c_7 (by decide)) (fun c_7 => ?_)
      refine lv_iload_n hx hb dX7_map_62 rfl (lv_at hl 7 rfl) ?_
      refine lv_bipush (v := 25) hx hb dX7_map_63 (by decide) ?_
      refine lv_icmp_le (tgt := 78) hx hb dX7_map_65 (by decide) (fun c_8 => ?_) (fun c_8 => absurd c_8 (by decide))
      refine lv_aload hx hb dX7_map_78 (lv_at hl 1 rfl) ?_
      refine va_get (D := (dC, dI)) (ci := 4) (v := .int kd) (C := RX4) (T := TX4) (N := 5) hx hb hts hi0_ hown hK hP 2 rfl rfl 1 (by decide) hw0_ (u_same hw1_) rfl dX7_map_80 ?_
      refine lv_iload_n hx hb dX7_map_83 rfl (lv_at hl 7 rfl) ?_
      have hPc := hP.sub (ws' := []) [] rfl
      have hKc := hK.sub (tys' := []) [] rfl
      refine ro_calli (va_runS (As := [.int kd, .int 19]) (rest := []) ⟨hx, hb, hml, hown, hts⟩ (c_X7_hasOp l  dC dI s.heap.size kd 19) (va_cwS 2 hts gX7_map_X7_hasOp rfl rfl rfl (by decide +kernel) ⟨(Nat.le_of_ble_eq_true rfl), (Nat.le_of_ble_eq_true rfl)⟩) ⟨pk_blindR, pk_callR hPc hKc⟩ rfl rfl hl.1 rfl (lv_room (Nat.le_of_ble_eq_true rfl)) dX7_map_84 ⟨(Nat.le_of_ble_eq_true rfl), (Nat.le_of_ble_eq_true rfl)⟩) (fun r_9 ur_9 hw => ?_)
      clear hPc hKc
      try dsimp only at hw
      have jr_9 := hw
      refine W.eq (g2 := F0 m 87 ls [.int r_9]) rfl ?_
      refine lv_if_ne (tgt := 100) hx hb dX7_map_87 (by decide) (fun c_10 => ?_) (fun c_10 => ?_)
      ·
        have ic_10 : ¬ r_9.toInt = 0 := tx_ne rfl (by decide) c_10
        refine lv_iload_n hx hb dX7_map_100 rfl (lv_at hl 7 rfl) ?_
        refine lv_tableIn (x := 19) (off := 290) (tgt := 391) hx hb dX7_map_101 (by decide) (by decide) (by decide) (by decide) ?_
        refine lv_aload hx hb dX7_map_391 (lv_at hl 1 rfl) ?_
        refine lv_aload hx hb dX7_map_393 (lv_at hl 0 rfl) ?_
        have hPc := hP.sub (ws' := [(y0, .inr (4, [.ref x0, .int kd, .int wh, .int (nI lim), .int bu])), (x0, .inr (5, [.ref k0, .ref w0, .int (nI nz), .int ch])), (k0, .inl (ck, L, .inl f)), (w0, .inl (cw, L, .inl g)), (y1, .inr (4, [.ref x1, .int kd8, .int wh8, .int (nI lim8), .int bu8])), (x1, .inr (5, [.ref k8, .ref w8, .int (nI nz8), .int ch8])), (k8, .inl (ck8, L8, .inl f8)), (w8, .inl (cw8, L8, .inl g8))]) [2, 3, 4, 5, 6, 7, 8, 9] rfl
        have hKc := hK.sub (tys' := [(ck, .int), (cw, .int), (ck8, .int), (cw8, .int)]) [1, 2, 3, 4] rfl
        refine ro_calli (va_runU (As := [.ref y1]) (rest := []) ⟨hx, hb, hml, hown, hts⟩ (c_X3_isSameAs_LL l hlt dC dI s.heap.size y0 kd wh lim bu x0 k0 w0 ck cw L f g nz ch y1 kd8 wh8 lim8 bu8 x1 k8 w8 ck8 cw8 L8 f8 g8 nz8 ch8 hR9 hlim hR8 hlim8) (va_cwU 1 hts gX7_map_X3_isSameAs_u120X4 rfl rfl rfl rfl (by decide +kernel) ⟨(Nat.le_of_ble_eq_true rfl), (Nat.le_of_ble_eq_true rfl)⟩) ⟨pk_blindRX, va_recv hKc hPc (ci := 4) (q0 := 0) rfl rfl, pk_callRX hPc hKc hN⟩ rfl rfl hl.1 rfl (lv_room (Nat.le_of_ble_eq_true rfl)) dX7_map_395 ⟨(Nat.le_of_ble_eq_true rfl), (Nat.le_of_ble_eq_true rfl)⟩) (fun r_11 ur_11 hw => ?_)
        clear hPc hKc
        try dsimp only at hw
        have jr_11 := hw
        refine W.eq (g2 := F0 m 398 ls [.int r_11]) rfl ?_
        refine lv_if_eq (tgt := 405) hx hb dX7_map_398 (by decide) (fun c_12 => ?_) (fun c_12 => ?_)
        ·
          have ic_12 : r_11.toInt = 0 := tx_eq rfl (by decide) c_12
          refine lv_lconst (v := 0) hx hb dX7_map_405 (by decide) ?_
          refine W.widen (k := 3) (n := 18) (Nat.le_of_ble_eq_true rfl) (Nat.le_of_ble_eq_true rfl) ?_
          refine vx_ret ?_
          exact W.lret (v := 0) hx hb hr (fun t ht hW => ⟨⟨0, (), rfl, trivial, congrArg Array.size ht⟩, hS.F ht⟩) hS.2.2 dX7_map_406
        ·
          have ic_12 : ¬ r_11.toInt = 0 := tx_ne rfl (by decide) c_12
          refine lv_lconst (v := 1) hx hb dX7_map_401 (by decide) ?_
          refine lv_goto (tgt := 406) hx hb dX7_map_402 (by decide) ?_
          refine W.widen (k := 3) (n := 18) (Nat.le_of_ble_eq_true rfl) (Nat.le_of_ble_eq_true rfl) ?_
          refine vx_ret ?_
          exact W.lret (v := 1) hx hb hr (fun t ht hW => ⟨⟨1, (), rfl, trivial, congrArg Array.size ht⟩, hS.F ht⟩) hS.2.2 dX7_map_406
      ·
        have ic_10 : r_9.toInt = 0 := tx_eq rfl (by decide) c_10
        obtain ⟨sa, hsa⟩ := hN.stX7_66
        exact vx_throwS hx hb hlt (own := RX7) (cls := "java/lang/UnsupportedOperationException") (text := "op is not for this kind") (names := ["java/lang/RuntimeException", "java/lang/Exception"]) hown (by decide +kernel) (by decide +kernel) hw2_ hw3_ hsa (tx_hat hN.xw (fun w h => hts w (at_X7_map_90 w h)) ng_RX7_68) og_RX7_68 hZ.1 hZ.2 hS (by rw [hml]; exact hl.1) dX7_map_90 dX7_map_93 dX7_map_94 dX7_map_96 dX7_map_99 (fun x hx9 => (htab x hx9).elim) (Nat.le_of_ble_eq_true rfl) (Nat.le_of_ble_eq_true rfl) (Nat.le_of_ble_eq_true rfl) (Nat.le_of_ble_eq_true rfl) hlocks (fun t hvm hz hq => ⟨(), trivial, rfl, ⟨Nat.le_trans hS.1 hz, fun q h1 h2 => (hq q (Nat.lt_of_lt_of_le h1 hS.1)).trans (hS.2.1 q h1 h2)⟩⟩) hS.2.2 (Nat.le_of_ble_eq_true rfl) (Nat.le_of_ble_eq_true rfl)
set_option maxHeartbeats 4000000 in
set_option maxRecDepth 100000 in
/-- map, op 19, L and S -/
theorem c_X7_map19_LS (l : Launch) (hlt : l.stackTraces = false) (dC : Nat → ClassId) (dI : Nat → Nat → Nat) (sz : Nat) (a0 : Nat) (qb : Nat) (cq : ClassId) (bq : Nat → Option Nat) (o : Nat) (y0 : Nat) (kd : Int32) (wh : Int32) (lim : Nat) (bu : Int32) (x0 : Nat) (k0 : Nat) (w0 : Nat) (ck : ClassId) (cw : ClassId) (L : Nat) (f : Nat → Int32) (g : Nat → Int32) (nz : Nat) (ch : Int32) (o8 : Nat) (y1 : Nat) (kd8 : Int32) (wh8 : Int32) (od8 : Int32) (tu8 : Int32) (lo8 : Int64) (hi8 : Int64) (x1 : Nat) (k8 : Nat) (w8 : Nat) (ck8 : ClassId) (cw8 : ClassId) (L8 : Nat) (f8 : Nat → Int32) (g8 : Nat → Int32) (nz8 : Nat) (ch8 : Int32) (p2 : Int32) (ho9 : o < 16) (hbo : bq o = some y0) (hR9 : rOK L nz) (hlim : lim ≤ 1000) (ho8 : o8 < 16) (hbo8 : bq o8 = some y1) (hR8 : rOK L8 nz8) (ho18 : 0 ≤ od8.toInt) (ho28 : od8.toInt ≤ 3) : vx_Met l yX7_map wqX7_map ({ frames := 9, cells := 3, slots := 18, locals := 360 }) (va_Pc [.ref a0, .int (nI o), .int 19, .int p2, .int (nI o8)] (pk_PreXR (dC, dI) [(a0, .inr (7, [.ref qb])), (qb, .inl (cq, 16, .inr (.inr (.inr (.inr bq))))), (y0, .inr (4, [.ref x0, .int kd, .int wh, .int (nI lim), .int bu])), (x0, .inr (5, [.ref k0, .ref w0, .int (nI nz), .int ch])), (k0, .inl (ck, L, .inl f)), (w0, .inl (cw, L, .inl g)), (y1, .inr (6, [.ref x1, .int kd8, .int wh8, .int od8, .int tu8, .long lo8, .long hi8])), (x1, .inr (5, [.ref k8, .ref w8, .int (nI nz8), .int ch8])), (k8, .inl (ck8, L8, .inl f8)), (w8, .inl (cw8, L8, .inl g8))] [(cq, .object "KeyAtlas$Body"), (ck, .int), (cw, .int), (ck8, .int), (cw8, .int)] sz)) (va_Ql (fun (_ : Int64) (_ : Unit) => True) (fun _ (t : State) => t.heap.size = sz) (roN sz)) (vx_X (fun _ : Unit => True) (fun (E : String) (_ : Unit) (t : State) => E = "java/lang/UnsupportedOperationException") (roN sz)) 3 18 (roN sz) := by
  refine vx_ofW (cc := cX7_map) (maxL := 10) (ret := (some .long)) (by decide) rfl ?_
  intro p e s m args below meth c s₁ B hml htab hv
  obtain ⟨rfl, hsz, hP, hK, hN, hZ⟩ := hv
  have hx := B.exec
  have hb := B.bytes
  have hr := B.returns
  have hts := atoms_spec (ws := wqX7_map) B.pre
  have hown : s.vm.findClass RX7 = some m.cls := findClass_of_methodNamed B.named
  have hlocks := B.notSynchronized
  subst hsz
  generalize hAe : roN s.heap.size = A at hZ ⊢
  have hA : ∀ q : Nat, s.heap.size ≤ q → A q := fun q h => by rw [← hAe]; exact h
  have hS : va_S A s.heap s.heap [] := va_S.rf
  have hP : va_P (dC, dI) vwCl [(a0, .inr (7, [.ref qb])), (qb, .inl (cq, 16, .inr (.inr (.inr (.inr bq))))), (y0, .inr (4, [.ref x0, .int kd, .int wh, .int (nI lim), .int bu])), (x0, .inr (5, [.ref k0, .ref w0, .int (nI nz), .int ch])), (k0, .inl (ck, L, .inl f)), (w0, .inl (cw, L, .inl g)), (y1, .inr (6, [.ref x1, .int kd8, .int wh8, .int od8, .int tu8, .long lo8, .long hi8])), (x1, .inr (5, [.ref k8, .ref w8, .int (nI nz8), .int ch8])), (k8, .inl (ck8, L8, .inl f8)), (w8, .inl (cw8, L8, .inl g8))] s.heap := hP
  have hl := lv_entry ([.ref a0, .int (nI o), .int 19, .int p2, .int (nI o8)]) (n := 10) (Nat.le_of_ble_eq_true rfl)
  rw [lg_entry_eq]
  generalize (lg_sl ([.ref a0, .int (nI o), .int 19, .int p2, .int (nI o8)]) ++ List.replicate (10 - (lg_sl ([.ref a0, .int (nI o), .int 19, .int p2, .int (nI o8)])).length) Slot.unset).toArray = ls at hl ⊢
  have hl : lv_has ls 10 [(0, .ref a0), (1, .int (nI o)), (2, .int 19), (3, .int p2), (4, .int (nI o8))] := hl
  have hw0_ := hts (.fieldLink RX7 55 "KeyAtlas$Keyed" "kind" "I") (List.mem_of_getElem? (l := wqX7_map) (i := 5) rfl)
  have hw1_ := hts (.sameField "KeyAtlas$Keyed" "KeyAtlas$Body" "kind" "I") (List.mem_of_getElem? (l := wqX7_map) (i := 6) rfl)
  have hw2_ := hts (.classLink RX7 64 "java/lang/UnsupportedOperationException") (List.mem_of_getElem? (l := wqX7_map) (i := 3) rfl)
  have hw3_ := hts (.initialized "java/lang/UnsupportedOperationException") (List.mem_of_getElem? (l := wqX7_map) (i := 4) rfl)
  have hi0_ : ∀ w ∈ u_ws RX4 TX4 5, w ∈ wqX7_map := fun w h => List.mem_cons_of_mem _ (List.mem_append_left _ (List.mem_append_left _ (List.mem_append_left _ (List.mem_append_left _ (List.mem_append_left _ (List.mem_append_left _ (List.mem_append_left _ (List.mem_append_left _ (List.mem_append_left _ (List.mem_append_left _ (List.mem_append_left _ (List.mem_append_right _ h))))))))))))
  obtain ⟨hL1, hL2, hz1, hz2⟩ := id hR9
  obtain ⟨hL18, hL28, hz18, hz28⟩ := id hR8
  refine lv_aload_n hx hb dX7_map_0 rfl (lv_at hl 0 rfl) ?_
  refine lv_iload_n hx hb dX7_map_1 rfl (lv_at hl 1 rfl) ?_
  have hPc := hP.sub (ws' := [(a0, .inr (7, [.ref qb])), (qb, .inl (cq, 16, .inr (.inr (.inr (.inr bq)))))]) [0, 1] rfl
  have hKc := hK.sub (tys' := [(cq, .object "KeyAtlas$Body")]) [0] rfl
  refine rox_callr (B := (fun (_ : Unit) (a : Nat) (t : State) => t.heap.size = s.heap.size ∧ ∃ j : Nat, j < 16 ∧ nI o = nI j ∧ bq j = some a)) (fun u9 x9 t9 h9 => h9.1) (vx_runV (As := [.int (nI o)]) (rest := []) ⟨hx, hb, hml, hown, hts⟩ (c_X7_bodyAt l hlt dC dI s.heap.size a0 qb cq bq (nI o)) (cwV 1 hts gX7_map_X7_bodyAt rfl rfl rfl (by decide +kernel) ⟨(Nat.le_of_ble_eq_true rfl), (Nat.le_of_ble_eq_true rfl)⟩) ⟨pk_blindXR, va_recv hKc hPc (ci := 7) (q0 := 0) rfl rfl, pk_callXR hPc hKc hN ((hZ.kept hS.2.1).narrow (fun q h9 => hA q (Nat.le_trans hS.1 h9)))⟩ rfl rfl hl.1 rfl (lv_room (Nat.le_of_ble_eq_true rfl)) dX7_map_2 ⟨(Nat.le_of_ble_eq_true rfl), (Nat.le_of_ble_eq_true rfl)⟩) hS (fun q h9 => hA q (Nat.le_trans hS.1 h9)) (fun E ce q9 u9 t H1 locs ht hvm hw hB hz1 hk1 hS hce hcv hcl => ?_) (fun r_1 ur_1 t9 locs hw hB9 hS => ?_)
  ·
    try dsimp only at hB
    exact bq_no ho9 hbo hB.2
  ·
    refine W.tight (k := 0) (n := 0) (Nat.le_refl _) (Nat.le_refl _) ?_
    clear hPc hKc
    try dsimp only at hw
    have jr_1 := hw
    refine W.eq (g2 := F0 m 5 ls [.ref y0]) (by rw [show r_1 = y0 from bq_is ho9 hbo hB9.2]) ?_
    refine lv_astore (lv' := [(5, .ref y0), (0, .ref a0), (1, .int (nI o)), (2, .int 19), (3, .int p2), (4, .int (nI o8))]) hx hb dX7_map_5 hl (by decide) rfl (fun ls hl => ?_)
    refine lv_iload_n hx hb dX7_map_7 rfl (lv_at hl 3 rfl) ?_
    refine lv_bipush (v := 19) hx hb dX7_map_8 (by decide) ?_
    refine lv_icmp_eq (tgt := 19) hx hb dX7_map_10 (by decide) (fun c_2 => ?_) (fun c_2 => absurd c_2 (by decide))
    refine lv_iconst (v := 1) hx hb dX7_map_19 (by decide) ?_
    refine lv_goto (tgt := 24) hx hb dX7_map_20 (by decide) ?_
    refine lv_istore (lv' := [(6, .int 1), (5, .ref y0), (0, .ref a0), (1, .int (nI o)), (2, .int 19), (3, .int p2), (4, .int (nI o8))]) hx hb dX7_map_24 hl (by decide) rfl (fun ls hl => ?_)
    refine lv_iload hx hb dX7_map_26 (lv_at hl 0 rfl) ?_
    refine lv_if_eq (tgt := 40) hx hb dX7_map_28 (by decide) (fun c_3 => absurd c_3 (by decide)) (fun c_3 => ?_)
    refine lv_aload_n hx hb dX7_map_31 rfl (lv_at hl 2 rfl) ?_
    refine lv_iload hx hb dX7_map_32 (lv_at hl 6 rfl) ?_
    have hPc := hP.sub (ws' := [(a0, .inr (7, [.ref qb])), (qb, .inl (cq, 16, .inr (.inr (.inr (.inr bq)))))]) [0, 1] rfl
    have hKc := hK.sub (tys' := [(cq, .object "KeyAtlas$Body")]) [0] rfl
    refine rox_callr (B := (fun (_ : Unit) (a : Nat) (t : State) => t.heap.size = s.heap.size ∧ ∃ j : Nat, j < 16 ∧ nI o8 = nI j ∧ bq j = some a)) (fun u9 x9 t9 h9 => h9.1) (vx_runV (As := [.int (nI o8)]) (rest := []) ⟨hx, hb, hml, hown, hts⟩ (c_X7_bodyAt l hlt dC dI s.heap.size a0 qb cq bq (nI o8)) (cwV 1 hts gX7_map_X7_bodyAt rfl rfl rfl (by decide +kernel) ⟨(Nat.le_of_ble_eq_true rfl), (Nat.le_of_ble_eq_true rfl)⟩) ⟨pk_blindXR, va_recv hKc hPc (ci := 7) (q0 := 0) rfl rfl, pk_callXR hPc hKc hN ((hZ.kept hS.2.1).narrow (fun q h9 => hA q (Nat.le_trans hS.1 h9)))⟩ rfl rfl hl.1 rfl (lv_room (Nat.le_of_ble_eq_true rfl)) dX7_map_34 ⟨(Nat.le_of_ble_eq_true rfl), (Nat.le_of_ble_eq_true rfl)⟩) hS (fun q h9 => hA q (Nat.le_trans hS.1 h9)) (fun E ce q9 u9 t H1 locs ht hvm hw hB hz1 hk1 hS hce hcv hcl => ?_) (fun r_4 ur_4 t9 locs hw hB9 hS => ?_)
    ·
      try dsimp only at hB
      exact bq_no ho8 hbo8 hB.2
    ·
      refine W.tight (k := 0) (n := 0) (Nat.le_refl _) (Nat.le_refl _) ?_
      clear hPc hKc
      try dsimp only at hw
      have jr_4 := hw
      refine W.eq (g2 := F0 m 37 ls [.ref y1]) (by rw [show r_4 = y1 from bq_is ho8 hbo8 hB9.2]) ?_
      refine lv_goto (tgt := 42) hx hb dX7_map_37 (by decide) ?_
      refine lv_astore (lv' := [(7, .ref y1), (6, .int 1), (5, .ref y0), (0, .ref a0), (1, .int (nI o)), (2, .int 19), (3, .int p2), (4, .int (nI o8))]) hx hb dX7_map_42 hl (by decide) rfl (fun ls hl => ?_)
      refine lv_aload hx hb dX7_map_44 (lv_at hl 2 rfl) ?_
      have hPc := hP.sub (ws' := [(y0, .inr (4, [.ref x0, .int kd, .int wh, .int (nI lim), .int bu]))]) [2] rfl
      have hKc := hK.sub (tys' := []) [] rfl
      refine ro_callr (B := (fun (_ : Unit) (a : Nat) (t : State) => t.heap.size = s.heap.size ∧ a = y0)) (fun u9 x9 t9 h9 => h9.1) (va_runS (As := [.ref y0]) (rest := []) ⟨hx, hb, hml, hown, hts⟩ (c_X7_asMap_L l hlt dC dI s.heap.size y0 ([.ref x0, .int kd, .int wh, .int (nI lim), .int bu])) (va_cwS 1 hts gX7_map_X7_asMap rfl rfl rfl (by decide +kernel) ⟨(Nat.le_of_ble_eq_true rfl), (Nat.le_of_ble_eq_true rfl)⟩) ⟨pk_blindRX, pk_callRX hPc hKc hN⟩ rfl rfl hl.1 rfl (lv_room (Nat.le_of_ble_eq_true rfl)) dX7_map_46 ⟨(Nat.le_of_ble_eq_true rfl), (Nat.le_of_ble_eq_true rfl)⟩) (fun r_5 ur_5 t9 hw hB9 => ?_)
      clear hPc hKc
      try dsimp only at hw
      have jr_5 := hw
      refine W.eq (g2 := F0 m 49 ls [.ref y0]) (by rw [show r_5 = y0 from hB9.2]) ?_
      refine lv_astore (lv' := [(8, .ref y0), (7, .ref y1), (6, .int 1), (5, .ref y0), (0, .ref a0), (1, .int (nI o)), (2, .int 19), (3, .int p2), (4, .int (nI o8))]) hx hb dX7_map_49 hl (by decide) rfl (fun ls hl => ?_)
      refine lv_aload hx hb dX7_map_51 (lv_at hl 1 rfl) ?_
      have hPc := hP.sub (ws' := [(y1, .inr (6, [.ref x1, .int kd8, .int wh8, .int od8, .int tu8, .long lo8, .long hi8]))]) [6] rfl
      have hKc := hK.sub (tys' := []) [] rfl
      refine ro_callr (B := (fun (_ : Unit) (a : Nat) (t : State) => t.heap.size = s.heap.size ∧ a = y1)) (fun u9 x9 t9 h9 => h9.1) (va_runS (As := [.ref y1]) (rest := []) ⟨hx, hb, hml, hown, hts⟩ (c_X7_asMap_S l hlt dC dI s.heap.size y1 ([.ref x1, .int kd8, .int wh8, .int od8, .int tu8, .long lo8, .long hi8])) (va_cwS 1 hts gX7_map_X7_asMap rfl rfl rfl (by decide +kernel) ⟨(Nat.le_of_ble_eq_true rfl), (Nat.le_of_ble_eq_true rfl)⟩) ⟨pk_blindRX, pk_callRX hPc hKc hN⟩ rfl rfl hl.1 rfl (lv_room (Nat.le_of_ble_eq_true rfl)) dX7_map_53 ⟨(Nat.le_of_ble_eq_true rfl), (Nat.le_of_ble_eq_true rfl)⟩) (fun r_6 ur_6 t9 hw hB9 => ?_)
      clear hPc hKc
      try dsimp only at hw
      have jr_6 := hw
      refine W.eq (g2 := F0 m 56 ls [.ref y1]) (by rw [show r_6 = y1 from hB9.2]) ?_
      refine lv_astore (lv' := [(9, .ref y1), (8, .ref y0), (7, .ref y1), (6, .int 1), (5, .ref y0), (0, .ref a0), (1, .int (nI o)), (2, .int 19), (3, .int p2), (4, .int (nI o8))]) hx hb dX7_map_56 hl (by decide) rfl (fun ls hl => ?_)
      refine lv_iload_n hx hb dX7_map_58 rfl (lv_at hl 7 rfl) ?_
      refine lv_if_lt (tgt := 68) hx hb dX7_map_59 (by decide) (fun c_7 => absurd c_7 (by decide)) (fun c_7 => ?_)
      refine lv_iload_n hx hb dX7_map_62 rfl (lv_at hl 7 rfl) ?_
      refine lv_bipush (v := 25) hx hb dX7_map_63 (by decide) ?_
      refine lv_icmp_le (tgt := 78) hx hb dX7_map_65 (by decide) (fun c_8 => ?_) (fun c_8 => absurd c_8 (by decide))
      refine lv_aload hx hb dX7_map_78 (lv_at hl 1 rfl) ?_
      refine va_get (D := (dC, dI)) (ci := 4) (v := .int kd) (C := RX4) (T := TX4) (N := 5) hx hb hts hi0_ hown hK hP 2 rfl rfl 1 (by decide) hw0_ (u_same hw1_) rfl dX7_map_80 ?_
      refine lv_iload_n hx hb dX7_map_83 rfl (lv_at hl 7 rfl) ?_
      have hPc := hP.sub (ws' := []) [] rfl
      have hKc := hK.sub (tys' := []) [] rfl
      refine ro_calli (va_runS (As := [.int kd, .int 19]) (rest := []) ⟨hx, hb, hml, hown, hts⟩ (c_X7_hasOp l  dC dI s.heap.size kd 19) (va_cwS 2 hts gX7_map_X7_hasOp rfl rfl rfl (by decide +kernel) ⟨(Nat.le_of_ble_eq_true rfl), (Nat.le_of_ble_eq_true rfl)⟩) ⟨pk_blindR, pk_callR hPc hKc⟩ rfl rfl hl.1 rfl (lv_room (Nat.le_of_ble_eq_true rfl)) dX7_map_84 ⟨(Nat.le_of_ble_eq_true rfl), (Nat.le_of_ble_eq_true rfl)⟩) (fun r_9 ur_9 hw => ?_)
      clear hPc hKc
      try dsimp only at hw
      have jr_9 := hw
      refine W.eq (g2 := F0 m 87 ls [.int r_9]) rfl ?_
      refine lv_if_ne (tgt := 100) hx hb dX7_map_87 (by decide) (fun c_10 => ?_) (fun c_10 => ?_)
      ·
        have ic_10 : ¬ r_9.toInt = 0 := tx_ne rfl (by decide) c_10
        refine lv_iload_n hx hb dX7_map_100 rfl (lv_at hl 7 rfl) ?_
        refine lv_tableIn (x := 19) (off := 290) (tgt := 391) hx hb dX7_map_101 (by decide) (by decide) (by decide) (by decide) ?_
        refine lv_aload hx hb dX7_map_391 (lv_at hl 1 rfl) ?_
        refine lv_aload hx hb dX7_map_393 (lv_at hl 0 rfl) ?_
        have hPc := hP.sub (ws' := [(y0, .inr (4, [.ref x0, .int kd, .int wh, .int (nI lim), .int bu])), (x0, .inr (5, [.ref k0, .ref w0, .int (nI nz), .int ch])), (k0, .inl (ck, L, .inl f)), (w0, .inl (cw, L, .inl g)), (y1, .inr (6, [.ref x1, .int kd8, .int wh8, .int od8, .int tu8, .long lo8, .long hi8])), (x1, .inr (5, [.ref k8, .ref w8, .int (nI nz8), .int ch8])), (k8, .inl (ck8, L8, .inl f8)), (w8, .inl (cw8, L8, .inl g8))]) [2, 3, 4, 5, 6, 7, 8, 9] rfl
        have hKc := hK.sub (tys' := [(ck, .int), (cw, .int), (ck8, .int), (cw8, .int)]) [1, 2, 3, 4] rfl
        refine ro_calli (va_runU (As := [.ref y1]) (rest := []) ⟨hx, hb, hml, hown, hts⟩ (c_X3_isSameAs_LS l hlt dC dI s.heap.size y0 kd wh lim bu x0 k0 w0 ck cw L f g nz ch y1 kd8 wh8 od8 tu8 lo8 hi8 x1 k8 w8 ck8 cw8 L8 f8 g8 nz8 ch8 hR9 hlim hR8 ho18 ho28) (va_cwU 1 hts gX7_map_X3_isSameAs_u120X4 rfl rfl rfl rfl (by decide +kernel) ⟨(Nat.le_of_ble_eq_true rfl), (Nat.le_of_ble_eq_true rfl)⟩) ⟨pk_blindRX, va_recv hKc hPc (ci := 4) (q0 := 0) rfl rfl, pk_callRX hPc hKc hN⟩ rfl rfl hl.1 rfl (lv_room (Nat.le_of_ble_eq_true rfl)) dX7_map_395 ⟨(Nat.le_of_ble_eq_true rfl), (Nat.le_of_ble_eq_true rfl)⟩) (fun r_11 ur_11 hw => ?_)
        clear hPc hKc
        try dsimp only at hw
        have jr_11 := hw
        refine W.eq (g2 := F0 m 398 ls [.int r_11]) rfl ?_
        refine lv_if_eq (tgt := 405) hx hb dX7_map_398 (by decide) (fun c_12 => ?_) (fun c_12 => ?_)
        ·
          have ic_12 : r_11.toInt = 0 := tx_eq rfl (by decide) c_12
          refine lv_lconst (v := 0) hx hb dX7_map_405 (by decide) ?_
          refine W.widen (k := 3) (n := 18) (Nat.le_of_ble_eq_true rfl) (Nat.le_of_ble_eq_true rfl) ?_
          refine vx_ret ?_
          exact W.lret (v := 0) hx hb hr (fun t ht hW => ⟨⟨0, (), rfl, trivial, congrArg Array.size ht⟩, hS.F ht⟩) hS.2.2 dX7_map_406
        ·
          have ic_12 : ¬ r_11.toInt = 0 := tx_ne rfl (by decide) c_12
          refine lv_lconst (v := 1) hx hb dX7_map_401 (by decide) ?_
          refine lv_goto (tgt := 406) hx hb dX7_map_402 (by decide) ?_
          refine W.widen (k := 3) (n := 18) (Nat.le_of_ble_eq_true rfl) (Nat.le_of_ble_eq_true rfl) ?_
          refine vx_ret ?_
          exact W.lret (v := 1) hx hb hr (fun t ht hW => ⟨⟨1, (), rfl, trivial, congrArg Array.size ht⟩, hS.F ht⟩) hS.2.2 dX7_map_406
      ·
        have ic_10 : r_9.toInt = 0 := tx_eq rfl (by decide) c_10
        obtain ⟨sa, hsa⟩ := hN.stX7_66
        exact vx_throwS hx hb hlt (own := RX7) (cls := "java/lang/UnsupportedOperationException") (text := "op is not for this kind") (names := ["java/lang/RuntimeException", "java/lang/Exception"]) hown (by decide +kernel) (by decide +kernel) hw2_ hw3_ hsa (tx_hat hN.xw (fun w h => hts w (at_X7_map_90 w h)) ng_RX7_68) og_RX7_68 hZ.1 hZ.2 hS (by rw [hml]; exact hl.1) dX7_map_90 dX7_map_93 dX7_map_94 dX7_map_96 dX7_map_99 (fun x hx9 => (htab x hx9).elim) (Nat.le_of_ble_eq_true rfl) (Nat.le_of_ble_eq_true rfl) (Nat.le_of_ble_eq_true rfl) (Nat.le_of_ble_eq_true rfl) hlocks (fun t hvm hz hq => ⟨(), trivial, rfl, ⟨Nat.le_trans hS.1 hz, fun q h1 h2 => (hq q (Nat.lt_of_lt_of_le h1 hS.1)).trans (hS.2.1 q h1 h2)⟩⟩) hS.2.2 (Nat.le_of_ble_eq_true rfl) (Nat.le_of_ble_eq_true rfl)
