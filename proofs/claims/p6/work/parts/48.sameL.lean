set_option maxRecDepth 20000 in
theorem gX3_isSameAs_X3_placeOf_u77X4 : GoodIn wsX3_isSameAs (va_wsU RX3 77 RX4 "KeyAtlas$Keyed" ⟨"KeyAtlas$Keyed", "placeOf", "(I)I"⟩ yX3_placeOf wsX3_placeOf) := goodIn_app (goodIn_of _ (by decide +kernel)) ggX3_isSameAs_X3_placeOf
set_option maxHeartbeats 4000000 in
set_option maxRecDepth 100000 in
/-- Keyed.isSameAs of L and H -/
theorem c_X3_isSameAs_LH (l : Launch) (hlt : l.stackTraces = false) (dC : Nat → ClassId) (dI : Nat → Nat → Nat) (sz : Nat) (y0 : Nat) (kd : Int32) (wh : Int32) (lim : Nat) (bu : Int32) (x0 : Nat) (k0 : Nat) (w0 : Nat) (ck : ClassId) (cw : ClassId) (L : Nat) (f : Nat → Int32) (g : Nat → Int32) (nz : Nat) (ch : Int32) (y1 : Nat) (kd8 : Int32) (wh8 : Int32) (cap8 : Nat) (ru8 : Int32) (tb8 : Nat) (b8 : Nat) (cb8 : ClassId) (bf8 : Nat → Int32) (x1 : Nat) (k8 : Nat) (w8 : Nat) (ck8 : ClassId) (cw8 : ClassId) (L8 : Nat) (f8 : Nat → Int32) (g8 : Nat → Int32) (nz8 : Nat) (ch8 : Int32) (hR9 : rOK L nz) (hlim : lim ≤ 1000) (hH8 : hOK tb8 L8 nz8 cap8) : Met l yX3_isSameAs wsX3_isSameAs ({ frames := 5, cells := 0, slots := 0, locals := 210 }) (va_Pc [.ref y0, .ref y1] (pk_PreRX (dC, dI) [(y0, .inr (4, [.ref x0, .int kd, .int wh, .int (nI lim), .int bu])), (x0, .inr (5, [.ref k0, .ref w0, .int (nI nz), .int ch])), (k0, .inl (ck, L, .inl f)), (w0, .inl (cw, L, .inl g)), (y1, .inr (3, [.ref x1, .int kd8, .int wh8, .int (nI cap8), .int ru8, .int (nI tb8), .ref b8])), (x1, .inr (5, [.ref k8, .ref w8, .int (nI nz8), .int ch8])), (k8, .inl (ck8, L8, .inl f8)), (w8, .inl (cw8, L8, .inl g8)), (b8, .inl (cb8, tb8, .inl bf8))] [(ck, .int), (cw, .int), (ck8, .int), (cw8, .int), (cb8, .boolean)] sz)) (va_Qi (fun (x : Int32) (_ : Unit) => x = 0 ∨ x = 1) (fun _ (t : State) => t.heap.size = sz) ro_A) 0 0 ro_A := by
  refine Met.ofW (cc := cX3_isSameAs) (maxL := 6) (ret := (some .boolean)) (by decide) rfl ?_
  intro p e s m args below meth c s₁ B hml hv
  obtain ⟨rfl, ⟨hsz, hP, hK⟩, hN⟩ := hv
  have hx := B.exec
  have hb := B.bytes
  have hr := B.returns
  have hts := atoms_spec (ws := wsX3_isSameAs) B.pre
  have hown : s.vm.findClass RX3 = some m.cls := findClass_of_methodNamed B.named
  have hlocks := B.notSynchronized
  subst hsz
  have hS : va_S ro_A s.heap s.heap [] := va_S.rf
  have hP : va_P (dC, dI) vwCl [(y0, .inr (4, [.ref x0, .int kd, .int wh, .int (nI lim), .int bu])), (x0, .inr (5, [.ref k0, .ref w0, .int (nI nz), .int ch])), (k0, .inl (ck, L, .inl f)), (w0, .inl (cw, L, .inl g)), (y1, .inr (3, [.ref x1, .int kd8, .int wh8, .int (nI cap8), .int ru8, .int (nI tb8), .ref b8])), (x1, .inr (5, [.ref k8, .ref w8, .int (nI nz8), .int ch8])), (k8, .inl (ck8, L8, .inl f8)), (w8, .inl (cw8, L8, .inl g8)), (b8, .inl (cb8, tb8, .inl bf8))] s.heap := hP
  have hl := lv_entry ([.ref y0, .ref y1]) (n := 6) (Nat.le_of_ble_eq_true rfl)
  rw [lg_entry_eq]
  generalize (lg_sl ([.ref y0, .ref y1]) ++ List.replicate (6 - (lg_sl ([.ref y0, .ref y1])).length) Slot.unset).toArray = ls at hl ⊢
  have hl : lv_has ls 6 [(0, .ref y0), (1, .ref y1)] := hl
  have hw0_ := hts (.fieldLink RX3 9 "KeyAtlas$Keyed" "rows" "LKeyAtlas$Rows;") (List.mem_of_getElem? (l := wsX3_isSameAs) (i := 1) rfl)
  have hi0_ : ∀ w ∈ u_ws RX4 TX4 5, w ∈ wsX3_isSameAs := fun w h => List.mem_cons_of_mem _ (List.mem_append_left _ (List.mem_append_left _ (List.mem_append_right _ h)))
  have hi1_ : ∀ w ∈ u_ws RX2 TX2 7, w ∈ wsX3_isSameAs := fun w h => List.mem_cons_of_mem _ (List.mem_append_left _ (List.mem_append_left _ (List.mem_append_left _ (List.mem_append_right _ h))))
  obtain ⟨hL1, hL2, hz1, hz2⟩ := id hR9
  have hR8 : rOK L8 nz8 := hH8.1
  have htb8 := hOK_tb hH8
  obtain ⟨hL18, hL28, hz18, hz28⟩ := id hR8
  refine lv_aload_n hx hb dX3_isSameAs_0 rfl (lv_at hl 0 rfl) ?_
  have hPc := hP.sub (ws' := [(y0, .inr (4, [.ref x0, .int kd, .int wh, .int (nI lim), .int bu])), (x0, .inr (5, [.ref k0, .ref w0, .int (nI nz), .int ch])), (k0, .inl (ck, L, .inl f)), (w0, .inl (cw, L, .inl g))]) [0, 1, 2, 3] rfl
  have hKc := hK.sub (tys' := [(ck, .int), (cw, .int)]) [0, 1] rfl
  refine ro_calli (va_runU (As := []) (rest := []) ⟨hx, hb, hml, hown, hts⟩ (c_X3_size_L l  dC dI s.heap.size y0 (.int kd) (.int wh) (.int (nI lim)) (.int bu) x0 k0 w0 ck cw L f g nz ch hR9) (va_cwU 0 hts gX3_isSameAs_X3_size_u72X4 rfl rfl rfl rfl (by decide +kernel) ⟨(Nat.le_of_ble_eq_true rfl), (Nat.le_of_ble_eq_true rfl)⟩) ⟨pk_blindR, va_recv hKc hPc (ci := 4) (q0 := 0) rfl rfl, pk_callR hPc hKc⟩ rfl rfl hl.1 rfl (lv_room (Nat.le_of_ble_eq_true rfl)) dX3_isSameAs_1 ⟨(Nat.le_of_ble_eq_true rfl), (Nat.le_of_ble_eq_true rfl)⟩) (fun r_1 ur_1 hw => ?_)
  clear hPc hKc
  try dsimp only at hw
  have jr_1 := hw
  refine W.eq (g2 := F0 m 4 ls [.int r_1]) rfl ?_
  have hr_1 : -1000 ≤ r_1.toInt ∧ r_1.toInt ≤ nz := by rw [jr_1, nI_toInt (by omega)]; omega
  have hsz9 : r_1.toInt ≤ 1000 := by have h9 := hr_1; omega
  refine lv_istore_n (lv' := [(2, .int r_1), (0, .ref y0), (1, .ref y1)]) hx hb dX3_isSameAs_4 rfl hl (by decide) rfl (fun ls hl => ?_)
  refine lv_aload_n hx hb dX3_isSameAs_5 rfl (lv_at hl 2 rfl) ?_
  have hPc := hP.sub (ws' := [(y1, .inr (3, [.ref x1, .int kd8, .int wh8, .int (nI cap8), .int ru8, .int (nI tb8), .ref b8])), (x1, .inr (5, [.ref k8, .ref w8, .int (nI nz8), .int ch8])), (k8, .inl (ck8, L8, .inl f8)), (w8, .inl (cw8, L8, .inl g8))]) [4, 5, 6, 7] rfl
  have hKc := hK.sub (tys' := [(ck8, .int), (cw8, .int)]) [2, 3] rfl
  refine ro_calli (va_runU (As := []) (rest := []) ⟨hx, hb, hml, hown, hts⟩ (c_X3_size_H l  dC dI s.heap.size y1 (.int kd8) (.int wh8) (.int (nI cap8)) (.int ru8) (.int (nI tb8)) (.ref b8) x1 k8 w8 ck8 cw8 L8 f8 g8 nz8 ch8 hR8) (va_cwU 0 hts gX3_isSameAs_X3_size_u72X2 rfl rfl rfl rfl (by decide +kernel) ⟨(Nat.le_of_ble_eq_true rfl), (Nat.le_of_ble_eq_true rfl)⟩) ⟨pk_blindR, va_recv hKc hPc (ci := 3) (q0 := 0) rfl rfl, pk_callR hPc hKc⟩ rfl rfl hl.1 rfl (lv_room (Nat.le_of_ble_eq_true rfl)) dX3_isSameAs_6 ⟨(Nat.le_of_ble_eq_true rfl), (Nat.le_of_ble_eq_true rfl)⟩) (fun r_2 ur_2 hw => ?_)
  clear hPc hKc
  try dsimp only at hw
  have jr_2 := hw
  refine W.eq (g2 := F0 m 9 ls [.int r_2]) rfl ?_
  have hr_2 : -1000 ≤ r_2.toInt ∧ r_2.toInt ≤ nz8 := by rw [jr_2, nI_toInt (by omega)]; omega
  refine lv_iload_n hx hb dX3_isSameAs_9 rfl (lv_at hl 0 rfl) ?_
  refine lv_icmp_eq (tgt := 15) hx hb dX3_isSameAs_10 (by decide) (fun c_3 => ?_) (fun c_3 => ?_)
  ·
    have ic_3 : r_2.toInt = r_1.toInt := tx_eq rfl rfl c_3
    refine lv_iconst (v := 0) hx hb dX3_isSameAs_15 (by decide) ?_
    refine lv_istore_n (lv' := [(3, .int 0), (2, .int r_1), (0, .ref y0), (1, .ref y1)]) hx hb dX3_isSameAs_16 rfl hl (by decide) rfl (fun ls hl => ?_)
    obtain ⟨i, es_i⟩ : ∃ z : Nat, z = 0 := ⟨_, rfl⟩
    obtain ⟨x9, ex9⟩ : ∃ y : Int32, y = nI i := ⟨_, rfl⟩
    obtain ⟨n9, en9⟩ : ∃ n : Nat, n = 1001 := ⟨_, rfl⟩
    replace hl : lv_has ls 6 [(3, .int x9), (2, .int r_1), (0, .ref y0), (1, .ref y1)] := by subst ex9; subst es_i; exact hl
    have hi9 : i ≤ 1000 := by subst ex9; subst es_i; subst en9; exact by omega
    have hn9 : 1001 ≤ i + n9 := by subst ex9; subst es_i; subst en9; exact by omega
    clear en9 es_i
    induction n9 generalizing i x9 ls with
    | zero => exact absurd hn9 (by omega)
    | succ n9 ih =>
      subst ex9
      refine lv_iload_n hx hb dX3_isSameAs_17 rfl (lv_at hl 0 rfl) ?_
      refine lv_iload_n hx hb dX3_isSameAs_18 rfl (lv_at hl 1 rfl) ?_
      refine lv_icmp_ge (tgt := 78) hx hb dX3_isSameAs_19 (by decide) (fun c_4 => ?_) (fun c_4 => ?_)
      ·
        have ic_4 : r_1.toInt ≤ ((i : Nat) : Int) := tx_le rfl (nI_toInt (by omega)) c_4
        refine lv_iconst (v := 1) hx hb dX3_isSameAs_78 (by decide) ?_
        refine W.widen (k := 0) (n := 0) (Nat.le_of_ble_eq_true rfl) (Nat.le_of_ble_eq_true rfl) ?_
        exact W.zret (v := 1) hx hb hr rfl (fun t ht hW => ⟨⟨1, (), rfl, Or.inr rfl, congrArg Array.size ht⟩, hS.F ht⟩) hS.2.2 dX3_isSameAs_79
      ·
        have ic_4 : ((i : Nat) : Int) < r_1.toInt := tx_nle rfl (nI_toInt (by omega)) c_4
        refine lv_aload_n hx hb dX3_isSameAs_22 rfl (lv_at hl 2 rfl) ?_
        refine lv_iload_n hx hb dX3_isSameAs_23 rfl (lv_at hl 0 rfl) ?_
        have hPc := hP.sub (ws' := [(y0, .inr (4, [.ref x0, .int kd, .int wh, .int (nI lim), .int bu]))]) [0] rfl
        have hKc := hK.sub (tys' := []) [] rfl
        refine ro_calli (va_runU (As := [.int (nI i)]) (rest := []) ⟨hx, hb, hml, hown, hts⟩ (c_X3_placeOf_L l  dC dI s.heap.size y0 (.ref x0) (.int kd) (.int wh) (.int (nI lim)) (.int bu) (nI i)) (va_cwU 1 hts gX3_isSameAs_X3_placeOf_u77X4 rfl rfl rfl rfl (by decide +kernel) ⟨(Nat.le_of_ble_eq_true rfl), (Nat.le_of_ble_eq_true rfl)⟩) ⟨pk_blindR, va_recv hKc hPc (ci := 4) (q0 := 0) rfl rfl, pk_callR hPc hKc⟩ rfl rfl hl.1 rfl (lv_room (Nat.le_of_ble_eq_true rfl)) dX3_isSameAs_24 ⟨(Nat.le_of_ble_eq_true rfl), (Nat.le_of_ble_eq_true rfl)⟩) (fun r_5 ur_5 hw => ?_)
        clear hPc hKc
        try dsimp only at hw
        have jr_5 := hw
        refine W.eq (g2 := F0 m 27 ls [.int r_5]) rfl ?_
        refine lv_istore (lv' := [(4, .int r_5), (3, .int (nI i)), (2, .int r_1), (0, .ref y0), (1, .ref y1)]) hx hb dX3_isSameAs_27 hl (by decide) rfl (fun ls hl => ?_)
        refine lv_aload_n hx hb dX3_isSameAs_29 rfl (lv_at hl 4 rfl) ?_
        refine lv_aload_n hx hb dX3_isSameAs_30 rfl (lv_at hl 3 rfl) ?_
        refine va_get (D := (dC, dI)) (ci := 4) (v := .ref x0) (C := RX4) (T := TX4) (N := 5) hx hb hts hi0_ hown hK hP 0 rfl rfl 0 (by decide) hw0_ (fun _ h9 => h9) rfl dX3_isSameAs_31 ?_
        refine lv_iload hx hb dX3_isSameAs_34 (lv_at hl 0 rfl) ?_
        have hPc := hP.sub (ws' := [(x0, .inr (5, [.ref k0, .ref w0, .int (nI nz), .int ch])), (k0, .inl (ck, L, .inl f)), (w0, .inl (cw, L, .inl g))]) [1, 2, 3] rfl
        have hKc := hK.sub (tys' := [(ck, .int), (cw, .int)]) [0, 1] rfl
        refine ro_calli (va_runV (As := [.int r_5]) (rest := [.ref y1]) ⟨hx, hb, hml, hown, hts⟩ (c_X5_key l  dC dI s.heap.size x0 k0 w0 ck cw L f g nz ch r_5 hR9) (cwV 1 hts gX3_isSameAs_X5_key rfl rfl rfl (by decide +kernel) ⟨(Nat.le_of_ble_eq_true rfl), (Nat.le_of_ble_eq_true rfl)⟩) ⟨pk_blindR, va_recv hKc hPc (ci := 5) (q0 := 0) rfl rfl, pk_callR hPc hKc⟩ rfl rfl hl.1 rfl (lv_room (Nat.le_of_ble_eq_true rfl)) dX3_isSameAs_36 ⟨(Nat.le_of_ble_eq_true rfl), (Nat.le_of_ble_eq_true rfl)⟩) (fun r_6 ur_6 hw => ?_)
        clear hPc hKc
        try dsimp only at hw
        have jr_6 := hw
        refine W.eq (g2 := F0 m 39 ls [.int r_6, .ref y1]) rfl ?_
        have hPc := hP.sub (ws' := [(y1, .inr (3, [.ref x1, .int kd8, .int wh8, .int (nI cap8), .int ru8, .int (nI tb8), .ref b8])), (x1, .inr (5, [.ref k8, .ref w8, .int (nI nz8), .int ch8])), (k8, .inl (ck8, L8, .inl f8)), (w8, .inl (cw8, L8, .inl g8)), (b8, .inl (cb8, tb8, .inl bf8))]) [4, 5, 6, 7, 8] rfl
        have hKc := hK.sub (tys' := [(ck8, .int), (cw8, .int), (cb8, .boolean)]) [2, 3, 4] rfl
        refine ro_calli (va_runU (As := [.int r_6]) (rest := []) ⟨hx, hb, hml, hown, hts⟩ (c_X2_find l  dC dI s.heap.size y1 kd8 wh8 cap8 ru8 tb8 b8 cb8 bf8 x1 k8 w8 ck8 cw8 L8 f8 g8 nz8 ch8 r_6 hR8 htb8) (va_cwA 1 hts gX3_isSameAs_X2_find_u46X2 rfl rfl rfl (hN.xw _ (List.mem_of_getElem? (l := p_xw) (i := 0) rfl)) (by decide +kernel) ⟨(Nat.le_of_ble_eq_true rfl), (Nat.le_of_ble_eq_true rfl)⟩) ⟨pk_blindR, va_recv hKc hPc (ci := 3) (q0 := 0) rfl rfl, pk_callR hPc hKc⟩ rfl rfl hl.1 rfl (lv_room (Nat.le_of_ble_eq_true rfl)) dX3_isSameAs_39 ⟨(Nat.le_of_ble_eq_true rfl), (Nat.le_of_ble_eq_true rfl)⟩) (fun r_7 ur_7 hw => ?_)
        clear hPc hKc
        try dsimp only at hw
        have jr_7 := hw
        refine W.eq (g2 := F0 m 42 ls [.int r_7]) rfl ?_
        refine lv_istore (lv' := [(5, .int r_7), (4, .int r_5), (3, .int (nI i)), (2, .int r_1), (0, .ref y0), (1, .ref y1)]) hx hb dX3_isSameAs_42 hl (by decide) rfl (fun ls hl => ?_)
        refine lv_iload hx hb dX3_isSameAs_44 (lv_at hl 0 rfl) ?_
        refine lv_if_lt (tgt := 70) hx hb dX3_isSameAs_46 (by decide) (fun c_8 => ?_) (fun c_8 => ?_)
        ·
          have ic_8 : r_7.toInt < 0 := tx_lt rfl (by decide) c_8
          refine lv_iconst (v := 0) hx hb dX3_isSameAs_70 (by decide) ?_
          refine W.widen (k := 0) (n := 0) (Nat.le_of_ble_eq_true rfl) (Nat.le_of_ble_eq_true rfl) ?_
          exact W.zret (v := 0) hx hb hr rfl (fun t ht hW => ⟨⟨0, (), rfl, Or.inl rfl, congrArg Array.size ht⟩, hS.F ht⟩) hS.2.2 dX3_isSameAs_71
        ·
          have ic_8 : 0 ≤ r_7.toInt := tx_nlt rfl (by decide) c_8
          refine lv_aload_n hx hb dX3_isSameAs_49 rfl (lv_at hl 5 rfl) ?_
          refine va_get (D := (dC, dI)) (ci := 3) (v := .ref x1) (C := RX2) (T := TX2) (N := 7) hx hb hts hi1_ hown hK hP 4 rfl rfl 0 (by decide) hw0_ (fun _ h9 => h9) rfl dX3_isSameAs_50 ?_
          refine lv_iload hx hb dX3_isSameAs_53 (lv_at hl 0 rfl) ?_
          have hPc := hP.sub (ws' := [(x1, .inr (5, [.ref k8, .ref w8, .int (nI nz8), .int ch8])), (k8, .inl (ck8, L8, .inl f8)), (w8, .inl (cw8, L8, .inl g8))]) [5, 6, 7] rfl
          have hKc := hK.sub (tys' := [(ck8, .int), (cw8, .int)]) [2, 3] rfl
          refine ro_calli (va_runV (As := [.int r_7]) (rest := []) ⟨hx, hb, hml, hown, hts⟩ (c_X5_value l  dC dI s.heap.size x1 k8 w8 ck8 cw8 L8 f8 g8 nz8 ch8 r_7 hR8) (cwV 1 hts gX3_isSameAs_X5_value rfl rfl rfl (by decide +kernel) ⟨(Nat.le_of_ble_eq_true rfl), (Nat.le_of_ble_eq_true rfl)⟩) ⟨pk_blindR, va_recv hKc hPc (ci := 5) (q0 := 0) rfl rfl, pk_callR hPc hKc⟩ rfl rfl hl.1 rfl (lv_room (Nat.le_of_ble_eq_true rfl)) dX3_isSameAs_55 ⟨(Nat.le_of_ble_eq_true rfl), (Nat.le_of_ble_eq_true rfl)⟩) (fun r_9 ur_9 hw => ?_)
          clear hPc hKc
          try dsimp only at hw
          have jr_9 := hw
          refine W.eq (g2 := F0 m 58 ls [.int r_9]) rfl ?_
          refine lv_aload_n hx hb dX3_isSameAs_58 rfl (lv_at hl 4 rfl) ?_
          refine va_get (D := (dC, dI)) (ci := 4) (v := .ref x0) (C := RX4) (T := TX4) (N := 5) hx hb hts hi0_ hown hK hP 0 rfl rfl 0 (by decide) hw0_ (fun _ h9 => h9) rfl dX3_isSameAs_59 ?_
          refine lv_iload hx hb dX3_isSameAs_62 (lv_at hl 1 rfl) ?_
          have hPc := hP.sub (ws' := [(x0, .inr (5, [.ref k0, .ref w0, .int (nI nz), .int ch])), (k0, .inl (ck, L, .inl f)), (w0, .inl (cw, L, .inl g))]) [1, 2, 3] rfl
          have hKc := hK.sub (tys' := [(ck, .int), (cw, .int)]) [0, 1] rfl
          refine ro_calli (va_runV (As := [.int r_5]) (rest := [.int r_9]) ⟨hx, hb, hml, hown, hts⟩ (c_X5_value l  dC dI s.heap.size x0 k0 w0 ck cw L f g nz ch r_5 hR9) (cwV 1 hts gX3_isSameAs_X5_value rfl rfl rfl (by decide +kernel) ⟨(Nat.le_of_ble_eq_true rfl), (Nat.le_of_ble_eq_true rfl)⟩) ⟨pk_blindR, va_recv hKc hPc (ci := 5) (q0 := 0) rfl rfl, pk_callR hPc hKc⟩ rfl rfl hl.1 rfl (lv_room (Nat.le_of_ble_eq_true rfl)) dX3_isSameAs_64 ⟨(Nat.le_of_ble_eq_true rfl), (Nat.le_of_ble_eq_true rfl)⟩) (fun r_10 ur_10 hw => ?_)
          clear hPc hKc
          try dsimp only at hw
          have jr_10 := hw
          refine W.eq (g2 := F0 m 67 ls [.int r_10, .int r_9]) rfl ?_
          refine lv_icmp_eq (tgt := 72) hx hb dX3_isSameAs_67 (by decide) (fun c_11 => ?_) (fun c_11 => ?_)
          ·
            have ic_11 : r_9.toInt = r_10.toInt := tx_eq rfl rfl c_11
            refine lv_iinc (v := nI (i + 1)) (lv' := [(3, .int (nI (i + 1))), (5, .int r_7), (4, .int r_5), (2, .int r_1), (0, .ref y0), (1, .ref y1)]) hx hb dX3_isSameAs_72 hl (k := 2) rfl (by rw [show Int32.ofInt 1 = nI 1 from rfl, nI_add]) (by decide) rfl (fun ls hl => ?_)
            refine lv_goto (tgt := 17) hx hb dX3_isSameAs_75 (by decide) ?_
            exact ih (i := i + 1) (x9 := nI (i + 1)) (ex9 := rfl) (ls := ls) (hi9 := by omega) (hn9 := by omega) (hl := lv_sub hl [0, 3, 4, 5] rfl)
          ·
            have ic_11 : ¬ r_9.toInt = r_10.toInt := tx_ne rfl rfl c_11
            refine lv_iconst (v := 0) hx hb dX3_isSameAs_70 (by decide) ?_
            refine W.widen (k := 0) (n := 0) (Nat.le_of_ble_eq_true rfl) (Nat.le_of_ble_eq_true rfl) ?_
            exact W.zret (v := 0) hx hb hr rfl (fun t ht hW => ⟨⟨0, (), rfl, Or.inl rfl, congrArg Array.size ht⟩, hS.F ht⟩) hS.2.2 dX3_isSameAs_71
  ·
    have ic_3 : ¬ r_2.toInt = r_1.toInt := tx_ne rfl rfl c_3
    refine lv_iconst (v := 0) hx hb dX3_isSameAs_13 (by decide) ?_
    refine W.widen (k := 0) (n := 0) (Nat.le_of_ble_eq_true rfl) (Nat.le_of_ble_eq_true rfl) ?_
    exact W.zret (v := 0) hx hb hr rfl (fun t ht hW => ⟨⟨0, (), rfl, Or.inl rfl, congrArg Array.size ht⟩, hS.F ht⟩) hS.2.2 dX3_isSameAs_14
set_option maxHeartbeats 4000000 in
set_option maxRecDepth 100000 in
/-- Keyed.isSameAs of L and L -/
theorem c_X3_isSameAs_LL (l : Launch) (hlt : l.stackTraces = false) (dC : Nat → ClassId) (dI : Nat → Nat → Nat) (sz : Nat) (y0 : Nat) (kd : Int32) (wh : Int32) (lim : Nat) (bu : Int32) (x0 : Nat) (k0 : Nat) (w0 : Nat) (ck : ClassId) (cw : ClassId) (L : Nat) (f : Nat → Int32) (g : Nat → Int32) (nz : Nat) (ch : Int32) (y1 : Nat) (kd8 : Int32) (wh8 : Int32) (lim8 : Nat) (bu8 : Int32) (x1 : Nat) (k8 : Nat) (w8 : Nat) (ck8 : ClassId) (cw8 : ClassId) (L8 : Nat) (f8 : Nat → Int32) (g8 : Nat → Int32) (nz8 : Nat) (ch8 : Int32) (hR9 : rOK L nz) (hlim : lim ≤ 1000) (hR8 : rOK L8 nz8) (hlim8 : lim8 ≤ 1000) : Met l yX3_isSameAs wsX3_isSameAs ({ frames := 5, cells := 0, slots := 0, locals := 210 }) (va_Pc [.ref y0, .ref y1] (pk_PreRX (dC, dI) [(y0, .inr (4, [.ref x0, .int kd, .int wh, .int (nI lim), .int bu])), (x0, .inr (5, [.ref k0, .ref w0, .int (nI nz), .int ch])), (k0, .inl (ck, L, .inl f)), (w0, .inl (cw, L, .inl g)), (y1, .inr (4, [.ref x1, .int kd8, .int wh8, .int (nI lim8), .int bu8])), (x1, .inr (5, [.ref k8, .ref w8, .int (nI nz8), .int ch8])), (k8, .inl (ck8, L8, .inl f8)), (w8, .inl (cw8, L8, .inl g8))] [(ck, .int), (cw, .int), (ck8, .int), (cw8, .int)] sz)) (va_Qi (fun (x : Int32) (_ : Unit) => x = 0 ∨ x = 1) (fun _ (t : State) => t.heap.size = sz) ro_A) 0 0 ro_A := by
  refine Met.ofW (cc := cX3_isSameAs) (maxL := 6) (ret := (some .boolean)) (by decide) rfl ?_
  intro p e s m args below meth c s₁ B hml hv
  obtain ⟨rfl, ⟨hsz, hP, hK⟩, hN⟩ := hv
  have hx := B.exec
  have hb := B.bytes
  have hr := B.returns
  have hts := atoms_spec (ws := wsX3_isSameAs) B.pre
  have hown : s.vm.findClass RX3 = some m.cls := findClass_of_methodNamed B.named
  have hlocks := B.notSynchronized
  subst hsz
  have hS : va_S ro_A s.heap s.heap [] := va_S.rf
  have hP : va_P (dC, dI) vwCl [(y0, .inr (4, [.ref x0, .int kd, .int wh, .int (nI lim), .int bu])), (x0, .inr (5, [.ref k0, .ref w0, .int (nI nz), .int ch])), (k0, .inl (ck, L, .inl f)), (w0, .inl (cw, L, .inl g)), (y1, .inr (4, [.ref x1, .int kd8, .int wh8, .int (nI lim8), .int bu8])), (x1, .inr (5, [.ref k8, .ref w8, .int (nI nz8), .int ch8])), (k8, .inl (ck8, L8, .inl f8)), (w8, .inl (cw8, L8, .inl g8))] s.heap := hP
  have hl := lv_entry ([.ref y0, .ref y1]) (n := 6) (Nat.le_of_ble_eq_true rfl)
  rw [lg_entry_eq]
  generalize (lg_sl ([.ref y0, .ref y1]) ++ List.replicate (6 - (lg_sl ([.ref y0, .ref y1])).length) Slot.unset).toArray = ls at hl ⊢
  have hl : lv_has ls 6 [(0, .ref y0), (1, .ref y1)] := hl
  have hw0_ := hts (.fieldLink RX3 9 "KeyAtlas$Keyed" "rows" "LKeyAtlas$Rows;") (List.mem_of_getElem? (l := wsX3_isSameAs) (i := 1) rfl)
  have hi0_ : ∀ w ∈ u_ws RX4 TX4 5, w ∈ wsX3_isSameAs := fun w h => List.mem_cons_of_mem _ (List.mem_append_left _ (List.mem_append_left _ (List.mem_append_right _ h)))
  obtain ⟨hL1, hL2, hz1, hz2⟩ := id hR9
  obtain ⟨hL18, hL28, hz18, hz28⟩ := id hR8
  refine lv_aload_n hx hb dX3_isSameAs_0 rfl (lv_at hl 0 rfl) ?_
  have hPc := hP.sub (ws' := [(y0, .inr (4, [.ref x0, .int kd, .int wh, .int (nI lim), .int bu])), (x0, .inr (5, [.ref k0, .ref w0, .int (nI nz), .int ch])), (k0, .inl (ck, L, .inl f)), (w0, .inl (cw, L, .inl g))]) [0, 1, 2, 3] rfl
  have hKc := hK.sub (tys' := [(ck, .int), (cw, .int)]) [0, 1] rfl
  refine ro_calli (va_runU (As := []) (rest := []) ⟨hx, hb, hml, hown, hts⟩ (c_X3_size_L l  dC dI s.heap.size y0 (.int kd) (.int wh) (.int (nI lim)) (.int bu) x0 k0 w0 ck cw L f g nz ch hR9) (va_cwU 0 hts gX3_isSameAs_X3_size_u72X4 rfl rfl rfl rfl (by decide +kernel) ⟨(Nat.le_of_ble_eq_true rfl), (Nat.le_of_ble_eq_true rfl)⟩) ⟨pk_blindR, va_recv hKc hPc (ci := 4) (q0 := 0) rfl rfl, pk_callR hPc hKc⟩ rfl rfl hl.1 rfl (lv_room (Nat.le_of_ble_eq_true rfl)) dX3_isSameAs_1 ⟨(Nat.le_of_ble_eq_true rfl), (Nat.le_of_ble_eq_true rfl)⟩) (fun r_1 ur_1 hw => ?_)
  clear hPc hKc
  try dsimp only at hw
  have jr_1 := hw
  refine W.eq (g2 := F0 m 4 ls [.int r_1]) rfl ?_
  have hr_1 : -1000 ≤ r_1.toInt ∧ r_1.toInt ≤ nz := by rw [jr_1, nI_toInt (by omega)]; omega
  have hsz9 : r_1.toInt ≤ 1000 := by have h9 := hr_1; omega
  refine lv_istore_n (lv' := [(2, .int r_1), (0, .ref y0), (1, .ref y1)]) hx hb dX3_isSameAs_4 rfl hl (by decide) rfl (fun ls hl => ?_)
  refine lv_aload_n hx hb dX3_isSameAs_5 rfl (lv_at hl 2 rfl) ?_
  have hPc := hP.sub (ws' := [(y1, .inr (4, [.ref x1, .int kd8, .int wh8, .int (nI lim8), .int bu8])), (x1, .inr (5, [.ref k8, .ref w8, .int (nI nz8), .int ch8])), (k8, .inl (ck8, L8, .inl f8)), (w8, .inl (cw8, L8, .inl g8))]) [4, 5, 6, 7] rfl
  have hKc := hK.sub (tys' := [(ck8, .int), (cw8, .int)]) [2, 3] rfl
  refine ro_calli (va_runU (As := []) (rest := []) ⟨hx, hb, hml, hown, hts⟩ (c_X3_size_L l  dC dI s.heap.size y1 (.int kd8) (.int wh8) (.int (nI lim8)) (.int bu8) x1 k8 w8 ck8 cw8 L8 f8 g8 nz8 ch8 hR8) (va_cwU 0 hts gX3_isSameAs_X3_size_u72X4 rfl rfl rfl rfl (by decide +kernel) ⟨(Nat.le_of_ble_eq_true rfl), (Nat.le_of_ble_eq_true rfl)⟩) ⟨pk_blindR, va_recv hKc hPc (ci := 4) (q0 := 0) rfl rfl, pk_callR hPc hKc⟩ rfl rfl hl.1 rfl (lv_room (Nat.le_of_ble_eq_true rfl)) dX3_isSameAs_6 ⟨(Nat.le_of_ble_eq_true rfl), (Nat.le_of_ble_eq_true rfl)⟩) (fun r_2 ur_2 hw => ?_)
  clear hPc hKc
  try dsimp only at hw
  have jr_2 := hw
  refine W.eq (g2 := F0 m 9 ls [.int r_2]) rfl ?_
  have hr_2 : -1000 ≤ r_2.toInt ∧ r_2.toInt ≤ nz8 := by rw [jr_2, nI_toInt (by omega)]; omega
  refine lv_iload_n hx hb dX3_isSameAs_9 rfl (lv_at hl 0 rfl) ?_
  refine lv_icmp_eq (tgt := 15) hx hb dX3_isSameAs_10 (by decide) (fun c_3 => ?_) (fun c_3 => ?_)
  ·
    have ic_3 : r_2.toInt = r_1.toInt := tx_eq rfl rfl c_3
    refine lv_iconst (v := 0) hx hb dX3_isSameAs_15 (by decide) ?_
    refine lv_istore_n (lv' := [(3, .int 0), (2, .int r_1), (0, .ref y0), (1, .ref y1)]) hx hb dX3_isSameAs_16 rfl hl (by decide) rfl (fun ls hl => ?_)
    obtain ⟨i, es_i⟩ : ∃ z : Nat, z = 0 := ⟨_, rfl⟩
    obtain ⟨x9, ex9⟩ : ∃ y : Int32, y = nI i := ⟨_, rfl⟩
    obtain ⟨n9, en9⟩ : ∃ n : Nat, n = 1001 := ⟨_, rfl⟩
    replace hl : lv_has ls 6 [(3, .int x9), (2, .int r_1), (0, .ref y0), (1, .ref y1)] := by subst ex9; subst es_i; exact hl
    have hi9 : i ≤ 1000 := by subst ex9; subst es_i; subst en9; exact by omega
    have hn9 : 1001 ≤ i + n9 := by subst ex9; subst es_i; subst en9; exact by omega
    clear en9 es_i
    induction n9 generalizing i x9 ls with
    | zero => exact absurd hn9 (by omega)
    | succ n9 ih =>
      subst ex9
      refine lv_iload_n hx hb dX3_isSameAs_17 rfl (lv_at hl 0 rfl) ?_
      refine lv_iload_n hx hb dX3_isSameAs_18 rfl (lv_at hl 1 rfl) ?_
      refine lv_icmp_ge (tgt := 78) hx hb dX3_isSameAs_19 (by decide) (fun c_4 => ?_) (fun c_4 => ?_)
      ·
        have ic_4 : r_1.toInt ≤ ((i : Nat) : Int) := tx_le rfl (nI_toInt (by omega)) c_4
        refine lv_iconst (v := 1) hx hb dX3_isSameAs_78 (by decide) ?_
        refine W.widen (k := 0) (n := 0) (Nat.le_of_ble_eq_true rfl) (Nat.le_of_ble_eq_true rfl) ?_
        exact W.zret (v := 1) hx hb hr rfl (fun t ht hW => ⟨⟨1, (), rfl, Or.inr rfl, congrArg Array.size ht⟩, hS.F ht⟩) hS.2.2 dX3_isSameAs_79
      ·
        have ic_4 : ((i : Nat) : Int) < r_1.toInt := tx_nle rfl (nI_toInt (by omega)) c_4
        refine lv_aload_n hx hb dX3_isSameAs_22 rfl (lv_at hl 2 rfl) ?_
        refine lv_iload_n hx hb dX3_isSameAs_23 rfl (lv_at hl 0 rfl) ?_
        have hPc := hP.sub (ws' := [(y0, .inr (4, [.ref x0, .int kd, .int wh, .int (nI lim), .int bu]))]) [0] rfl
        have hKc := hK.sub (tys' := []) [] rfl
        refine ro_calli (va_runU (As := [.int (nI i)]) (rest := []) ⟨hx, hb, hml, hown, hts⟩ (c_X3_placeOf_L l  dC dI s.heap.size y0 (.ref x0) (.int kd) (.int wh) (.int (nI lim)) (.int bu) (nI i)) (va_cwU 1 hts gX3_isSameAs_X3_placeOf_u77X4 rfl rfl rfl rfl (by decide +kernel) ⟨(Nat.le_of_ble_eq_true rfl), (Nat.le_of_ble_eq_true rfl)⟩) ⟨pk_blindR, va_recv hKc hPc (ci := 4) (q0 := 0) rfl rfl, pk_callR hPc hKc⟩ rfl rfl hl.1 rfl (lv_room (Nat.le_of_ble_eq_true rfl)) dX3_isSameAs_24 ⟨(Nat.le_of_ble_eq_true rfl), (Nat.le_of_ble_eq_true rfl)⟩) (fun r_5 ur_5 hw => ?_)
        clear hPc hKc
        try dsimp only at hw
        have jr_5 := hw
        refine W.eq (g2 := F0 m 27 ls [.int r_5]) rfl ?_
        refine lv_istore (lv' := [(4, .int r_5), (3, .int (nI i)), (2, .int r_1), (0, .ref y0), (1, .ref y1)]) hx hb dX3_isSameAs_27 hl (by decide) rfl (fun ls hl => ?_)
        refine lv_aload_n hx hb dX3_isSameAs_29 rfl (lv_at hl 4 rfl) ?_
        refine lv_aload_n hx hb dX3_isSameAs_30 rfl (lv_at hl 3 rfl) ?_
        refine va_get (D := (dC, dI)) (ci := 4) (v := .ref x0) (C := RX4) (T := TX4) (N := 5) hx hb hts hi0_ hown hK hP 0 rfl rfl 0 (by decide) hw0_ (fun _ h9 => h9) rfl dX3_isSameAs_31 ?_
        refine lv_iload hx hb dX3_isSameAs_34 (lv_at hl 0 rfl) ?_
        have hPc := hP.sub (ws' := [(x0, .inr (5, [.ref k0, .ref w0, .int (nI nz), .int ch])), (k0, .inl (ck, L, .inl f)), (w0, .inl (cw, L, .inl g))]) [1, 2, 3] rfl
        have hKc := hK.sub (tys' := [(ck, .int), (cw, .int)]) [0, 1] rfl
        refine ro_calli (va_runV (As := [.int r_5]) (rest := [.ref y1]) ⟨hx, hb, hml, hown, hts⟩ (c_X5_key l  dC dI s.heap.size x0 k0 w0 ck cw L f g nz ch r_5 hR9) (cwV 1 hts gX3_isSameAs_X5_key rfl rfl rfl (by decide +kernel) ⟨(Nat.le_of_ble_eq_true rfl), (Nat.le_of_ble_eq_true rfl)⟩) ⟨pk_blindR, va_recv hKc hPc (ci := 5) (q0 := 0) rfl rfl, pk_callR hPc hKc⟩ rfl rfl hl.1 rfl (lv_room (Nat.le_of_ble_eq_true rfl)) dX3_isSameAs_36 ⟨(Nat.le_of_ble_eq_true rfl), (Nat.le_of_ble_eq_true rfl)⟩) (fun r_6 ur_6 hw => ?_)
        clear hPc hKc
        try dsimp only at hw
        have jr_6 := hw
        refine W.eq (g2 := F0 m 39 ls [.int r_6, .ref y1]) rfl ?_
        have hPc := hP.sub (ws' := [(y1, .inr (4, [.ref x1, .int kd8, .int wh8, .int (nI lim8), .int bu8])), (x1, .inr (5, [.ref k8, .ref w8, .int (nI nz8), .int ch8])), (k8, .inl (ck8, L8, .inl f8)), (w8, .inl (cw8, L8, .inl g8))]) [4, 5, 6, 7] rfl
        have hKc := hK.sub (tys' := [(ck8, .int), (cw8, .int)]) [2, 3] rfl
        refine ro_calli (va_runU (As := [.int r_6]) (rest := []) ⟨hx, hb, hml, hown, hts⟩ (c_X4_find l  dC dI s.heap.size y1 kd8 wh8 lim8 bu8 x1 k8 w8 ck8 cw8 L8 f8 g8 nz8 ch8 r_6 hR8) (va_cwA 1 hts gX3_isSameAs_X4_find_u46X4 rfl rfl rfl (hN.xw _ (List.mem_of_getElem? (l := p_xw) (i := 0) rfl)) (by decide +kernel) ⟨(Nat.le_of_ble_eq_true rfl), (Nat.le_of_ble_eq_true rfl)⟩) ⟨pk_blindR, va_recv hKc hPc (ci := 4) (q0 := 0) rfl rfl, pk_callR hPc hKc⟩ rfl rfl hl.1 rfl (lv_room (Nat.le_of_ble_eq_true rfl)) dX3_isSameAs_39 ⟨(Nat.le_of_ble_eq_true rfl), (Nat.le_of_ble_eq_true rfl)⟩) (fun r_7 ur_7 hw => ?_)
        clear hPc hKc
        try dsimp only at hw
        have jr_7 := hw
        refine W.eq (g2 := F0 m 42 ls [.int r_7]) rfl ?_
        refine lv_istore (lv' := [(5, .int r_7), (4, .int r_5), (3, .int (nI i)), (2, .int r_1), (0, .ref y0), (1, .ref y1)]) hx hb dX3_isSameAs_42 hl (by decide) rfl (fun ls hl => ?_)
        refine lv_iload hx hb dX3_isSameAs_44 (lv_at hl 0 rfl) ?_
        refine lv_if_lt (tgt := 70) hx hb dX3_isSameAs_46 (by decide) (fun c_8 => ?_) (fun c_8 => ?_)
        ·
          have ic_8 : r_7.toInt < 0 := tx_lt rfl (by decide) c_8
          refine lv_iconst (v := 0) hx hb dX3_isSameAs_70 (by decide) ?_
          refine W.widen (k := 0) (n := 0) (Nat.le_of_ble_eq_true rfl) (Nat.le_of_ble_eq_true rfl) ?_
          exact W.zret (v := 0) hx hb hr rfl (fun t ht hW => ⟨⟨0, (), rfl, Or.inl rfl, congrArg Array.size ht⟩, hS.F ht⟩) hS.2.2 dX3_isSameAs_71
        ·
          have ic_8 : 0 ≤ r_7.toInt := tx_nlt rfl (by decide) c_8
          refine lv_aload_n hx hb dX3_isSameAs_49 rfl (lv_at hl 5 rfl) ?_
          refine va_get (D := (dC, dI)) (ci := 4) (v := .ref x1) (C := RX4) (T := TX4) (N := 5) hx hb hts hi0_ hown hK hP 4 rfl rfl 0 (by decide) hw0_ (fun _ h9 => h9) rfl dX3_isSameAs_50 ?_
          refine lv_iload hx hb dX3_isSameAs_53 (lv_at hl 0 rfl) ?_
          have hPc := hP.sub (ws' := [(x1, .inr (5, [.ref k8, .ref w8, .int (nI nz8), .int ch8])), (k8, .inl (ck8, L8, .inl f8)), (w8, .inl (cw8, L8, .inl g8))]) [5, 6, 7] rfl
          have hKc := hK.sub (tys' := [(ck8, .int), (cw8, .int)]) [2, 3] rfl
          refine ro_calli (va_runV (As := [.int r_7]) (rest := []) ⟨hx, hb, hml, hown, hts⟩ (c_X5_value l  dC dI s.heap.size x1 k8 w8 ck8 cw8 L8 f8 g8 nz8 ch8 r_7 hR8) (cwV 1 hts gX3_isSameAs_X5_value rfl rfl rfl (by decide +kernel) ⟨(Nat.le_of_ble_eq_true rfl), (Nat.le_of_ble_eq_true rfl)⟩) ⟨pk_blindR, va_recv hKc hPc (ci := 5) (q0 := 0) rfl rfl, pk_callR hPc hKc⟩ rfl rfl hl.1 rfl (lv_room (Nat.le_of_ble_eq_true rfl)) dX3_isSameAs_55 ⟨(Nat.le_of_ble_eq_true rfl), (Nat.le_of_ble_eq_true rfl)⟩) (fun r_9 ur_9 hw => ?_)
          clear hPc hKc
          try dsimp only at hw
          have jr_9 := hw
          refine W.eq (g2 := F0 m 58 ls [.int r_9]) rfl ?_
          refine lv_aload_n hx hb dX3_isSameAs_58 rfl (lv_at hl 4 rfl) ?_
          refine va_get (D := (dC, dI)) (ci := 4) (v := .ref x0) (C := RX4) (T := TX4) (N := 5) hx hb hts hi0_ hown hK hP 0 rfl rfl 0 (by decide) hw0_ (fun _ h9 => h9) rfl dX3_isSameAs_59 ?_
          refine lv_iload hx hb dX3_isSameAs_62 (lv_at hl 1 rfl) ?_
          have hPc := hP.sub (ws' := [(x0, .inr (5, [.ref k0, .ref w0, .int (nI nz), .int ch])), (k0, .inl (ck, L, .inl f)), (w0, .inl (cw, L, .inl g))]) [1, 2, 3] rfl
          have hKc := hK.sub (tys' := [(ck, .int), (cw, .int)]) [0, 1] rfl
          refine ro_calli (va_runV (As := [.int r_5]) (rest := [.int r_9]) ⟨hx, hb, hml, hown, hts⟩ (c_X5_value l  dC dI s.heap.size x0 k0 w0 ck cw L f g nz ch r_5 hR9) (cwV 1 hts gX3_isSameAs_X5_value rfl rfl rfl (by decide +kernel) ⟨(Nat.le_of_ble_eq_true rfl), (Nat.le_of_ble_eq_true rfl)⟩) ⟨pk_blindR, va_recv hKc hPc (ci := 5) (q0 := 0) rfl rfl, pk_callR hPc hKc⟩ rfl rfl hl.1 rfl (lv_room (Nat.le_of_ble_eq_true rfl)) dX3_isSameAs_64 ⟨(Nat.le_of_ble_eq_true rfl), (Nat.le_of_ble_eq_true rfl)⟩) (fun r_10 ur_10 hw => ?_)
          clear hPc hKc
          try dsimp only at hw
          have jr_10 := hw
          refine W.eq (g2 := F0 m 67 ls [.int r_10, .int r_9]) rfl ?_
          refine lv_icmp_eq (tgt := 72) hx hb dX3_isSameAs_67 (by decide) (fun c_11 => ?_) (fun c_11 => ?_)
          ·
            have ic_11 : r_9.toInt = r_10.toInt := tx_eq rfl rfl c_11
            refine lv_iinc (v := nI (i + 1)) (lv' := [(3, .int (nI (i + 1))), (5, .int r_7), (4, .int r_5), (2, .int r_1), (0, .ref y0), (1, .ref y1)]) hx hb dX3_isSameAs_72 hl (k := 2) rfl (by rw [show Int32.ofInt 1 = nI 1 from rfl, nI_add]) (by decide) rfl (fun ls hl => ?_)
            refine lv_goto (tgt := 17) hx hb dX3_isSameAs_75 (by decide) ?_
            exact ih (i := i + 1) (x9 := nI (i + 1)) (ex9 := rfl) (ls := ls) (hi9 := by omega) (hn9 := by omega) (hl := lv_sub hl [0, 3, 4, 5] rfl)
          ·
            have ic_11 : ¬ r_9.toInt = r_10.toInt := tx_ne rfl rfl c_11
            refine lv_iconst (v := 0) hx hb dX3_isSameAs_70 (by decide) ?_
            refine W.widen (k := 0) (n := 0) (Nat.le_of_ble_eq_true rfl) (Nat.le_of_ble_eq_true rfl) ?_
            exact W.zret (v := 0) hx hb hr rfl (fun t ht hW => ⟨⟨0, (), rfl, Or.inl rfl, congrArg Array.size ht⟩, hS.F ht⟩) hS.2.2 dX3_isSameAs_71
  ·
    have ic_3 : ¬ r_2.toInt = r_1.toInt := tx_ne rfl rfl c_3
    refine lv_iconst (v := 0) hx hb dX3_isSameAs_13 (by decide) ?_
    refine W.widen (k := 0) (n := 0) (Nat.le_of_ble_eq_true rfl) (Nat.le_of_ble_eq_true rfl) ?_
    exact W.zret (v := 0) hx hb hr rfl (fun t ht hW => ⟨⟨0, (), rfl, Or.inl rfl, congrArg Array.size ht⟩, hS.F ht⟩) hS.2.2 dX3_isSameAs_14
set_option maxHeartbeats 4000000 in
set_option maxRecDepth 100000 in
/-- Keyed.isSameAs of L and S -/
theorem c_X3_isSameAs_LS (l : Launch) (hlt : l.stackTraces = false) (dC : Nat → ClassId) (dI : Nat → Nat → Nat) (sz : Nat) (y0 : Nat) (kd : Int32) (wh : Int32) (lim : Nat) (bu : Int32) (x0 : Nat) (k0 : Nat) (w0 : Nat) (ck : ClassId) (cw : ClassId) (L : Nat) (f : Nat → Int32) (g : Nat → Int32) (nz : Nat) (ch : Int32) (y1 : Nat) (kd8 : Int32) (wh8 : Int32) (od8 : Int32) (tu8 : Int32) (lo8 : Int64) (hi8 : Int64) (x1 : Nat) (k8 : Nat) (w8 : Nat) (ck8 : ClassId) (cw8 : ClassId) (L8 : Nat) (f8 : Nat → Int32) (g8 : Nat → Int32) (nz8 : Nat) (ch8 : Int32) (hR9 : rOK L nz) (hlim : lim ≤ 1000) (hR8 : rOK L8 nz8) (ho18 : 0 ≤ od8.toInt) (ho28 : od8.toInt ≤ 3) : Met l yX3_isSameAs wsX3_isSameAs ({ frames := 5, cells := 0, slots := 0, locals := 210 }) (va_Pc [.ref y0, .ref y1] (pk_PreRX (dC, dI) [(y0, .inr (4, [.ref x0, .int kd, .int wh, .int (nI lim), .int bu])), (x0, .inr (5, [.ref k0, .ref w0, .int (nI nz), .int ch])), (k0, .inl (ck, L, .inl f)), (w0, .inl (cw, L, .inl g)), (y1, .inr (6, [.ref x1, .int kd8, .int wh8, .int od8, .int tu8, .long lo8, .long hi8])), (x1, .inr (5, [.ref k8, .ref w8, .int (nI nz8), .int ch8])), (k8, .inl (ck8, L8, .inl f8)), (w8, .inl (cw8, L8, .inl g8))] [(ck, .int), (cw, .int), (ck8, .int), (cw8, .int)] sz)) (va_Qi (fun (x : Int32) (_ : Unit) => x = 0 ∨ x = 1) (fun _ (t : State) => t.heap.size = sz) ro_A) 0 0 ro_A := by
  refine Met.ofW (cc := cX3_isSameAs) (maxL := 6) (ret := (some .boolean)) (by decide) rfl ?_
  intro p e s m args below meth c s₁ B hml hv
  obtain ⟨rfl, ⟨hsz, hP, hK⟩, hN⟩ := hv
  have hx := B.exec
  have hb := B.bytes
  have hr := B.returns
  have hts := atoms_spec (ws := wsX3_isSameAs) B.pre
  have hown : s.vm.findClass RX3 = some m.cls := findClass_of_methodNamed B.named
  have hlocks := B.notSynchronized
  subst hsz
  have hS : va_S ro_A s.heap s.heap [] := va_S.rf
  have hP : va_P (dC, dI) vwCl [(y0, .inr (4, [.ref x0, .int kd, .int wh, .int (nI lim), .int bu])), (x0, .inr (5, [.ref k0, .ref w0, .int (nI nz), .int ch])), (k0, .inl (ck, L, .inl f)), (w0, .inl (cw, L, .inl g)), (y1, .inr (6, [.ref x1, .int kd8, .int wh8, .int od8, .int tu8, .long lo8, .long hi8])), (x1, .inr (5, [.ref k8, .ref w8, .int (nI nz8), .int ch8])), (k8, .inl (ck8, L8, .inl f8)), (w8, .inl (cw8, L8, .inl g8))] s.heap := hP
  have hl := lv_entry ([.ref y0, .ref y1]) (n := 6) (Nat.le_of_ble_eq_true rfl)
  rw [lg_entry_eq]
  generalize (lg_sl ([.ref y0, .ref y1]) ++ List.replicate (6 - (lg_sl ([.ref y0, .ref y1])).length) Slot.unset).toArray = ls at hl ⊢
  have hl : lv_has ls 6 [(0, .ref y0), (1, .ref y1)] := hl
  have hw0_ := hts (.fieldLink RX3 9 "KeyAtlas$Keyed" "rows" "LKeyAtlas$Rows;") (List.mem_of_getElem? (l := wsX3_isSameAs) (i := 1) rfl)
  have hi0_ : ∀ w ∈ u_ws RX4 TX4 5, w ∈ wsX3_isSameAs := fun w h => List.mem_cons_of_mem _ (List.mem_append_left _ (List.mem_append_left _ (List.mem_append_right _ h)))
  have hi1_ : ∀ w ∈ u_ws RX6 TX6 7, w ∈ wsX3_isSameAs := fun w h => List.mem_cons_of_mem _ (List.mem_append_left _ (List.mem_append_right _ h))
  obtain ⟨hL1, hL2, hz1, hz2⟩ := id hR9
  obtain ⟨hL18, hL28, hz18, hz28⟩ := id hR8
  refine lv_aload_n hx hb dX3_isSameAs_0 rfl (lv_at hl 0 rfl) ?_
  have hPc := hP.sub (ws' := [(y0, .inr (4, [.ref x0, .int kd, .int wh, .int (nI lim), .int bu])), (x0, .inr (5, [.ref k0, .ref w0, .int (nI nz), .int ch])), (k0, .inl (ck, L, .inl f)), (w0, .inl (cw, L, .inl g))]) [0, 1, 2, 3] rfl
  have hKc := hK.sub (tys' := [(ck, .int), (cw, .int)]) [0, 1] rfl
  refine ro_calli (va_runU (As := []) (rest := []) ⟨hx, hb, hml, hown, hts⟩ (c_X3_size_L l  dC dI s.heap.size y0 (.int kd) (.int wh) (.int (nI lim)) (.int bu) x0 k0 w0 ck cw L f g nz ch hR9) (va_cwU 0 hts gX3_isSameAs_X3_size_u72X4 rfl rfl rfl rfl (by decide +kernel) ⟨(Nat.le_of_ble_eq_true rfl), (Nat.le_of_ble_eq_true rfl)⟩) ⟨pk_blindR, va_recv hKc hPc (ci := 4) (q0 := 0) rfl rfl, pk_callR hPc hKc⟩ rfl rfl hl.1 rfl (lv_room (Nat.le_of_ble_eq_true rfl)) dX3_isSameAs_1 ⟨(Nat.le_of_ble_eq_true rfl), (Nat.le_of_ble_eq_true rfl)⟩) (fun r_1 ur_1 hw => ?_)
  clear hPc hKc
  try dsimp only at hw
  have jr_1 := hw
  refine W.eq (g2 := F0 m 4 ls [.int r_1]) rfl ?_
  have hr_1 : -1000 ≤ r_1.toInt ∧ r_1.toInt ≤ nz := by rw [jr_1, nI_toInt (by omega)]; omega
  have hsz9 : r_1.toInt ≤ 1000 := by have h9 := hr_1; omega
  refine lv_istore_n (lv' := [(2, .int r_1), (0, .ref y0), (1, .ref y1)]) hx hb dX3_isSameAs_4 rfl hl (by decide) rfl (fun ls hl => ?_)
  refine lv_aload_n hx hb dX3_isSameAs_5 rfl (lv_at hl 2 rfl) ?_
  have hPc := hP.sub (ws' := [(y1, .inr (6, [.ref x1, .int kd8, .int wh8, .int od8, .int tu8, .long lo8, .long hi8])), (x1, .inr (5, [.ref k8, .ref w8, .int (nI nz8), .int ch8])), (k8, .inl (ck8, L8, .inl f8)), (w8, .inl (cw8, L8, .inl g8))]) [4, 5, 6, 7] rfl
  have hKc := hK.sub (tys' := [(ck8, .int), (cw8, .int)]) [2, 3] rfl
  refine ro_calli (va_runU (As := []) (rest := []) ⟨hx, hb, hml, hown, hts⟩ (c_X6_size l  dC dI s.heap.size y1 kd8 wh8 od8 tu8 lo8 hi8 x1 k8 w8 ck8 cw8 L8 f8 g8 nz8 ch8 hR8 ho18 ho28) (va_cwO 0 hts gX3_isSameAs_X6_size_u72X6 rfl rfl rfl (List.mem_of_getElem? (l := wsX3_isSameAs) (i := 7) rfl) (by decide +kernel) ⟨(Nat.le_of_ble_eq_true rfl), (Nat.le_of_ble_eq_true rfl)⟩) ⟨pk_blindR, va_recv hKc hPc (ci := 6) (q0 := 0) rfl rfl, pk_callR hPc hKc⟩ rfl rfl hl.1 rfl (lv_room (Nat.le_of_ble_eq_true rfl)) dX3_isSameAs_6 ⟨(Nat.le_of_ble_eq_true rfl), (Nat.le_of_ble_eq_true rfl)⟩) (fun r_2 ur_2 hw => ?_)
  clear hPc hKc
  try dsimp only at hw
  have jr_2 := hw
  refine W.eq (g2 := F0 m 9 ls [.int r_2]) rfl ?_
  refine lv_iload_n hx hb dX3_isSameAs_9 rfl (lv_at hl 0 rfl) ?_
  refine lv_icmp_eq (tgt := 15) hx hb dX3_isSameAs_10 (by decide) (fun c_3 => ?_) (fun c_3 => ?_)
  ·
    have ic_3 : r_2.toInt = r_1.toInt := tx_eq rfl rfl c_3
    refine lv_iconst (v := 0) hx hb dX3_isSameAs_15 (by decide) ?_
    refine lv_istore_n (lv' := [(3, .int 0), (2, .int r_1), (0, .ref y0), (1, .ref y1)]) hx hb dX3_isSameAs_16 rfl hl (by decide) rfl (fun ls hl => ?_)
    obtain ⟨i, es_i⟩ : ∃ z : Nat, z = 0 := ⟨_, rfl⟩
    obtain ⟨x9, ex9⟩ : ∃ y : Int32, y = nI i := ⟨_, rfl⟩
    obtain ⟨n9, en9⟩ : ∃ n : Nat, n = 1001 := ⟨_, rfl⟩
    replace hl : lv_has ls 6 [(3, .int x9), (2, .int r_1), (0, .ref y0), (1, .ref y1)] := by subst ex9; subst es_i; exact hl
    have hi9 : i ≤ 1000 := by subst ex9; subst es_i; subst en9; exact by omega
    have hn9 : 1001 ≤ i + n9 := by subst ex9; subst es_i; subst en9; exact by omega
    clear en9 es_i
    induction n9 generalizing i x9 ls with
    | zero => exact absurd hn9 (by omega)
    | succ n9 ih =>
      subst ex9
      refine lv_iload_n hx hb dX3_isSameAs_17 rfl (lv_at hl 0 rfl) ?_
      refine lv_iload_n hx hb dX3_isSameAs_18 rfl (lv_at hl 1 rfl) ?_
      refine lv_icmp_ge (tgt := 78) hx hb dX3_isSameAs_19 (by decide) (fun c_4 => ?_) (fun c_4 => ?_)
      ·
        have ic_4 : r_1.toInt ≤ ((i : Nat) : Int) := tx_le rfl (nI_toInt (by omega)) c_4
        refine lv_iconst (v := 1) hx hb dX3_isSameAs_78 (by decide) ?_
        refine W.widen (k := 0) (n := 0) (Nat.le_of_ble_eq_true rfl) (Nat.le_of_ble_eq_true rfl) ?_
        exact W.zret (v := 1) hx hb hr rfl (fun t ht hW => ⟨⟨1, (), rfl, Or.inr rfl, congrArg Array.size ht⟩, hS.F ht⟩) hS.2.2 dX3_isSameAs_79
      ·
        have ic_4 : ((i : Nat) : Int) < r_1.toInt := tx_nle rfl (nI_toInt (by omega)) c_4
        refine lv_aload_n hx hb dX3_isSameAs_22 rfl (lv_at hl 2 rfl) ?_
        refine lv_iload_n hx hb dX3_isSameAs_23 rfl (lv_at hl 0 rfl) ?_
        have hPc := hP.sub (ws' := [(y0, .inr (4, [.ref x0, .int kd, .int wh, .int (nI lim), .int bu]))]) [0] rfl
        have hKc := hK.sub (tys' := []) [] rfl
        refine ro_calli (va_runU (As := [.int (nI i)]) (rest := []) ⟨hx, hb, hml, hown, hts⟩ (c_X3_placeOf_L l  dC dI s.heap.size y0 (.ref x0) (.int kd) (.int wh) (.int (nI lim)) (.int bu) (nI i)) (va_cwU 1 hts gX3_isSameAs_X3_placeOf_u77X4 rfl rfl rfl rfl (by decide +kernel) ⟨(Nat.le_of_ble_eq_true rfl), (Nat.le_of_ble_eq_true rfl)⟩) ⟨pk_blindR, va_recv hKc hPc (ci := 4) (q0 := 0) rfl rfl, pk_callR hPc hKc⟩ rfl rfl hl.1 rfl (lv_room (Nat.le_of_ble_eq_true rfl)) dX3_isSameAs_24 ⟨(Nat.le_of_ble_eq_true rfl), (Nat.le_of_ble_eq_true rfl)⟩) (fun r_5 ur_5 hw => ?_)
        clear hPc hKc
        try dsimp only at hw
        have jr_5 := hw
        refine W.eq (g2 := F0 m 27 ls [.int r_5]) rfl ?_
        refine lv_istore (lv' := [(4, .int r_5), (3, .int (nI i)), (2, .int r_1), (0, .ref y0), (1, .ref y1)]) hx hb dX3_isSameAs_27 hl (by decide) rfl (fun ls hl => ?_)
        refine lv_aload_n hx hb dX3_isSameAs_29 rfl (lv_at hl 4 rfl) ?_
        refine lv_aload_n hx hb dX3_isSameAs_30 rfl (lv_at hl 3 rfl) ?_
        refine va_get (D := (dC, dI)) (ci := 4) (v := .ref x0) (C := RX4) (T := TX4) (N := 5) hx hb hts hi0_ hown hK hP 0 rfl rfl 0 (by decide) hw0_ (fun _ h9 => h9) rfl dX3_isSameAs_31 ?_
        refine lv_iload hx hb dX3_isSameAs_34 (lv_at hl 0 rfl) ?_
        have hPc := hP.sub (ws' := [(x0, .inr (5, [.ref k0, .ref w0, .int (nI nz), .int ch])), (k0, .inl (ck, L, .inl f)), (w0, .inl (cw, L, .inl g))]) [1, 2, 3] rfl
        have hKc := hK.sub (tys' := [(ck, .int), (cw, .int)]) [0, 1] rfl
        refine ro_calli (va_runV (As := [.int r_5]) (rest := [.ref y1]) ⟨hx, hb, hml, hown, hts⟩ (c_X5_key l  dC dI s.heap.size x0 k0 w0 ck cw L f g nz ch r_5 hR9) (cwV 1 hts gX3_isSameAs_X5_key rfl rfl rfl (by decide +kernel) ⟨(Nat.le_of_ble_eq_true rfl), (Nat.le_of_ble_eq_true rfl)⟩) ⟨pk_blindR, va_recv hKc hPc (ci := 5) (q0 := 0) rfl rfl, pk_callR hPc hKc⟩ rfl rfl hl.1 rfl (lv_room (Nat.le_of_ble_eq_true rfl)) dX3_isSameAs_36 ⟨(Nat.le_of_ble_eq_true rfl), (Nat.le_of_ble_eq_true rfl)⟩) (fun r_6 ur_6 hw => ?_)
        clear hPc hKc
        try dsimp only at hw
        have jr_6 := hw
        refine W.eq (g2 := F0 m 39 ls [.int r_6, .ref y1]) rfl ?_
        have hPc := hP.sub (ws' := [(y1, .inr (6, [.ref x1, .int kd8, .int wh8, .int od8, .int tu8, .long lo8, .long hi8])), (x1, .inr (5, [.ref k8, .ref w8, .int (nI nz8), .int ch8])), (k8, .inl (ck8, L8, .inl f8)), (w8, .inl (cw8, L8, .inl g8))]) [4, 5, 6, 7] rfl
        have hKc := hK.sub (tys' := [(ck8, .int), (cw8, .int)]) [2, 3] rfl
        refine ro_calli (va_runU (As := [.int r_6]) (rest := []) ⟨hx, hb, hml, hown, hts⟩ (c_X6_find l  dC dI s.heap.size y1 kd8 wh8 od8 tu8 lo8 hi8 x1 k8 w8 ck8 cw8 L8 f8 g8 nz8 ch8 r_6 hR8 ho18 ho28) (va_cwA 1 hts gX3_isSameAs_X6_find_u46X6 rfl rfl rfl (hN.xw _ (List.mem_of_getElem? (l := p_xw) (i := 0) rfl)) (by decide +kernel) ⟨(Nat.le_of_ble_eq_true rfl), (Nat.le_of_ble_eq_true rfl)⟩) ⟨pk_blindR, va_recv hKc hPc (ci := 6) (q0 := 0) rfl rfl, pk_callR hPc hKc⟩ rfl rfl hl.1 rfl (lv_room (Nat.le_of_ble_eq_true rfl)) dX3_isSameAs_39 ⟨(Nat.le_of_ble_eq_true rfl), (Nat.le_of_ble_eq_true rfl)⟩) (fun r_7 ur_7 hw => ?_)
        clear hPc hKc
        try dsimp only at hw
        have jr_7 := hw
        refine W.eq (g2 := F0 m 42 ls [.int r_7]) rfl ?_
        refine lv_istore (lv' := [(5, .int r_7), (4, .int r_5), (3, .int (nI i)), (2, .int r_1), (0, .ref y0), (1, .ref y1)]) hx hb dX3_isSameAs_42 hl (by decide) rfl (fun ls hl => ?_)
        refine lv_iload hx hb dX3_isSameAs_44 (lv_at hl 0 rfl) ?_
        refine lv_if_lt (tgt := 70) hx hb dX3_isSameAs_46 (by decide) (fun c_8 => ?_) (fun c_8 => ?_)
        ·
          have ic_8 : r_7.toInt < 0 := tx_lt rfl (by decide) c_8
          refine lv_iconst (v := 0) hx hb dX3_isSameAs_70 (by decide) ?_
          refine W.widen (k := 0) (n := 0) (Nat.le_of_ble_eq_true rfl) (Nat.le_of_ble_eq_true rfl) ?_
          exact W.zret (v := 0) hx hb hr rfl (fun t ht hW => ⟨⟨0, (), rfl, Or.inl rfl, congrArg Array.size ht⟩, hS.F ht⟩) hS.2.2 dX3_isSameAs_71
        ·
          have ic_8 : 0 ≤ r_7.toInt := tx_nlt rfl (by decide) c_8
          refine lv_aload_n hx hb dX3_isSameAs_49 rfl (lv_at hl 5 rfl) ?_
          refine va_get (D := (dC, dI)) (ci := 6) (v := .ref x1) (C := RX6) (T := TX6) (N := 7) hx hb hts hi1_ hown hK hP 4 rfl rfl 0 (by decide) hw0_ (fun _ h9 => h9) rfl dX3_isSameAs_50 ?_
          refine lv_iload hx hb dX3_isSameAs_53 (lv_at hl 0 rfl) ?_
          have hPc := hP.sub (ws' := [(x1, .inr (5, [.ref k8, .ref w8, .int (nI nz8), .int ch8])), (k8, .inl (ck8, L8, .inl f8)), (w8, .inl (cw8, L8, .inl g8))]) [5, 6, 7] rfl
          have hKc := hK.sub (tys' := [(ck8, .int), (cw8, .int)]) [2, 3] rfl
          refine ro_calli (va_runV (As := [.int r_7]) (rest := []) ⟨hx, hb, hml, hown, hts⟩ (c_X5_value l  dC dI s.heap.size x1 k8 w8 ck8 cw8 L8 f8 g8 nz8 ch8 r_7 hR8) (cwV 1 hts gX3_isSameAs_X5_value rfl rfl rfl (by decide +kernel) ⟨(Nat.le_of_ble_eq_true rfl), (Nat.le_of_ble_eq_true rfl)⟩) ⟨pk_blindR, va_recv hKc hPc (ci := 5) (q0 := 0) rfl rfl, pk_callR hPc hKc⟩ rfl rfl hl.1 rfl (lv_room (Nat.le_of_ble_eq_true rfl)) dX3_isSameAs_55 ⟨(Nat.le_of_ble_eq_true rfl), (Nat.le_of_ble_eq_true rfl)⟩) (fun r_9 ur_9 hw => ?_)
          clear hPc hKc
          try dsimp only at hw
          have jr_9 := hw
          refine W.eq (g2 := F0 m 58 ls [.int r_9]) rfl ?_
          refine lv_aload_n hx hb dX3_isSameAs_58 rfl (lv_at hl 4 rfl) ?_
          refine va_get (D := (dC, dI)) (ci := 4) (v := .ref x0) (C := RX4) (T := TX4) (N := 5) hx hb hts hi0_ hown hK hP 0 rfl rfl 0 (by decide) hw0_ (fun _ h9 => h9) rfl dX3_isSameAs_59 ?_
          refine lv_iload hx hb dX3_isSameAs_62 (lv_at hl 1 rfl) ?_
          have hPc := hP.sub (ws' := [(x0, .inr (5, [.ref k0, .ref w0, .int (nI nz), .int ch])), (k0, .inl (ck, L, .inl f)), (w0, .inl (cw, L, .inl g))]) [1, 2, 3] rfl
          have hKc := hK.sub (tys' := [(ck, .int), (cw, .int)]) [0, 1] rfl
          refine ro_calli (va_runV (As := [.int r_5]) (rest := [.int r_9]) ⟨hx, hb, hml, hown, hts⟩ (c_X5_value l  dC dI s.heap.size x0 k0 w0 ck cw L f g nz ch r_5 hR9) (cwV 1 hts gX3_isSameAs_X5_value rfl rfl rfl (by decide +kernel) ⟨(Nat.le_of_ble_eq_true rfl), (Nat.le_of_ble_eq_true rfl)⟩) ⟨pk_blindR, va_recv hKc hPc (ci := 5) (q0 := 0) rfl rfl, pk_callR hPc hKc⟩ rfl rfl hl.1 rfl (lv_room (Nat.le_of_ble_eq_true rfl)) dX3_isSameAs_64 ⟨(Nat.le_of_ble_eq_true rfl), (Nat.le_of_ble_eq_true rfl)⟩) (fun r_10 ur_10 hw => ?_)
          clear hPc hKc
          try dsimp only at hw
          have jr_10 := hw
          refine W.eq (g2 := F0 m 67 ls [.int r_10, .int r_9]) rfl ?_
          refine lv_icmp_eq (tgt := 72) hx hb dX3_isSameAs_67 (by decide) (fun c_11 => ?_) (fun c_11 => ?_)
          ·
            have ic_11 : r_9.toInt = r_10.toInt := tx_eq rfl rfl c_11
            refine lv_iinc (v := nI (i + 1)) (lv' := [(3, .int (nI (i + 1))), (5, .int r_7), (4, .int r_5), (2, .int r_1), (0, .ref y0), (1, .ref y1)]) hx hb dX3_isSameAs_72 hl (k := 2) rfl (by rw [show Int32.ofInt 1 = nI 1 from rfl, nI_add]) (by decide) rfl (fun ls hl => ?_)
            refine lv_goto (tgt := 17) hx hb dX3_isSameAs_75 (by decide) ?_
            exact ih (i := i + 1) (x9 := nI (i + 1)) (ex9 := rfl) (ls := ls) (hi9 := by omega) (hn9 := by omega) (hl := lv_sub hl [0, 3, 4, 5] rfl)
          ·
            have ic_11 : ¬ r_9.toInt = r_10.toInt := tx_ne rfl rfl c_11
            refine lv_iconst (v := 0) hx hb dX3_isSameAs_70 (by decide) ?_
            refine W.widen (k := 0) (n := 0) (Nat.le_of_ble_eq_true rfl) (Nat.le_of_ble_eq_true rfl) ?_
            exact W.zret (v := 0) hx hb hr rfl (fun t ht hW => ⟨⟨0, (), rfl, Or.inl rfl, congrArg Array.size ht⟩, hS.F ht⟩) hS.2.2 dX3_isSameAs_71
  ·
    have ic_3 : ¬ r_2.toInt = r_1.toInt := tx_ne rfl rfl c_3
    refine lv_iconst (v := 0) hx hb dX3_isSameAs_13 (by decide) ?_
    refine W.widen (k := 0) (n := 0) (Nat.le_of_ble_eq_true rfl) (Nat.le_of_ble_eq_true rfl) ?_
    exact W.zret (v := 0) hx hb hr rfl (fun t ht hW => ⟨⟨0, (), rfl, Or.inl rfl, congrArg Array.size ht⟩, hS.F ht⟩) hS.2.2 dX3_isSameAs_14
