set_option maxHeartbeats 4000000 in
set_option maxRecDepth 100000 in
/-- the law calls make and tells what came -/
theorem c_L_make (l : Launch) (hlt : l.stackTraces = false) (dC : Nat → ClassId) (dI : Nat → Nat → Nat) (sz : Nat) (h0 : Nat) (qb : Nat) (cb : ClassId) (qo : Nat) (co : ClassId) (f0 : Nat → Int64) (p0 : Int32) (p1 : Int32) (p2 : Int32) : Met l yL_make wsP_L_make ({ frames := 8, cells := 6, slots := 49, locals := 170 }) (va_Pc [.ref h0, .int p0, .int p1, .int p2, .ref qo] (pk_PreX (dC, dI) [(h0, .inr (7, [.ref qb])), (qb, .inl (cb, 16, .inr (.inr (.inr (.inr (fun _ => none)))))), (qo, .inl (co, 1, .inr (.inl f0)))] [(cb, .object "KeyAtlas$Body"), (co, .long)] sz)) (va_Qi (fun (r : Int32) (f : Nat → Int64) => mkIs p0 p1 p2 r.toInt ∧ (r.toInt = 0 → f 0 = 0)) (fun (f : Nat → Int64) (t : State) => va_P (dC, dI) vwCl [(qo, .inl (co, 1, .inr (.inl f)))] t.heap ∧ va_K (dC, dI) vwCl [(co, .long)] t ∧ va_D (va_A [(h0, .inr (7, [.ref qb])), (qb, .inl (cb, 16, .inr (.inr (.inr (.inr (fun _ => none)))))), (qo, .inl (co, 1, .inr (.inl f0)))] sz) [(qo, .inl (co, 1, .inr (.inl f)))]) (va_A [(h0, .inr (7, [.ref qb])), (qb, .inl (cb, 16, .inr (.inr (.inr (.inr (fun _ => none)))))), (qo, .inl (co, 1, .inr (.inl f0)))] sz)) 6 49 (va_A [(h0, .inr (7, [.ref qb])), (qb, .inl (cb, 16, .inr (.inr (.inr (.inr (fun _ => none)))))), (qo, .inl (co, 1, .inr (.inl f0)))] sz) := by
  refine va_MetW (cc := cL_make) (maxL := 6) (ret := (some .int)) (by decide) rfl ?_
  intro p e s m args below meth c s₁ B hml hv
  obtain ⟨rfl, hsz, hP, hK, hD0, hN, hZ⟩ := hv
  have hx := B.exec
  have hb := B.bytes
  have hr := B.returns
  have hts := atoms_spec (ws := wsP_L_make) B.pre
  have hown : s.vm.findClass RL = some m.cls := findClass_of_methodNamed B.named
  have hlocks := B.notSynchronized
  have htab : c.exceptionTable.toList = tableOf [(0, 12, 15, 13), (0, 12, 19, 15), (0, 12, 23, 17)] := vx_table (x := yL_make) B (show (Cond.codeWith yL_make cL_make 6 (some .int) [(0, 12, 15, 13), (0, 12, 19, 15), (0, 12, 23, 17)]).before _ s = true from hts _ List.mem_cons_self)
  subst hsz
  have hD := hD0.self (sz := s.heap.size)
  generalize hAe : va_A [(h0, .inr (7, [.ref qb])), (qb, .inl (cb, 16, .inr (.inr (.inr (.inr (fun _ => none)))))), (qo, .inl (co, 1, .inr (.inl f0)))] s.heap.size = A at hZ hD ⊢
  have hA : ∀ q : Nat, s.heap.size ≤ q → A q := fun q h => by rw [← hAe]; exact Or.inr h
  have hS : va_S A s.heap s.heap [] := va_S.rf
  have hP : va_P (dC, dI) vwCl [(h0, .inr (7, [.ref qb])), (qb, .inl (cb, 16, .inr (.inr (.inr (.inr (fun _ => none)))))), (qo, .inl (co, 1, .inr (.inl f0)))] s.heap := hP
  have hl := lv_entry ([.ref h0, .int p0, .int p1, .int p2, .ref qo]) (n := 6) (Nat.le_of_ble_eq_true rfl)
  rw [lg_entry_eq]
  generalize (lg_sl ([.ref h0, .int p0, .int p1, .int p2, .ref qo]) ++ List.replicate (6 - (lg_sl ([.ref h0, .int p0, .int p1, .int p2, .ref qo])).length) Slot.unset).toArray = ls at hl ⊢
  have hl : lv_has ls 6 [(0, .ref h0), (1, .int p0), (2, .int p1), (3, .int p2), (4, .ref qo)] := hl
  have hw0_ := hts (.classLink RL 13 "java/lang/IllegalArgumentException") (by decide +kernel)
  have hw1_ := hts (.classLink RL 17 "java/lang/NegativeArraySizeException") (by decide +kernel)
  refine lv_aload hx hb dL_make_0 (lv_at hl 4 rfl) ?_
  refine lv_iconst (v := 0) hx hb dL_make_2 (by decide) ?_
  refine lv_aload_n hx hb dL_make_3 rfl (lv_at hl 0 rfl) ?_
  refine lv_iload_n hx hb dL_make_4 rfl (lv_at hl 1 rfl) ?_
  refine lv_iload_n hx hb dL_make_5 rfl (lv_at hl 2 rfl) ?_
  refine lv_iload_n hx hb dL_make_6 rfl (lv_at hl 3 rfl) ?_
  have hPc := hP.sub (ws' := [(h0, .inr (7, [.ref qb])), (qb, .inl (cb, 16, .inr (.inr (.inr (.inr (fun _ => none))))))]) [0, 1] rfl
  have hDc := hD.sub (ws' := [(h0, .inr (7, [.ref qb])), (qb, .inl (cb, 16, .inr (.inr (.inr (.inr (fun _ => none))))))]) [0, 1] (by decide) rfl
  have hKc := hK.sub (tys' := [(cb, .object "KeyAtlas$Body")]) [0] rfl
  have hFc := va_free (wc := [(h0, .inr (7, [.ref qb])), (qb, .inl (cb, 16, .inr (.inr (.inr (.inr (fun _ => none))))))]) hD hS hA [0, 1] rfl
  have hZc := (hZ.kept hS.2.1).narrow hFc
  refine vx_calli (vx_runV (As := [.int p0, .int p1, .int p2]) (rest := [.int 0, .ref qo]) ⟨hx, hb, hml, hown, hts⟩ (c_X7_make l hlt dC dI s.heap.size h0 qb cb p0 p1 p2) (cwV 3 hts gP_L_make_make rfl rfl rfl (by decide +kernel) ⟨(Nat.le_of_ble_eq_true rfl), (Nat.le_of_ble_eq_true rfl)⟩) ⟨pk_blindX, va_recv hKc hPc (ci := 7) (q0 := 0) rfl rfl, pk_callX hPc hKc hDc hN hZc⟩ rfl rfl hl.1 rfl (lv_room (Nat.le_of_ble_eq_true rfl)) dL_make_7 ⟨(Nat.le_of_ble_eq_true rfl), (Nat.le_of_ble_eq_true rfl)⟩) hS (fun q _ h => hFc q h) hFc (fun q _ h => hFc q h) (fun E ce q9 u9 t H1 locs ht hvm hw hB hz1 hk1 hS hce hcv hcl => ?_) (fun r_1 ur_1 t H1 locs ht hvm hw hB hz1 hk1 hS => ?_)
  ·
    try dsimp only at hB
    rcases hB with ⟨hE, hk9⟩ | ⟨hE, hk9⟩ <;> subst hE
    ·
      obtain ⟨hP, hD⟩ := va_join (wr := [(qo, .inl (co, 1, .inr (.inl f0)))]) (w1 := []) hP hD [0, 1] [2] rfl rfl (by decide) (by decide) hk1 hFc tx_P0 tx_D0
      refine tx_catch (name := "java/lang/IllegalArgumentException") hown [] ⟨0, 12, 15, 13⟩ [⟨0, 12, 19, 15⟩, ⟨0, 12, 23, 17⟩] (htab.trans rfl) (fun _ h => absurd h List.not_mem_nil) (by decide) (by decide) hw0_ (hN.xw (.castable "java/lang/IllegalArgumentException" "java/lang/IllegalArgumentException") (by decide +kernel)) hce hcv hcl ?_
      clear hk1 hz1 ht hce
      generalize H1 = H at hP hS ⊢
      have hP : va_P (dC, dI) vwCl [(qo, .inl (co, 1, .inr (.inl f0)))] H := hP
      have hD : va_D A [(qo, .inl (co, 1, .inr (.inl f0)))] := hD
      refine W.widen (k := 6) (n := 49) (Nat.le_of_ble_eq_true rfl) (Nat.le_of_ble_eq_true rfl) ?_
      refine W.eq (g2 := F0 m 15 ls [.ref q9]) rfl ?_
      refine lv_astore (lv' := [(5, .ref q9), (0, .ref h0), (1, .int p0), (2, .int p1), (3, .int p2), (4, .ref qo)]) hx hb dL_make_15 hl (by decide) rfl (fun ls hl => ?_)
      refine lv_iconst (v := 1) hx hb dL_make_17 (by decide) ?_
      have hP9 := hP.sub (ws' := [(qo, .inl (co, 1, .inr (.inl f0)))]) [0] rfl
      have hD9 := hD.sub (ws' := [(qo, .inl (co, 1, .inr (.inl f0)))]) [0] (by decide) rfl
      have hK9 := hK.sub (tys' := [(co, .long)]) [1] rfl
      refine W.widen (k := 6) (n := 49) (Nat.le_of_ble_eq_true rfl) (Nat.le_of_ble_eq_true rfl) ?_
      exact W.iret (v := 1) hx hb hr (fun t ht hW => ⟨⟨1, f0, rfl, ⟨tx_at (P := mkIs p0 p1 p2) (n := 1) (by decide) hk9, fun h => absurd h (by decide)⟩, by rw [ht]; exact hP9, va_K.moved hW.alike hK9, hD9⟩, hS.F ht⟩) hS.2.2 dL_make_18
    ·
      obtain ⟨hP, hD⟩ := va_join (wr := [(qo, .inl (co, 1, .inr (.inl f0)))]) (w1 := []) hP hD [0, 1] [2] rfl rfl (by decide) (by decide) hk1 hFc tx_P0 tx_D0
      refine tx_catch (name := "java/lang/NegativeArraySizeException") hown [⟨0, 12, 15, 13⟩, ⟨0, 12, 19, 15⟩] ⟨0, 12, 23, 17⟩ [] (htab.trans rfl) (List.forall_mem_cons.mpr ⟨Or.inr ⟨by decide, "java/lang/IllegalArgumentException", hts (.classLink RL 13 "java/lang/IllegalArgumentException") (by decide +kernel), hN.nc1⟩, List.forall_mem_cons.mpr ⟨Or.inr ⟨by decide, "java/lang/IllegalStateException", hts (.classLink RL 15 "java/lang/IllegalStateException") (by decide +kernel), hN.nc2⟩, fun _ h => absurd h List.not_mem_nil⟩⟩) (by decide) (by decide) hw1_ (hN.xw (.castable "java/lang/NegativeArraySizeException" "java/lang/NegativeArraySizeException") (by decide +kernel)) hce hcv hcl ?_
      clear hk1 hz1 ht hce
      generalize H1 = H at hP hS ⊢
      have hP : va_P (dC, dI) vwCl [(qo, .inl (co, 1, .inr (.inl f0)))] H := hP
      have hD : va_D A [(qo, .inl (co, 1, .inr (.inl f0)))] := hD
      refine W.widen (k := 6) (n := 49) (Nat.le_of_ble_eq_true rfl) (Nat.le_of_ble_eq_true rfl) ?_
      refine W.eq (g2 := F0 m 23 ls [.ref q9]) rfl ?_
      refine lv_astore (lv' := [(5, .ref q9), (0, .ref h0), (1, .int p0), (2, .int p1), (3, .int p2), (4, .ref qo)]) hx hb dL_make_23 hl (by decide) rfl (fun ls hl => ?_)
      refine lv_iconst (v := 3) hx hb dL_make_25 (by decide) ?_
      have hP9 := hP.sub (ws' := [(qo, .inl (co, 1, .inr (.inl f0)))]) [0] rfl
      have hD9 := hD.sub (ws' := [(qo, .inl (co, 1, .inr (.inl f0)))]) [0] (by decide) rfl
      have hK9 := hK.sub (tys' := [(co, .long)]) [1] rfl
      refine W.widen (k := 6) (n := 49) (Nat.le_of_ble_eq_true rfl) (Nat.le_of_ble_eq_true rfl) ?_
      exact W.iret (v := 3) hx hb hr (fun t ht hW => ⟨⟨3, f0, rfl, ⟨tx_at (P := mkIs p0 p1 p2) (n := 3) (by decide) hk9, fun h => absurd h (by decide)⟩, by rw [ht]; exact hP9, va_K.moved hW.alike hK9, hD9⟩, hS.F ht⟩) hS.2.2 dL_make_26
  ·
    try dsimp only at hw
    have jr_1 := hw
    obtain ⟨hP, hD⟩ := va_join (wr := [(qo, .inl (co, 1, .inr (.inl f0)))]) (w1 := []) hP hD [0, 1] [2] rfl rfl (by decide) (by decide) hk1 hFc tx_P0 tx_D0
    clear hk1 hz1 ht hPc hDc hKc
    generalize H1 = H at hP hS ⊢
    have hP : va_P (dC, dI) vwCl [(qo, .inl (co, 1, .inr (.inl f0)))] H := hP
    have hD : va_D A [(qo, .inl (co, 1, .inr (.inl f0)))] := hD
    refine W.widen (k := 6) (n := 49) (Nat.le_of_ble_eq_true rfl) (Nat.le_of_ble_eq_true rfl) ?_
    refine W.eq (g2 := F0 m 10 ls [.int r_1, .int 0, .ref qo]) rfl ?_
    refine lv_i2l (v := r_1.toInt64) hx hb dL_make_10 rfl ?_
    refine va_last (i := 0) hx hb hK hP hD hS 0 1 rfl rfl (by unfold vp_in; decide) dL_make_11 (fun H locs hP hD hS => ?_)
    have hP : va_P (dC, dI) vwCl [(qo, .inl (co, 1, .inr (.inl (vp_updL f0 (0 : Int32).toNatClampNeg r_1.toInt64))))] H := hP
    have hD : va_D A [(qo, .inl (co, 1, .inr (.inl (vp_updL f0 (0 : Int32).toNatClampNeg r_1.toInt64))))] := hD
    refine lv_goto (tgt := 27) hx hb dL_make_12 (by decide) ?_
    refine lv_iconst (v := 0) hx hb dL_make_27 (by decide) ?_
    have hP9 := hP.sub (ws' := [(qo, .inl (co, 1, .inr (.inl (vp_updL f0 (0 : Int32).toNatClampNeg r_1.toInt64))))]) [0] rfl
    have hD9 := hD.sub (ws' := [(qo, .inl (co, 1, .inr (.inl (vp_updL f0 (0 : Int32).toNatClampNeg r_1.toInt64))))]) [0] (by decide) rfl
    have hK9 := hK.sub (tys' := [(co, .long)]) [1] rfl
    refine W.widen (k := 6) (n := 49) (Nat.le_of_ble_eq_true rfl) (Nat.le_of_ble_eq_true rfl) ?_
    exact W.iret (v := 0) hx hb hr (fun t ht hW => ⟨⟨0, (vp_updL f0 (0 : Int32).toNatClampNeg r_1.toInt64), rfl, ⟨tx_at (P := mkIs p0 p1 p2) (n := 0) (by decide) jr_1.2, fun _ => tx_up0.trans (by rw [jr_1.1]; decide)⟩, by rw [ht]; exact hP9, va_K.moved hW.alike hK9, hD9⟩, hS.F ht⟩) hS.2.2 dL_make_28
set_option maxHeartbeats 4000000 in
set_option maxRecDepth 100000 in
/-- the law calls drop and tells what came -/
theorem c_L_drop (l : Launch) (hlt : l.stackTraces = false) (dC : Nat → ClassId) (dI : Nat → Nat → Nat) (sz : Nat) (h0 : Nat) (qb : Nat) (cb : ClassId) (qo : Nat) (co : ClassId) (f0 : Nat → Int64) (p0 : Int32) : Met l yL_drop wsP_L_drop ({ frames := 8, cells := 2, slots := 12, locals := 170 }) (va_Pc [.ref h0, .int p0, .ref qo] (pk_PreX (dC, dI) [(h0, .inr (7, [.ref qb])), (qb, .inl (cb, 16, .inr (.inr (.inr (.inr (fun _ => none)))))), (qo, .inl (co, 1, .inr (.inl f0)))] [(cb, .object "KeyAtlas$Body"), (co, .long)] sz)) (va_Qi (fun (r : Int32) (_ : Nat → Int64) => r = 1) (fun (f : Nat → Int64) (t : State) => va_P (dC, dI) vwCl [(qo, .inl (co, 1, .inr (.inl f)))] t.heap ∧ va_K (dC, dI) vwCl [(co, .long)] t ∧ va_D (va_A [(h0, .inr (7, [.ref qb])), (qb, .inl (cb, 16, .inr (.inr (.inr (.inr (fun _ => none)))))), (qo, .inl (co, 1, .inr (.inl f0)))] sz) [(qo, .inl (co, 1, .inr (.inl f)))]) (va_A [(h0, .inr (7, [.ref qb])), (qb, .inl (cb, 16, .inr (.inr (.inr (.inr (fun _ => none)))))), (qo, .inl (co, 1, .inr (.inl f0)))] sz)) 2 12 (va_A [(h0, .inr (7, [.ref qb])), (qb, .inl (cb, 16, .inr (.inr (.inr (.inr (fun _ => none)))))), (qo, .inl (co, 1, .inr (.inl f0)))] sz) := by
  refine va_MetW (cc := cL_drop) (maxL := 4) (ret := (some .int)) (by decide) rfl ?_
  intro p e s m args below meth c s₁ B hml hv
  obtain ⟨rfl, hsz, hP, hK, hD0, hN, hZ⟩ := hv
  have hx := B.exec
  have hb := B.bytes
  have hr := B.returns
  have hts := atoms_spec (ws := wsP_L_drop) B.pre
  have hown : s.vm.findClass RL = some m.cls := findClass_of_methodNamed B.named
  have hlocks := B.notSynchronized
  have htab : c.exceptionTable.toList = tableOf [(0, 9, 12, 23)] := vx_table (x := yL_drop) B (show (Cond.codeWith yL_drop cL_drop 4 (some .int) [(0, 9, 12, 23)]).before _ s = true from hts _ List.mem_cons_self)
  subst hsz
  have hD := hD0.self (sz := s.heap.size)
  generalize hAe : va_A [(h0, .inr (7, [.ref qb])), (qb, .inl (cb, 16, .inr (.inr (.inr (.inr (fun _ => none)))))), (qo, .inl (co, 1, .inr (.inl f0)))] s.heap.size = A at hZ hD ⊢
  have hA : ∀ q : Nat, s.heap.size ≤ q → A q := fun q h => by rw [← hAe]; exact Or.inr h
  have hS : va_S A s.heap s.heap [] := va_S.rf
  have hP : va_P (dC, dI) vwCl [(h0, .inr (7, [.ref qb])), (qb, .inl (cb, 16, .inr (.inr (.inr (.inr (fun _ => none)))))), (qo, .inl (co, 1, .inr (.inl f0)))] s.heap := hP
  have hl := lv_entry ([.ref h0, .int p0, .ref qo]) (n := 4) (Nat.le_of_ble_eq_true rfl)
  rw [lg_entry_eq]
  generalize (lg_sl ([.ref h0, .int p0, .ref qo]) ++ List.replicate (4 - (lg_sl ([.ref h0, .int p0, .ref qo])).length) Slot.unset).toArray = ls at hl ⊢
  have hl : lv_has ls 4 [(0, .ref h0), (1, .int p0), (2, .ref qo)] := hl
  have hw0_ := hts (.classLink RL 23 "java/util/NoSuchElementException") (by decide +kernel)
  refine lv_aload_n hx hb dL_drop_0 rfl (lv_at hl 2 rfl) ?_
  refine lv_iconst (v := 0) hx hb dL_drop_1 (by decide) ?_
  refine lv_aload_n hx hb dL_drop_2 rfl (lv_at hl 0 rfl) ?_
  refine lv_iload_n hx hb dL_drop_3 rfl (lv_at hl 1 rfl) ?_
  have hPc := hP.sub (ws' := [(h0, .inr (7, [.ref qb])), (qb, .inl (cb, 16, .inr (.inr (.inr (.inr (fun _ => none))))))]) [0, 1] rfl
  have hDc := hD.sub (ws' := [(h0, .inr (7, [.ref qb])), (qb, .inl (cb, 16, .inr (.inr (.inr (.inr (fun _ => none))))))]) [0, 1] (by decide) rfl
  have hKc := hK.sub (tys' := [(cb, .object "KeyAtlas$Body")]) [0] rfl
  have hFc := va_free (wc := [(h0, .inr (7, [.ref qb])), (qb, .inl (cb, 16, .inr (.inr (.inr (.inr (fun _ => none))))))]) hD hS hA [0, 1] rfl
  have hZc := (hZ.kept hS.2.1).narrow hFc
  refine vx_calli (vx_runV (As := [.int p0]) (rest := [.int 0, .ref qo]) ⟨hx, hb, hml, hown, hts⟩ (c_X7_drop l hlt dC dI s.heap.size h0 qb cb p0) (cwV 1 hts gP_L_drop_drop rfl rfl rfl (by decide +kernel) ⟨(Nat.le_of_ble_eq_true rfl), (Nat.le_of_ble_eq_true rfl)⟩) ⟨pk_blindX, va_recv hKc hPc (ci := 7) (q0 := 0) rfl rfl, pk_callX hPc hKc hDc hN hZc⟩ rfl rfl hl.1 rfl (lv_room (Nat.le_of_ble_eq_true rfl)) dL_drop_4 ⟨(Nat.le_of_ble_eq_true rfl), (Nat.le_of_ble_eq_true rfl)⟩) hS (fun q _ h => hFc q h) hFc (fun q _ h => hFc q h) (fun E ce q9 u9 t H1 locs ht hvm hw hB hz1 hk1 hS hce hcv hcl => ?_) (fun r_1 ur_1 t H1 locs ht hvm hw hB hz1 hk1 hS => ?_)
  ·
    try dsimp only at hB
    subst hB
    obtain ⟨hP, hD⟩ := va_join (wr := [(qo, .inl (co, 1, .inr (.inl f0)))]) (w1 := []) hP hD [0, 1] [2] rfl rfl (by decide) (by decide) hk1 hFc tx_P0 tx_D0
    refine tx_catch (name := "java/util/NoSuchElementException") hown [] ⟨0, 9, 12, 23⟩ [] (htab.trans rfl) (fun _ h => absurd h List.not_mem_nil) (by decide) (by decide) hw0_ (hN.xw (.castable "java/util/NoSuchElementException" "java/util/NoSuchElementException") (by decide +kernel)) hce hcv hcl ?_
    clear hk1 hz1 ht hce
    generalize H1 = H at hP hS ⊢
    have hP : va_P (dC, dI) vwCl [(qo, .inl (co, 1, .inr (.inl f0)))] H := hP
    have hD : va_D A [(qo, .inl (co, 1, .inr (.inl f0)))] := hD
    refine W.widen (k := 2) (n := 12) (Nat.le_of_ble_eq_true rfl) (Nat.le_of_ble_eq_true rfl) ?_
    refine W.eq (g2 := F0 m 12 ls [.ref q9]) rfl ?_
    refine lv_astore_n (lv' := [(3, .ref q9), (0, .ref h0), (1, .int p0), (2, .ref qo)]) hx hb dL_drop_12 rfl hl (by decide) rfl (fun ls hl => ?_)
    refine lv_iconst (v := 1) hx hb dL_drop_13 (by decide) ?_
    have hP9 := hP.sub (ws' := [(qo, .inl (co, 1, .inr (.inl f0)))]) [0] rfl
    have hD9 := hD.sub (ws' := [(qo, .inl (co, 1, .inr (.inl f0)))]) [0] (by decide) rfl
    have hK9 := hK.sub (tys' := [(co, .long)]) [1] rfl
    refine W.widen (k := 2) (n := 12) (Nat.le_of_ble_eq_true rfl) (Nat.le_of_ble_eq_true rfl) ?_
    exact W.iret (v := 1) hx hb hr (fun t ht hW => ⟨⟨1, f0, rfl, rfl, by rw [ht]; exact hP9, va_K.moved hW.alike hK9, hD9⟩, hS.F ht⟩) hS.2.2 dL_drop_14
  · exact hw.elim
set_option maxHeartbeats 4000000 in
set_option maxRecDepth 100000 in
/-- the law calls map and tells what came -/
theorem c_L_map (l : Launch) (hlt : l.stackTraces = false) (dC : Nat → ClassId) (dI : Nat → Nat → Nat) (sz : Nat) (h0 : Nat) (qb : Nat) (cb : ClassId) (qo : Nat) (co : ClassId) (f0 : Nat → Int64) (p0 : Int32) (p1 : Int32) (p2 : Int32) (p3 : Int32) : Met l yL_map wsP_L_map ({ frames := 8, cells := 2, slots := 12, locals := 170 }) (va_Pc [.ref h0, .int p0, .int p1, .int p2, .int p3, .ref qo] (pk_PreX (dC, dI) [(h0, .inr (7, [.ref qb])), (qb, .inl (cb, 16, .inr (.inr (.inr (.inr (fun _ => none)))))), (qo, .inl (co, 1, .inr (.inl f0)))] [(cb, .object "KeyAtlas$Body"), (co, .long)] sz)) (va_Qi (fun (r : Int32) (_ : Nat → Int64) => r = 1) (fun (f : Nat → Int64) (t : State) => va_P (dC, dI) vwCl [(qo, .inl (co, 1, .inr (.inl f)))] t.heap ∧ va_K (dC, dI) vwCl [(co, .long)] t ∧ va_D (va_A [(h0, .inr (7, [.ref qb])), (qb, .inl (cb, 16, .inr (.inr (.inr (.inr (fun _ => none)))))), (qo, .inl (co, 1, .inr (.inl f0)))] sz) [(qo, .inl (co, 1, .inr (.inl f)))]) (va_A [(h0, .inr (7, [.ref qb])), (qb, .inl (cb, 16, .inr (.inr (.inr (.inr (fun _ => none)))))), (qo, .inl (co, 1, .inr (.inl f0)))] sz)) 2 12 (va_A [(h0, .inr (7, [.ref qb])), (qb, .inl (cb, 16, .inr (.inr (.inr (.inr (fun _ => none)))))), (qo, .inl (co, 1, .inr (.inl f0)))] sz) := by
  refine va_MetW (cc := cL_map) (maxL := 7) (ret := (some .int)) (by decide) rfl ?_
  intro p e s m args below meth c s₁ B hml hv
  obtain ⟨rfl, hsz, hP, hK, hD0, hN, hZ⟩ := hv
  have hx := B.exec
  have hb := B.bytes
  have hr := B.returns
  have hts := atoms_spec (ws := wsP_L_map) B.pre
  have hown : s.vm.findClass RL = some m.cls := findClass_of_methodNamed B.named
  have hlocks := B.notSynchronized
  have htab : c.exceptionTable.toList = tableOf [(0, 13, 16, 23), (0, 13, 20, 29), (0, 13, 24, 13), (0, 13, 28, 15), (0, 13, 32, 31)] := vx_table (x := yL_map) B (show (Cond.codeWith yL_map cL_map 7 (some .int) [(0, 13, 16, 23), (0, 13, 20, 29), (0, 13, 24, 13), (0, 13, 28, 15), (0, 13, 32, 31)]).before _ s = true from hts _ List.mem_cons_self)
  subst hsz
  have hD := hD0.self (sz := s.heap.size)
  generalize hAe : va_A [(h0, .inr (7, [.ref qb])), (qb, .inl (cb, 16, .inr (.inr (.inr (.inr (fun _ => none)))))), (qo, .inl (co, 1, .inr (.inl f0)))] s.heap.size = A at hZ hD ⊢
  have hA : ∀ q : Nat, s.heap.size ≤ q → A q := fun q h => by rw [← hAe]; exact Or.inr h
  have hS : va_S A s.heap s.heap [] := va_S.rf
  have hP : va_P (dC, dI) vwCl [(h0, .inr (7, [.ref qb])), (qb, .inl (cb, 16, .inr (.inr (.inr (.inr (fun _ => none)))))), (qo, .inl (co, 1, .inr (.inl f0)))] s.heap := hP
  have hl := lv_entry ([.ref h0, .int p0, .int p1, .int p2, .int p3, .ref qo]) (n := 7) (Nat.le_of_ble_eq_true rfl)
  rw [lg_entry_eq]
  generalize (lg_sl ([.ref h0, .int p0, .int p1, .int p2, .int p3, .ref qo]) ++ List.replicate (7 - (lg_sl ([.ref h0, .int p0, .int p1, .int p2, .int p3, .ref qo])).length) Slot.unset).toArray = ls at hl ⊢
  have hl : lv_has ls 7 [(0, .ref h0), (1, .int p0), (2, .int p1), (3, .int p2), (4, .int p3), (5, .ref qo)] := hl
  have hw0_ := hts (.classLink RL 23 "java/util/NoSuchElementException") (by decide +kernel)
  refine lv_aload hx hb dL_map_0 (lv_at hl 5 rfl) ?_
  refine lv_iconst (v := 0) hx hb dL_map_2 (by decide) ?_
  refine lv_aload_n hx hb dL_map_3 rfl (lv_at hl 0 rfl) ?_
  refine lv_iload_n hx hb dL_map_4 rfl (lv_at hl 1 rfl) ?_
  refine lv_iload_n hx hb dL_map_5 rfl (lv_at hl 2 rfl) ?_
  refine lv_iload_n hx hb dL_map_6 rfl (lv_at hl 3 rfl) ?_
  refine lv_iload hx hb dL_map_7 (lv_at hl 4 rfl) ?_
  have hPc := hP.sub (ws' := [(h0, .inr (7, [.ref qb])), (qb, .inl (cb, 16, .inr (.inr (.inr (.inr (fun _ => none))))))]) [0, 1] rfl
  have hDc := hD.sub (ws' := [(h0, .inr (7, [.ref qb])), (qb, .inl (cb, 16, .inr (.inr (.inr (.inr (fun _ => none))))))]) [0, 1] (by decide) rfl
  have hKc := hK.sub (tys' := [(cb, .object "KeyAtlas$Body")]) [0] rfl
  have hFc := va_free (wc := [(h0, .inr (7, [.ref qb])), (qb, .inl (cb, 16, .inr (.inr (.inr (.inr (fun _ => none))))))]) hD hS hA [0, 1] rfl
  have hZc := (hZ.kept hS.2.1).narrow hFc
  refine vx_calll (vx_runV (As := [.int p0, .int p1, .int p2, .int p3]) (rest := [.int 0, .ref qo]) ⟨hx, hb, hml, hown, hts⟩ (c_X7_map l hlt dC dI s.heap.size h0 qb cb p0 p1 p2 p3) (cwV 4 hts gP_L_map_map rfl rfl rfl (by decide +kernel) ⟨(Nat.le_of_ble_eq_true rfl), (Nat.le_of_ble_eq_true rfl)⟩) ⟨pk_blindX, va_recv hKc hPc (ci := 7) (q0 := 0) rfl rfl, pk_callX hPc hKc hDc hN hZc⟩ rfl rfl hl.1 rfl (lv_room (Nat.le_of_ble_eq_true rfl)) dL_map_9 ⟨(Nat.le_of_ble_eq_true rfl), (Nat.le_of_ble_eq_true rfl)⟩) hS (fun q _ h => hFc q h) hFc (fun q _ h => hFc q h) (fun E ce q9 u9 t H1 locs ht hvm hw hB hz1 hk1 hS hce hcv hcl => ?_) (fun r_1 ur_1 t H1 locs ht hvm hw hB hz1 hk1 hS => ?_)
  ·
    try dsimp only at hB
    subst hB
    obtain ⟨hP, hD⟩ := va_join (wr := [(qo, .inl (co, 1, .inr (.inl f0)))]) (w1 := []) hP hD [0, 1] [2] rfl rfl (by decide) (by decide) hk1 hFc tx_P0 tx_D0
    refine tx_catch (name := "java/util/NoSuchElementException") hown [] ⟨0, 13, 16, 23⟩ [⟨0, 13, 20, 29⟩, ⟨0, 13, 24, 13⟩, ⟨0, 13, 28, 15⟩, ⟨0, 13, 32, 31⟩] (htab.trans rfl) (fun _ h => absurd h List.not_mem_nil) (by decide) (by decide) hw0_ (hN.xw (.castable "java/util/NoSuchElementException" "java/util/NoSuchElementException") (by decide +kernel)) hce hcv hcl ?_
    clear hk1 hz1 ht hce
    generalize H1 = H at hP hS ⊢
    have hP : va_P (dC, dI) vwCl [(qo, .inl (co, 1, .inr (.inl f0)))] H := hP
    have hD : va_D A [(qo, .inl (co, 1, .inr (.inl f0)))] := hD
    refine W.widen (k := 2) (n := 12) (Nat.le_of_ble_eq_true rfl) (Nat.le_of_ble_eq_true rfl) ?_
    refine W.eq (g2 := F0 m 16 ls [.ref q9]) rfl ?_
    refine lv_astore (lv' := [(6, .ref q9), (0, .ref h0), (1, .int p0), (2, .int p1), (3, .int p2), (4, .int p3), (5, .ref qo)]) hx hb dL_map_16 hl (by decide) rfl (fun ls hl => ?_)
    refine lv_iconst (v := 1) hx hb dL_map_18 (by decide) ?_
    have hP9 := hP.sub (ws' := [(qo, .inl (co, 1, .inr (.inl f0)))]) [0] rfl
    have hD9 := hD.sub (ws' := [(qo, .inl (co, 1, .inr (.inl f0)))]) [0] (by decide) rfl
    have hK9 := hK.sub (tys' := [(co, .long)]) [1] rfl
    refine W.widen (k := 2) (n := 12) (Nat.le_of_ble_eq_true rfl) (Nat.le_of_ble_eq_true rfl) ?_
    exact W.iret (v := 1) hx hb hr (fun t ht hW => ⟨⟨1, f0, rfl, rfl, by rw [ht]; exact hP9, va_K.moved hW.alike hK9, hD9⟩, hS.F ht⟩) hS.2.2 dL_map_19
  · exact hw.elim
set_option maxHeartbeats 4000000 in
set_option maxRecDepth 100000 in
/-- the law calls view and tells what came -/
theorem c_L_view (l : Launch) (hlt : l.stackTraces = false) (dC : Nat → ClassId) (dI : Nat → Nat → Nat) (sz : Nat) (h0 : Nat) (qb : Nat) (cb : ClassId) (qo : Nat) (co : ClassId) (f0 : Nat → Int64) (p0 : Int32) (p1 : Int32) (p2 : Int32) (p3 : Int32) : Met l yL_view wsP_L_view ({ frames := 8, cells := 2, slots := 12, locals := 170 }) (va_Pc [.ref h0, .int p0, .int p1, .int p2, .int p3, .ref qo] (pk_PreX (dC, dI) [(h0, .inr (7, [.ref qb])), (qb, .inl (cb, 16, .inr (.inr (.inr (.inr (fun _ => none)))))), (qo, .inl (co, 1, .inr (.inl f0)))] [(cb, .object "KeyAtlas$Body"), (co, .long)] sz)) (va_Qi (fun (r : Int32) (_ : Nat → Int64) => r = 1) (fun (f : Nat → Int64) (t : State) => va_P (dC, dI) vwCl [(qo, .inl (co, 1, .inr (.inl f)))] t.heap ∧ va_K (dC, dI) vwCl [(co, .long)] t ∧ va_D (va_A [(h0, .inr (7, [.ref qb])), (qb, .inl (cb, 16, .inr (.inr (.inr (.inr (fun _ => none)))))), (qo, .inl (co, 1, .inr (.inl f0)))] sz) [(qo, .inl (co, 1, .inr (.inl f)))]) (va_A [(h0, .inr (7, [.ref qb])), (qb, .inl (cb, 16, .inr (.inr (.inr (.inr (fun _ => none)))))), (qo, .inl (co, 1, .inr (.inl f0)))] sz)) 2 12 (va_A [(h0, .inr (7, [.ref qb])), (qb, .inl (cb, 16, .inr (.inr (.inr (.inr (fun _ => none)))))), (qo, .inl (co, 1, .inr (.inl f0)))] sz) := by
  refine va_MetW (cc := cL_view) (maxL := 7) (ret := (some .int)) (by decide) rfl ?_
  intro p e s m args below meth c s₁ B hml hv
  obtain ⟨rfl, hsz, hP, hK, hD0, hN, hZ⟩ := hv
  have hx := B.exec
  have hb := B.bytes
  have hr := B.returns
  have hts := atoms_spec (ws := wsP_L_view) B.pre
  have hown : s.vm.findClass RL = some m.cls := findClass_of_methodNamed B.named
  have hlocks := B.notSynchronized
  have htab : c.exceptionTable.toList = tableOf [(0, 14, 17, 23), (0, 14, 21, 29), (0, 14, 25, 13), (0, 14, 29, 15)] := vx_table (x := yL_view) B (show (Cond.codeWith yL_view cL_view 7 (some .int) [(0, 14, 17, 23), (0, 14, 21, 29), (0, 14, 25, 13), (0, 14, 29, 15)]).before _ s = true from hts _ List.mem_cons_self)
  subst hsz
  have hD := hD0.self (sz := s.heap.size)
  generalize hAe : va_A [(h0, .inr (7, [.ref qb])), (qb, .inl (cb, 16, .inr (.inr (.inr (.inr (fun _ => none)))))), (qo, .inl (co, 1, .inr (.inl f0)))] s.heap.size = A at hZ hD ⊢
  have hA : ∀ q : Nat, s.heap.size ≤ q → A q := fun q h => by rw [← hAe]; exact Or.inr h
  have hS : va_S A s.heap s.heap [] := va_S.rf
  have hP : va_P (dC, dI) vwCl [(h0, .inr (7, [.ref qb])), (qb, .inl (cb, 16, .inr (.inr (.inr (.inr (fun _ => none)))))), (qo, .inl (co, 1, .inr (.inl f0)))] s.heap := hP
  have hl := lv_entry ([.ref h0, .int p0, .int p1, .int p2, .int p3, .ref qo]) (n := 7) (Nat.le_of_ble_eq_true rfl)
  rw [lg_entry_eq]
  generalize (lg_sl ([.ref h0, .int p0, .int p1, .int p2, .int p3, .ref qo]) ++ List.replicate (7 - (lg_sl ([.ref h0, .int p0, .int p1, .int p2, .int p3, .ref qo])).length) Slot.unset).toArray = ls at hl ⊢
  have hl : lv_has ls 7 [(0, .ref h0), (1, .int p0), (2, .int p1), (3, .int p2), (4, .int p3), (5, .ref qo)] := hl
  have hw0_ := hts (.classLink RL 23 "java/util/NoSuchElementException") (by decide +kernel)
  refine lv_aload hx hb dL_view_0 (lv_at hl 5 rfl) ?_
  refine lv_iconst (v := 0) hx hb dL_view_2 (by decide) ?_
  refine lv_aload_n hx hb dL_view_3 rfl (lv_at hl 0 rfl) ?_
  refine lv_iload_n hx hb dL_view_4 rfl (lv_at hl 1 rfl) ?_
  refine lv_iload_n hx hb dL_view_5 rfl (lv_at hl 2 rfl) ?_
  refine lv_iload_n hx hb dL_view_6 rfl (lv_at hl 3 rfl) ?_
  refine lv_iload hx hb dL_view_7 (lv_at hl 4 rfl) ?_
  have hPc := hP.sub (ws' := [(h0, .inr (7, [.ref qb])), (qb, .inl (cb, 16, .inr (.inr (.inr (.inr (fun _ => none))))))]) [0, 1] rfl
  have hDc := hD.sub (ws' := [(h0, .inr (7, [.ref qb])), (qb, .inl (cb, 16, .inr (.inr (.inr (.inr (fun _ => none))))))]) [0, 1] (by decide) rfl
  have hKc := hK.sub (tys' := [(cb, .object "KeyAtlas$Body")]) [0] rfl
  have hFc := va_free (wc := [(h0, .inr (7, [.ref qb])), (qb, .inl (cb, 16, .inr (.inr (.inr (.inr (fun _ => none))))))]) hD hS hA [0, 1] rfl
  have hZc := (hZ.kept hS.2.1).narrow hFc
  refine vx_calli (vx_runV (As := [.int p0, .int p1, .int p2, .int p3]) (rest := [.int 0, .ref qo]) ⟨hx, hb, hml, hown, hts⟩ (c_X7_view l hlt dC dI s.heap.size h0 qb cb p0 p1 p2 p3) (cwV 4 hts gP_L_view_view rfl rfl rfl (by decide +kernel) ⟨(Nat.le_of_ble_eq_true rfl), (Nat.le_of_ble_eq_true rfl)⟩) ⟨pk_blindX, va_recv hKc hPc (ci := 7) (q0 := 0) rfl rfl, pk_callX hPc hKc hDc hN hZc⟩ rfl rfl hl.1 rfl (lv_room (Nat.le_of_ble_eq_true rfl)) dL_view_9 ⟨(Nat.le_of_ble_eq_true rfl), (Nat.le_of_ble_eq_true rfl)⟩) hS (fun q _ h => hFc q h) hFc (fun q _ h => hFc q h) (fun E ce q9 u9 t H1 locs ht hvm hw hB hz1 hk1 hS hce hcv hcl => ?_) (fun r_1 ur_1 t H1 locs ht hvm hw hB hz1 hk1 hS => ?_)
  ·
    try dsimp only at hB
    subst hB
    obtain ⟨hP, hD⟩ := va_join (wr := [(qo, .inl (co, 1, .inr (.inl f0)))]) (w1 := []) hP hD [0, 1] [2] rfl rfl (by decide) (by decide) hk1 hFc tx_P0 tx_D0
    refine tx_catch (name := "java/util/NoSuchElementException") hown [] ⟨0, 14, 17, 23⟩ [⟨0, 14, 21, 29⟩, ⟨0, 14, 25, 13⟩, ⟨0, 14, 29, 15⟩] (htab.trans rfl) (fun _ h => absurd h List.not_mem_nil) (by decide) (by decide) hw0_ (hN.xw (.castable "java/util/NoSuchElementException" "java/util/NoSuchElementException") (by decide +kernel)) hce hcv hcl ?_
    clear hk1 hz1 ht hce
    generalize H1 = H at hP hS ⊢
    have hP : va_P (dC, dI) vwCl [(qo, .inl (co, 1, .inr (.inl f0)))] H := hP
    have hD : va_D A [(qo, .inl (co, 1, .inr (.inl f0)))] := hD
    refine W.widen (k := 2) (n := 12) (Nat.le_of_ble_eq_true rfl) (Nat.le_of_ble_eq_true rfl) ?_
    refine W.eq (g2 := F0 m 17 ls [.ref q9]) rfl ?_
    refine lv_astore (lv' := [(6, .ref q9), (0, .ref h0), (1, .int p0), (2, .int p1), (3, .int p2), (4, .int p3), (5, .ref qo)]) hx hb dL_view_17 hl (by decide) rfl (fun ls hl => ?_)
    refine lv_iconst (v := 1) hx hb dL_view_19 (by decide) ?_
    have hP9 := hP.sub (ws' := [(qo, .inl (co, 1, .inr (.inl f0)))]) [0] rfl
    have hD9 := hD.sub (ws' := [(qo, .inl (co, 1, .inr (.inl f0)))]) [0] (by decide) rfl
    have hK9 := hK.sub (tys' := [(co, .long)]) [1] rfl
    refine W.widen (k := 2) (n := 12) (Nat.le_of_ble_eq_true rfl) (Nat.le_of_ble_eq_true rfl) ?_
    exact W.iret (v := 1) hx hb hr (fun t ht hW => ⟨⟨1, f0, rfl, rfl, by rw [ht]; exact hP9, va_K.moved hW.alike hK9, hD9⟩, hS.F ht⟩) hS.2.2 dL_view_20
  · exact hw.elim
set_option maxHeartbeats 4000000 in
set_option maxRecDepth 100000 in
/-- the law calls cursor and tells what came -/
theorem c_L_cursor (l : Launch) (hlt : l.stackTraces = false) (dC : Nat → ClassId) (dI : Nat → Nat → Nat) (sz : Nat) (h0 : Nat) (qb : Nat) (cb : ClassId) (qo : Nat) (co : ClassId) (f0 : Nat → Int64) (p0 : Int32) : Met l yL_cursor wsP_L_cursor ({ frames := 8, cells := 2, slots := 12, locals := 170 }) (va_Pc [.ref h0, .int p0, .ref qo] (pk_PreX (dC, dI) [(h0, .inr (7, [.ref qb])), (qb, .inl (cb, 16, .inr (.inr (.inr (.inr (fun _ => none)))))), (qo, .inl (co, 1, .inr (.inl f0)))] [(cb, .object "KeyAtlas$Body"), (co, .long)] sz)) (va_Qi (fun (r : Int32) (_ : Nat → Int64) => r = 1) (fun (f : Nat → Int64) (t : State) => va_P (dC, dI) vwCl [(qo, .inl (co, 1, .inr (.inl f)))] t.heap ∧ va_K (dC, dI) vwCl [(co, .long)] t ∧ va_D (va_A [(h0, .inr (7, [.ref qb])), (qb, .inl (cb, 16, .inr (.inr (.inr (.inr (fun _ => none)))))), (qo, .inl (co, 1, .inr (.inl f0)))] sz) [(qo, .inl (co, 1, .inr (.inl f)))]) (va_A [(h0, .inr (7, [.ref qb])), (qb, .inl (cb, 16, .inr (.inr (.inr (.inr (fun _ => none)))))), (qo, .inl (co, 1, .inr (.inl f0)))] sz)) 2 12 (va_A [(h0, .inr (7, [.ref qb])), (qb, .inl (cb, 16, .inr (.inr (.inr (.inr (fun _ => none)))))), (qo, .inl (co, 1, .inr (.inl f0)))] sz) := by
  refine va_MetW (cc := cL_cursor) (maxL := 4) (ret := (some .int)) (by decide) rfl ?_
  intro p e s m args below meth c s₁ B hml hv
  obtain ⟨rfl, hsz, hP, hK, hD0, hN, hZ⟩ := hv
  have hx := B.exec
  have hb := B.bytes
  have hr := B.returns
  have hts := atoms_spec (ws := wsP_L_cursor) B.pre
  have hown : s.vm.findClass RL = some m.cls := findClass_of_methodNamed B.named
  have hlocks := B.notSynchronized
  have htab : c.exceptionTable.toList = tableOf [(0, 9, 12, 23), (0, 9, 15, 29), (0, 9, 18, 15)] := vx_table (x := yL_cursor) B (show (Cond.codeWith yL_cursor cL_cursor 4 (some .int) [(0, 9, 12, 23), (0, 9, 15, 29), (0, 9, 18, 15)]).before _ s = true from hts _ List.mem_cons_self)
  subst hsz
  have hD := hD0.self (sz := s.heap.size)
  generalize hAe : va_A [(h0, .inr (7, [.ref qb])), (qb, .inl (cb, 16, .inr (.inr (.inr (.inr (fun _ => none)))))), (qo, .inl (co, 1, .inr (.inl f0)))] s.heap.size = A at hZ hD ⊢
  have hA : ∀ q : Nat, s.heap.size ≤ q → A q := fun q h => by rw [← hAe]; exact Or.inr h
  have hS : va_S A s.heap s.heap [] := va_S.rf
  have hP : va_P (dC, dI) vwCl [(h0, .inr (7, [.ref qb])), (qb, .inl (cb, 16, .inr (.inr (.inr (.inr (fun _ => none)))))), (qo, .inl (co, 1, .inr (.inl f0)))] s.heap := hP
  have hl := lv_entry ([.ref h0, .int p0, .ref qo]) (n := 4) (Nat.le_of_ble_eq_true rfl)
  rw [lg_entry_eq]
  generalize (lg_sl ([.ref h0, .int p0, .ref qo]) ++ List.replicate (4 - (lg_sl ([.ref h0, .int p0, .ref qo])).length) Slot.unset).toArray = ls at hl ⊢
  have hl : lv_has ls 4 [(0, .ref h0), (1, .int p0), (2, .ref qo)] := hl
  have hw0_ := hts (.classLink RL 23 "java/util/NoSuchElementException") (by decide +kernel)
  refine lv_aload_n hx hb dL_cursor_0 rfl (lv_at hl 2 rfl) ?_
  refine lv_iconst (v := 0) hx hb dL_cursor_1 (by decide) ?_
  refine lv_aload_n hx hb dL_cursor_2 rfl (lv_at hl 0 rfl) ?_
  refine lv_iload_n hx hb dL_cursor_3 rfl (lv_at hl 1 rfl) ?_
  have hPc := hP.sub (ws' := [(h0, .inr (7, [.ref qb])), (qb, .inl (cb, 16, .inr (.inr (.inr (.inr (fun _ => none))))))]) [0, 1] rfl
  have hDc := hD.sub (ws' := [(h0, .inr (7, [.ref qb])), (qb, .inl (cb, 16, .inr (.inr (.inr (.inr (fun _ => none))))))]) [0, 1] (by decide) rfl
  have hKc := hK.sub (tys' := [(cb, .object "KeyAtlas$Body")]) [0] rfl
  have hFc := va_free (wc := [(h0, .inr (7, [.ref qb])), (qb, .inl (cb, 16, .inr (.inr (.inr (.inr (fun _ => none))))))]) hD hS hA [0, 1] rfl
  have hZc := (hZ.kept hS.2.1).narrow hFc
  refine vx_calli (vx_runV (As := [.int p0]) (rest := [.int 0, .ref qo]) ⟨hx, hb, hml, hown, hts⟩ (c_X7_cursor l hlt dC dI s.heap.size h0 qb cb p0) (cwV 1 hts gP_L_cursor_cursor rfl rfl rfl (by decide +kernel) ⟨(Nat.le_of_ble_eq_true rfl), (Nat.le_of_ble_eq_true rfl)⟩) ⟨pk_blindX, va_recv hKc hPc (ci := 7) (q0 := 0) rfl rfl, pk_callX hPc hKc hDc hN hZc⟩ rfl rfl hl.1 rfl (lv_room (Nat.le_of_ble_eq_true rfl)) dL_cursor_4 ⟨(Nat.le_of_ble_eq_true rfl), (Nat.le_of_ble_eq_true rfl)⟩) hS (fun q _ h => hFc q h) hFc (fun q _ h => hFc q h) (fun E ce q9 u9 t H1 locs ht hvm hw hB hz1 hk1 hS hce hcv hcl => ?_) (fun r_1 ur_1 t H1 locs ht hvm hw hB hz1 hk1 hS => ?_)
  ·
    try dsimp only at hB
    subst hB
    obtain ⟨hP, hD⟩ := va_join (wr := [(qo, .inl (co, 1, .inr (.inl f0)))]) (w1 := []) hP hD [0, 1] [2] rfl rfl (by decide) (by decide) hk1 hFc tx_P0 tx_D0
    refine tx_catch (name := "java/util/NoSuchElementException") hown [] ⟨0, 9, 12, 23⟩ [⟨0, 9, 15, 29⟩, ⟨0, 9, 18, 15⟩] (htab.trans rfl) (fun _ h => absurd h List.not_mem_nil) (by decide) (by decide) hw0_ (hN.xw (.castable "java/util/NoSuchElementException" "java/util/NoSuchElementException") (by decide +kernel)) hce hcv hcl ?_
    clear hk1 hz1 ht hce
    generalize H1 = H at hP hS ⊢
    have hP : va_P (dC, dI) vwCl [(qo, .inl (co, 1, .inr (.inl f0)))] H := hP
    have hD : va_D A [(qo, .inl (co, 1, .inr (.inl f0)))] := hD
    refine W.widen (k := 2) (n := 12) (Nat.le_of_ble_eq_true rfl) (Nat.le_of_ble_eq_true rfl) ?_
    refine W.eq (g2 := F0 m 12 ls [.ref q9]) rfl ?_
    refine lv_astore_n (lv' := [(3, .ref q9), (0, .ref h0), (1, .int p0), (2, .ref qo)]) hx hb dL_cursor_12 rfl hl (by decide) rfl (fun ls hl => ?_)
    refine lv_iconst (v := 1) hx hb dL_cursor_13 (by decide) ?_
    have hP9 := hP.sub (ws' := [(qo, .inl (co, 1, .inr (.inl f0)))]) [0] rfl
    have hD9 := hD.sub (ws' := [(qo, .inl (co, 1, .inr (.inl f0)))]) [0] (by decide) rfl
    have hK9 := hK.sub (tys' := [(co, .long)]) [1] rfl
    refine W.widen (k := 2) (n := 12) (Nat.le_of_ble_eq_true rfl) (Nat.le_of_ble_eq_true rfl) ?_
    exact W.iret (v := 1) hx hb hr (fun t ht hW => ⟨⟨1, f0, rfl, rfl, by rw [ht]; exact hP9, va_K.moved hW.alike hK9, hD9⟩, hS.F ht⟩) hS.2.2 dL_cursor_14
  · exact hw.elim
set_option maxHeartbeats 4000000 in
set_option maxRecDepth 100000 in
/-- the law calls move and tells what came -/
theorem c_L_move (l : Launch) (hlt : l.stackTraces = false) (dC : Nat → ClassId) (dI : Nat → Nat → Nat) (sz : Nat) (h0 : Nat) (qb : Nat) (cb : ClassId) (qo : Nat) (co : ClassId) (f0 : Nat → Int64) (p0 : Int32) (p1 : Int32) (p2 : Int32) : Met l yL_move wsP_L_move ({ frames := 8, cells := 2, slots := 12, locals := 170 }) (va_Pc [.ref h0, .int p0, .int p1, .int p2, .ref qo] (pk_PreX (dC, dI) [(h0, .inr (7, [.ref qb])), (qb, .inl (cb, 16, .inr (.inr (.inr (.inr (fun _ => none)))))), (qo, .inl (co, 1, .inr (.inl f0)))] [(cb, .object "KeyAtlas$Body"), (co, .long)] sz)) (va_Qi (fun (r : Int32) (_ : Nat → Int64) => r = 1) (fun (f : Nat → Int64) (t : State) => va_P (dC, dI) vwCl [(qo, .inl (co, 1, .inr (.inl f)))] t.heap ∧ va_K (dC, dI) vwCl [(co, .long)] t ∧ va_D (va_A [(h0, .inr (7, [.ref qb])), (qb, .inl (cb, 16, .inr (.inr (.inr (.inr (fun _ => none)))))), (qo, .inl (co, 1, .inr (.inl f0)))] sz) [(qo, .inl (co, 1, .inr (.inl f)))]) (va_A [(h0, .inr (7, [.ref qb])), (qb, .inl (cb, 16, .inr (.inr (.inr (.inr (fun _ => none)))))), (qo, .inl (co, 1, .inr (.inl f0)))] sz)) 2 12 (va_A [(h0, .inr (7, [.ref qb])), (qb, .inl (cb, 16, .inr (.inr (.inr (.inr (fun _ => none)))))), (qo, .inl (co, 1, .inr (.inl f0)))] sz) := by
  refine va_MetW (cc := cL_move) (maxL := 6) (ret := (some .int)) (by decide) rfl ?_
  intro p e s m args below meth c s₁ B hml hv
  obtain ⟨rfl, hsz, hP, hK, hD0, hN, hZ⟩ := hv
  have hx := B.exec
  have hb := B.bytes
  have hr := B.returns
  have hts := atoms_spec (ws := wsP_L_move) B.pre
  have hown : s.vm.findClass RL = some m.cls := findClass_of_methodNamed B.named
  have hlocks := B.notSynchronized
  have htab : c.exceptionTable.toList = tableOf [(0, 11, 14, 23), (0, 11, 18, 29), (0, 11, 22, 13), (0, 11, 26, 15)] := vx_table (x := yL_move) B (show (Cond.codeWith yL_move cL_move 6 (some .int) [(0, 11, 14, 23), (0, 11, 18, 29), (0, 11, 22, 13), (0, 11, 26, 15)]).before _ s = true from hts _ List.mem_cons_self)
  subst hsz
  have hD := hD0.self (sz := s.heap.size)
  generalize hAe : va_A [(h0, .inr (7, [.ref qb])), (qb, .inl (cb, 16, .inr (.inr (.inr (.inr (fun _ => none)))))), (qo, .inl (co, 1, .inr (.inl f0)))] s.heap.size = A at hZ hD ⊢
  have hA : ∀ q : Nat, s.heap.size ≤ q → A q := fun q h => by rw [← hAe]; exact Or.inr h
  have hS : va_S A s.heap s.heap [] := va_S.rf
  have hP : va_P (dC, dI) vwCl [(h0, .inr (7, [.ref qb])), (qb, .inl (cb, 16, .inr (.inr (.inr (.inr (fun _ => none)))))), (qo, .inl (co, 1, .inr (.inl f0)))] s.heap := hP
  have hl := lv_entry ([.ref h0, .int p0, .int p1, .int p2, .ref qo]) (n := 6) (Nat.le_of_ble_eq_true rfl)
  rw [lg_entry_eq]
  generalize (lg_sl ([.ref h0, .int p0, .int p1, .int p2, .ref qo]) ++ List.replicate (6 - (lg_sl ([.ref h0, .int p0, .int p1, .int p2, .ref qo])).length) Slot.unset).toArray = ls at hl ⊢
  have hl : lv_has ls 6 [(0, .ref h0), (1, .int p0), (2, .int p1), (3, .int p2), (4, .ref qo)] := hl
  have hw0_ := hts (.classLink RL 23 "java/util/NoSuchElementException") (by decide +kernel)
  refine lv_aload hx hb dL_move_0 (lv_at hl 4 rfl) ?_
  refine lv_iconst (v := 0) hx hb dL_move_2 (by decide) ?_
  refine lv_aload_n hx hb dL_move_3 rfl (lv_at hl 0 rfl) ?_
  refine lv_iload_n hx hb dL_move_4 rfl (lv_at hl 1 rfl) ?_
  refine lv_iload_n hx hb dL_move_5 rfl (lv_at hl 2 rfl) ?_
  refine lv_iload_n hx hb dL_move_6 rfl (lv_at hl 3 rfl) ?_
  have hPc := hP.sub (ws' := [(h0, .inr (7, [.ref qb])), (qb, .inl (cb, 16, .inr (.inr (.inr (.inr (fun _ => none))))))]) [0, 1] rfl
  have hDc := hD.sub (ws' := [(h0, .inr (7, [.ref qb])), (qb, .inl (cb, 16, .inr (.inr (.inr (.inr (fun _ => none))))))]) [0, 1] (by decide) rfl
  have hKc := hK.sub (tys' := [(cb, .object "KeyAtlas$Body")]) [0] rfl
  have hFc := va_free (wc := [(h0, .inr (7, [.ref qb])), (qb, .inl (cb, 16, .inr (.inr (.inr (.inr (fun _ => none))))))]) hD hS hA [0, 1] rfl
  have hZc := (hZ.kept hS.2.1).narrow hFc
  refine vx_calll (vx_runV (As := [.int p0, .int p1, .int p2]) (rest := [.int 0, .ref qo]) ⟨hx, hb, hml, hown, hts⟩ (c_X7_move l hlt dC dI s.heap.size h0 qb cb p0 p1 p2) (cwV 3 hts gP_L_move_move rfl rfl rfl (by decide +kernel) ⟨(Nat.le_of_ble_eq_true rfl), (Nat.le_of_ble_eq_true rfl)⟩) ⟨pk_blindX, va_recv hKc hPc (ci := 7) (q0 := 0) rfl rfl, pk_callX hPc hKc hDc hN hZc⟩ rfl rfl hl.1 rfl (lv_room (Nat.le_of_ble_eq_true rfl)) dL_move_7 ⟨(Nat.le_of_ble_eq_true rfl), (Nat.le_of_ble_eq_true rfl)⟩) hS (fun q _ h => hFc q h) hFc (fun q _ h => hFc q h) (fun E ce q9 u9 t H1 locs ht hvm hw hB hz1 hk1 hS hce hcv hcl => ?_) (fun r_1 ur_1 t H1 locs ht hvm hw hB hz1 hk1 hS => ?_)
  ·
    try dsimp only at hB
    subst hB
    obtain ⟨hP, hD⟩ := va_join (wr := [(qo, .inl (co, 1, .inr (.inl f0)))]) (w1 := []) hP hD [0, 1] [2] rfl rfl (by decide) (by decide) hk1 hFc tx_P0 tx_D0
    refine tx_catch (name := "java/util/NoSuchElementException") hown [] ⟨0, 11, 14, 23⟩ [⟨0, 11, 18, 29⟩, ⟨0, 11, 22, 13⟩, ⟨0, 11, 26, 15⟩] (htab.trans rfl) (fun _ h => absurd h List.not_mem_nil) (by decide) (by decide) hw0_ (hN.xw (.castable "java/util/NoSuchElementException" "java/util/NoSuchElementException") (by decide +kernel)) hce hcv hcl ?_
    clear hk1 hz1 ht hce
    generalize H1 = H at hP hS ⊢
    have hP : va_P (dC, dI) vwCl [(qo, .inl (co, 1, .inr (.inl f0)))] H := hP
    have hD : va_D A [(qo, .inl (co, 1, .inr (.inl f0)))] := hD
    refine W.widen (k := 2) (n := 12) (Nat.le_of_ble_eq_true rfl) (Nat.le_of_ble_eq_true rfl) ?_
    refine W.eq (g2 := F0 m 14 ls [.ref q9]) rfl ?_
    refine lv_astore (lv' := [(5, .ref q9), (0, .ref h0), (1, .int p0), (2, .int p1), (3, .int p2), (4, .ref qo)]) hx hb dL_move_14 hl (by decide) rfl (fun ls hl => ?_)
    refine lv_iconst (v := 1) hx hb dL_move_16 (by decide) ?_
    have hP9 := hP.sub (ws' := [(qo, .inl (co, 1, .inr (.inl f0)))]) [0] rfl
    have hD9 := hD.sub (ws' := [(qo, .inl (co, 1, .inr (.inl f0)))]) [0] (by decide) rfl
    have hK9 := hK.sub (tys' := [(co, .long)]) [1] rfl
    refine W.widen (k := 2) (n := 12) (Nat.le_of_ble_eq_true rfl) (Nat.le_of_ble_eq_true rfl) ?_
    exact W.iret (v := 1) hx hb hr (fun t ht hW => ⟨⟨1, f0, rfl, rfl, by rw [ht]; exact hP9, va_K.moved hW.alike hK9, hD9⟩, hS.F ht⟩) hS.2.2 dL_move_17
  · exact hw.elim
set_option maxHeartbeats 4000000 in
set_option maxRecDepth 100000 in
/-- the law calls item and tells what came -/
theorem c_L_item (l : Launch) (hlt : l.stackTraces = false) (dC : Nat → ClassId) (dI : Nat → Nat → Nat) (sz : Nat) (h0 : Nat) (qb : Nat) (cb : ClassId) (qo : Nat) (co : ClassId) (f0 : Nat → Int64) (p0 : Int32) (p1 : Int32) (p2 : Int32) : Met l yL_item wsP_L_item ({ frames := 8, cells := 2, slots := 12, locals := 170 }) (va_Pc [.ref h0, .int p0, .int p1, .int p2, .ref qo] (pk_PreX (dC, dI) [(h0, .inr (7, [.ref qb])), (qb, .inl (cb, 16, .inr (.inr (.inr (.inr (fun _ => none)))))), (qo, .inl (co, 1, .inr (.inl f0)))] [(cb, .object "KeyAtlas$Body"), (co, .long)] sz)) (va_Qi (fun (r : Int32) (_ : Nat → Int64) => r = 1) (fun (f : Nat → Int64) (t : State) => va_P (dC, dI) vwCl [(qo, .inl (co, 1, .inr (.inl f)))] t.heap ∧ va_K (dC, dI) vwCl [(co, .long)] t ∧ va_D (va_A [(h0, .inr (7, [.ref qb])), (qb, .inl (cb, 16, .inr (.inr (.inr (.inr (fun _ => none)))))), (qo, .inl (co, 1, .inr (.inl f0)))] sz) [(qo, .inl (co, 1, .inr (.inl f)))]) (va_A [(h0, .inr (7, [.ref qb])), (qb, .inl (cb, 16, .inr (.inr (.inr (.inr (fun _ => none)))))), (qo, .inl (co, 1, .inr (.inl f0)))] sz)) 2 12 (va_A [(h0, .inr (7, [.ref qb])), (qb, .inl (cb, 16, .inr (.inr (.inr (.inr (fun _ => none)))))), (qo, .inl (co, 1, .inr (.inl f0)))] sz) := by
  refine va_MetW (cc := cL_item) (maxL := 6) (ret := (some .int)) (by decide) rfl ?_
  intro p e s m args below meth c s₁ B hml hv
  obtain ⟨rfl, hsz, hP, hK, hD0, hN, hZ⟩ := hv
  have hx := B.exec
  have hb := B.bytes
  have hr := B.returns
  have hts := atoms_spec (ws := wsP_L_item) B.pre
  have hown : s.vm.findClass RL = some m.cls := findClass_of_methodNamed B.named
  have hlocks := B.notSynchronized
  have htab : c.exceptionTable.toList = tableOf [(0, 11, 14, 23), (0, 11, 18, 29), (0, 11, 22, 13), (0, 11, 26, 47)] := vx_table (x := yL_item) B (show (Cond.codeWith yL_item cL_item 6 (some .int) [(0, 11, 14, 23), (0, 11, 18, 29), (0, 11, 22, 13), (0, 11, 26, 47)]).before _ s = true from hts _ List.mem_cons_self)
  subst hsz
  have hD := hD0.self (sz := s.heap.size)
  generalize hAe : va_A [(h0, .inr (7, [.ref qb])), (qb, .inl (cb, 16, .inr (.inr (.inr (.inr (fun _ => none)))))), (qo, .inl (co, 1, .inr (.inl f0)))] s.heap.size = A at hZ hD ⊢
  have hA : ∀ q : Nat, s.heap.size ≤ q → A q := fun q h => by rw [← hAe]; exact Or.inr h
  have hS : va_S A s.heap s.heap [] := va_S.rf
  have hP : va_P (dC, dI) vwCl [(h0, .inr (7, [.ref qb])), (qb, .inl (cb, 16, .inr (.inr (.inr (.inr (fun _ => none)))))), (qo, .inl (co, 1, .inr (.inl f0)))] s.heap := hP
  have hl := lv_entry ([.ref h0, .int p0, .int p1, .int p2, .ref qo]) (n := 6) (Nat.le_of_ble_eq_true rfl)
  rw [lg_entry_eq]
  generalize (lg_sl ([.ref h0, .int p0, .int p1, .int p2, .ref qo]) ++ List.replicate (6 - (lg_sl ([.ref h0, .int p0, .int p1, .int p2, .ref qo])).length) Slot.unset).toArray = ls at hl ⊢
  have hl : lv_has ls 6 [(0, .ref h0), (1, .int p0), (2, .int p1), (3, .int p2), (4, .ref qo)] := hl
  have hw0_ := hts (.classLink RL 23 "java/util/NoSuchElementException") (by decide +kernel)
  refine lv_aload hx hb dL_item_0 (lv_at hl 4 rfl) ?_
  refine lv_iconst (v := 0) hx hb dL_item_2 (by decide) ?_
  refine lv_aload_n hx hb dL_item_3 rfl (lv_at hl 0 rfl) ?_
  refine lv_iload_n hx hb dL_item_4 rfl (lv_at hl 1 rfl) ?_
  refine lv_iload_n hx hb dL_item_5 rfl (lv_at hl 2 rfl) ?_
  refine lv_iload_n hx hb dL_item_6 rfl (lv_at hl 3 rfl) ?_
  have hPc := hP.sub (ws' := [(h0, .inr (7, [.ref qb])), (qb, .inl (cb, 16, .inr (.inr (.inr (.inr (fun _ => none))))))]) [0, 1] rfl
  have hDc := hD.sub (ws' := [(h0, .inr (7, [.ref qb])), (qb, .inl (cb, 16, .inr (.inr (.inr (.inr (fun _ => none))))))]) [0, 1] (by decide) rfl
  have hKc := hK.sub (tys' := [(cb, .object "KeyAtlas$Body")]) [0] rfl
  have hFc := va_free (wc := [(h0, .inr (7, [.ref qb])), (qb, .inl (cb, 16, .inr (.inr (.inr (.inr (fun _ => none))))))]) hD hS hA [0, 1] rfl
  have hZc := (hZ.kept hS.2.1).narrow hFc
  refine vx_calll (vx_runV (As := [.int p0, .int p1, .int p2]) (rest := [.int 0, .ref qo]) ⟨hx, hb, hml, hown, hts⟩ (c_X7_item l hlt dC dI s.heap.size h0 qb cb p0 p1 p2) (cwV 3 hts gP_L_item_item rfl rfl rfl (by decide +kernel) ⟨(Nat.le_of_ble_eq_true rfl), (Nat.le_of_ble_eq_true rfl)⟩) ⟨pk_blindX, va_recv hKc hPc (ci := 7) (q0 := 0) rfl rfl, pk_callX hPc hKc hDc hN hZc⟩ rfl rfl hl.1 rfl (lv_room (Nat.le_of_ble_eq_true rfl)) dL_item_7 ⟨(Nat.le_of_ble_eq_true rfl), (Nat.le_of_ble_eq_true rfl)⟩) hS (fun q _ h => hFc q h) hFc (fun q _ h => hFc q h) (fun E ce q9 u9 t H1 locs ht hvm hw hB hz1 hk1 hS hce hcv hcl => ?_) (fun r_1 ur_1 t H1 locs ht hvm hw hB hz1 hk1 hS => ?_)
  ·
    try dsimp only at hB
    subst hB
    obtain ⟨hP, hD⟩ := va_join (wr := [(qo, .inl (co, 1, .inr (.inl f0)))]) (w1 := []) hP hD [0, 1] [2] rfl rfl (by decide) (by decide) hk1 hFc tx_P0 tx_D0
    refine tx_catch (name := "java/util/NoSuchElementException") hown [] ⟨0, 11, 14, 23⟩ [⟨0, 11, 18, 29⟩, ⟨0, 11, 22, 13⟩, ⟨0, 11, 26, 47⟩] (htab.trans rfl) (fun _ h => absurd h List.not_mem_nil) (by decide) (by decide) hw0_ (hN.xw (.castable "java/util/NoSuchElementException" "java/util/NoSuchElementException") (by decide +kernel)) hce hcv hcl ?_
    clear hk1 hz1 ht hce
    generalize H1 = H at hP hS ⊢
    have hP : va_P (dC, dI) vwCl [(qo, .inl (co, 1, .inr (.inl f0)))] H := hP
    have hD : va_D A [(qo, .inl (co, 1, .inr (.inl f0)))] := hD
    refine W.widen (k := 2) (n := 12) (Nat.le_of_ble_eq_true rfl) (Nat.le_of_ble_eq_true rfl) ?_
    refine W.eq (g2 := F0 m 14 ls [.ref q9]) rfl ?_
    refine lv_astore (lv' := [(5, .ref q9), (0, .ref h0), (1, .int p0), (2, .int p1), (3, .int p2), (4, .ref qo)]) hx hb dL_item_14 hl (by decide) rfl (fun ls hl => ?_)
    refine lv_iconst (v := 1) hx hb dL_item_16 (by decide) ?_
    have hP9 := hP.sub (ws' := [(qo, .inl (co, 1, .inr (.inl f0)))]) [0] rfl
    have hD9 := hD.sub (ws' := [(qo, .inl (co, 1, .inr (.inl f0)))]) [0] (by decide) rfl
    have hK9 := hK.sub (tys' := [(co, .long)]) [1] rfl
    refine W.widen (k := 2) (n := 12) (Nat.le_of_ble_eq_true rfl) (Nat.le_of_ble_eq_true rfl) ?_
    exact W.iret (v := 1) hx hb hr (fun t ht hW => ⟨⟨1, f0, rfl, rfl, by rw [ht]; exact hP9, va_K.moved hW.alike hK9, hD9⟩, hS.F ht⟩) hS.2.2 dL_item_17
  · exact hw.elim
set_option maxHeartbeats 4000000 in
set_option maxRecDepth 100000 in
/-- the law calls count and tells what came -/
theorem c_L_count (l : Launch) (hlt : l.stackTraces = false) (dC : Nat → ClassId) (dI : Nat → Nat → Nat) (sz : Nat) (h0 : Nat) (qb : Nat) (cb : ClassId) (qo : Nat) (co : ClassId) (f0 : Nat → Int64) (p0 : Int32) : Met l yL_count wsP_L_count ({ frames := 8, cells := 1, slots := 6, locals := 170 }) (va_Pc [.ref h0, .int p0, .ref qo] (pk_PreX (dC, dI) [(h0, .inr (7, [.ref qb])), (qb, .inl (cb, 16, .inr (.inr (.inr (.inr (fun _ => none)))))), (qo, .inl (co, 1, .inr (.inl f0)))] [(cb, .object "KeyAtlas$Body"), (co, .long)] sz)) (va_Qi (fun (r : Int32) (f : Nat → Int64) => ∃ v : Int32, ctIs p0 r.toInt v.toInt ∧ (r.toInt = 0 → f 0 = v.toInt64)) (fun (f : Nat → Int64) (t : State) => va_P (dC, dI) vwCl [(qo, .inl (co, 1, .inr (.inl f)))] t.heap ∧ va_K (dC, dI) vwCl [(co, .long)] t ∧ va_D (va_A [(h0, .inr (7, [.ref qb])), (qb, .inl (cb, 16, .inr (.inr (.inr (.inr (fun _ => none)))))), (qo, .inl (co, 1, .inr (.inl f0)))] sz) [(qo, .inl (co, 1, .inr (.inl f)))]) (va_A [(h0, .inr (7, [.ref qb])), (qb, .inl (cb, 16, .inr (.inr (.inr (.inr (fun _ => none)))))), (qo, .inl (co, 1, .inr (.inl f0)))] sz)) 1 6 (va_A [(h0, .inr (7, [.ref qb])), (qb, .inl (cb, 16, .inr (.inr (.inr (.inr (fun _ => none)))))), (qo, .inl (co, 1, .inr (.inl f0)))] sz) := by
  refine va_MetW (cc := cL_count) (maxL := 4) (ret := (some .int)) (by decide) rfl ?_
  intro p e s m args below meth c s₁ B hml hv
  obtain ⟨rfl, hsz, hP, hK, hD0, hN, hZ⟩ := hv
  have hx := B.exec
  have hb := B.bytes
  have hr := B.returns
  have hts := atoms_spec (ws := wsP_L_count) B.pre
  have hown : s.vm.findClass RL = some m.cls := findClass_of_methodNamed B.named
  have hlocks := B.notSynchronized
  have htab : c.exceptionTable.toList = tableOf [(0, 9, 12, 13)] := vx_table (x := yL_count) B (show (Cond.codeWith yL_count cL_count 4 (some .int) [(0, 9, 12, 13)]).before _ s = true from hts _ List.mem_cons_self)
  subst hsz
  have hD := hD0.self (sz := s.heap.size)
  generalize hAe : va_A [(h0, .inr (7, [.ref qb])), (qb, .inl (cb, 16, .inr (.inr (.inr (.inr (fun _ => none)))))), (qo, .inl (co, 1, .inr (.inl f0)))] s.heap.size = A at hZ hD ⊢
  have hA : ∀ q : Nat, s.heap.size ≤ q → A q := fun q h => by rw [← hAe]; exact Or.inr h
  have hS : va_S A s.heap s.heap [] := va_S.rf
  have hP : va_P (dC, dI) vwCl [(h0, .inr (7, [.ref qb])), (qb, .inl (cb, 16, .inr (.inr (.inr (.inr (fun _ => none)))))), (qo, .inl (co, 1, .inr (.inl f0)))] s.heap := hP
  have hl := lv_entry ([.ref h0, .int p0, .ref qo]) (n := 4) (Nat.le_of_ble_eq_true rfl)
  rw [lg_entry_eq]
  generalize (lg_sl ([.ref h0, .int p0, .ref qo]) ++ List.replicate (4 - (lg_sl ([.ref h0, .int p0, .ref qo])).length) Slot.unset).toArray = ls at hl ⊢
  have hl : lv_has ls 4 [(0, .ref h0), (1, .int p0), (2, .ref qo)] := hl
  have hw0_ := hts (.classLink RL 13 "java/lang/IllegalArgumentException") (by decide +kernel)
  refine lv_aload_n hx hb dL_count_0 rfl (lv_at hl 2 rfl) ?_
  refine lv_iconst (v := 0) hx hb dL_count_1 (by decide) ?_
  refine lv_aload_n hx hb dL_count_2 rfl (lv_at hl 0 rfl) ?_
  refine lv_iload_n hx hb dL_count_3 rfl (lv_at hl 1 rfl) ?_
  have hPc := hP.sub (ws' := [(h0, .inr (7, [.ref qb])), (qb, .inl (cb, 16, .inr (.inr (.inr (.inr (fun _ => none))))))]) [0, 1] rfl
  have hDc := hD.sub (ws' := [(h0, .inr (7, [.ref qb])), (qb, .inl (cb, 16, .inr (.inr (.inr (.inr (fun _ => none))))))]) [0, 1] (by decide) rfl
  have hKc := hK.sub (tys' := [(cb, .object "KeyAtlas$Body")]) [0] rfl
  have hFc := va_free (wc := [(h0, .inr (7, [.ref qb])), (qb, .inl (cb, 16, .inr (.inr (.inr (.inr (fun _ => none))))))]) hD hS hA [0, 1] rfl
  have hZc := (hZ.kept hS.2.1).narrow hFc
  refine vx_calli (vx_runV (As := [.int p0]) (rest := [.int 0, .ref qo]) ⟨hx, hb, hml, hown, hts⟩ (c_X7_count l hlt dC dI s.heap.size h0 qb cb p0) (cwV 1 hts gP_L_count_count rfl rfl rfl (by decide +kernel) ⟨(Nat.le_of_ble_eq_true rfl), (Nat.le_of_ble_eq_true rfl)⟩) ⟨pk_blindX, va_recv hKc hPc (ci := 7) (q0 := 0) rfl rfl, pk_callX hPc hKc hDc hN hZc⟩ rfl rfl hl.1 rfl (lv_room (Nat.le_of_ble_eq_true rfl)) dL_count_4 ⟨(Nat.le_of_ble_eq_true rfl), (Nat.le_of_ble_eq_true rfl)⟩) hS (fun q _ h => hFc q h) hFc (fun q _ h => hFc q h) (fun E ce q9 u9 t H1 locs ht hvm hw hB hz1 hk1 hS hce hcv hcl => ?_) (fun r_1 ur_1 t H1 locs ht hvm hw hB hz1 hk1 hS => ?_)
  ·
    try dsimp only at hB
    obtain ⟨hE, hk9⟩ := hB
    subst hE
    obtain ⟨hP, hD⟩ := va_join (wr := [(qo, .inl (co, 1, .inr (.inl f0)))]) (w1 := []) hP hD [0, 1] [2] rfl rfl (by decide) (by decide) hk1 hFc tx_P0 tx_D0
    refine tx_catch (name := "java/lang/IllegalArgumentException") hown [] ⟨0, 9, 12, 13⟩ [] (htab.trans rfl) (fun _ h => absurd h List.not_mem_nil) (by decide) (by decide) hw0_ (hN.xw (.castable "java/lang/IllegalArgumentException" "java/lang/IllegalArgumentException") (by decide +kernel)) hce hcv hcl ?_
    clear hk1 hz1 ht hce
    generalize H1 = H at hP hS ⊢
    have hP : va_P (dC, dI) vwCl [(qo, .inl (co, 1, .inr (.inl f0)))] H := hP
    have hD : va_D A [(qo, .inl (co, 1, .inr (.inl f0)))] := hD
    refine W.widen (k := 1) (n := 6) (Nat.le_of_ble_eq_true rfl) (Nat.le_of_ble_eq_true rfl) ?_
    refine W.eq (g2 := F0 m 12 ls [.ref q9]) rfl ?_
    refine lv_astore_n (lv' := [(3, .ref q9), (0, .ref h0), (1, .int p0), (2, .ref qo)]) hx hb dL_count_12 rfl hl (by decide) rfl (fun ls hl => ?_)
    refine lv_iconst (v := 1) hx hb dL_count_13 (by decide) ?_
    have hP9 := hP.sub (ws' := [(qo, .inl (co, 1, .inr (.inl f0)))]) [0] rfl
    have hD9 := hD.sub (ws' := [(qo, .inl (co, 1, .inr (.inl f0)))]) [0] (by decide) rfl
    have hK9 := hK.sub (tys' := [(co, .long)]) [1] rfl
    refine W.widen (k := 1) (n := 6) (Nat.le_of_ble_eq_true rfl) (Nat.le_of_ble_eq_true rfl) ?_
    exact W.iret (v := 1) hx hb hr (fun t ht hW => ⟨⟨1, f0, rfl, ⟨0, tx_at2 (P := ctIs p0) (n := 1) (m := 0) (by decide) (by decide) hk9, fun h => absurd h (by decide)⟩, by rw [ht]; exact hP9, va_K.moved hW.alike hK9, hD9⟩, hS.F ht⟩) hS.2.2 dL_count_14
  ·
    try dsimp only at hw
    have jr_1 := hw
    obtain ⟨hP, hD⟩ := va_join (wr := [(qo, .inl (co, 1, .inr (.inl f0)))]) (w1 := []) hP hD [0, 1] [2] rfl rfl (by decide) (by decide) hk1 hFc tx_P0 tx_D0
    clear hk1 hz1 ht hPc hDc hKc
    generalize H1 = H at hP hS ⊢
    have hP : va_P (dC, dI) vwCl [(qo, .inl (co, 1, .inr (.inl f0)))] H := hP
    have hD : va_D A [(qo, .inl (co, 1, .inr (.inl f0)))] := hD
    refine W.widen (k := 1) (n := 6) (Nat.le_of_ble_eq_true rfl) (Nat.le_of_ble_eq_true rfl) ?_
    refine W.eq (g2 := F0 m 7 ls [.int r_1, .int 0, .ref qo]) rfl ?_
    refine lv_i2l (v := r_1.toInt64) hx hb dL_count_7 rfl ?_
    refine va_last (i := 0) hx hb hK hP hD hS 0 1 rfl rfl (by unfold vp_in; decide) dL_count_8 (fun H locs hP hD hS => ?_)
    have hP : va_P (dC, dI) vwCl [(qo, .inl (co, 1, .inr (.inl (vp_updL f0 (0 : Int32).toNatClampNeg r_1.toInt64))))] H := hP
    have hD : va_D A [(qo, .inl (co, 1, .inr (.inl (vp_updL f0 (0 : Int32).toNatClampNeg r_1.toInt64))))] := hD
    refine lv_goto (tgt := 15) hx hb dL_count_9 (by decide) ?_
    refine lv_iconst (v := 0) hx hb dL_count_15 (by decide) ?_
    have hP9 := hP.sub (ws' := [(qo, .inl (co, 1, .inr (.inl (vp_updL f0 (0 : Int32).toNatClampNeg r_1.toInt64))))]) [0] rfl
    have hD9 := hD.sub (ws' := [(qo, .inl (co, 1, .inr (.inl (vp_updL f0 (0 : Int32).toNatClampNeg r_1.toInt64))))]) [0] (by decide) rfl
    have hK9 := hK.sub (tys' := [(co, .long)]) [1] rfl
    refine W.widen (k := 1) (n := 6) (Nat.le_of_ble_eq_true rfl) (Nat.le_of_ble_eq_true rfl) ?_
    exact W.iret (v := 0) hx hb hr (fun t ht hW => ⟨⟨0, (vp_updL f0 (0 : Int32).toNatClampNeg r_1.toInt64), rfl, ⟨r_1, tx_at (P := fun z => ctIs p0 z r_1.toInt) (n := 0) (by decide) jr_1, fun _ => tx_up0⟩, by rw [ht]; exact hP9, va_K.moved hW.alike hK9, hD9⟩, hS.F ht⟩) hS.2.2 dL_count_16
