set_option maxHeartbeats 4000000 in
set_option maxRecDepth 100000 in
/-- place 0 is taken -/
theorem c_X8_born (l : Launch) (dC : Nat → ClassId) (dI : Nat → Nat → Nat) (sz : Nat) (h0 : Nat) (th : Int32) (q1 : Nat) (q3 : Nat) (q6 : Nat) (q7 : Nat) (q8 : Nat) (c1 : ClassId) (c3 : ClassId) (c6 : ClassId) (c7 : ClassId) (c8 : ClassId) (v2 : Value) (v4 : Value) (v5 : Value) (v9 : Value) (v10 : Value) (v11 : Value) (v12 : Value) (v13 : Value) (v14 : Value) (v15 : Value) (v16 : Value) (p1 : Int32) : Met l yX8_born wsX8_born ({ frames := 0, cells := 0, slots := 0, locals := 0 }) (va_Pc [.ref h0, .int 0, .int p1] (pk_Pre (dC, dI) [(h0, .inr (8, [.int th, .ref q1, v2, .ref q3, v4, v5, .ref q6, .ref q7, .ref q8, v9, v10, v11, v12, v13, v14, v15, v16])), (q1, .inl (c1, 16, .inl (fun _ => (0 : Int32)))), (q3, .inl (c3, 16, .inl (fun _ => (0 : Int32)))), (q6, .inl (c6, 16, .inl (fun _ => (0 : Int32)))), (q7, .inl (c7, 16, .inl (fun _ => (0 : Int32)))), (q8, .inl (c8, 16, .inl (fun _ => (0 : Int32))))] [(c1, .int), (c3, .int), (c6, .int), (c7, .int), (c8, .int)] sz)) (va_Qi (fun (r : Int32) (_ : Unit) => r = 0) (fun (_ : Unit) (t : State) => va_P (dC, dI) vwCl [(h0, .inr (8, [.int th, .ref q1, v2, .ref q3, v4, v5, .ref q6, .ref q7, .ref q8, v9, v10, v11, v12, v13, v14, v15, v16]))] t.heap ∧ va_K (dC, dI) vwCl [] t ∧ va_D (va_A [(h0, .inr (8, [.int th, .ref q1, v2, .ref q3, v4, v5, .ref q6, .ref q7, .ref q8, v9, v10, v11, v12, v13, v14, v15, v16])), (q1, .inl (c1, 16, .inl (fun _ => (0 : Int32)))), (q3, .inl (c3, 16, .inl (fun _ => (0 : Int32)))), (q6, .inl (c6, 16, .inl (fun _ => (0 : Int32)))), (q7, .inl (c7, 16, .inl (fun _ => (0 : Int32)))), (q8, .inl (c8, 16, .inl (fun _ => (0 : Int32))))] sz) [(h0, .inr (8, [.int th, .ref q1, v2, .ref q3, v4, v5, .ref q6, .ref q7, .ref q8, v9, v10, v11, v12, v13, v14, v15, v16]))]) (va_A [(h0, .inr (8, [.int th, .ref q1, v2, .ref q3, v4, v5, .ref q6, .ref q7, .ref q8, v9, v10, v11, v12, v13, v14, v15, v16])), (q1, .inl (c1, 16, .inl (fun _ => (0 : Int32)))), (q3, .inl (c3, 16, .inl (fun _ => (0 : Int32)))), (q6, .inl (c6, 16, .inl (fun _ => (0 : Int32)))), (q7, .inl (c7, 16, .inl (fun _ => (0 : Int32)))), (q8, .inl (c8, 16, .inl (fun _ => (0 : Int32))))] sz)) 0 0 (va_A [(h0, .inr (8, [.int th, .ref q1, v2, .ref q3, v4, v5, .ref q6, .ref q7, .ref q8, v9, v10, v11, v12, v13, v14, v15, v16])), (q1, .inl (c1, 16, .inl (fun _ => (0 : Int32)))), (q3, .inl (c3, 16, .inl (fun _ => (0 : Int32)))), (q6, .inl (c6, 16, .inl (fun _ => (0 : Int32)))), (q7, .inl (c7, 16, .inl (fun _ => (0 : Int32)))), (q8, .inl (c8, 16, .inl (fun _ => (0 : Int32))))] sz) := by
  refine Met.ofW (cc := cX8_born) (maxL := 3) (ret := (some .int)) (by decide) rfl ?_
  intro p e s m args below meth c s₁ B hml hv
  obtain ⟨rfl, hsz, hP, hK, hD0⟩ := hv
  have hx := B.exec
  have hb := B.bytes
  have hr := B.returns
  have hts := atoms_spec (ws := wsX8_born) B.pre
  have hown : s.vm.findClass RX8 = some m.cls := findClass_of_methodNamed B.named
  have hlocks := B.notSynchronized
  subst hsz
  have hD := hD0.self (sz := s.heap.size)
  generalize hAe : va_A [(h0, .inr (8, [.int th, .ref q1, v2, .ref q3, v4, v5, .ref q6, .ref q7, .ref q8, v9, v10, v11, v12, v13, v14, v15, v16])), (q1, .inl (c1, 16, .inl (fun _ => (0 : Int32)))), (q3, .inl (c3, 16, .inl (fun _ => (0 : Int32)))), (q6, .inl (c6, 16, .inl (fun _ => (0 : Int32)))), (q7, .inl (c7, 16, .inl (fun _ => (0 : Int32)))), (q8, .inl (c8, 16, .inl (fun _ => (0 : Int32))))] s.heap.size = A at hD ⊢
  have hA : ∀ q : Nat, s.heap.size ≤ q → A q := fun q h => by rw [← hAe]; exact Or.inr h
  have hS : va_S A s.heap s.heap [] := va_S.rf
  have hP : va_P (dC, dI) vwCl [(h0, .inr (8, [.int th, .ref q1, v2, .ref q3, v4, v5, .ref q6, .ref q7, .ref q8, v9, v10, v11, v12, v13, v14, v15, v16])), (q1, .inl (c1, 16, .inl (fun _ => (0 : Int32)))), (q3, .inl (c3, 16, .inl (fun _ => (0 : Int32)))), (q6, .inl (c6, 16, .inl (fun _ => (0 : Int32)))), (q7, .inl (c7, 16, .inl (fun _ => (0 : Int32)))), (q8, .inl (c8, 16, .inl (fun _ => (0 : Int32))))] s.heap := hP
  have hl := lv_entry ([.ref h0, .int 0, .int p1]) (n := 3) (Nat.le_of_ble_eq_true rfl)
  rw [lg_entry_eq]
  generalize (lg_sl ([.ref h0, .int 0, .int p1]) ++ List.replicate (3 - (lg_sl ([.ref h0, .int 0, .int p1])).length) Slot.unset).toArray = ls at hl ⊢
  have hl : lv_has ls 3 [(0, .ref h0), (1, .int 0), (2, .int p1)] := hl
  refine lv_aload_n hx hb dX8_born_0 rfl (lv_at hl 0 rfl) ?_
  refine va_get (D := (dC, dI)) (ci := 8) (v := .ref q1) (C := RX8) (T := TX8) (N := 17) hx hb hts (by decide +kernel) hown hK hP 0 rfl rfl 1 (by decide) (hts (.fieldLink RX8 7 "KeyAtlasModel" "kind" "[I") (by decide +kernel)) (fun _ h9 => h9) rfl dX8_born_1 ?_
  refine lv_iload_n hx hb dX8_born_4 rfl (lv_at hl 1 rfl) ?_
  refine lv_iload_n hx hb dX8_born_5 rfl (lv_at hl 2 rfl) ?_
  refine va_iast (i := 0) hx hb hK hP hD hS 1 0 rfl rfl (by unfold vp_in; decide) dX8_born_6 (fun H locs hP hD hS => ?_)
  have hP : va_P (dC, dI) vwCl [(h0, .inr (8, [.int th, .ref q1, v2, .ref q3, v4, v5, .ref q6, .ref q7, .ref q8, v9, v10, v11, v12, v13, v14, v15, v16])), (q1, .inl (c1, 16, .inl (upd (fun _ => (0 : Int32)) (0 : Int32).toNatClampNeg p1))), (q3, .inl (c3, 16, .inl (fun _ => (0 : Int32)))), (q6, .inl (c6, 16, .inl (fun _ => (0 : Int32)))), (q7, .inl (c7, 16, .inl (fun _ => (0 : Int32)))), (q8, .inl (c8, 16, .inl (fun _ => (0 : Int32))))] H := hP
  have hD : va_D A [(h0, .inr (8, [.int th, .ref q1, v2, .ref q3, v4, v5, .ref q6, .ref q7, .ref q8, v9, v10, v11, v12, v13, v14, v15, v16])), (q1, .inl (c1, 16, .inl (upd (fun _ => (0 : Int32)) (0 : Int32).toNatClampNeg p1))), (q3, .inl (c3, 16, .inl (fun _ => (0 : Int32)))), (q6, .inl (c6, 16, .inl (fun _ => (0 : Int32)))), (q7, .inl (c7, 16, .inl (fun _ => (0 : Int32)))), (q8, .inl (c8, 16, .inl (fun _ => (0 : Int32))))] := hD
  refine lv_aload_n hx hb dX8_born_7 rfl (lv_at hl 0 rfl) ?_
  refine va_get (D := (dC, dI)) (ci := 8) (v := .ref q3) (C := RX8) (T := TX8) (N := 17) hx hb hts (by decide +kernel) hown hK hP 0 rfl rfl 3 (by decide) (hts (.fieldLink RX8 17 "KeyAtlasModel" "size" "[I") (by decide +kernel)) (fun _ h9 => h9) rfl dX8_born_8 ?_
  refine lv_iload_n hx hb dX8_born_11 rfl (lv_at hl 1 rfl) ?_
  refine lv_iconst (v := 0) hx hb dX8_born_12 (by decide) ?_
  refine va_iast (i := 0) hx hb hK hP hD hS 2 1 rfl rfl (by unfold vp_in; decide) dX8_born_13 (fun H locs hP hD hS => ?_)
  have hP : va_P (dC, dI) vwCl [(h0, .inr (8, [.int th, .ref q1, v2, .ref q3, v4, v5, .ref q6, .ref q7, .ref q8, v9, v10, v11, v12, v13, v14, v15, v16])), (q1, .inl (c1, 16, .inl (upd (fun _ => (0 : Int32)) (0 : Int32).toNatClampNeg p1))), (q3, .inl (c3, 16, .inl (upd (fun _ => (0 : Int32)) (0 : Int32).toNatClampNeg 0))), (q6, .inl (c6, 16, .inl (fun _ => (0 : Int32)))), (q7, .inl (c7, 16, .inl (fun _ => (0 : Int32)))), (q8, .inl (c8, 16, .inl (fun _ => (0 : Int32))))] H := hP
  have hD : va_D A [(h0, .inr (8, [.int th, .ref q1, v2, .ref q3, v4, v5, .ref q6, .ref q7, .ref q8, v9, v10, v11, v12, v13, v14, v15, v16])), (q1, .inl (c1, 16, .inl (upd (fun _ => (0 : Int32)) (0 : Int32).toNatClampNeg p1))), (q3, .inl (c3, 16, .inl (upd (fun _ => (0 : Int32)) (0 : Int32).toNatClampNeg 0))), (q6, .inl (c6, 16, .inl (fun _ => (0 : Int32)))), (q7, .inl (c7, 16, .inl (fun _ => (0 : Int32)))), (q8, .inl (c8, 16, .inl (fun _ => (0 : Int32))))] := hD
  refine lv_aload_n hx hb dX8_born_14 rfl (lv_at hl 0 rfl) ?_
  refine va_get (D := (dC, dI)) (ci := 8) (v := .ref q6) (C := RX8) (T := TX8) (N := 17) hx hb hts (by decide +kernel) hown hK hP 0 rfl rfl 6 (by decide) (hts (.fieldLink RX8 26 "KeyAtlasModel" "table" "[I") (by decide +kernel)) (fun _ h9 => h9) rfl dX8_born_15 ?_
  refine lv_iload_n hx hb dX8_born_18 rfl (lv_at hl 1 rfl) ?_
  refine lv_iconst (v := 0) hx hb dX8_born_19 (by decide) ?_
  refine va_iast (i := 0) hx hb hK hP hD hS 3 2 rfl rfl (by unfold vp_in; decide) dX8_born_20 (fun H locs hP hD hS => ?_)
  have hP : va_P (dC, dI) vwCl [(h0, .inr (8, [.int th, .ref q1, v2, .ref q3, v4, v5, .ref q6, .ref q7, .ref q8, v9, v10, v11, v12, v13, v14, v15, v16])), (q1, .inl (c1, 16, .inl (upd (fun _ => (0 : Int32)) (0 : Int32).toNatClampNeg p1))), (q3, .inl (c3, 16, .inl (upd (fun _ => (0 : Int32)) (0 : Int32).toNatClampNeg 0))), (q6, .inl (c6, 16, .inl (upd (fun _ => (0 : Int32)) (0 : Int32).toNatClampNeg 0))), (q7, .inl (c7, 16, .inl (fun _ => (0 : Int32)))), (q8, .inl (c8, 16, .inl (fun _ => (0 : Int32))))] H := hP
  have hD : va_D A [(h0, .inr (8, [.int th, .ref q1, v2, .ref q3, v4, v5, .ref q6, .ref q7, .ref q8, v9, v10, v11, v12, v13, v14, v15, v16])), (q1, .inl (c1, 16, .inl (upd (fun _ => (0 : Int32)) (0 : Int32).toNatClampNeg p1))), (q3, .inl (c3, 16, .inl (upd (fun _ => (0 : Int32)) (0 : Int32).toNatClampNeg 0))), (q6, .inl (c6, 16, .inl (upd (fun _ => (0 : Int32)) (0 : Int32).toNatClampNeg 0))), (q7, .inl (c7, 16, .inl (fun _ => (0 : Int32)))), (q8, .inl (c8, 16, .inl (fun _ => (0 : Int32))))] := hD
  refine lv_aload_n hx hb dX8_born_21 rfl (lv_at hl 0 rfl) ?_
  refine va_get (D := (dC, dI)) (ci := 8) (v := .ref q7) (C := RX8) (T := TX8) (N := 17) hx hb hts (by decide +kernel) hown hK hP 0 rfl rfl 7 (by decide) (hts (.fieldLink RX8 29 "KeyAtlasModel" "changes" "[I") (by decide +kernel)) (fun _ h9 => h9) rfl dX8_born_22 ?_
  refine lv_iload_n hx hb dX8_born_25 rfl (lv_at hl 1 rfl) ?_
  refine lv_iconst (v := 0) hx hb dX8_born_26 (by decide) ?_
  refine va_iast (i := 0) hx hb hK hP hD hS 4 3 rfl rfl (by unfold vp_in; decide) dX8_born_27 (fun H locs hP hD hS => ?_)
  have hP : va_P (dC, dI) vwCl [(h0, .inr (8, [.int th, .ref q1, v2, .ref q3, v4, v5, .ref q6, .ref q7, .ref q8, v9, v10, v11, v12, v13, v14, v15, v16])), (q1, .inl (c1, 16, .inl (upd (fun _ => (0 : Int32)) (0 : Int32).toNatClampNeg p1))), (q3, .inl (c3, 16, .inl (upd (fun _ => (0 : Int32)) (0 : Int32).toNatClampNeg 0))), (q6, .inl (c6, 16, .inl (upd (fun _ => (0 : Int32)) (0 : Int32).toNatClampNeg 0))), (q7, .inl (c7, 16, .inl (upd (fun _ => (0 : Int32)) (0 : Int32).toNatClampNeg 0))), (q8, .inl (c8, 16, .inl (fun _ => (0 : Int32))))] H := hP
  have hD : va_D A [(h0, .inr (8, [.int th, .ref q1, v2, .ref q3, v4, v5, .ref q6, .ref q7, .ref q8, v9, v10, v11, v12, v13, v14, v15, v16])), (q1, .inl (c1, 16, .inl (upd (fun _ => (0 : Int32)) (0 : Int32).toNatClampNeg p1))), (q3, .inl (c3, 16, .inl (upd (fun _ => (0 : Int32)) (0 : Int32).toNatClampNeg 0))), (q6, .inl (c6, 16, .inl (upd (fun _ => (0 : Int32)) (0 : Int32).toNatClampNeg 0))), (q7, .inl (c7, 16, .inl (upd (fun _ => (0 : Int32)) (0 : Int32).toNatClampNeg 0))), (q8, .inl (c8, 16, .inl (fun _ => (0 : Int32))))] := hD
  refine lv_aload_n hx hb dX8_born_28 rfl (lv_at hl 0 rfl) ?_
  refine va_get (D := (dC, dI)) (ci := 8) (v := .ref q8) (C := RX8) (T := TX8) (N := 17) hx hb hts (by decide +kernel) hown hK hP 0 rfl rfl 8 (by decide) (hts (.fieldLink RX8 32 "KeyAtlasModel" "parent" "[I") (by decide +kernel)) (fun _ h9 => h9) rfl dX8_born_29 ?_
  refine lv_iload_n hx hb dX8_born_32 rfl (lv_at hl 1 rfl) ?_
  refine lv_iconst (v := (-1)) hx hb dX8_born_33 (by decide) ?_
  refine va_iast (i := 0) hx hb hK hP hD hS 5 4 rfl rfl (by unfold vp_in; decide) dX8_born_34 (fun H locs hP hD hS => ?_)
  have hP : va_P (dC, dI) vwCl [(h0, .inr (8, [.int th, .ref q1, v2, .ref q3, v4, v5, .ref q6, .ref q7, .ref q8, v9, v10, v11, v12, v13, v14, v15, v16])), (q1, .inl (c1, 16, .inl (upd (fun _ => (0 : Int32)) (0 : Int32).toNatClampNeg p1))), (q3, .inl (c3, 16, .inl (upd (fun _ => (0 : Int32)) (0 : Int32).toNatClampNeg 0))), (q6, .inl (c6, 16, .inl (upd (fun _ => (0 : Int32)) (0 : Int32).toNatClampNeg 0))), (q7, .inl (c7, 16, .inl (upd (fun _ => (0 : Int32)) (0 : Int32).toNatClampNeg 0))), (q8, .inl (c8, 16, .inl (upd (fun _ => (0 : Int32)) (0 : Int32).toNatClampNeg (-1))))] H := hP
  have hD : va_D A [(h0, .inr (8, [.int th, .ref q1, v2, .ref q3, v4, v5, .ref q6, .ref q7, .ref q8, v9, v10, v11, v12, v13, v14, v15, v16])), (q1, .inl (c1, 16, .inl (upd (fun _ => (0 : Int32)) (0 : Int32).toNatClampNeg p1))), (q3, .inl (c3, 16, .inl (upd (fun _ => (0 : Int32)) (0 : Int32).toNatClampNeg 0))), (q6, .inl (c6, 16, .inl (upd (fun _ => (0 : Int32)) (0 : Int32).toNatClampNeg 0))), (q7, .inl (c7, 16, .inl (upd (fun _ => (0 : Int32)) (0 : Int32).toNatClampNeg 0))), (q8, .inl (c8, 16, .inl (upd (fun _ => (0 : Int32)) (0 : Int32).toNatClampNeg (-1))))] := hD
  refine lv_iload_n hx hb dX8_born_35 rfl (lv_at hl 1 rfl) ?_
  have hP9 := hP.sub (ws' := [(h0, .inr (8, [.int th, .ref q1, v2, .ref q3, v4, v5, .ref q6, .ref q7, .ref q8, v9, v10, v11, v12, v13, v14, v15, v16]))]) [0] rfl
  have hD9 := hD.sub (ws' := [(h0, .inr (8, [.int th, .ref q1, v2, .ref q3, v4, v5, .ref q6, .ref q7, .ref q8, v9, v10, v11, v12, v13, v14, v15, v16]))]) [0] (by decide) rfl
  have hK9 := hK.sub (tys' := []) [] rfl
  refine W.widen (k := 0) (n := 0) (Nat.le_of_ble_eq_true rfl) (Nat.le_of_ble_eq_true rfl) ?_
  exact W.iret (v := 0) hx hb hr (fun t ht hW => ⟨⟨0, (), rfl, rfl, by rw [ht]; exact hP9, va_K.moved hW.alike hK9, hD9⟩, hS.F ht⟩) hS.2.2 dX8_born_36
set_option maxHeartbeats 4000000 in
set_option maxRecDepth 100000 in
/-- make of the reference, fresh -/
theorem c_X8_make (l : Launch) (dC : Nat → ClassId) (dI : Nat → Nat → Nat) (sz : Nat) (h0 : Nat) (th : Int32) (q1 : Nat) (q3 : Nat) (q4 : Nat) (q5 : Nat) (q6 : Nat) (q7 : Nat) (q8 : Nat) (c1 : ClassId) (c3 : ClassId) (c4 : ClassId) (c5 : ClassId) (c6 : ClassId) (c7 : ClassId) (c8 : ClassId) (v2 : Value) (v9 : Value) (v10 : Value) (v11 : Value) (v12 : Value) (v13 : Value) (v14 : Value) (v15 : Value) (v16 : Value) (p0 : Int32) (p1 : Int32) (p2 : Int32) : Met l yX8_make wsX8_make ({ frames := 1, cells := 0, slots := 0, locals := 40 }) (va_Pc [.ref h0, .int p0, .int p1, .int p2] (pk_Pre (dC, dI) [(h0, .inr (8, [.int th, .ref q1, v2, .ref q3, .ref q4, .ref q5, .ref q6, .ref q7, .ref q8, v9, v10, v11, v12, v13, v14, v15, v16])), (q1, .inl (c1, 16, .inl (fun _ => (0 : Int32)))), (q3, .inl (c3, 16, .inl (fun _ => (0 : Int32)))), (q4, .inl (c4, 16, .inl (fun _ => (0 : Int32)))), (q5, .inl (c5, 16, .inl (fun _ => (0 : Int32)))), (q6, .inl (c6, 16, .inl (fun _ => (0 : Int32)))), (q7, .inl (c7, 16, .inl (fun _ => (0 : Int32)))), (q8, .inl (c8, 16, .inl (fun _ => (0 : Int32))))] [(c1, .int), (c3, .int), (c4, .int), (c5, .int), (c6, .int), (c7, .int), (c8, .int)] sz)) (va_Qi (fun (r : Int32) (u : Int32) => mkIs p0 p1 p2 u.toInt ∧ (u.toInt = 0 → r = 0)) (fun (u : Int32) (t : State) => va_P (dC, dI) vwCl [(h0, .inr (8, [.int u, .ref q1, v2, .ref q3, .ref q4, .ref q5, .ref q6, .ref q7, .ref q8, v9, v10, v11, v12, v13, v14, v15, v16]))] t.heap ∧ va_K (dC, dI) vwCl [] t ∧ va_D (va_A [(h0, .inr (8, [.int th, .ref q1, v2, .ref q3, .ref q4, .ref q5, .ref q6, .ref q7, .ref q8, v9, v10, v11, v12, v13, v14, v15, v16])), (q1, .inl (c1, 16, .inl (fun _ => (0 : Int32)))), (q3, .inl (c3, 16, .inl (fun _ => (0 : Int32)))), (q4, .inl (c4, 16, .inl (fun _ => (0 : Int32)))), (q5, .inl (c5, 16, .inl (fun _ => (0 : Int32)))), (q6, .inl (c6, 16, .inl (fun _ => (0 : Int32)))), (q7, .inl (c7, 16, .inl (fun _ => (0 : Int32)))), (q8, .inl (c8, 16, .inl (fun _ => (0 : Int32))))] sz) [(h0, .inr (8, [.int u, .ref q1, v2, .ref q3, .ref q4, .ref q5, .ref q6, .ref q7, .ref q8, v9, v10, v11, v12, v13, v14, v15, v16]))]) (va_A [(h0, .inr (8, [.int th, .ref q1, v2, .ref q3, .ref q4, .ref q5, .ref q6, .ref q7, .ref q8, v9, v10, v11, v12, v13, v14, v15, v16])), (q1, .inl (c1, 16, .inl (fun _ => (0 : Int32)))), (q3, .inl (c3, 16, .inl (fun _ => (0 : Int32)))), (q4, .inl (c4, 16, .inl (fun _ => (0 : Int32)))), (q5, .inl (c5, 16, .inl (fun _ => (0 : Int32)))), (q6, .inl (c6, 16, .inl (fun _ => (0 : Int32)))), (q7, .inl (c7, 16, .inl (fun _ => (0 : Int32)))), (q8, .inl (c8, 16, .inl (fun _ => (0 : Int32))))] sz)) 0 0 (va_A [(h0, .inr (8, [.int th, .ref q1, v2, .ref q3, .ref q4, .ref q5, .ref q6, .ref q7, .ref q8, v9, v10, v11, v12, v13, v14, v15, v16])), (q1, .inl (c1, 16, .inl (fun _ => (0 : Int32)))), (q3, .inl (c3, 16, .inl (fun _ => (0 : Int32)))), (q4, .inl (c4, 16, .inl (fun _ => (0 : Int32)))), (q5, .inl (c5, 16, .inl (fun _ => (0 : Int32)))), (q6, .inl (c6, 16, .inl (fun _ => (0 : Int32)))), (q7, .inl (c7, 16, .inl (fun _ => (0 : Int32)))), (q8, .inl (c8, 16, .inl (fun _ => (0 : Int32))))] sz) := by
  refine Met.ofW (cc := cX8_make) (maxL := 6) (ret := (some .int)) (by decide) rfl ?_
  intro p e s m args below meth c s₁ B hml hv
  obtain ⟨rfl, hsz, hP, hK, hD0⟩ := hv
  have hx := B.exec
  have hb := B.bytes
  have hr := B.returns
  have hts := atoms_spec (ws := wsX8_make) B.pre
  have hown : s.vm.findClass RX8 = some m.cls := findClass_of_methodNamed B.named
  have hlocks := B.notSynchronized
  subst hsz
  have hD := hD0.self (sz := s.heap.size)
  generalize hAe : va_A [(h0, .inr (8, [.int th, .ref q1, v2, .ref q3, .ref q4, .ref q5, .ref q6, .ref q7, .ref q8, v9, v10, v11, v12, v13, v14, v15, v16])), (q1, .inl (c1, 16, .inl (fun _ => (0 : Int32)))), (q3, .inl (c3, 16, .inl (fun _ => (0 : Int32)))), (q4, .inl (c4, 16, .inl (fun _ => (0 : Int32)))), (q5, .inl (c5, 16, .inl (fun _ => (0 : Int32)))), (q6, .inl (c6, 16, .inl (fun _ => (0 : Int32)))), (q7, .inl (c7, 16, .inl (fun _ => (0 : Int32)))), (q8, .inl (c8, 16, .inl (fun _ => (0 : Int32))))] s.heap.size = A at hD ⊢
  have hA : ∀ q : Nat, s.heap.size ≤ q → A q := fun q h => by rw [← hAe]; exact Or.inr h
  have hS : va_S A s.heap s.heap [] := va_S.rf
  have hP : va_P (dC, dI) vwCl [(h0, .inr (8, [.int th, .ref q1, v2, .ref q3, .ref q4, .ref q5, .ref q6, .ref q7, .ref q8, v9, v10, v11, v12, v13, v14, v15, v16])), (q1, .inl (c1, 16, .inl (fun _ => (0 : Int32)))), (q3, .inl (c3, 16, .inl (fun _ => (0 : Int32)))), (q4, .inl (c4, 16, .inl (fun _ => (0 : Int32)))), (q5, .inl (c5, 16, .inl (fun _ => (0 : Int32)))), (q6, .inl (c6, 16, .inl (fun _ => (0 : Int32)))), (q7, .inl (c7, 16, .inl (fun _ => (0 : Int32)))), (q8, .inl (c8, 16, .inl (fun _ => (0 : Int32))))] s.heap := hP
  have hl := lv_entry ([.ref h0, .int p0, .int p1, .int p2]) (n := 6) (Nat.le_of_ble_eq_true rfl)
  rw [lg_entry_eq]
  generalize (lg_sl ([.ref h0, .int p0, .int p1, .int p2]) ++ List.replicate (6 - (lg_sl ([.ref h0, .int p0, .int p1, .int p2])).length) Slot.unset).toArray = ls at hl ⊢
  have hl : lv_has ls 6 [(0, .ref h0), (1, .int p0), (2, .int p1), (3, .int p2)] := hl
  refine lv_iload_n hx hb dX8_make_0 rfl (lv_at hl 1 rfl) ?_
  refine lv_iconst (v := 0) hx hb dX8_make_1 (by decide) ?_
  refine lv_iconst (v := 2) hx hb dX8_make_2 (by decide) ?_
  have hPc := hP.sub (ws' := []) [] rfl
  have hDc := hD.sub (ws' := []) [] (by decide) rfl
  have hKc := hK.sub (tys' := []) [] rfl
  have hFc := va_free (wc := []) hD hS hA [] rfl
  refine va_calli (va_runS (As := [.int p0, .int 0, .int 2]) (rest := []) ⟨hx, hb, hml, hown, hts⟩ (c_X8_in l  dC dI s.heap.size p0 0 2 0 2 (by decide) (by decide)) (va_cwS 3 hts gX8_make_X8_in rfl rfl rfl (by decide +kernel) ⟨(Nat.le_of_ble_eq_true rfl), (Nat.le_of_ble_eq_true rfl)⟩) ⟨pk_blind, pk_call hPc hKc hDc⟩ rfl rfl hl.1 rfl (lv_room (Nat.le_of_ble_eq_true rfl)) dX8_make_3 ⟨(Nat.le_of_ble_eq_true rfl), (Nat.le_of_ble_eq_true rfl)⟩) hS (fun q _ h => hFc q h) hFc (fun r_1 ur_1 t H1 locs ht hvm hw hB hz1 hk1 hS => ?_)
  try dsimp only at hw
  have jr_1 := hw
  obtain ⟨hP, hD⟩ := va_join (wr := [(h0, .inr (8, [.int th, .ref q1, v2, .ref q3, .ref q4, .ref q5, .ref q6, .ref q7, .ref q8, v9, v10, v11, v12, v13, v14, v15, v16])), (q1, .inl (c1, 16, .inl (fun _ => (0 : Int32)))), (q3, .inl (c3, 16, .inl (fun _ => (0 : Int32)))), (q4, .inl (c4, 16, .inl (fun _ => (0 : Int32)))), (q5, .inl (c5, 16, .inl (fun _ => (0 : Int32)))), (q6, .inl (c6, 16, .inl (fun _ => (0 : Int32)))), (q7, .inl (c7, 16, .inl (fun _ => (0 : Int32)))), (q8, .inl (c8, 16, .inl (fun _ => (0 : Int32))))]) (w1 := []) hP hD [] [0, 1, 2, 3, 4, 5, 6, 7] rfl rfl (by decide) (by decide) hk1 hFc tx_P0 tx_D0
  clear hk1 hz1 ht hPc hDc hKc
  generalize H1 = H at hP hS ⊢
  have hP : va_P (dC, dI) vwCl [(h0, .inr (8, [.int th, .ref q1, v2, .ref q3, .ref q4, .ref q5, .ref q6, .ref q7, .ref q8, v9, v10, v11, v12, v13, v14, v15, v16])), (q1, .inl (c1, 16, .inl (fun _ => (0 : Int32)))), (q3, .inl (c3, 16, .inl (fun _ => (0 : Int32)))), (q4, .inl (c4, 16, .inl (fun _ => (0 : Int32)))), (q5, .inl (c5, 16, .inl (fun _ => (0 : Int32)))), (q6, .inl (c6, 16, .inl (fun _ => (0 : Int32)))), (q7, .inl (c7, 16, .inl (fun _ => (0 : Int32)))), (q8, .inl (c8, 16, .inl (fun _ => (0 : Int32))))] H := hP
  have hD : va_D A [(h0, .inr (8, [.int th, .ref q1, v2, .ref q3, .ref q4, .ref q5, .ref q6, .ref q7, .ref q8, v9, v10, v11, v12, v13, v14, v15, v16])), (q1, .inl (c1, 16, .inl (fun _ => (0 : Int32)))), (q3, .inl (c3, 16, .inl (fun _ => (0 : Int32)))), (q4, .inl (c4, 16, .inl (fun _ => (0 : Int32)))), (q5, .inl (c5, 16, .inl (fun _ => (0 : Int32)))), (q6, .inl (c6, 16, .inl (fun _ => (0 : Int32)))), (q7, .inl (c7, 16, .inl (fun _ => (0 : Int32)))), (q8, .inl (c8, 16, .inl (fun _ => (0 : Int32))))] := hD
  refine W.widen (k := 0) (n := 0) (Nat.le_of_ble_eq_true rfl) (Nat.le_of_ble_eq_true rfl) ?_
  refine W.eq (g2 := F0 m 6 ls [.int r_1]) rfl ?_
  refine lv_if_ne (tgt := 15) hx hb dX8_make_6 (by decide) (fun c_2 => ?_) (fun c_2 => ?_)
  ·
    have ic_2 : ¬ r_1.toInt = 0 := tx_ne rfl (by decide) c_2
    refine lv_iload_n hx hb dX8_make_15 rfl (lv_at hl 1 rfl) ?_
    refine lv_if_ne (tgt := 29) hx hb dX8_make_16 (by decide) (fun c_3 => ?_) (fun c_3 => ?_)
    ·
      have ic_3 : ¬ p0.toInt = 0 := tx_ne rfl (by decide) c_3
      refine lv_iload_n hx hb dX8_make_29 rfl (lv_at hl 1 rfl) ?_
      refine lv_if_ne (tgt := 57) hx hb dX8_make_30 (by decide) (fun c_4 => ?_) (fun c_4 => ?_)
      ·
        have ic_4 : ¬ p0.toInt = 0 := tx_ne rfl (by decide) c_4
        refine lv_iload_n hx hb dX8_make_57 rfl (lv_at hl 1 rfl) ?_
        refine lv_iconst (v := 1) hx hb dX8_make_58 (by decide) ?_
        refine lv_icmp_ne (tgt := 90) hx hb dX8_make_59 (by decide) (fun c_5 => ?_) (fun c_5 => ?_)
        ·
          have ic_5 : ¬ p0.toInt = 1 := tx_ne rfl (by decide) c_5
          refine lv_iload_n hx hb dX8_make_90 rfl (lv_at hl 2 rfl) ?_
          refine lv_iconst (v := 0) hx hb dX8_make_91 (by decide) ?_
          refine lv_iconst (v := 3) hx hb dX8_make_92 (by decide) ?_
          have hPc := hP.sub (ws' := []) [] rfl
          have hDc := hD.sub (ws' := []) [] (by decide) rfl
          have hKc := hK.sub (tys' := []) [] rfl
          have hFc := va_free (wc := []) hD hS hA [] rfl
          refine va_calli (va_runS (As := [.int p1, .int 0, .int 3]) (rest := []) ⟨hx, hb, hml, hown, hts⟩ (c_X8_in l  dC dI H.size p1 0 3 0 3 (by decide) (by decide)) (va_cwS 3 hts gX8_make_X8_in rfl rfl rfl (by decide +kernel) ⟨(Nat.le_of_ble_eq_true rfl), (Nat.le_of_ble_eq_true rfl)⟩) ⟨pk_blind, pk_call hPc hKc hDc⟩ rfl rfl hl.1 rfl (lv_room (Nat.le_of_ble_eq_true rfl)) dX8_make_93 ⟨(Nat.le_of_ble_eq_true rfl), (Nat.le_of_ble_eq_true rfl)⟩) hS (fun q _ h => hFc q h) hFc (fun r_6 ur_6 t H1 locs ht hvm hw hB hz1 hk1 hS => ?_)
          try dsimp only at hw
          have jr_6 := hw
          obtain ⟨hP, hD⟩ := va_join (wr := [(h0, .inr (8, [.int th, .ref q1, v2, .ref q3, .ref q4, .ref q5, .ref q6, .ref q7, .ref q8, v9, v10, v11, v12, v13, v14, v15, v16])), (q1, .inl (c1, 16, .inl (fun _ => (0 : Int32)))), (q3, .inl (c3, 16, .inl (fun _ => (0 : Int32)))), (q4, .inl (c4, 16, .inl (fun _ => (0 : Int32)))), (q5, .inl (c5, 16, .inl (fun _ => (0 : Int32)))), (q6, .inl (c6, 16, .inl (fun _ => (0 : Int32)))), (q7, .inl (c7, 16, .inl (fun _ => (0 : Int32)))), (q8, .inl (c8, 16, .inl (fun _ => (0 : Int32))))]) (w1 := []) hP hD [] [0, 1, 2, 3, 4, 5, 6, 7] rfl rfl (by decide) (by decide) hk1 hFc tx_P0 tx_D0
          clear hk1 hz1 ht hPc hDc hKc
          generalize H1 = H at hP hS ⊢
          have hP : va_P (dC, dI) vwCl [(h0, .inr (8, [.int th, .ref q1, v2, .ref q3, .ref q4, .ref q5, .ref q6, .ref q7, .ref q8, v9, v10, v11, v12, v13, v14, v15, v16])), (q1, .inl (c1, 16, .inl (fun _ => (0 : Int32)))), (q3, .inl (c3, 16, .inl (fun _ => (0 : Int32)))), (q4, .inl (c4, 16, .inl (fun _ => (0 : Int32)))), (q5, .inl (c5, 16, .inl (fun _ => (0 : Int32)))), (q6, .inl (c6, 16, .inl (fun _ => (0 : Int32)))), (q7, .inl (c7, 16, .inl (fun _ => (0 : Int32)))), (q8, .inl (c8, 16, .inl (fun _ => (0 : Int32))))] H := hP
          have hD : va_D A [(h0, .inr (8, [.int th, .ref q1, v2, .ref q3, .ref q4, .ref q5, .ref q6, .ref q7, .ref q8, v9, v10, v11, v12, v13, v14, v15, v16])), (q1, .inl (c1, 16, .inl (fun _ => (0 : Int32)))), (q3, .inl (c3, 16, .inl (fun _ => (0 : Int32)))), (q4, .inl (c4, 16, .inl (fun _ => (0 : Int32)))), (q5, .inl (c5, 16, .inl (fun _ => (0 : Int32)))), (q6, .inl (c6, 16, .inl (fun _ => (0 : Int32)))), (q7, .inl (c7, 16, .inl (fun _ => (0 : Int32)))), (q8, .inl (c8, 16, .inl (fun _ => (0 : Int32))))] := hD
          refine W.widen (k := 0) (n := 0) (Nat.le_of_ble_eq_true rfl) (Nat.le_of_ble_eq_true rfl) ?_
          refine W.eq (g2 := F0 m 96 ls [.int r_6]) rfl ?_
          refine lv_istore (lv' := [(4, .int r_6), (0, .ref h0), (1, .int p0), (2, .int p1), (3, .int p2)]) hx hb dX8_make_96 hl (by decide) rfl (fun ls hl => ?_)
          refine lv_iload hx hb dX8_make_98 (lv_at hl 0 rfl) ?_
          refine lv_if_ne (tgt := 109) hx hb dX8_make_100 (by decide) (fun c_7 => ?_) (fun c_7 => ?_)
          ·
            have ic_7 : ¬ r_6.toInt = 0 := tx_ne rfl (by decide) c_7
            refine lv_aload_n hx hb dX8_make_109 rfl (lv_at hl 1 rfl) ?_
            have hPc := hP.sub (ws' := [(h0, .inr (8, [.int th, .ref q1, v2, .ref q3, .ref q4, .ref q5, .ref q6, .ref q7, .ref q8, v9, v10, v11, v12, v13, v14, v15, v16])), (q1, .inl (c1, 16, .inl (fun _ => (0 : Int32))))]) [0, 1] rfl
            have hDc := hD.sub (ws' := [(h0, .inr (8, [.int th, .ref q1, v2, .ref q3, .ref q4, .ref q5, .ref q6, .ref q7, .ref q8, v9, v10, v11, v12, v13, v14, v15, v16])), (q1, .inl (c1, 16, .inl (fun _ => (0 : Int32))))]) [0, 1] (by decide) rfl
            have hKc := hK.sub (tys' := [(c1, .int)]) [0] rfl
            have hFc := va_free (wc := [(h0, .inr (8, [.int th, .ref q1, v2, .ref q3, .ref q4, .ref q5, .ref q6, .ref q7, .ref q8, v9, v10, v11, v12, v13, v14, v15, v16])), (q1, .inl (c1, 16, .inl (fun _ => (0 : Int32))))]) hD hS hA [0, 1] rfl
            refine va_calli (va_runV (As := []) (rest := []) ⟨hx, hb, hml, hown, hts⟩ (c_X8_free l  dC dI H.size h0 q1 c1 th v2 (.ref q3) (.ref q4) (.ref q5) (.ref q6) (.ref q7) (.ref q8) v9 v10 v11 v12 v13 v14 v15 v16) (cwV 0 hts gX8_make_X8_free rfl rfl rfl (by decide +kernel) ⟨(Nat.le_of_ble_eq_true rfl), (Nat.le_of_ble_eq_true rfl)⟩) ⟨pk_blind, va_recv hKc hPc (ci := 8) (q0 := 0) rfl rfl, pk_call hPc hKc hDc⟩ rfl rfl hl.1 rfl (lv_room (Nat.le_of_ble_eq_true rfl)) dX8_make_110 ⟨(Nat.le_of_ble_eq_true rfl), (Nat.le_of_ble_eq_true rfl)⟩) hS (fun q _ h => hFc q h) hFc (fun r_8 ur_8 t H1 locs ht hvm hw hB hz1 hk1 hS => ?_)
            try dsimp only at hw
            obtain ⟨hP1, hK1, hD1⟩ := hB
            rw [ht] at hP1
            have hK1 := va_K.moved hvm.symm hK1
            obtain ⟨hP, hD⟩ := va_join (wr := [(q3, .inl (c3, 16, .inl (fun _ => (0 : Int32)))), (q4, .inl (c4, 16, .inl (fun _ => (0 : Int32)))), (q5, .inl (c5, 16, .inl (fun _ => (0 : Int32)))), (q6, .inl (c6, 16, .inl (fun _ => (0 : Int32)))), (q7, .inl (c7, 16, .inl (fun _ => (0 : Int32)))), (q8, .inl (c8, 16, .inl (fun _ => (0 : Int32))))]) (w1 := [(h0, .inr (8, [.int th, .ref q1, v2, .ref q3, .ref q4, .ref q5, .ref q6, .ref q7, .ref q8, v9, v10, v11, v12, v13, v14, v15, v16])), (q1, .inl (c1, 16, .inl (fun _ => (0 : Int32))))]) hP hD [0, 1] [2, 3, 4, 5, 6, 7] rfl rfl (by decide) (by decide) hk1 hFc hP1 hD1
            clear hk1 hz1 ht hPc hDc hKc
            generalize H1 = H at hP hS ⊢
            have hP : va_P (dC, dI) vwCl [(q3, .inl (c3, 16, .inl (fun _ => (0 : Int32)))), (q4, .inl (c4, 16, .inl (fun _ => (0 : Int32)))), (q5, .inl (c5, 16, .inl (fun _ => (0 : Int32)))), (q6, .inl (c6, 16, .inl (fun _ => (0 : Int32)))), (q7, .inl (c7, 16, .inl (fun _ => (0 : Int32)))), (q8, .inl (c8, 16, .inl (fun _ => (0 : Int32)))), (h0, .inr (8, [.int th, .ref q1, v2, .ref q3, .ref q4, .ref q5, .ref q6, .ref q7, .ref q8, v9, v10, v11, v12, v13, v14, v15, v16])), (q1, .inl (c1, 16, .inl (fun _ => (0 : Int32))))] H := hP
            have hD : va_D A [(q3, .inl (c3, 16, .inl (fun _ => (0 : Int32)))), (q4, .inl (c4, 16, .inl (fun _ => (0 : Int32)))), (q5, .inl (c5, 16, .inl (fun _ => (0 : Int32)))), (q6, .inl (c6, 16, .inl (fun _ => (0 : Int32)))), (q7, .inl (c7, 16, .inl (fun _ => (0 : Int32)))), (q8, .inl (c8, 16, .inl (fun _ => (0 : Int32)))), (h0, .inr (8, [.int th, .ref q1, v2, .ref q3, .ref q4, .ref q5, .ref q6, .ref q7, .ref q8, v9, v10, v11, v12, v13, v14, v15, v16])), (q1, .inl (c1, 16, .inl (fun _ => (0 : Int32))))] := hD
            refine W.widen (k := 0) (n := 0) (Nat.le_of_ble_eq_true rfl) (Nat.le_of_ble_eq_true rfl) ?_
            obtain rfl : r_8 = 0 := hw
            refine W.eq (g2 := F0 m 113 ls [.int 0]) rfl ?_
            refine lv_istore (lv' := [(5, .int 0), (4, .int r_6), (0, .ref h0), (1, .int p0), (2, .int p1), (3, .int p2)]) hx hb dX8_make_113 hl (by decide) rfl (fun ls hl => ?_)
            refine lv_iload hx hb dX8_make_115 (lv_at hl 0 rfl) ?_
            refine lv_if_ge (tgt := 126) hx hb dX8_make_117 (by decide) (fun c_9 => ?_) (fun c_9 => absurd c_9 (by decide))
            refine lv_aload_n hx hb dX8_make_126 rfl (lv_at hl 2 rfl) ?_
            refine lv_iconst (v := 0) hx hb dX8_make_127 (by decide) ?_
            refine va_put (D := (dC, dI)) (ci := 8) (v := .int 0) (ty := .int) (C := RX8) (T := TX8) (N := 17) hx hb hts (by decide +kernel) tyX8 tyX8_ok nmX8 hown hK hP hD hS 6 rfl rfl 0 (by decide) (hts (.fieldLink RX8 60 "KeyAtlasModel" "thrown" "I") (by decide +kernel)) (fun _ h9 => h9) rfl (by decide +kernel) rfl rfl (Nat.le_of_ble_eq_true rfl) dX8_make_128 (fun H locs hP hD hS => ?_)
            have hP : va_P (dC, dI) vwCl [(q3, .inl (c3, 16, .inl (fun _ => (0 : Int32)))), (q4, .inl (c4, 16, .inl (fun _ => (0 : Int32)))), (q5, .inl (c5, 16, .inl (fun _ => (0 : Int32)))), (q6, .inl (c6, 16, .inl (fun _ => (0 : Int32)))), (q7, .inl (c7, 16, .inl (fun _ => (0 : Int32)))), (q8, .inl (c8, 16, .inl (fun _ => (0 : Int32)))), (h0, .inr (8, [.int 0, .ref q1, v2, .ref q3, .ref q4, .ref q5, .ref q6, .ref q7, .ref q8, v9, v10, v11, v12, v13, v14, v15, v16])), (q1, .inl (c1, 16, .inl (fun _ => (0 : Int32))))] H := hP
            have hD : va_D A [(q3, .inl (c3, 16, .inl (fun _ => (0 : Int32)))), (q4, .inl (c4, 16, .inl (fun _ => (0 : Int32)))), (q5, .inl (c5, 16, .inl (fun _ => (0 : Int32)))), (q6, .inl (c6, 16, .inl (fun _ => (0 : Int32)))), (q7, .inl (c7, 16, .inl (fun _ => (0 : Int32)))), (q8, .inl (c8, 16, .inl (fun _ => (0 : Int32)))), (h0, .inr (8, [.int 0, .ref q1, v2, .ref q3, .ref q4, .ref q5, .ref q6, .ref q7, .ref q8, v9, v10, v11, v12, v13, v14, v15, v16])), (q1, .inl (c1, 16, .inl (fun _ => (0 : Int32))))] := hD
            refine lv_aload_n hx hb dX8_make_131 rfl (lv_at hl 2 rfl) ?_
            refine lv_iload hx hb dX8_make_132 (lv_at hl 0 rfl) ?_
            refine lv_iload_n hx hb dX8_make_134 rfl (lv_at hl 3 rfl) ?_
            refine lv_iconst (v := 1) hx hb dX8_make_135 (by decide) ?_
            refine lv_iadd hx hb dX8_make_136 ?_
            have hPc := hP.sub (ws' := [(h0, .inr (8, [.int 0, .ref q1, v2, .ref q3, .ref q4, .ref q5, .ref q6, .ref q7, .ref q8, v9, v10, v11, v12, v13, v14, v15, v16])), (q1, .inl (c1, 16, .inl (fun _ => (0 : Int32)))), (q3, .inl (c3, 16, .inl (fun _ => (0 : Int32)))), (q6, .inl (c6, 16, .inl (fun _ => (0 : Int32)))), (q7, .inl (c7, 16, .inl (fun _ => (0 : Int32)))), (q8, .inl (c8, 16, .inl (fun _ => (0 : Int32))))]) [6, 7, 0, 3, 4, 5] rfl
            have hDc := hD.sub (ws' := [(h0, .inr (8, [.int 0, .ref q1, v2, .ref q3, .ref q4, .ref q5, .ref q6, .ref q7, .ref q8, v9, v10, v11, v12, v13, v14, v15, v16])), (q1, .inl (c1, 16, .inl (fun _ => (0 : Int32)))), (q3, .inl (c3, 16, .inl (fun _ => (0 : Int32)))), (q6, .inl (c6, 16, .inl (fun _ => (0 : Int32)))), (q7, .inl (c7, 16, .inl (fun _ => (0 : Int32)))), (q8, .inl (c8, 16, .inl (fun _ => (0 : Int32))))]) [6, 7, 0, 3, 4, 5] (by decide) rfl
            have hKc := hK.sub (tys' := [(c1, .int), (c3, .int), (c6, .int), (c7, .int), (c8, .int)]) [0, 1, 4, 5, 6] rfl
            have hFc := va_free (wc := [(h0, .inr (8, [.int 0, .ref q1, v2, .ref q3, .ref q4, .ref q5, .ref q6, .ref q7, .ref q8, v9, v10, v11, v12, v13, v14, v15, v16])), (q1, .inl (c1, 16, .inl (fun _ => (0 : Int32)))), (q3, .inl (c3, 16, .inl (fun _ => (0 : Int32)))), (q6, .inl (c6, 16, .inl (fun _ => (0 : Int32)))), (q7, .inl (c7, 16, .inl (fun _ => (0 : Int32)))), (q8, .inl (c8, 16, .inl (fun _ => (0 : Int32))))]) hD hS hA [6, 7, 0, 3, 4, 5] rfl
            refine va_calli (va_runV (As := [.int 0, .int (p0 + 1)]) (rest := []) ⟨hx, hb, hml, hown, hts⟩ (c_X8_born l  dC dI H.size h0 0 q1 q3 q6 q7 q8 c1 c3 c6 c7 c8 v2 (.ref q4) (.ref q5) v9 v10 v11 v12 v13 v14 v15 v16 (p0 + 1)) (cwV 2 hts gX8_make_X8_born rfl rfl rfl (by decide +kernel) ⟨(Nat.le_of_ble_eq_true rfl), (Nat.le_of_ble_eq_true rfl)⟩) ⟨pk_blind, va_recv hKc hPc (ci := 8) (q0 := 0) rfl rfl, pk_call hPc hKc hDc⟩ rfl rfl hl.1 rfl (lv_room (Nat.le_of_ble_eq_true rfl)) dX8_make_137 ⟨(Nat.le_of_ble_eq_true rfl), (Nat.le_of_ble_eq_true rfl)⟩) hS (fun q _ h => hFc q h) hFc (fun r_10 ur_10 t H1 locs ht hvm hw hB hz1 hk1 hS => ?_)
            try dsimp only at hw
            have jr_10 := hw
            obtain ⟨hP1, hK1, hD1⟩ := hB
            rw [ht] at hP1
            have hK1 := va_K.moved hvm.symm hK1
            obtain ⟨hP, hD⟩ := va_join (wr := [(q4, .inl (c4, 16, .inl (fun _ => (0 : Int32)))), (q5, .inl (c5, 16, .inl (fun _ => (0 : Int32))))]) (w1 := [(h0, .inr (8, [.int 0, .ref q1, v2, .ref q3, .ref q4, .ref q5, .ref q6, .ref q7, .ref q8, v9, v10, v11, v12, v13, v14, v15, v16]))]) hP hD [6, 7, 0, 3, 4, 5] [1, 2] rfl rfl (by decide) (by decide) hk1 hFc hP1 hD1
            clear hk1 hz1 ht hPc hDc hKc
            generalize H1 = H at hP hS ⊢
            have hP : va_P (dC, dI) vwCl [(q4, .inl (c4, 16, .inl (fun _ => (0 : Int32)))), (q5, .inl (c5, 16, .inl (fun _ => (0 : Int32)))), (h0, .inr (8, [.int 0, .ref q1, v2, .ref q3, .ref q4, .ref q5, .ref q6, .ref q7, .ref q8, v9, v10, v11, v12, v13, v14, v15, v16]))] H := hP
            have hD : va_D A [(q4, .inl (c4, 16, .inl (fun _ => (0 : Int32)))), (q5, .inl (c5, 16, .inl (fun _ => (0 : Int32)))), (h0, .inr (8, [.int 0, .ref q1, v2, .ref q3, .ref q4, .ref q5, .ref q6, .ref q7, .ref q8, v9, v10, v11, v12, v13, v14, v15, v16]))] := hD
            refine W.widen (k := 0) (n := 0) (Nat.le_of_ble_eq_true rfl) (Nat.le_of_ble_eq_true rfl) ?_
            refine W.eq (g2 := F0 m 140 ls [.int r_10]) rfl ?_
            refine lv_pop hx hb dX8_make_140 rfl ?_
            refine lv_aload_n hx hb dX8_make_141 rfl (lv_at hl 2 rfl) ?_
            refine va_get (D := (dC, dI)) (ci := 8) (v := .ref q4) (C := RX8) (T := TX8) (N := 17) hx hb hts (by decide +kernel) hown hK hP 2 rfl rfl 4 (by decide) (hts (.fieldLink RX8 20 "KeyAtlasModel" "first" "[I") (by decide +kernel)) (fun _ h9 => h9) rfl dX8_make_142 ?_
            refine lv_iload hx hb dX8_make_145 (lv_at hl 0 rfl) ?_
            refine lv_iload_n hx hb dX8_make_147 rfl (lv_at hl 4 rfl) ?_
            refine va_iast (i := 0) hx hb hK hP hD hS 0 2 rfl rfl (by unfold vp_in; decide) dX8_make_148 (fun H locs hP hD hS => ?_)
            have hP : va_P (dC, dI) vwCl [(q4, .inl (c4, 16, .inl (upd (fun _ => (0 : Int32)) (0 : Int32).toNatClampNeg p1))), (q5, .inl (c5, 16, .inl (fun _ => (0 : Int32)))), (h0, .inr (8, [.int 0, .ref q1, v2, .ref q3, .ref q4, .ref q5, .ref q6, .ref q7, .ref q8, v9, v10, v11, v12, v13, v14, v15, v16]))] H := hP
            have hD : va_D A [(q4, .inl (c4, 16, .inl (upd (fun _ => (0 : Int32)) (0 : Int32).toNatClampNeg p1))), (q5, .inl (c5, 16, .inl (fun _ => (0 : Int32)))), (h0, .inr (8, [.int 0, .ref q1, v2, .ref q3, .ref q4, .ref q5, .ref q6, .ref q7, .ref q8, v9, v10, v11, v12, v13, v14, v15, v16]))] := hD
            refine lv_aload_n hx hb dX8_make_149 rfl (lv_at hl 2 rfl) ?_
            refine va_get (D := (dC, dI)) (ci := 8) (v := .ref q5) (C := RX8) (T := TX8) (N := 17) hx hb hts (by decide +kernel) hown hK hP 2 rfl rfl 5 (by decide) (hts (.fieldLink RX8 23 "KeyAtlasModel" "second" "[I") (by decide +kernel)) (fun _ h9 => h9) rfl dX8_make_150 ?_
            refine lv_iload hx hb dX8_make_153 (lv_at hl 0 rfl) ?_
            refine lv_iload_n hx hb dX8_make_155 rfl (lv_at hl 5 rfl) ?_
            refine va_iast (i := 0) hx hb hK hP hD hS 1 3 rfl rfl (by unfold vp_in; decide) dX8_make_156 (fun H locs hP hD hS => ?_)
            have hP : va_P (dC, dI) vwCl [(q4, .inl (c4, 16, .inl (upd (fun _ => (0 : Int32)) (0 : Int32).toNatClampNeg p1))), (q5, .inl (c5, 16, .inl (upd (fun _ => (0 : Int32)) (0 : Int32).toNatClampNeg p2))), (h0, .inr (8, [.int 0, .ref q1, v2, .ref q3, .ref q4, .ref q5, .ref q6, .ref q7, .ref q8, v9, v10, v11, v12, v13, v14, v15, v16]))] H := hP
            have hD : va_D A [(q4, .inl (c4, 16, .inl (upd (fun _ => (0 : Int32)) (0 : Int32).toNatClampNeg p1))), (q5, .inl (c5, 16, .inl (upd (fun _ => (0 : Int32)) (0 : Int32).toNatClampNeg p2))), (h0, .inr (8, [.int 0, .ref q1, v2, .ref q3, .ref q4, .ref q5, .ref q6, .ref q7, .ref q8, v9, v10, v11, v12, v13, v14, v15, v16]))] := hD
            refine lv_iload hx hb dX8_make_157 (lv_at hl 0 rfl) ?_
            have hP9 := hP.sub (ws' := [(h0, .inr (8, [.int 0, .ref q1, v2, .ref q3, .ref q4, .ref q5, .ref q6, .ref q7, .ref q8, v9, v10, v11, v12, v13, v14, v15, v16]))]) [2] rfl
            have hD9 := hD.sub (ws' := [(h0, .inr (8, [.int 0, .ref q1, v2, .ref q3, .ref q4, .ref q5, .ref q6, .ref q7, .ref q8, v9, v10, v11, v12, v13, v14, v15, v16]))]) [2] (by decide) rfl
            have hK9 := hK.sub (tys' := []) [] rfl
            refine W.widen (k := 0) (n := 0) (Nat.le_of_ble_eq_true rfl) (Nat.le_of_ble_eq_true rfl) ?_
            exact W.iret (v := 0) hx hb hr (fun t ht hW => ⟨⟨0, 0, rfl, ⟨tx_at (P := mkIs p0 p1 p2) (n := 0) (by decide) (by unfold mkIs; omega), fun _ => rfl⟩, by rw [ht]; exact hP9, va_K.moved hW.alike hK9, hD9⟩, hS.F ht⟩) hS.2.2 dX8_make_159
          ·
            have ic_7 : r_6.toInt = 0 := tx_eq rfl (by decide) c_7
            refine lv_aload_n hx hb dX8_make_103 rfl (lv_at hl 1 rfl) ?_
            refine lv_iconst (v := 1) hx hb dX8_make_104 (by decide) ?_
            have hPc := hP.sub (ws' := [(h0, .inr (8, [.int th, .ref q1, v2, .ref q3, .ref q4, .ref q5, .ref q6, .ref q7, .ref q8, v9, v10, v11, v12, v13, v14, v15, v16]))]) [0] rfl
            have hDc := hD.sub (ws' := [(h0, .inr (8, [.int th, .ref q1, v2, .ref q3, .ref q4, .ref q5, .ref q6, .ref q7, .ref q8, v9, v10, v11, v12, v13, v14, v15, v16]))]) [0] (by decide) rfl
            have hKc := hK.sub (tys' := []) [] rfl
            have hFc := va_free (wc := [(h0, .inr (8, [.int th, .ref q1, v2, .ref q3, .ref q4, .ref q5, .ref q6, .ref q7, .ref q8, v9, v10, v11, v12, v13, v14, v15, v16]))]) hD hS hA [0] rfl
            refine va_calli (va_runV (As := [.int 1]) (rest := []) ⟨hx, hb, hml, hown, hts⟩ (c_X8_refuse l  dC dI H.size h0 th 1 (.ref q1) v2 (.ref q3) (.ref q4) (.ref q5) (.ref q6) (.ref q7) (.ref q8) v9 v10 v11 v12 v13 v14 v15 v16) (cwV 1 hts gX8_make_X8_refuse rfl rfl rfl (by decide +kernel) ⟨(Nat.le_of_ble_eq_true rfl), (Nat.le_of_ble_eq_true rfl)⟩) ⟨pk_blind, va_recv hKc hPc (ci := 8) (q0 := 0) rfl rfl, pk_call hPc hKc hDc⟩ rfl rfl hl.1 rfl (lv_room (Nat.le_of_ble_eq_true rfl)) dX8_make_105 ⟨(Nat.le_of_ble_eq_true rfl), (Nat.le_of_ble_eq_true rfl)⟩) hS (fun q _ h => hFc q h) hFc (fun r_11 ur_11 t H1 locs ht hvm hw hB hz1 hk1 hS => ?_)
            try dsimp only at hw
            have jr_11 := hw
            obtain ⟨hP1, hK1, hD1⟩ := hB
            rw [ht] at hP1
            have hK1 := va_K.moved hvm.symm hK1
            obtain ⟨hP, hD⟩ := va_join (wr := [(q1, .inl (c1, 16, .inl (fun _ => (0 : Int32)))), (q3, .inl (c3, 16, .inl (fun _ => (0 : Int32)))), (q4, .inl (c4, 16, .inl (fun _ => (0 : Int32)))), (q5, .inl (c5, 16, .inl (fun _ => (0 : Int32)))), (q6, .inl (c6, 16, .inl (fun _ => (0 : Int32)))), (q7, .inl (c7, 16, .inl (fun _ => (0 : Int32)))), (q8, .inl (c8, 16, .inl (fun _ => (0 : Int32))))]) (w1 := [(h0, .inr (8, [.int 1, .ref q1, v2, .ref q3, .ref q4, .ref q5, .ref q6, .ref q7, .ref q8, v9, v10, v11, v12, v13, v14, v15, v16]))]) hP hD [0] [1, 2, 3, 4, 5, 6, 7] rfl rfl (by decide) (by decide) hk1 hFc hP1 hD1
            clear hk1 hz1 ht hPc hDc hKc
            generalize H1 = H at hP hS ⊢
            have hP : va_P (dC, dI) vwCl [(q1, .inl (c1, 16, .inl (fun _ => (0 : Int32)))), (q3, .inl (c3, 16, .inl (fun _ => (0 : Int32)))), (q4, .inl (c4, 16, .inl (fun _ => (0 : Int32)))), (q5, .inl (c5, 16, .inl (fun _ => (0 : Int32)))), (q6, .inl (c6, 16, .inl (fun _ => (0 : Int32)))), (q7, .inl (c7, 16, .inl (fun _ => (0 : Int32)))), (q8, .inl (c8, 16, .inl (fun _ => (0 : Int32)))), (h0, .inr (8, [.int 1, .ref q1, v2, .ref q3, .ref q4, .ref q5, .ref q6, .ref q7, .ref q8, v9, v10, v11, v12, v13, v14, v15, v16]))] H := hP
            have hD : va_D A [(q1, .inl (c1, 16, .inl (fun _ => (0 : Int32)))), (q3, .inl (c3, 16, .inl (fun _ => (0 : Int32)))), (q4, .inl (c4, 16, .inl (fun _ => (0 : Int32)))), (q5, .inl (c5, 16, .inl (fun _ => (0 : Int32)))), (q6, .inl (c6, 16, .inl (fun _ => (0 : Int32)))), (q7, .inl (c7, 16, .inl (fun _ => (0 : Int32)))), (q8, .inl (c8, 16, .inl (fun _ => (0 : Int32)))), (h0, .inr (8, [.int 1, .ref q1, v2, .ref q3, .ref q4, .ref q5, .ref q6, .ref q7, .ref q8, v9, v10, v11, v12, v13, v14, v15, v16]))] := hD
            refine W.widen (k := 0) (n := 0) (Nat.le_of_ble_eq_true rfl) (Nat.le_of_ble_eq_true rfl) ?_
            refine W.eq (g2 := F0 m 108 ls [.int r_11]) rfl ?_
            have hP9 := hP.sub (ws' := [(h0, .inr (8, [.int 1, .ref q1, v2, .ref q3, .ref q4, .ref q5, .ref q6, .ref q7, .ref q8, v9, v10, v11, v12, v13, v14, v15, v16]))]) [7] rfl
            have hD9 := hD.sub (ws' := [(h0, .inr (8, [.int 1, .ref q1, v2, .ref q3, .ref q4, .ref q5, .ref q6, .ref q7, .ref q8, v9, v10, v11, v12, v13, v14, v15, v16]))]) [7] (by decide) rfl
            have hK9 := hK.sub (tys' := []) [] rfl
            refine W.widen (k := 0) (n := 0) (Nat.le_of_ble_eq_true rfl) (Nat.le_of_ble_eq_true rfl) ?_
            exact W.iret (v := r_11) hx hb hr (fun t ht hW => ⟨⟨r_11, 1, rfl, ⟨tx_at (P := mkIs p0 p1 p2) (n := 1) (by decide) (by unfold mkIs; omega), fun h => absurd h (by decide)⟩, by rw [ht]; exact hP9, va_K.moved hW.alike hK9, hD9⟩, hS.F ht⟩) hS.2.2 dX8_make_108
        ·
          have ic_5 : p0.toInt = 1 := tx_eq rfl (by decide) c_5
          refine lv_iload_n hx hb dX8_make_62 rfl (lv_at hl 2 rfl) ?_
          refine lv_iconst (v := 0) hx hb dX8_make_63 (by decide) ?_
          refine lv_sipush (v := 1000) hx hb dX8_make_64 (by decide) ?_
          have hPc := hP.sub (ws' := []) [] rfl
          have hDc := hD.sub (ws' := []) [] (by decide) rfl
          have hKc := hK.sub (tys' := []) [] rfl
          have hFc := va_free (wc := []) hD hS hA [] rfl
          refine va_calli (va_runS (As := [.int p1, .int 0, .int 1000]) (rest := []) ⟨hx, hb, hml, hown, hts⟩ (c_X8_in l  dC dI H.size p1 0 1000 0 1000 (by decide) (by decide)) (va_cwS 3 hts gX8_make_X8_in rfl rfl rfl (by decide +kernel) ⟨(Nat.le_of_ble_eq_true rfl), (Nat.le_of_ble_eq_true rfl)⟩) ⟨pk_blind, pk_call hPc hKc hDc⟩ rfl rfl hl.1 rfl (lv_room (Nat.le_of_ble_eq_true rfl)) dX8_make_67 ⟨(Nat.le_of_ble_eq_true rfl), (Nat.le_of_ble_eq_true rfl)⟩) hS (fun q _ h => hFc q h) hFc (fun r_12 ur_12 t H1 locs ht hvm hw hB hz1 hk1 hS => ?_)
          try dsimp only at hw
          have jr_12 := hw
          obtain ⟨hP, hD⟩ := va_join (wr := [(h0, .inr (8, [.int th, .ref q1, v2, .ref q3, .ref q4, .ref q5, .ref q6, .ref q7, .ref q8, v9, v10, v11, v12, v13, v14, v15, v16])), (q1, .inl (c1, 16, .inl (fun _ => (0 : Int32)))), (q3, .inl (c3, 16, .inl (fun _ => (0 : Int32)))), (q4, .inl (c4, 16, .inl (fun _ => (0 : Int32)))), (q5, .inl (c5, 16, .inl (fun _ => (0 : Int32)))), (q6, .inl (c6, 16, .inl (fun _ => (0 : Int32)))), (q7, .inl (c7, 16, .inl (fun _ => (0 : Int32)))), (q8, .inl (c8, 16, .inl (fun _ => (0 : Int32))))]) (w1 := []) hP hD [] [0, 1, 2, 3, 4, 5, 6, 7] rfl rfl (by decide) (by decide) hk1 hFc tx_P0 tx_D0
          clear hk1 hz1 ht hPc hDc hKc
          generalize H1 = H at hP hS ⊢
          have hP : va_P (dC, dI) vwCl [(h0, .inr (8, [.int th, .ref q1, v2, .ref q3, .ref q4, .ref q5, .ref q6, .ref q7, .ref q8, v9, v10, v11, v12, v13, v14, v15, v16])), (q1, .inl (c1, 16, .inl (fun _ => (0 : Int32)))), (q3, .inl (c3, 16, .inl (fun _ => (0 : Int32)))), (q4, .inl (c4, 16, .inl (fun _ => (0 : Int32)))), (q5, .inl (c5, 16, .inl (fun _ => (0 : Int32)))), (q6, .inl (c6, 16, .inl (fun _ => (0 : Int32)))), (q7, .inl (c7, 16, .inl (fun _ => (0 : Int32)))), (q8, .inl (c8, 16, .inl (fun _ => (0 : Int32))))] H := hP
          have hD : va_D A [(h0, .inr (8, [.int th, .ref q1, v2, .ref q3, .ref q4, .ref q5, .ref q6, .ref q7, .ref q8, v9, v10, v11, v12, v13, v14, v15, v16])), (q1, .inl (c1, 16, .inl (fun _ => (0 : Int32)))), (q3, .inl (c3, 16, .inl (fun _ => (0 : Int32)))), (q4, .inl (c4, 16, .inl (fun _ => (0 : Int32)))), (q5, .inl (c5, 16, .inl (fun _ => (0 : Int32)))), (q6, .inl (c6, 16, .inl (fun _ => (0 : Int32)))), (q7, .inl (c7, 16, .inl (fun _ => (0 : Int32)))), (q8, .inl (c8, 16, .inl (fun _ => (0 : Int32))))] := hD
          refine W.widen (k := 0) (n := 0) (Nat.le_of_ble_eq_true rfl) (Nat.le_of_ble_eq_true rfl) ?_
          refine W.eq (g2 := F0 m 70 ls [.int r_12]) rfl ?_
          refine lv_if_eq (tgt := 86) hx hb dX8_make_70 (by decide) (fun c_13 => ?_) (fun c_13 => ?_)
          ·
            have ic_13 : r_12.toInt = 0 := tx_eq rfl (by decide) c_13
            refine lv_iconst (v := 0) hx hb dX8_make_86 (by decide) ?_
            refine lv_goto (tgt := 96) hx hb dX8_make_87 (by decide) ?_
            refine lv_istore (lv' := [(4, .int 0), (0, .ref h0), (1, .int p0), (2, .int p1), (3, .int p2)]) hx hb dX8_make_96 hl (by decide) rfl (fun ls hl => ?_)
            refine lv_iload hx hb dX8_make_98 (lv_at hl 0 rfl) ?_
            refine lv_if_ne (tgt := 109) hx hb dX8_make_100 (by decide) (fun c_14 => absurd c_14 (by decide)) (fun c_14 => ?_)
            refine lv_aload_n hx hb dX8_make_103 rfl (lv_at hl 1 rfl) ?_
            refine lv_iconst (v := 1) hx hb dX8_make_104 (by decide) ?_
            have hPc := hP.sub (ws' := [(h0, .inr (8, [.int th, .ref q1, v2, .ref q3, .ref q4, .ref q5, .ref q6, .ref q7, .ref q8, v9, v10, v11, v12, v13, v14, v15, v16]))]) [0] rfl
            have hDc := hD.sub (ws' := [(h0, .inr (8, [.int th, .ref q1, v2, .ref q3, .ref q4, .ref q5, .ref q6, .ref q7, .ref q8, v9, v10, v11, v12, v13, v14, v15, v16]))]) [0] (by decide) rfl
            have hKc := hK.sub (tys' := []) [] rfl
            have hFc := va_free (wc := [(h0, .inr (8, [.int th, .ref q1, v2, .ref q3, .ref q4, .ref q5, .ref q6, .ref q7, .ref q8, v9, v10, v11, v12, v13, v14, v15, v16]))]) hD hS hA [0] rfl
            refine va_calli (va_runV (As := [.int 1]) (rest := []) ⟨hx, hb, hml, hown, hts⟩ (c_X8_refuse l  dC dI H.size h0 th 1 (.ref q1) v2 (.ref q3) (.ref q4) (.ref q5) (.ref q6) (.ref q7) (.ref q8) v9 v10 v11 v12 v13 v14 v15 v16) (cwV 1 hts gX8_make_X8_refuse rfl rfl rfl (by decide +kernel) ⟨(Nat.le_of_ble_eq_true rfl), (Nat.le_of_ble_eq_true rfl)⟩) ⟨pk_blind, va_recv hKc hPc (ci := 8) (q0 := 0) rfl rfl, pk_call hPc hKc hDc⟩ rfl rfl hl.1 rfl (lv_room (Nat.le_of_ble_eq_true rfl)) dX8_make_105 ⟨(Nat.le_of_ble_eq_true rfl), (Nat.le_of_ble_eq_true rfl)⟩) hS (fun q _ h => hFc q h) hFc (fun r_15 ur_15 t H1 locs ht hvm hw hB hz1 hk1 hS => ?_)
            try dsimp only at hw
            have jr_15 := hw
            obtain ⟨hP1, hK1, hD1⟩ := hB
            rw [ht] at hP1
            have hK1 := va_K.moved hvm.symm hK1
            obtain ⟨hP, hD⟩ := va_join (wr := [(q1, .inl (c1, 16, .inl (fun _ => (0 : Int32)))), (q3, .inl (c3, 16, .inl (fun _ => (0 : Int32)))), (q4, .inl (c4, 16, .inl (fun _ => (0 : Int32)))), (q5, .inl (c5, 16, .inl (fun _ => (0 : Int32)))), (q6, .inl (c6, 16, .inl (fun _ => (0 : Int32)))), (q7, .inl (c7, 16, .inl (fun _ => (0 : Int32)))), (q8, .inl (c8, 16, .inl (fun _ => (0 : Int32))))]) (w1 := [(h0, .inr (8, [.int 1, .ref q1, v2, .ref q3, .ref q4, .ref q5, .ref q6, .ref q7, .ref q8, v9, v10, v11, v12, v13, v14, v15, v16]))]) hP hD [0] [1, 2, 3, 4, 5, 6, 7] rfl rfl (by decide) (by decide) hk1 hFc hP1 hD1
            clear hk1 hz1 ht hPc hDc hKc
            generalize H1 = H at hP hS ⊢
            have hP : va_P (dC, dI) vwCl [(q1, .inl (c1, 16, .inl (fun _ => (0 : Int32)))), (q3, .inl (c3, 16, .inl (fun _ => (0 : Int32)))), (q4, .inl (c4, 16, .inl (fun _ => (0 : Int32)))), (q5, .inl (c5, 16, .inl (fun _ => (0 : Int32)))), (q6, .inl (c6, 16, .inl (fun _ => (0 : Int32)))), (q7, .inl (c7, 16, .inl (fun _ => (0 : Int32)))), (q8, .inl (c8, 16, .inl (fun _ => (0 : Int32)))), (h0, .inr (8, [.int 1, .ref q1, v2, .ref q3, .ref q4, .ref q5, .ref q6, .ref q7, .ref q8, v9, v10, v11, v12, v13, v14, v15, v16]))] H := hP
            have hD : va_D A [(q1, .inl (c1, 16, .inl (fun _ => (0 : Int32)))), (q3, .inl (c3, 16, .inl (fun _ => (0 : Int32)))), (q4, .inl (c4, 16, .inl (fun _ => (0 : Int32)))), (q5, .inl (c5, 16, .inl (fun _ => (0 : Int32)))), (q6, .inl (c6, 16, .inl (fun _ => (0 : Int32)))), (q7, .inl (c7, 16, .inl (fun _ => (0 : Int32)))), (q8, .inl (c8, 16, .inl (fun _ => (0 : Int32)))), (h0, .inr (8, [.int 1, .ref q1, v2, .ref q3, .ref q4, .ref q5, .ref q6, .ref q7, .ref q8, v9, v10, v11, v12, v13, v14, v15, v16]))] := hD
            refine W.widen (k := 0) (n := 0) (Nat.le_of_ble_eq_true rfl) (Nat.le_of_ble_eq_true rfl) ?_
            refine W.eq (g2 := F0 m 108 ls [.int r_15]) rfl ?_
            have hP9 := hP.sub (ws' := [(h0, .inr (8, [.int 1, .ref q1, v2, .ref q3, .ref q4, .ref q5, .ref q6, .ref q7, .ref q8, v9, v10, v11, v12, v13, v14, v15, v16]))]) [7] rfl
            have hD9 := hD.sub (ws' := [(h0, .inr (8, [.int 1, .ref q1, v2, .ref q3, .ref q4, .ref q5, .ref q6, .ref q7, .ref q8, v9, v10, v11, v12, v13, v14, v15, v16]))]) [7] (by decide) rfl
            have hK9 := hK.sub (tys' := []) [] rfl
            refine W.widen (k := 0) (n := 0) (Nat.le_of_ble_eq_true rfl) (Nat.le_of_ble_eq_true rfl) ?_
            exact W.iret (v := r_15) hx hb hr (fun t ht hW => ⟨⟨r_15, 1, rfl, ⟨tx_at (P := mkIs p0 p1 p2) (n := 1) (by decide) (by unfold mkIs; omega), fun h => absurd h (by decide)⟩, by rw [ht]; exact hP9, va_K.moved hW.alike hK9, hD9⟩, hS.F ht⟩) hS.2.2 dX8_make_108
          ·
            have ic_13 : ¬ r_12.toInt = 0 := tx_ne rfl (by decide) c_13
            refine lv_iload_n hx hb dX8_make_73 rfl (lv_at hl 3 rfl) ?_
            refine lv_iconst (v := 0) hx hb dX8_make_74 (by decide) ?_
            refine lv_iconst (v := 1) hx hb dX8_make_75 (by decide) ?_
            have hPc := hP.sub (ws' := []) [] rfl
            have hDc := hD.sub (ws' := []) [] (by decide) rfl
            have hKc := hK.sub (tys' := []) [] rfl
            have hFc := va_free (wc := []) hD hS hA [] rfl
            refine va_calli (va_runS (As := [.int p2, .int 0, .int 1]) (rest := []) ⟨hx, hb, hml, hown, hts⟩ (c_X8_in l  dC dI H.size p2 0 1 0 1 (by decide) (by decide)) (va_cwS 3 hts gX8_make_X8_in rfl rfl rfl (by decide +kernel) ⟨(Nat.le_of_ble_eq_true rfl), (Nat.le_of_ble_eq_true rfl)⟩) ⟨pk_blind, pk_call hPc hKc hDc⟩ rfl rfl hl.1 rfl (lv_room (Nat.le_of_ble_eq_true rfl)) dX8_make_76 ⟨(Nat.le_of_ble_eq_true rfl), (Nat.le_of_ble_eq_true rfl)⟩) hS (fun q _ h => hFc q h) hFc (fun r_16 ur_16 t H1 locs ht hvm hw hB hz1 hk1 hS => ?_)
            try dsimp only at hw
            have jr_16 := hw
            obtain ⟨hP, hD⟩ := va_join (wr := [(h0, .inr (8, [.int th, .ref q1, v2, .ref q3, .ref q4, .ref q5, .ref q6, .ref q7, .ref q8, v9, v10, v11, v12, v13, v14, v15, v16])), (q1, .inl (c1, 16, .inl (fun _ => (0 : Int32)))), (q3, .inl (c3, 16, .inl (fun _ => (0 : Int32)))), (q4, .inl (c4, 16, .inl (fun _ => (0 : Int32)))), (q5, .inl (c5, 16, .inl (fun _ => (0 : Int32)))), (q6, .inl (c6, 16, .inl (fun _ => (0 : Int32)))), (q7, .inl (c7, 16, .inl (fun _ => (0 : Int32)))), (q8, .inl (c8, 16, .inl (fun _ => (0 : Int32))))]) (w1 := []) hP hD [] [0, 1, 2, 3, 4, 5, 6, 7] rfl rfl (by decide) (by decide) hk1 hFc tx_P0 tx_D0
            clear hk1 hz1 ht hPc hDc hKc
            generalize H1 = H at hP hS ⊢
            have hP : va_P (dC, dI) vwCl [(h0, .inr (8, [.int th, .ref q1, v2, .ref q3, .ref q4, .ref q5, .ref q6, .ref q7, .ref q8, v9, v10, v11, v12, v13, v14, v15, v16])), (q1, .inl (c1, 16, .inl (fun _ => (0 : Int32)))), (q3, .inl (c3, 16, .inl (fun _ => (0 : Int32)))), (q4, .inl (c4, 16, .inl (fun _ => (0 : Int32)))), (q5, .inl (c5, 16, .inl (fun _ => (0 : Int32)))), (q6, .inl (c6, 16, .inl (fun _ => (0 : Int32)))), (q7, .inl (c7, 16, .inl (fun _ => (0 : Int32)))), (q8, .inl (c8, 16, .inl (fun _ => (0 : Int32))))] H := hP
            have hD : va_D A [(h0, .inr (8, [.int th, .ref q1, v2, .ref q3, .ref q4, .ref q5, .ref q6, .ref q7, .ref q8, v9, v10, v11, v12, v13, v14, v15, v16])), (q1, .inl (c1, 16, .inl (fun _ => (0 : Int32)))), (q3, .inl (c3, 16, .inl (fun _ => (0 : Int32)))), (q4, .inl (c4, 16, .inl (fun _ => (0 : Int32)))), (q5, .inl (c5, 16, .inl (fun _ => (0 : Int32)))), (q6, .inl (c6, 16, .inl (fun _ => (0 : Int32)))), (q7, .inl (c7, 16, .inl (fun _ => (0 : Int32)))), (q8, .inl (c8, 16, .inl (fun _ => (0 : Int32))))] := hD
            refine W.widen (k := 0) (n := 0) (Nat.le_of_ble_eq_true rfl) (Nat.le_of_ble_eq_true rfl) ?_
            refine W.eq (g2 := F0 m 79 ls [.int r_16]) rfl ?_
            refine lv_if_eq (tgt := 86) hx hb dX8_make_79 (by decide) (fun c_17 => ?_) (fun c_17 => ?_)
            ·
              have ic_17 : r_16.toInt = 0 := tx_eq rfl (by decide) c_17
              refine lv_iconst (v := 0) hx hb dX8_make_86 (by decide) ?_
              refine lv_goto (tgt := 96) hx hb dX8_make_87 (by decide) ?_
              refine lv_istore (lv' := [(4, .int 0), (0, .ref h0), (1, .int p0), (2, .int p1), (3, .int p2)]) hx hb dX8_make_96 hl (by decide) rfl (fun ls hl => ?_)
              refine lv_iload hx hb dX8_make_98 (lv_at hl 0 rfl) ?_
              refine lv_if_ne (tgt := 109) hx hb dX8_make_100 (by decide) (fun c_18 => absurd c_18 (by decide)) (fun c_18 => ?_)
              refine lv_aload_n hx hb dX8_make_103 rfl (lv_at hl 1 rfl) ?_
              refine lv_iconst (v := 1) hx hb dX8_make_104 (by decide) ?_
              have hPc := hP.sub (ws' := [(h0, .inr (8, [.int th, .ref q1, v2, .ref q3, .ref q4, .ref q5, .ref q6, .ref q7, .ref q8, v9, v10, v11, v12, v13, v14, v15, v16]))]) [0] rfl
              have hDc := hD.sub (ws' := [(h0, .inr (8, [.int th, .ref q1, v2, .ref q3, .ref q4, .ref q5, .ref q6, .ref q7, .ref q8, v9, v10, v11, v12, v13, v14, v15, v16]))]) [0] (by decide) rfl
              have hKc := hK.sub (tys' := []) [] rfl
              have hFc := va_free (wc := [(h0, .inr (8, [.int th, .ref q1, v2, .ref q3, .ref q4, .ref q5, .ref q6, .ref q7, .ref q8, v9, v10, v11, v12, v13, v14, v15, v16]))]) hD hS hA [0] rfl
              refine va_calli (va_runV (As := [.int 1]) (rest := []) ⟨hx, hb, hml, hown, hts⟩ (c_X8_refuse l  dC dI H.size h0 th 1 (.ref q1) v2 (.ref q3) (.ref q4) (.ref q5) (.ref q6) (.ref q7) (.ref q8) v9 v10 v11 v12 v13 v14 v15 v16) (cwV 1 hts gX8_make_X8_refuse rfl rfl rfl (by decide +kernel) ⟨(Nat.le_of_ble_eq_true rfl), (Nat.le_of_ble_eq_true rfl)⟩) ⟨pk_blind, va_recv hKc hPc (ci := 8) (q0 := 0) rfl rfl, pk_call hPc hKc hDc⟩ rfl rfl hl.1 rfl (lv_room (Nat.le_of_ble_eq_true rfl)) dX8_make_105 ⟨(Nat.le_of_ble_eq_true rfl), (Nat.le_of_ble_eq_true rfl)⟩) hS (fun q _ h => hFc q h) hFc (fun r_19 ur_19 t H1 locs ht hvm hw hB hz1 hk1 hS => ?_)
              try dsimp only at hw
              have jr_19 := hw
              obtain ⟨hP1, hK1, hD1⟩ := hB
              rw [ht] at hP1
              have hK1 := va_K.moved hvm.symm hK1
              obtain ⟨hP, hD⟩ := va_join (wr := [(q1, .inl (c1, 16, .inl (fun _ => (0 : Int32)))), (q3, .inl (c3, 16, .inl (fun _ => (0 : Int32)))), (q4, .inl (c4, 16, .inl (fun _ => (0 : Int32)))), (q5, .inl (c5, 16, .inl (fun _ => (0 : Int32)))), (q6, .inl (c6, 16, .inl (fun _ => (0 : Int32)))), (q7, .inl (c7, 16, .inl (fun _ => (0 : Int32)))), (q8, .inl (c8, 16, .inl (fun _ => (0 : Int32))))]) (w1 := [(h0, .inr (8, [.int 1, .ref q1, v2, .ref q3, .ref q4, .ref q5, .ref q6, .ref q7, .ref q8, v9, v10, v11, v12, v13, v14, v15, v16]))]) hP hD [0] [1, 2, 3, 4, 5, 6, 7] rfl rfl (by decide) (by decide) hk1 hFc hP1 hD1
              clear hk1 hz1 ht hPc hDc hKc
              generalize H1 = H at hP hS ⊢
              have hP : va_P (dC, dI) vwCl [(q1, .inl (c1, 16, .inl (fun _ => (0 : Int32)))), (q3, .inl (c3, 16, .inl (fun _ => (0 : Int32)))), (q4, .inl (c4, 16, .inl (fun _ => (0 : Int32)))), (q5, .inl (c5, 16, .inl (fun _ => (0 : Int32)))), (q6, .inl (c6, 16, .inl (fun _ => (0 : Int32)))), (q7, .inl (c7, 16, .inl (fun _ => (0 : Int32)))), (q8, .inl (c8, 16, .inl (fun _ => (0 : Int32)))), (h0, .inr (8, [.int 1, .ref q1, v2, .ref q3, .ref q4, .ref q5, .ref q6, .ref q7, .ref q8, v9, v10, v11, v12, v13, v14, v15, v16]))] H := hP
              have hD : va_D A [(q1, .inl (c1, 16, .inl (fun _ => (0 : Int32)))), (q3, .inl (c3, 16, .inl (fun _ => (0 : Int32)))), (q4, .inl (c4, 16, .inl (fun _ => (0 : Int32)))), (q5, .inl (c5, 16, .inl (fun _ => (0 : Int32)))), (q6, .inl (c6, 16, .inl (fun _ => (0 : Int32)))), (q7, .inl (c7, 16, .inl (fun _ => (0 : Int32)))), (q8, .inl (c8, 16, .inl (fun _ => (0 : Int32)))), (h0, .inr (8, [.int 1, .ref q1, v2, .ref q3, .ref q4, .ref q5, .ref q6, .ref q7, .ref q8, v9, v10, v11, v12, v13, v14, v15, v16]))] := hD
              refine W.widen (k := 0) (n := 0) (Nat.le_of_ble_eq_true rfl) (Nat.le_of_ble_eq_true rfl) ?_
              refine W.eq (g2 := F0 m 108 ls [.int r_19]) rfl ?_
              have hP9 := hP.sub (ws' := [(h0, .inr (8, [.int 1, .ref q1, v2, .ref q3, .ref q4, .ref q5, .ref q6, .ref q7, .ref q8, v9, v10, v11, v12, v13, v14, v15, v16]))]) [7] rfl
              have hD9 := hD.sub (ws' := [(h0, .inr (8, [.int 1, .ref q1, v2, .ref q3, .ref q4, .ref q5, .ref q6, .ref q7, .ref q8, v9, v10, v11, v12, v13, v14, v15, v16]))]) [7] (by decide) rfl
              have hK9 := hK.sub (tys' := []) [] rfl
              refine W.widen (k := 0) (n := 0) (Nat.le_of_ble_eq_true rfl) (Nat.le_of_ble_eq_true rfl) ?_
              exact W.iret (v := r_19) hx hb hr (fun t ht hW => ⟨⟨r_19, 1, rfl, ⟨tx_at (P := mkIs p0 p1 p2) (n := 1) (by decide) (by unfold mkIs; omega), fun h => absurd h (by decide)⟩, by rw [ht]; exact hP9, va_K.moved hW.alike hK9, hD9⟩, hS.F ht⟩) hS.2.2 dX8_make_108
            ·
              have ic_17 : ¬ r_16.toInt = 0 := tx_ne rfl (by decide) c_17
              refine lv_iconst (v := 1) hx hb dX8_make_82 (by decide) ?_
              refine lv_goto (tgt := 96) hx hb dX8_make_83 (by decide) ?_
              refine lv_istore (lv' := [(4, .int 1), (0, .ref h0), (1, .int p0), (2, .int p1), (3, .int p2)]) hx hb dX8_make_96 hl (by decide) rfl (fun ls hl => ?_)
              refine lv_iload hx hb dX8_make_98 (lv_at hl 0 rfl) ?_
              refine lv_if_ne (tgt := 109) hx hb dX8_make_100 (by decide) (fun c_20 => ?_) (fun c_20 => absurd c_20 (by decide))
              refine lv_aload_n hx hb dX8_make_109 rfl (lv_at hl 1 rfl) ?_
              have hPc := hP.sub (ws' := [(h0, .inr (8, [.int th, .ref q1, v2, .ref q3, .ref q4, .ref q5, .ref q6, .ref q7, .ref q8, v9, v10, v11, v12, v13, v14, v15, v16])), (q1, .inl (c1, 16, .inl (fun _ => (0 : Int32))))]) [0, 1] rfl
              have hDc := hD.sub (ws' := [(h0, .inr (8, [.int th, .ref q1, v2, .ref q3, .ref q4, .ref q5, .ref q6, .ref q7, .ref q8, v9, v10, v11, v12, v13, v14, v15, v16])), (q1, .inl (c1, 16, .inl (fun _ => (0 : Int32))))]) [0, 1] (by decide) rfl
              have hKc := hK.sub (tys' := [(c1, .int)]) [0] rfl
              have hFc := va_free (wc := [(h0, .inr (8, [.int th, .ref q1, v2, .ref q3, .ref q4, .ref q5, .ref q6, .ref q7, .ref q8, v9, v10, v11, v12, v13, v14, v15, v16])), (q1, .inl (c1, 16, .inl (fun _ => (0 : Int32))))]) hD hS hA [0, 1] rfl
              refine va_calli (va_runV (As := []) (rest := []) ⟨hx, hb, hml, hown, hts⟩ (c_X8_free l  dC dI H.size h0 q1 c1 th v2 (.ref q3) (.ref q4) (.ref q5) (.ref q6) (.ref q7) (.ref q8) v9 v10 v11 v12 v13 v14 v15 v16) (cwV 0 hts gX8_make_X8_free rfl rfl rfl (by decide +kernel) ⟨(Nat.le_of_ble_eq_true rfl), (Nat.le_of_ble_eq_true rfl)⟩) ⟨pk_blind, va_recv hKc hPc (ci := 8) (q0 := 0) rfl rfl, pk_call hPc hKc hDc⟩ rfl rfl hl.1 rfl (lv_room (Nat.le_of_ble_eq_true rfl)) dX8_make_110 ⟨(Nat.le_of_ble_eq_true rfl), (Nat.le_of_ble_eq_true rfl)⟩) hS (fun q _ h => hFc q h) hFc (fun r_21 ur_21 t H1 locs ht hvm hw hB hz1 hk1 hS => ?_)
              try dsimp only at hw
              obtain ⟨hP1, hK1, hD1⟩ := hB
              rw [ht] at hP1
              have hK1 := va_K.moved hvm.symm hK1
              obtain ⟨hP, hD⟩ := va_join (wr := [(q3, .inl (c3, 16, .inl (fun _ => (0 : Int32)))), (q4, .inl (c4, 16, .inl (fun _ => (0 : Int32)))), (q5, .inl (c5, 16, .inl (fun _ => (0 : Int32)))), (q6, .inl (c6, 16, .inl (fun _ => (0 : Int32)))), (q7, .inl (c7, 16, .inl (fun _ => (0 : Int32)))), (q8, .inl (c8, 16, .inl (fun _ => (0 : Int32))))]) (w1 := [(h0, .inr (8, [.int th, .ref q1, v2, .ref q3, .ref q4, .ref q5, .ref q6, .ref q7, .ref q8, v9, v10, v11, v12, v13, v14, v15, v16])), (q1, .inl (c1, 16, .inl (fun _ => (0 : Int32))))]) hP hD [0, 1] [2, 3, 4, 5, 6, 7] rfl rfl (by decide) (by decide) hk1 hFc hP1 hD1
              clear hk1 hz1 ht hPc hDc hKc
              generalize H1 = H at hP hS ⊢
              have hP : va_P (dC, dI) vwCl [(q3, .inl (c3, 16, .inl (fun _ => (0 : Int32)))), (q4, .inl (c4, 16, .inl (fun _ => (0 : Int32)))), (q5, .inl (c5, 16, .inl (fun _ => (0 : Int32)))), (q6, .inl (c6, 16, .inl (fun _ => (0 : Int32)))), (q7, .inl (c7, 16, .inl (fun _ => (0 : Int32)))), (q8, .inl (c8, 16, .inl (fun _ => (0 : Int32)))), (h0, .inr (8, [.int th, .ref q1, v2, .ref q3, .ref q4, .ref q5, .ref q6, .ref q7, .ref q8, v9, v10, v11, v12, v13, v14, v15, v16])), (q1, .inl (c1, 16, .inl (fun _ => (0 : Int32))))] H := hP
              have hD : va_D A [(q3, .inl (c3, 16, .inl (fun _ => (0 : Int32)))), (q4, .inl (c4, 16, .inl (fun _ => (0 : Int32)))), (q5, .inl (c5, 16, .inl (fun _ => (0 : Int32)))), (q6, .inl (c6, 16, .inl (fun _ => (0 : Int32)))), (q7, .inl (c7, 16, .inl (fun _ => (0 : Int32)))), (q8, .inl (c8, 16, .inl (fun _ => (0 : Int32)))), (h0, .inr (8, [.int th, .ref q1, v2, .ref q3, .ref q4, .ref q5, .ref q6, .ref q7, .ref q8, v9, v10, v11, v12, v13, v14, v15, v16])), (q1, .inl (c1, 16, .inl (fun _ => (0 : Int32))))] := hD
              refine W.widen (k := 0) (n := 0) (Nat.le_of_ble_eq_true rfl) (Nat.le_of_ble_eq_true rfl) ?_
              obtain rfl : r_21 = 0 := hw
              refine W.eq (g2 := F0 m 113 ls [.int 0]) rfl ?_
              refine lv_istore (lv' := [(5, .int 0), (4, .int 1), (0, .ref h0), (1, .int p0), (2, .int p1), (3, .int p2)]) hx hb dX8_make_113 hl (by decide) rfl (fun ls hl => ?_)
              refine lv_iload hx hb dX8_make_115 (lv_at hl 0 rfl) ?_
              refine lv_if_ge (tgt := 126) hx hb dX8_make_117 (by decide) (fun c_22 => ?_) (fun c_22 => absurd c_22 (by decide))
              refine lv_aload_n hx hb dX8_make_126 rfl (lv_at hl 2 rfl) ?_
              refine lv_iconst (v := 0) hx hb dX8_make_127 (by decide) ?_
              refine va_put (D := (dC, dI)) (ci := 8) (v := .int 0) (ty := .int) (C := RX8) (T := TX8) (N := 17) hx hb hts (by decide +kernel) tyX8 tyX8_ok nmX8 hown hK hP hD hS 6 rfl rfl 0 (by decide) (hts (.fieldLink RX8 60 "KeyAtlasModel" "thrown" "I") (by decide +kernel)) (fun _ h9 => h9) rfl (by decide +kernel) rfl rfl (Nat.le_of_ble_eq_true rfl) dX8_make_128 (fun H locs hP hD hS => ?_)
              have hP : va_P (dC, dI) vwCl [(q3, .inl (c3, 16, .inl (fun _ => (0 : Int32)))), (q4, .inl (c4, 16, .inl (fun _ => (0 : Int32)))), (q5, .inl (c5, 16, .inl (fun _ => (0 : Int32)))), (q6, .inl (c6, 16, .inl (fun _ => (0 : Int32)))), (q7, .inl (c7, 16, .inl (fun _ => (0 : Int32)))), (q8, .inl (c8, 16, .inl (fun _ => (0 : Int32)))), (h0, .inr (8, [.int 0, .ref q1, v2, .ref q3, .ref q4, .ref q5, .ref q6, .ref q7, .ref q8, v9, v10, v11, v12, v13, v14, v15, v16])), (q1, .inl (c1, 16, .inl (fun _ => (0 : Int32))))] H := hP
              have hD : va_D A [(q3, .inl (c3, 16, .inl (fun _ => (0 : Int32)))), (q4, .inl (c4, 16, .inl (fun _ => (0 : Int32)))), (q5, .inl (c5, 16, .inl (fun _ => (0 : Int32)))), (q6, .inl (c6, 16, .inl (fun _ => (0 : Int32)))), (q7, .inl (c7, 16, .inl (fun _ => (0 : Int32)))), (q8, .inl (c8, 16, .inl (fun _ => (0 : Int32)))), (h0, .inr (8, [.int 0, .ref q1, v2, .ref q3, .ref q4, .ref q5, .ref q6, .ref q7, .ref q8, v9, v10, v11, v12, v13, v14, v15, v16])), (q1, .inl (c1, 16, .inl (fun _ => (0 : Int32))))] := hD
              refine lv_aload_n hx hb dX8_make_131 rfl (lv_at hl 2 rfl) ?_
              refine lv_iload hx hb dX8_make_132 (lv_at hl 0 rfl) ?_
              refine lv_iload_n hx hb dX8_make_134 rfl (lv_at hl 3 rfl) ?_
              refine lv_iconst (v := 1) hx hb dX8_make_135 (by decide) ?_
              refine lv_iadd hx hb dX8_make_136 ?_
              have hPc := hP.sub (ws' := [(h0, .inr (8, [.int 0, .ref q1, v2, .ref q3, .ref q4, .ref q5, .ref q6, .ref q7, .ref q8, v9, v10, v11, v12, v13, v14, v15, v16])), (q1, .inl (c1, 16, .inl (fun _ => (0 : Int32)))), (q3, .inl (c3, 16, .inl (fun _ => (0 : Int32)))), (q6, .inl (c6, 16, .inl (fun _ => (0 : Int32)))), (q7, .inl (c7, 16, .inl (fun _ => (0 : Int32)))), (q8, .inl (c8, 16, .inl (fun _ => (0 : Int32))))]) [6, 7, 0, 3, 4, 5] rfl
              have hDc := hD.sub (ws' := [(h0, .inr (8, [.int 0, .ref q1, v2, .ref q3, .ref q4, .ref q5, .ref q6, .ref q7, .ref q8, v9, v10, v11, v12, v13, v14, v15, v16])), (q1, .inl (c1, 16, .inl (fun _ => (0 : Int32)))), (q3, .inl (c3, 16, .inl (fun _ => (0 : Int32)))), (q6, .inl (c6, 16, .inl (fun _ => (0 : Int32)))), (q7, .inl (c7, 16, .inl (fun _ => (0 : Int32)))), (q8, .inl (c8, 16, .inl (fun _ => (0 : Int32))))]) [6, 7, 0, 3, 4, 5] (by decide) rfl
              have hKc := hK.sub (tys' := [(c1, .int), (c3, .int), (c6, .int), (c7, .int), (c8, .int)]) [0, 1, 4, 5, 6] rfl
              have hFc := va_free (wc := [(h0, .inr (8, [.int 0, .ref q1, v2, .ref q3, .ref q4, .ref q5, .ref q6, .ref q7, .ref q8, v9, v10, v11, v12, v13, v14, v15, v16])), (q1, .inl (c1, 16, .inl (fun _ => (0 : Int32)))), (q3, .inl (c3, 16, .inl (fun _ => (0 : Int32)))), (q6, .inl (c6, 16, .inl (fun _ => (0 : Int32)))), (q7, .inl (c7, 16, .inl (fun _ => (0 : Int32)))), (q8, .inl (c8, 16, .inl (fun _ => (0 : Int32))))]) hD hS hA [6, 7, 0, 3, 4, 5] rfl
              refine va_calli (va_runV (As := [.int 0, .int (p0 + 1)]) (rest := []) ⟨hx, hb, hml, hown, hts⟩ (c_X8_born l  dC dI H.size h0 0 q1 q3 q6 q7 q8 c1 c3 c6 c7 c8 v2 (.ref q4) (.ref q5) v9 v10 v11 v12 v13 v14 v15 v16 (p0 + 1)) (cwV 2 hts gX8_make_X8_born rfl rfl rfl (by decide +kernel) ⟨(Nat.le_of_ble_eq_true rfl), (Nat.le_of_ble_eq_true rfl)⟩) ⟨pk_blind, va_recv hKc hPc (ci := 8) (q0 := 0) rfl rfl, pk_call hPc hKc hDc⟩ rfl rfl hl.1 rfl (lv_room (Nat.le_of_ble_eq_true rfl)) dX8_make_137 ⟨(Nat.le_of_ble_eq_true rfl), (Nat.le_of_ble_eq_true rfl)⟩) hS (fun q _ h => hFc q h) hFc (fun r_23 ur_23 t H1 locs ht hvm hw hB hz1 hk1 hS => ?_)
              try dsimp only at hw
              have jr_23 := hw
              obtain ⟨hP1, hK1, hD1⟩ := hB
              rw [ht] at hP1
              have hK1 := va_K.moved hvm.symm hK1
              obtain ⟨hP, hD⟩ := va_join (wr := [(q4, .inl (c4, 16, .inl (fun _ => (0 : Int32)))), (q5, .inl (c5, 16, .inl (fun _ => (0 : Int32))))]) (w1 := [(h0, .inr (8, [.int 0, .ref q1, v2, .ref q3, .ref q4, .ref q5, .ref q6, .ref q7, .ref q8, v9, v10, v11, v12, v13, v14, v15, v16]))]) hP hD [6, 7, 0, 3, 4, 5] [1, 2] rfl rfl (by decide) (by decide) hk1 hFc hP1 hD1
              clear hk1 hz1 ht hPc hDc hKc
              generalize H1 = H at hP hS ⊢
              have hP : va_P (dC, dI) vwCl [(q4, .inl (c4, 16, .inl (fun _ => (0 : Int32)))), (q5, .inl (c5, 16, .inl (fun _ => (0 : Int32)))), (h0, .inr (8, [.int 0, .ref q1, v2, .ref q3, .ref q4, .ref q5, .ref q6, .ref q7, .ref q8, v9, v10, v11, v12, v13, v14, v15, v16]))] H := hP
              have hD : va_D A [(q4, .inl (c4, 16, .inl (fun _ => (0 : Int32)))), (q5, .inl (c5, 16, .inl (fun _ => (0 : Int32)))), (h0, .inr (8, [.int 0, .ref q1, v2, .ref q3, .ref q4, .ref q5, .ref q6, .ref q7, .ref q8, v9, v10, v11, v12, v13, v14, v15, v16]))] := hD
              refine W.widen (k := 0) (n := 0) (Nat.le_of_ble_eq_true rfl) (Nat.le_of_ble_eq_true rfl) ?_
              refine W.eq (g2 := F0 m 140 ls [.int r_23]) rfl ?_
              refine lv_pop hx hb dX8_make_140 rfl ?_
              refine lv_aload_n hx hb dX8_make_141 rfl (lv_at hl 2 rfl) ?_
              refine va_get (D := (dC, dI)) (ci := 8) (v := .ref q4) (C := RX8) (T := TX8) (N := 17) hx hb hts (by decide +kernel) hown hK hP 2 rfl rfl 4 (by decide) (hts (.fieldLink RX8 20 "KeyAtlasModel" "first" "[I") (by decide +kernel)) (fun _ h9 => h9) rfl dX8_make_142 ?_
              refine lv_iload hx hb dX8_make_145 (lv_at hl 0 rfl) ?_
              refine lv_iload_n hx hb dX8_make_147 rfl (lv_at hl 4 rfl) ?_
              refine va_iast (i := 0) hx hb hK hP hD hS 0 2 rfl rfl (by unfold vp_in; decide) dX8_make_148 (fun H locs hP hD hS => ?_)
              have hP : va_P (dC, dI) vwCl [(q4, .inl (c4, 16, .inl (upd (fun _ => (0 : Int32)) (0 : Int32).toNatClampNeg p1))), (q5, .inl (c5, 16, .inl (fun _ => (0 : Int32)))), (h0, .inr (8, [.int 0, .ref q1, v2, .ref q3, .ref q4, .ref q5, .ref q6, .ref q7, .ref q8, v9, v10, v11, v12, v13, v14, v15, v16]))] H := hP
              have hD : va_D A [(q4, .inl (c4, 16, .inl (upd (fun _ => (0 : Int32)) (0 : Int32).toNatClampNeg p1))), (q5, .inl (c5, 16, .inl (fun _ => (0 : Int32)))), (h0, .inr (8, [.int 0, .ref q1, v2, .ref q3, .ref q4, .ref q5, .ref q6, .ref q7, .ref q8, v9, v10, v11, v12, v13, v14, v15, v16]))] := hD
              refine lv_aload_n hx hb dX8_make_149 rfl (lv_at hl 2 rfl) ?_
              refine va_get (D := (dC, dI)) (ci := 8) (v := .ref q5) (C := RX8) (T := TX8) (N := 17) hx hb hts (by decide +kernel) hown hK hP 2 rfl rfl 5 (by decide) (hts (.fieldLink RX8 23 "KeyAtlasModel" "second" "[I") (by decide +kernel)) (fun _ h9 => h9) rfl dX8_make_150 ?_
              refine lv_iload hx hb dX8_make_153 (lv_at hl 0 rfl) ?_
              refine lv_iload_n hx hb dX8_make_155 rfl (lv_at hl 5 rfl) ?_
              refine va_iast (i := 0) hx hb hK hP hD hS 1 3 rfl rfl (by unfold vp_in; decide) dX8_make_156 (fun H locs hP hD hS => ?_)
              have hP : va_P (dC, dI) vwCl [(q4, .inl (c4, 16, .inl (upd (fun _ => (0 : Int32)) (0 : Int32).toNatClampNeg p1))), (q5, .inl (c5, 16, .inl (upd (fun _ => (0 : Int32)) (0 : Int32).toNatClampNeg p2))), (h0, .inr (8, [.int 0, .ref q1, v2, .ref q3, .ref q4, .ref q5, .ref q6, .ref q7, .ref q8, v9, v10, v11, v12, v13, v14, v15, v16]))] H := hP
              have hD : va_D A [(q4, .inl (c4, 16, .inl (upd (fun _ => (0 : Int32)) (0 : Int32).toNatClampNeg p1))), (q5, .inl (c5, 16, .inl (upd (fun _ => (0 : Int32)) (0 : Int32).toNatClampNeg p2))), (h0, .inr (8, [.int 0, .ref q1, v2, .ref q3, .ref q4, .ref q5, .ref q6, .ref q7, .ref q8, v9, v10, v11, v12, v13, v14, v15, v16]))] := hD
              refine lv_iload hx hb dX8_make_157 (lv_at hl 0 rfl) ?_
              have hP9 := hP.sub (ws' := [(h0, .inr (8, [.int 0, .ref q1, v2, .ref q3, .ref q4, .ref q5, .ref q6, .ref q7, .ref q8, v9, v10, v11, v12, v13, v14, v15, v16]))]) [2] rfl
              have hD9 := hD.sub (ws' := [(h0, .inr (8, [.int 0, .ref q1, v2, .ref q3, .ref q4, .ref q5, .ref q6, .ref q7, .ref q8, v9, v10, v11, v12, v13, v14, v15, v16]))]) [2] (by decide) rfl
              have hK9 := hK.sub (tys' := []) [] rfl
              refine W.widen (k := 0) (n := 0) (Nat.le_of_ble_eq_true rfl) (Nat.le_of_ble_eq_true rfl) ?_
              exact W.iret (v := 0) hx hb hr (fun t ht hW => ⟨⟨0, 0, rfl, ⟨tx_at (P := mkIs p0 p1 p2) (n := 0) (by decide) (by unfold mkIs; omega), fun _ => rfl⟩, by rw [ht]; exact hP9, va_K.moved hW.alike hK9, hD9⟩, hS.F ht⟩) hS.2.2 dX8_make_159
      ·
        have ic_4 : p0.toInt = 0 := tx_eq rfl (by decide) c_4
        refine lv_iload_n hx hb dX8_make_33 rfl (lv_at hl 2 rfl) ?_
        refine lv_sipush (v := 1000) hx hb dX8_make_34 (by decide) ?_
        refine lv_icmp_gt (tgt := 53) hx hb dX8_make_37 (by decide) (fun c_24 => ?_) (fun c_24 => ?_)
        ·
          have ic_24 : 1000 < p1.toInt := tx_lt (by decide) rfl c_24
          refine lv_iconst (v := 0) hx hb dX8_make_53 (by decide) ?_
          refine lv_goto (tgt := 96) hx hb dX8_make_54 (by decide) ?_
          refine lv_istore (lv' := [(4, .int 0), (0, .ref h0), (1, .int p0), (2, .int p1), (3, .int p2)]) hx hb dX8_make_96 hl (by decide) rfl (fun ls hl => ?_)
          refine lv_iload hx hb dX8_make_98 (lv_at hl 0 rfl) ?_
          refine lv_if_ne (tgt := 109) hx hb dX8_make_100 (by decide) (fun c_25 => absurd c_25 (by decide)) (fun c_25 => ?_)
          refine lv_aload_n hx hb dX8_make_103 rfl (lv_at hl 1 rfl) ?_
          refine lv_iconst (v := 1) hx hb dX8_make_104 (by decide) ?_
          have hPc := hP.sub (ws' := [(h0, .inr (8, [.int th, .ref q1, v2, .ref q3, .ref q4, .ref q5, .ref q6, .ref q7, .ref q8, v9, v10, v11, v12, v13, v14, v15, v16]))]) [0] rfl
          have hDc := hD.sub (ws' := [(h0, .inr (8, [.int th, .ref q1, v2, .ref q3, .ref q4, .ref q5, .ref q6, .ref q7, .ref q8, v9, v10, v11, v12, v13, v14, v15, v16]))]) [0] (by decide) rfl
          have hKc := hK.sub (tys' := []) [] rfl
          have hFc := va_free (wc := [(h0, .inr (8, [.int th, .ref q1, v2, .ref q3, .ref q4, .ref q5, .ref q6, .ref q7, .ref q8, v9, v10, v11, v12, v13, v14, v15, v16]))]) hD hS hA [0] rfl
          refine va_calli (va_runV (As := [.int 1]) (rest := []) ⟨hx, hb, hml, hown, hts⟩ (c_X8_refuse l  dC dI H.size h0 th 1 (.ref q1) v2 (.ref q3) (.ref q4) (.ref q5) (.ref q6) (.ref q7) (.ref q8) v9 v10 v11 v12 v13 v14 v15 v16) (cwV 1 hts gX8_make_X8_refuse rfl rfl rfl (by decide +kernel) ⟨(Nat.le_of_ble_eq_true rfl), (Nat.le_of_ble_eq_true rfl)⟩) ⟨pk_blind, va_recv hKc hPc (ci := 8) (q0 := 0) rfl rfl, pk_call hPc hKc hDc⟩ rfl rfl hl.1 rfl (lv_room (Nat.le_of_ble_eq_true rfl)) dX8_make_105 ⟨(Nat.le_of_ble_eq_true rfl), (Nat.le_of_ble_eq_true rfl)⟩) hS (fun q _ h => hFc q h) hFc (fun r_26 ur_26 t H1 locs ht hvm hw hB hz1 hk1 hS => ?_)
          try dsimp only at hw
          have jr_26 := hw
          obtain ⟨hP1, hK1, hD1⟩ := hB
          rw [ht] at hP1
          have hK1 := va_K.moved hvm.symm hK1
          obtain ⟨hP, hD⟩ := va_join (wr := [(q1, .inl (c1, 16, .inl (fun _ => (0 : Int32)))), (q3, .inl (c3, 16, .inl (fun _ => (0 : Int32)))), (q4, .inl (c4, 16, .inl (fun _ => (0 : Int32)))), (q5, .inl (c5, 16, .inl (fun _ => (0 : Int32)))), (q6, .inl (c6, 16, .inl (fun _ => (0 : Int32)))), (q7, .inl (c7, 16, .inl (fun _ => (0 : Int32)))), (q8, .inl (c8, 16, .inl (fun _ => (0 : Int32))))]) (w1 := [(h0, .inr (8, [.int 1, .ref q1, v2, .ref q3, .ref q4, .ref q5, .ref q6, .ref q7, .ref q8, v9, v10, v11, v12, v13, v14, v15, v16]))]) hP hD [0] [1, 2, 3, 4, 5, 6, 7] rfl rfl (by decide) (by decide) hk1 hFc hP1 hD1
          clear hk1 hz1 ht hPc hDc hKc
          generalize H1 = H at hP hS ⊢
          have hP : va_P (dC, dI) vwCl [(q1, .inl (c1, 16, .inl (fun _ => (0 : Int32)))), (q3, .inl (c3, 16, .inl (fun _ => (0 : Int32)))), (q4, .inl (c4, 16, .inl (fun _ => (0 : Int32)))), (q5, .inl (c5, 16, .inl (fun _ => (0 : Int32)))), (q6, .inl (c6, 16, .inl (fun _ => (0 : Int32)))), (q7, .inl (c7, 16, .inl (fun _ => (0 : Int32)))), (q8, .inl (c8, 16, .inl (fun _ => (0 : Int32)))), (h0, .inr (8, [.int 1, .ref q1, v2, .ref q3, .ref q4, .ref q5, .ref q6, .ref q7, .ref q8, v9, v10, v11, v12, v13, v14, v15, v16]))] H := hP
          have hD : va_D A [(q1, .inl (c1, 16, .inl (fun _ => (0 : Int32)))), (q3, .inl (c3, 16, .inl (fun _ => (0 : Int32)))), (q4, .inl (c4, 16, .inl (fun _ => (0 : Int32)))), (q5, .inl (c5, 16, .inl (fun _ => (0 : Int32)))), (q6, .inl (c6, 16, .inl (fun _ => (0 : Int32)))), (q7, .inl (c7, 16, .inl (fun _ => (0 : Int32)))), (q8, .inl (c8, 16, .inl (fun _ => (0 : Int32)))), (h0, .inr (8, [.int 1, .ref q1, v2, .ref q3, .ref q4, .ref q5, .ref q6, .ref q7, .ref q8, v9, v10, v11, v12, v13, v14, v15, v16]))] := hD
          refine W.widen (k := 0) (n := 0) (Nat.le_of_ble_eq_true rfl) (Nat.le_of_ble_eq_true rfl) ?_
          refine W.eq (g2 := F0 m 108 ls [.int r_26]) rfl ?_
          have hP9 := hP.sub (ws' := [(h0, .inr (8, [.int 1, .ref q1, v2, .ref q3, .ref q4, .ref q5, .ref q6, .ref q7, .ref q8, v9, v10, v11, v12, v13, v14, v15, v16]))]) [7] rfl
          have hD9 := hD.sub (ws' := [(h0, .inr (8, [.int 1, .ref q1, v2, .ref q3, .ref q4, .ref q5, .ref q6, .ref q7, .ref q8, v9, v10, v11, v12, v13, v14, v15, v16]))]) [7] (by decide) rfl
          have hK9 := hK.sub (tys' := []) [] rfl
          refine W.widen (k := 0) (n := 0) (Nat.le_of_ble_eq_true rfl) (Nat.le_of_ble_eq_true rfl) ?_
          exact W.iret (v := r_26) hx hb hr (fun t ht hW => ⟨⟨r_26, 1, rfl, ⟨tx_at (P := mkIs p0 p1 p2) (n := 1) (by decide) (by unfold mkIs; omega), fun h => absurd h (by decide)⟩, by rw [ht]; exact hP9, va_K.moved hW.alike hK9, hD9⟩, hS.F ht⟩) hS.2.2 dX8_make_108
        ·
          have ic_24 : p1.toInt ≤ 1000 := tx_nlt (by decide) rfl c_24
          refine lv_iload_n hx hb dX8_make_40 rfl (lv_at hl 3 rfl) ?_
          refine lv_iconst (v := 0) hx hb dX8_make_41 (by decide) ?_
          refine lv_iconst (v := 3) hx hb dX8_make_42 (by decide) ?_
          have hPc := hP.sub (ws' := []) [] rfl
          have hDc := hD.sub (ws' := []) [] (by decide) rfl
          have hKc := hK.sub (tys' := []) [] rfl
          have hFc := va_free (wc := []) hD hS hA [] rfl
          refine va_calli (va_runS (As := [.int p2, .int 0, .int 3]) (rest := []) ⟨hx, hb, hml, hown, hts⟩ (c_X8_in l  dC dI H.size p2 0 3 0 3 (by decide) (by decide)) (va_cwS 3 hts gX8_make_X8_in rfl rfl rfl (by decide +kernel) ⟨(Nat.le_of_ble_eq_true rfl), (Nat.le_of_ble_eq_true rfl)⟩) ⟨pk_blind, pk_call hPc hKc hDc⟩ rfl rfl hl.1 rfl (lv_room (Nat.le_of_ble_eq_true rfl)) dX8_make_43 ⟨(Nat.le_of_ble_eq_true rfl), (Nat.le_of_ble_eq_true rfl)⟩) hS (fun q _ h => hFc q h) hFc (fun r_27 ur_27 t H1 locs ht hvm hw hB hz1 hk1 hS => ?_)
          try dsimp only at hw
          have jr_27 := hw
          obtain ⟨hP, hD⟩ := va_join (wr := [(h0, .inr (8, [.int th, .ref q1, v2, .ref q3, .ref q4, .ref q5, .ref q6, .ref q7, .ref q8, v9, v10, v11, v12, v13, v14, v15, v16])), (q1, .inl (c1, 16, .inl (fun _ => (0 : Int32)))), (q3, .inl (c3, 16, .inl (fun _ => (0 : Int32)))), (q4, .inl (c4, 16, .inl (fun _ => (0 : Int32)))), (q5, .inl (c5, 16, .inl (fun _ => (0 : Int32)))), (q6, .inl (c6, 16, .inl (fun _ => (0 : Int32)))), (q7, .inl (c7, 16, .inl (fun _ => (0 : Int32)))), (q8, .inl (c8, 16, .inl (fun _ => (0 : Int32))))]) (w1 := []) hP hD [] [0, 1, 2, 3, 4, 5, 6, 7] rfl rfl (by decide) (by decide) hk1 hFc tx_P0 tx_D0
          clear hk1 hz1 ht hPc hDc hKc
          generalize H1 = H at hP hS ⊢
          have hP : va_P (dC, dI) vwCl [(h0, .inr (8, [.int th, .ref q1, v2, .ref q3, .ref q4, .ref q5, .ref q6, .ref q7, .ref q8, v9, v10, v11, v12, v13, v14, v15, v16])), (q1, .inl (c1, 16, .inl (fun _ => (0 : Int32)))), (q3, .inl (c3, 16, .inl (fun _ => (0 : Int32)))), (q4, .inl (c4, 16, .inl (fun _ => (0 : Int32)))), (q5, .inl (c5, 16, .inl (fun _ => (0 : Int32)))), (q6, .inl (c6, 16, .inl (fun _ => (0 : Int32)))), (q7, .inl (c7, 16, .inl (fun _ => (0 : Int32)))), (q8, .inl (c8, 16, .inl (fun _ => (0 : Int32))))] H := hP
          have hD : va_D A [(h0, .inr (8, [.int th, .ref q1, v2, .ref q3, .ref q4, .ref q5, .ref q6, .ref q7, .ref q8, v9, v10, v11, v12, v13, v14, v15, v16])), (q1, .inl (c1, 16, .inl (fun _ => (0 : Int32)))), (q3, .inl (c3, 16, .inl (fun _ => (0 : Int32)))), (q4, .inl (c4, 16, .inl (fun _ => (0 : Int32)))), (q5, .inl (c5, 16, .inl (fun _ => (0 : Int32)))), (q6, .inl (c6, 16, .inl (fun _ => (0 : Int32)))), (q7, .inl (c7, 16, .inl (fun _ => (0 : Int32)))), (q8, .inl (c8, 16, .inl (fun _ => (0 : Int32))))] := hD
          refine W.widen (k := 0) (n := 0) (Nat.le_of_ble_eq_true rfl) (Nat.le_of_ble_eq_true rfl) ?_
          refine W.eq (g2 := F0 m 46 ls [.int r_27]) rfl ?_
          refine lv_if_eq (tgt := 53) hx hb dX8_make_46 (by decide) (fun c_28 => ?_) (fun c_28 => ?_)
          ·
            have ic_28 : r_27.toInt = 0 := tx_eq rfl (by decide) c_28
            refine lv_iconst (v := 0) hx hb dX8_make_53 (by decide) ?_
            refine lv_goto (tgt := 96) hx hb dX8_make_54 (by decide) ?_
            refine lv_istore (lv' := [(4, .int 0), (0, .ref h0), (1, .int p0), (2, .int p1), (3, .int p2)]) hx hb dX8_make_96 hl (by decide) rfl (fun ls hl => ?_)
            refine lv_iload hx hb dX8_make_98 (lv_at hl 0 rfl) ?_
            refine lv_if_ne (tgt := 109) hx hb dX8_make_100 (by decide) (fun c_29 => absurd c_29 (by decide)) (fun c_29 => ?_)
            refine lv_aload_n hx hb dX8_make_103 rfl (lv_at hl 1 rfl) ?_
            refine lv_iconst (v := 1) hx hb dX8_make_104 (by decide) ?_
            have hPc := hP.sub (ws' := [(h0, .inr (8, [.int th, .ref q1, v2, .ref q3, .ref q4, .ref q5, .ref q6, .ref q7, .ref q8, v9, v10, v11, v12, v13, v14, v15, v16]))]) [0] rfl
            have hDc := hD.sub (ws' := [(h0, .inr (8, [.int th, .ref q1, v2, .ref q3, .ref q4, .ref q5, .ref q6, .ref q7, .ref q8, v9, v10, v11, v12, v13, v14, v15, v16]))]) [0] (by decide) rfl
            have hKc := hK.sub (tys' := []) [] rfl
            have hFc := va_free (wc := [(h0, .inr (8, [.int th, .ref q1, v2, .ref q3, .ref q4, .ref q5, .ref q6, .ref q7, .ref q8, v9, v10, v11, v12, v13, v14, v15, v16]))]) hD hS hA [0] rfl
            refine va_calli (va_runV (As := [.int 1]) (rest := []) ⟨hx, hb, hml, hown, hts⟩ (c_X8_refuse l  dC dI H.size h0 th 1 (.ref q1) v2 (.ref q3) (.ref q4) (.ref q5) (.ref q6) (.ref q7) (.ref q8) v9 v10 v11 v12 v13 v14 v15 v16) (cwV 1 hts gX8_make_X8_refuse rfl rfl rfl (by decide +kernel) ⟨(Nat.le_of_ble_eq_true rfl), (Nat.le_of_ble_eq_true rfl)⟩) ⟨pk_blind, va_recv hKc hPc (ci := 8) (q0 := 0) rfl rfl, pk_call hPc hKc hDc⟩ rfl rfl hl.1 rfl (lv_room (Nat.le_of_ble_eq_true rfl)) dX8_make_105 ⟨(Nat.le_of_ble_eq_true rfl), (Nat.le_of_ble_eq_true rfl)⟩) hS (fun q _ h => hFc q h) hFc (fun r_30 ur_30 t H1 locs ht hvm hw hB hz1 hk1 hS => ?_)
            try dsimp only at hw
            have jr_30 := hw
            obtain ⟨hP1, hK1, hD1⟩ := hB
            rw [ht] at hP1
            have hK1 := va_K.moved hvm.symm hK1
            obtain ⟨hP, hD⟩ := va_join (wr := [(q1, .inl (c1, 16, .inl (fun _ => (0 : Int32)))), (q3, .inl (c3, 16, .inl (fun _ => (0 : Int32)))), (q4, .inl (c4, 16, .inl (fun _ => (0 : Int32)))), (q5, .inl (c5, 16, .inl (fun _ => (0 : Int32)))), (q6, .inl (c6, 16, .inl (fun _ => (0 : Int32)))), (q7, .inl (c7, 16, .inl (fun _ => (0 : Int32)))), (q8, .inl (c8, 16, .inl (fun _ => (0 : Int32))))]) (w1 := [(h0, .inr (8, [.int 1, .ref q1, v2, .ref q3, .ref q4, .ref q5, .ref q6, .ref q7, .ref q8, v9, v10, v11, v12, v13, v14, v15, v16]))]) hP hD [0] [1, 2, 3, 4, 5, 6, 7] rfl rfl (by decide) (by decide) hk1 hFc hP1 hD1
            clear hk1 hz1 ht hPc hDc hKc
            generalize H1 = H at hP hS ⊢
            have hP : va_P (dC, dI) vwCl [(q1, .inl (c1, 16, .inl (fun _ => (0 : Int32)))), (q3, .inl (c3, 16, .inl (fun _ => (0 : Int32)))), (q4, .inl (c4, 16, .inl (fun _ => (0 : Int32)))), (q5, .inl (c5, 16, .inl (fun _ => (0 : Int32)))), (q6, .inl (c6, 16, .inl (fun _ => (0 : Int32)))), (q7, .inl (c7, 16, .inl (fun _ => (0 : Int32)))), (q8, .inl (c8, 16, .inl (fun _ => (0 : Int32)))), (h0, .inr (8, [.int 1, .ref q1, v2, .ref q3, .ref q4, .ref q5, .ref q6, .ref q7, .ref q8, v9, v10, v11, v12, v13, v14, v15, v16]))] H := hP
            have hD : va_D A [(q1, .inl (c1, 16, .inl (fun _ => (0 : Int32)))), (q3, .inl (c3, 16, .inl (fun _ => (0 : Int32)))), (q4, .inl (c4, 16, .inl (fun _ => (0 : Int32)))), (q5, .inl (c5, 16, .inl (fun _ => (0 : Int32)))), (q6, .inl (c6, 16, .inl (fun _ => (0 : Int32)))), (q7, .inl (c7, 16, .inl (fun _ => (0 : Int32)))), (q8, .inl (c8, 16, .inl (fun _ => (0 : Int32)))), (h0, .inr (8, [.int 1, .ref q1, v2, .ref q3, .ref q4, .ref q5, .ref q6, .ref q7, .ref q8, v9, v10, v11, v12, v13, v14, v15, v16]))] := hD
            refine W.widen (k := 0) (n := 0) (Nat.le_of_ble_eq_true rfl) (Nat.le_of_ble_eq_true rfl) ?_
            refine W.eq (g2 := F0 m 108 ls [.int r_30]) rfl ?_
            have hP9 := hP.sub (ws' := [(h0, .inr (8, [.int 1, .ref q1, v2, .ref q3, .ref q4, .ref q5, .ref q6, .ref q7, .ref q8, v9, v10, v11, v12, v13, v14, v15, v16]))]) [7] rfl
            have hD9 := hD.sub (ws' := [(h0, .inr (8, [.int 1, .ref q1, v2, .ref q3, .ref q4, .ref q5, .ref q6, .ref q7, .ref q8, v9, v10, v11, v12, v13, v14, v15, v16]))]) [7] (by decide) rfl
            have hK9 := hK.sub (tys' := []) [] rfl
            refine W.widen (k := 0) (n := 0) (Nat.le_of_ble_eq_true rfl) (Nat.le_of_ble_eq_true rfl) ?_
            exact W.iret (v := r_30) hx hb hr (fun t ht hW => ⟨⟨r_30, 1, rfl, ⟨tx_at (P := mkIs p0 p1 p2) (n := 1) (by decide) (by unfold mkIs; omega), fun h => absurd h (by decide)⟩, by rw [ht]; exact hP9, va_K.moved hW.alike hK9, hD9⟩, hS.F ht⟩) hS.2.2 dX8_make_108
          ·
            have ic_28 : ¬ r_27.toInt = 0 := tx_ne rfl (by decide) c_28
            refine lv_iconst (v := 1) hx hb dX8_make_49 (by decide) ?_
            refine lv_goto (tgt := 96) hx hb dX8_make_50 (by decide) ?_
            refine lv_istore (lv' := [(4, .int 1), (0, .ref h0), (1, .int p0), (2, .int p1), (3, .int p2)]) hx hb dX8_make_96 hl (by decide) rfl (fun ls hl => ?_)
            refine lv_iload hx hb dX8_make_98 (lv_at hl 0 rfl) ?_
            refine lv_if_ne (tgt := 109) hx hb dX8_make_100 (by decide) (fun c_31 => ?_) (fun c_31 => absurd c_31 (by decide))
            refine lv_aload_n hx hb dX8_make_109 rfl (lv_at hl 1 rfl) ?_
            have hPc := hP.sub (ws' := [(h0, .inr (8, [.int th, .ref q1, v2, .ref q3, .ref q4, .ref q5, .ref q6, .ref q7, .ref q8, v9, v10, v11, v12, v13, v14, v15, v16])), (q1, .inl (c1, 16, .inl (fun _ => (0 : Int32))))]) [0, 1] rfl
            have hDc := hD.sub (ws' := [(h0, .inr (8, [.int th, .ref q1, v2, .ref q3, .ref q4, .ref q5, .ref q6, .ref q7, .ref q8, v9, v10, v11, v12, v13, v14, v15, v16])), (q1, .inl (c1, 16, .inl (fun _ => (0 : Int32))))]) [0, 1] (by decide) rfl
            have hKc := hK.sub (tys' := [(c1, .int)]) [0] rfl
            have hFc := va_free (wc := [(h0, .inr (8, [.int th, .ref q1, v2, .ref q3, .ref q4, .ref q5, .ref q6, .ref q7, .ref q8, v9, v10, v11, v12, v13, v14, v15, v16])), (q1, .inl (c1, 16, .inl (fun _ => (0 : Int32))))]) hD hS hA [0, 1] rfl
            refine va_calli (va_runV (As := []) (rest := []) ⟨hx, hb, hml, hown, hts⟩ (c_X8_free l  dC dI H.size h0 q1 c1 th v2 (.ref q3) (.ref q4) (.ref q5) (.ref q6) (.ref q7) (.ref q8) v9 v10 v11 v12 v13 v14 v15 v16) (cwV 0 hts gX8_make_X8_free rfl rfl rfl (by decide +kernel) ⟨(Nat.le_of_ble_eq_true rfl), (Nat.le_of_ble_eq_true rfl)⟩) ⟨pk_blind, va_recv hKc hPc (ci := 8) (q0 := 0) rfl rfl, pk_call hPc hKc hDc⟩ rfl rfl hl.1 rfl (lv_room (Nat.le_of_ble_eq_true rfl)) dX8_make_110 ⟨(Nat.le_of_ble_eq_true rfl), (Nat.le_of_ble_eq_true rfl)⟩) hS (fun q _ h => hFc q h) hFc (fun r_32 ur_32 t H1 locs ht hvm hw hB hz1 hk1 hS => ?_)
            try dsimp only at hw
            obtain ⟨hP1, hK1, hD1⟩ := hB
            rw [ht] at hP1
            have hK1 := va_K.moved hvm.symm hK1
            obtain ⟨hP, hD⟩ := va_join (wr := [(q3, .inl (c3, 16, .inl (fun _ => (0 : Int32)))), (q4, .inl (c4, 16, .inl (fun _ => (0 : Int32)))), (q5, .inl (c5, 16, .inl (fun _ => (0 : Int32)))), (q6, .inl (c6, 16, .inl (fun _ => (0 : Int32)))), (q7, .inl (c7, 16, .inl (fun _ => (0 : Int32)))), (q8, .inl (c8, 16, .inl (fun _ => (0 : Int32))))]) (w1 := [(h0, .inr (8, [.int th, .ref q1, v2, .ref q3, .ref q4, .ref q5, .ref q6, .ref q7, .ref q8, v9, v10, v11, v12, v13, v14, v15, v16])), (q1, .inl (c1, 16, .inl (fun _ => (0 : Int32))))]) hP hD [0, 1] [2, 3, 4, 5, 6, 7] rfl rfl (by decide) (by decide) hk1 hFc hP1 hD1
            clear hk1 hz1 ht hPc hDc hKc
            generalize H1 = H at hP hS ⊢
            have hP : va_P (dC, dI) vwCl [(q3, .inl (c3, 16, .inl (fun _ => (0 : Int32)))), (q4, .inl (c4, 16, .inl (fun _ => (0 : Int32)))), (q5, .inl (c5, 16, .inl (fun _ => (0 : Int32)))), (q6, .inl (c6, 16, .inl (fun _ => (0 : Int32)))), (q7, .inl (c7, 16, .inl (fun _ => (0 : Int32)))), (q8, .inl (c8, 16, .inl (fun _ => (0 : Int32)))), (h0, .inr (8, [.int th, .ref q1, v2, .ref q3, .ref q4, .ref q5, .ref q6, .ref q7, .ref q8, v9, v10, v11, v12, v13, v14, v15, v16])), (q1, .inl (c1, 16, .inl (fun _ => (0 : Int32))))] H := hP
            have hD : va_D A [(q3, .inl (c3, 16, .inl (fun _ => (0 : Int32)))), (q4, .inl (c4, 16, .inl (fun _ => (0 : Int32)))), (q5, .inl (c5, 16, .inl (fun _ => (0 : Int32)))), (q6, .inl (c6, 16, .inl (fun _ => (0 : Int32)))), (q7, .inl (c7, 16, .inl (fun _ => (0 : Int32)))), (q8, .inl (c8, 16, .inl (fun _ => (0 : Int32)))), (h0, .inr (8, [.int th, .ref q1, v2, .ref q3, .ref q4, .ref q5, .ref q6, .ref q7, .ref q8, v9, v10, v11, v12, v13, v14, v15, v16])), (q1, .inl (c1, 16, .inl (fun _ => (0 : Int32))))] := hD
            refine W.widen (k := 0) (n := 0) (Nat.le_of_ble_eq_true rfl) (Nat.le_of_ble_eq_true rfl) ?_
            obtain rfl : r_32 = 0 := hw
            refine W.eq (g2 := F0 m 113 ls [.int 0]) rfl ?_
            refine lv_istore (lv' := [(5, .int 0), (4, .int 1), (0, .ref h0), (1, .int p0), (2, .int p1), (3, .int p2)]) hx hb dX8_make_113 hl (by decide) rfl (fun ls hl => ?_)
            refine lv_iload hx hb dX8_make_115 (lv_at hl 0 rfl) ?_
            refine lv_if_ge (tgt := 126) hx hb dX8_make_117 (by decide) (fun c_33 => ?_) (fun c_33 => absurd c_33 (by decide))
            refine lv_aload_n hx hb dX8_make_126 rfl (lv_at hl 2 rfl) ?_
            refine lv_iconst (v := 0) hx hb dX8_make_127 (by decide) ?_
            refine va_put (D := (dC, dI)) (ci := 8) (v := .int 0) (ty := .int) (C := RX8) (T := TX8) (N := 17) hx hb hts (by decide +kernel) tyX8 tyX8_ok nmX8 hown hK hP hD hS 6 rfl rfl 0 (by decide) (hts (.fieldLink RX8 60 "KeyAtlasModel" "thrown" "I") (by decide +kernel)) (fun _ h9 => h9) rfl (by decide +kernel) rfl rfl (Nat.le_of_ble_eq_true rfl) dX8_make_128 (fun H locs hP hD hS => ?_)
            have hP : va_P (dC, dI) vwCl [(q3, .inl (c3, 16, .inl (fun _ => (0 : Int32)))), (q4, .inl (c4, 16, .inl (fun _ => (0 : Int32)))), (q5, .inl (c5, 16, .inl (fun _ => (0 : Int32)))), (q6, .inl (c6, 16, .inl (fun _ => (0 : Int32)))), (q7, .inl (c7, 16, .inl (fun _ => (0 : Int32)))), (q8, .inl (c8, 16, .inl (fun _ => (0 : Int32)))), (h0, .inr (8, [.int 0, .ref q1, v2, .ref q3, .ref q4, .ref q5, .ref q6, .ref q7, .ref q8, v9, v10, v11, v12, v13, v14, v15, v16])), (q1, .inl (c1, 16, .inl (fun _ => (0 : Int32))))] H := hP
            have hD : va_D A [(q3, .inl (c3, 16, .inl (fun _ => (0 : Int32)))), (q4, .inl (c4, 16, .inl (fun _ => (0 : Int32)))), (q5, .inl (c5, 16, .inl (fun _ => (0 : Int32)))), (q6, .inl (c6, 16, .inl (fun _ => (0 : Int32)))), (q7, .inl (c7, 16, .inl (fun _ => (0 : Int32)))), (q8, .inl (c8, 16, .inl (fun _ => (0 : Int32)))), (h0, .inr (8, [.int 0, .ref q1, v2, .ref q3, .ref q4, .ref q5, .ref q6, .ref q7, .ref q8, v9, v10, v11, v12, v13, v14, v15, v16])), (q1, .inl (c1, 16, .inl (fun _ => (0 : Int32))))] := hD
            refine lv_aload_n hx hb dX8_make_131 rfl (lv_at hl 2 rfl) ?_
            refine lv_iload hx hb dX8_make_132 (lv_at hl 0 rfl) ?_
            refine lv_iload_n hx hb dX8_make_134 rfl (lv_at hl 3 rfl) ?_
            refine lv_iconst (v := 1) hx hb dX8_make_135 (by decide) ?_
            refine lv_iadd hx hb dX8_make_136 ?_
            have hPc := hP.sub (ws' := [(h0, .inr (8, [.int 0, .ref q1, v2, .ref q3, .ref q4, .ref q5, .ref q6, .ref q7, .ref q8, v9, v10, v11, v12, v13, v14, v15, v16])), (q1, .inl (c1, 16, .inl (fun _ => (0 : Int32)))), (q3, .inl (c3, 16, .inl (fun _ => (0 : Int32)))), (q6, .inl (c6, 16, .inl (fun _ => (0 : Int32)))), (q7, .inl (c7, 16, .inl (fun _ => (0 : Int32)))), (q8, .inl (c8, 16, .inl (fun _ => (0 : Int32))))]) [6, 7, 0, 3, 4, 5] rfl
            have hDc := hD.sub (ws' := [(h0, .inr (8, [.int 0, .ref q1, v2, .ref q3, .ref q4, .ref q5, .ref q6, .ref q7, .ref q8, v9, v10, v11, v12, v13, v14, v15, v16])), (q1, .inl (c1, 16, .inl (fun _ => (0 : Int32)))), (q3, .inl (c3, 16, .inl (fun _ => (0 : Int32)))), (q6, .inl (c6, 16, .inl (fun _ => (0 : Int32)))), (q7, .inl (c7, 16, .inl (fun _ => (0 : Int32)))), (q8, .inl (c8, 16, .inl (fun _ => (0 : Int32))))]) [6, 7, 0, 3, 4, 5] (by decide) rfl
            have hKc := hK.sub (tys' := [(c1, .int), (c3, .int), (c6, .int), (c7, .int), (c8, .int)]) [0, 1, 4, 5, 6] rfl
            have hFc := va_free (wc := [(h0, .inr (8, [.int 0, .ref q1, v2, .ref q3, .ref q4, .ref q5, .ref q6, .ref q7, .ref q8, v9, v10, v11, v12, v13, v14, v15, v16])), (q1, .inl (c1, 16, .inl (fun _ => (0 : Int32)))), (q3, .inl (c3, 16, .inl (fun _ => (0 : Int32)))), (q6, .inl (c6, 16, .inl (fun _ => (0 : Int32)))), (q7, .inl (c7, 16, .inl (fun _ => (0 : Int32)))), (q8, .inl (c8, 16, .inl (fun _ => (0 : Int32))))]) hD hS hA [6, 7, 0, 3, 4, 5] rfl
            refine va_calli (va_runV (As := [.int 0, .int (p0 + 1)]) (rest := []) ⟨hx, hb, hml, hown, hts⟩ (c_X8_born l  dC dI H.size h0 0 q1 q3 q6 q7 q8 c1 c3 c6 c7 c8 v2 (.ref q4) (.ref q5) v9 v10 v11 v12 v13 v14 v15 v16 (p0 + 1)) (cwV 2 hts gX8_make_X8_born rfl rfl rfl (by decide +kernel) ⟨(Nat.le_of_ble_eq_true rfl), (Nat.le_of_ble_eq_true rfl)⟩) ⟨pk_blind, va_recv hKc hPc (ci := 8) (q0 := 0) rfl rfl, pk_call hPc hKc hDc⟩ rfl rfl hl.1 rfl (lv_room (Nat.le_of_ble_eq_true rfl)) dX8_make_137 ⟨(Nat.le_of_ble_eq_true rfl), (Nat.le_of_ble_eq_true rfl)⟩) hS (fun q _ h => hFc q h) hFc (fun r_34 ur_34 t H1 locs ht hvm hw hB hz1 hk1 hS => ?_)
            try dsimp only at hw
            have jr_34 := hw
            obtain ⟨hP1, hK1, hD1⟩ := hB
            rw [ht] at hP1
            have hK1 := va_K.moved hvm.symm hK1
            obtain ⟨hP, hD⟩ := va_join (wr := [(q4, .inl (c4, 16, .inl (fun _ => (0 : Int32)))), (q5, .inl (c5, 16, .inl (fun _ => (0 : Int32))))]) (w1 := [(h0, .inr (8, [.int 0, .ref q1, v2, .ref q3, .ref q4, .ref q5, .ref q6, .ref q7, .ref q8, v9, v10, v11, v12, v13, v14, v15, v16]))]) hP hD [6, 7, 0, 3, 4, 5] [1, 2] rfl rfl (by decide) (by decide) hk1 hFc hP1 hD1
            clear hk1 hz1 ht hPc hDc hKc
            generalize H1 = H at hP hS ⊢
            have hP : va_P (dC, dI) vwCl [(q4, .inl (c4, 16, .inl (fun _ => (0 : Int32)))), (q5, .inl (c5, 16, .inl (fun _ => (0 : Int32)))), (h0, .inr (8, [.int 0, .ref q1, v2, .ref q3, .ref q4, .ref q5, .ref q6, .ref q7, .ref q8, v9, v10, v11, v12, v13, v14, v15, v16]))] H := hP
            have hD : va_D A [(q4, .inl (c4, 16, .inl (fun _ => (0 : Int32)))), (q5, .inl (c5, 16, .inl (fun _ => (0 : Int32)))), (h0, .inr (8, [.int 0, .ref q1, v2, .ref q3, .ref q4, .ref q5, .ref q6, .ref q7, .ref q8, v9, v10, v11, v12, v13, v14, v15, v16]))] := hD
            refine W.widen (k := 0) (n := 0) (Nat.le_of_ble_eq_true rfl) (Nat.le_of_ble_eq_true rfl) ?_
            refine W.eq (g2 := F0 m 140 ls [.int r_34]) rfl ?_
            refine lv_pop hx hb dX8_make_140 rfl ?_
            refine lv_aload_n hx hb dX8_make_141 rfl (lv_at hl 2 rfl) ?_
            refine va_get (D := (dC, dI)) (ci := 8) (v := .ref q4) (C := RX8) (T := TX8) (N := 17) hx hb hts (by decide +kernel) hown hK hP 2 rfl rfl 4 (by decide) (hts (.fieldLink RX8 20 "KeyAtlasModel" "first" "[I") (by decide +kernel)) (fun _ h9 => h9) rfl dX8_make_142 ?_
            refine lv_iload hx hb dX8_make_145 (lv_at hl 0 rfl) ?_
            refine lv_iload_n hx hb dX8_make_147 rfl (lv_at hl 4 rfl) ?_
            refine va_iast (i := 0) hx hb hK hP hD hS 0 2 rfl rfl (by unfold vp_in; decide) dX8_make_148 (fun H locs hP hD hS => ?_)
            have hP : va_P (dC, dI) vwCl [(q4, .inl (c4, 16, .inl (upd (fun _ => (0 : Int32)) (0 : Int32).toNatClampNeg p1))), (q5, .inl (c5, 16, .inl (fun _ => (0 : Int32)))), (h0, .inr (8, [.int 0, .ref q1, v2, .ref q3, .ref q4, .ref q5, .ref q6, .ref q7, .ref q8, v9, v10, v11, v12, v13, v14, v15, v16]))] H := hP
            have hD : va_D A [(q4, .inl (c4, 16, .inl (upd (fun _ => (0 : Int32)) (0 : Int32).toNatClampNeg p1))), (q5, .inl (c5, 16, .inl (fun _ => (0 : Int32)))), (h0, .inr (8, [.int 0, .ref q1, v2, .ref q3, .ref q4, .ref q5, .ref q6, .ref q7, .ref q8, v9, v10, v11, v12, v13, v14, v15, v16]))] := hD
            refine lv_aload_n hx hb dX8_make_149 rfl (lv_at hl 2 rfl) ?_
            refine va_get (D := (dC, dI)) (ci := 8) (v := .ref q5) (C := RX8) (T := TX8) (N := 17) hx hb hts (by decide +kernel) hown hK hP 2 rfl rfl 5 (by decide) (hts (.fieldLink RX8 23 "KeyAtlasModel" "second" "[I") (by decide +kernel)) (fun _ h9 => h9) rfl dX8_make_150 ?_
            refine lv_iload hx hb dX8_make_153 (lv_at hl 0 rfl) ?_
            refine lv_iload_n hx hb dX8_make_155 rfl (lv_at hl 5 rfl) ?_
            refine va_iast (i := 0) hx hb hK hP hD hS 1 3 rfl rfl (by unfold vp_in; decide) dX8_make_156 (fun H locs hP hD hS => ?_)
            have hP : va_P (dC, dI) vwCl [(q4, .inl (c4, 16, .inl (upd (fun _ => (0 : Int32)) (0 : Int32).toNatClampNeg p1))), (q5, .inl (c5, 16, .inl (upd (fun _ => (0 : Int32)) (0 : Int32).toNatClampNeg p2))), (h0, .inr (8, [.int 0, .ref q1, v2, .ref q3, .ref q4, .ref q5, .ref q6, .ref q7, .ref q8, v9, v10, v11, v12, v13, v14, v15, v16]))] H := hP
            have hD : va_D A [(q4, .inl (c4, 16, .inl (upd (fun _ => (0 : Int32)) (0 : Int32).toNatClampNeg p1))), (q5, .inl (c5, 16, .inl (upd (fun _ => (0 : Int32)) (0 : Int32).toNatClampNeg p2))), (h0, .inr (8, [.int 0, .ref q1, v2, .ref q3, .ref q4, .ref q5, .ref q6, .ref q7, .ref q8, v9, v10, v11, v12, v13, v14, v15, v16]))] := hD
            refine lv_iload hx hb dX8_make_157 (lv_at hl 0 rfl) ?_
            have hP9 := hP.sub (ws' := [(h0, .inr (8, [.int 0, .ref q1, v2, .ref q3, .ref q4, .ref q5, .ref q6, .ref q7, .ref q8, v9, v10, v11, v12, v13, v14, v15, v16]))]) [2] rfl
            have hD9 := hD.sub (ws' := [(h0, .inr (8, [.int 0, .ref q1, v2, .ref q3, .ref q4, .ref q5, .ref q6, .ref q7, .ref q8, v9, v10, v11, v12, v13, v14, v15, v16]))]) [2] (by decide) rfl
            have hK9 := hK.sub (tys' := []) [] rfl
            refine W.widen (k := 0) (n := 0) (Nat.le_of_ble_eq_true rfl) (Nat.le_of_ble_eq_true rfl) ?_
            exact W.iret (v := 0) hx hb hr (fun t ht hW => ⟨⟨0, 0, rfl, ⟨tx_at (P := mkIs p0 p1 p2) (n := 0) (by decide) (by unfold mkIs; omega), fun _ => rfl⟩, by rw [ht]; exact hP9, va_K.moved hW.alike hK9, hD9⟩, hS.F ht⟩) hS.2.2 dX8_make_159
    ·
      have ic_3 : p0.toInt = 0 := tx_eq rfl (by decide) c_3
      refine lv_iload_n hx hb dX8_make_19 rfl (lv_at hl 2 rfl) ?_
      refine lv_if_ge (tgt := 29) hx hb dX8_make_20 (by decide) (fun c_35 => ?_) (fun c_35 => ?_)
      ·
        have ic_35 : 0 ≤ p1.toInt := tx_le (by decide) rfl c_35
        refine lv_iload_n hx hb dX8_make_29 rfl (lv_at hl 1 rfl) ?_
        refine lv_if_ne (tgt := 57) hx hb dX8_make_30 (by decide) (fun c_36 => ?_) (fun c_36 => ?_)
        ·
          have ic_36 : ¬ p0.toInt = 0 := tx_ne rfl (by decide) c_36
          refine lv_iload_n hx hb dX8_make_57 rfl (lv_at hl 1 rfl) ?_
          refine lv_iconst (v := 1) hx hb dX8_make_58 (by decide) ?_
          refine lv_icmp_ne (tgt := 90) hx hb dX8_make_59 (by decide) (fun c_37 => ?_) (fun c_37 => ?_)
          ·
            have ic_37 : ¬ p0.toInt = 1 := tx_ne rfl (by decide) c_37
            refine lv_iload_n hx hb dX8_make_90 rfl (lv_at hl 2 rfl) ?_
            refine lv_iconst (v := 0) hx hb dX8_make_91 (by decide) ?_
            refine lv_iconst (v := 3) hx hb dX8_make_92 (by decide) ?_
            have hPc := hP.sub (ws' := []) [] rfl
            have hDc := hD.sub (ws' := []) [] (by decide) rfl
            have hKc := hK.sub (tys' := []) [] rfl
            have hFc := va_free (wc := []) hD hS hA [] rfl
            refine va_calli (va_runS (As := [.int p1, .int 0, .int 3]) (rest := []) ⟨hx, hb, hml, hown, hts⟩ (c_X8_in l  dC dI H.size p1 0 3 0 3 (by decide) (by decide)) (va_cwS 3 hts gX8_make_X8_in rfl rfl rfl (by decide +kernel) ⟨(Nat.le_of_ble_eq_true rfl), (Nat.le_of_ble_eq_true rfl)⟩) ⟨pk_blind, pk_call hPc hKc hDc⟩ rfl rfl hl.1 rfl (lv_room (Nat.le_of_ble_eq_true rfl)) dX8_make_93 ⟨(Nat.le_of_ble_eq_true rfl), (Nat.le_of_ble_eq_true rfl)⟩) hS (fun q _ h => hFc q h) hFc (fun r_38 ur_38 t H1 locs ht hvm hw hB hz1 hk1 hS => ?_)
            try dsimp only at hw
            have jr_38 := hw
            obtain ⟨hP, hD⟩ := va_join (wr := [(h0, .inr (8, [.int th, .ref q1, v2, .ref q3, .ref q4, .ref q5, .ref q6, .ref q7, .ref q8, v9, v10, v11, v12, v13, v14, v15, v16])), (q1, .inl (c1, 16, .inl (fun _ => (0 : Int32)))), (q3, .inl (c3, 16, .inl (fun _ => (0 : Int32)))), (q4, .inl (c4, 16, .inl (fun _ => (0 : Int32)))), (q5, .inl (c5, 16, .inl (fun _ => (0 : Int32)))), (q6, .inl (c6, 16, .inl (fun _ => (0 : Int32)))), (q7, .inl (c7, 16, .inl (fun _ => (0 : Int32)))), (q8, .inl (c8, 16, .inl (fun _ => (0 : Int32))))]) (w1 := []) hP hD [] [0, 1, 2, 3, 4, 5, 6, 7] rfl rfl (by decide) (by decide) hk1 hFc tx_P0 tx_D0
            clear hk1 hz1 ht hPc hDc hKc
            generalize H1 = H at hP hS ⊢
            have hP : va_P (dC, dI) vwCl [(h0, .inr (8, [.int th, .ref q1, v2, .ref q3, .ref q4, .ref q5, .ref q6, .ref q7, .ref q8, v9, v10, v11, v12, v13, v14, v15, v16])), (q1, .inl (c1, 16, .inl (fun _ => (0 : Int32)))), (q3, .inl (c3, 16, .inl (fun _ => (0 : Int32)))), (q4, .inl (c4, 16, .inl (fun _ => (0 : Int32)))), (q5, .inl (c5, 16, .inl (fun _ => (0 : Int32)))), (q6, .inl (c6, 16, .inl (fun _ => (0 : Int32)))), (q7, .inl (c7, 16, .inl (fun _ => (0 : Int32)))), (q8, .inl (c8, 16, .inl (fun _ => (0 : Int32))))] H := hP
            have hD : va_D A [(h0, .inr (8, [.int th, .ref q1, v2, .ref q3, .ref q4, .ref q5, .ref q6, .ref q7, .ref q8, v9, v10, v11, v12, v13, v14, v15, v16])), (q1, .inl (c1, 16, .inl (fun _ => (0 : Int32)))), (q3, .inl (c3, 16, .inl (fun _ => (0 : Int32)))), (q4, .inl (c4, 16, .inl (fun _ => (0 : Int32)))), (q5, .inl (c5, 16, .inl (fun _ => (0 : Int32)))), (q6, .inl (c6, 16, .inl (fun _ => (0 : Int32)))), (q7, .inl (c7, 16, .inl (fun _ => (0 : Int32)))), (q8, .inl (c8, 16, .inl (fun _ => (0 : Int32))))] := hD
            refine W.widen (k := 0) (n := 0) (Nat.le_of_ble_eq_true rfl) (Nat.le_of_ble_eq_true rfl) ?_
            refine W.eq (g2 := F0 m 96 ls [.int r_38]) rfl ?_
            refine lv_istore (lv' := [(4, .int r_38), (0, .ref h0), (1, .int p0), (2, .int p1), (3, .int p2)]) hx hb dX8_make_96 hl (by decide) rfl (fun ls hl => ?_)
            refine lv_iload hx hb dX8_make_98 (lv_at hl 0 rfl) ?_
            refine lv_if_ne (tgt := 109) hx hb dX8_make_100 (by decide) (fun c_39 => ?_) (fun c_39 => ?_)
            ·
              have ic_39 : ¬ r_38.toInt = 0 := tx_ne rfl (by decide) c_39
              refine lv_aload_n hx hb dX8_make_109 rfl (lv_at hl 1 rfl) ?_
              have hPc := hP.sub (ws' := [(h0, .inr (8, [.int th, .ref q1, v2, .ref q3, .ref q4, .ref q5, .ref q6, .ref q7, .ref q8, v9, v10, v11, v12, v13, v14, v15, v16])), (q1, .inl (c1, 16, .inl (fun _ => (0 : Int32))))]) [0, 1] rfl
              have hDc := hD.sub (ws' := [(h0, .inr (8, [.int th, .ref q1, v2, .ref q3, .ref q4, .ref q5, .ref q6, .ref q7, .ref q8, v9, v10, v11, v12, v13, v14, v15, v16])), (q1, .inl (c1, 16, .inl (fun _ => (0 : Int32))))]) [0, 1] (by decide) rfl
              have hKc := hK.sub (tys' := [(c1, .int)]) [0] rfl
              have hFc := va_free (wc := [(h0, .inr (8, [.int th, .ref q1, v2, .ref q3, .ref q4, .ref q5, .ref q6, .ref q7, .ref q8, v9, v10, v11, v12, v13, v14, v15, v16])), (q1, .inl (c1, 16, .inl (fun _ => (0 : Int32))))]) hD hS hA [0, 1] rfl
              refine va_calli (va_runV (As := []) (rest := []) ⟨hx, hb, hml, hown, hts⟩ (c_X8_free l  dC dI H.size h0 q1 c1 th v2 (.ref q3) (.ref q4) (.ref q5) (.ref q6) (.ref q7) (.ref q8) v9 v10 v11 v12 v13 v14 v15 v16) (cwV 0 hts gX8_make_X8_free rfl rfl rfl (by decide +kernel) ⟨(Nat.le_of_ble_eq_true rfl), (Nat.le_of_ble_eq_true rfl)⟩) ⟨pk_blind, va_recv hKc hPc (ci := 8) (q0 := 0) rfl rfl, pk_call hPc hKc hDc⟩ rfl rfl hl.1 rfl (lv_room (Nat.le_of_ble_eq_true rfl)) dX8_make_110 ⟨(Nat.le_of_ble_eq_true rfl), (Nat.le_of_ble_eq_true rfl)⟩) hS (fun q _ h => hFc q h) hFc (fun r_40 ur_40 t H1 locs ht hvm hw hB hz1 hk1 hS => ?_)
              try dsimp only at hw
              obtain ⟨hP1, hK1, hD1⟩ := hB
              rw [ht] at hP1
              have hK1 := va_K.moved hvm.symm hK1
              obtain ⟨hP, hD⟩ := va_join (wr := [(q3, .inl (c3, 16, .inl (fun _ => (0 : Int32)))), (q4, .inl (c4, 16, .inl (fun _ => (0 : Int32)))), (q5, .inl (c5, 16, .inl (fun _ => (0 : Int32)))), (q6, .inl (c6, 16, .inl (fun _ => (0 : Int32)))), (q7, .inl (c7, 16, .inl (fun _ => (0 : Int32)))), (q8, .inl (c8, 16, .inl (fun _ => (0 : Int32))))]) (w1 := [(h0, .inr (8, [.int th, .ref q1, v2, .ref q3, .ref q4, .ref q5, .ref q6, .ref q7, .ref q8, v9, v10, v11, v12, v13, v14, v15, v16])), (q1, .inl (c1, 16, .inl (fun _ => (0 : Int32))))]) hP hD [0, 1] [2, 3, 4, 5, 6, 7] rfl rfl (by decide) (by decide) hk1 hFc hP1 hD1
              clear hk1 hz1 ht hPc hDc hKc
              generalize H1 = H at hP hS ⊢
              have hP : va_P (dC, dI) vwCl [(q3, .inl (c3, 16, .inl (fun _ => (0 : Int32)))), (q4, .inl (c4, 16, .inl (fun _ => (0 : Int32)))), (q5, .inl (c5, 16, .inl (fun _ => (0 : Int32)))), (q6, .inl (c6, 16, .inl (fun _ => (0 : Int32)))), (q7, .inl (c7, 16, .inl (fun _ => (0 : Int32)))), (q8, .inl (c8, 16, .inl (fun _ => (0 : Int32)))), (h0, .inr (8, [.int th, .ref q1, v2, .ref q3, .ref q4, .ref q5, .ref q6, .ref q7, .ref q8, v9, v10, v11, v12, v13, v14, v15, v16])), (q1, .inl (c1, 16, .inl (fun _ => (0 : Int32))))] H := hP
              have hD : va_D A [(q3, .inl (c3, 16, .inl (fun _ => (0 : Int32)))), (q4, .inl (c4, 16, .inl (fun _ => (0 : Int32)))), (q5, .inl (c5, 16, .inl (fun _ => (0 : Int32)))), (q6, .inl (c6, 16, .inl (fun _ => (0 : Int32)))), (q7, .inl (c7, 16, .inl (fun _ => (0 : Int32)))), (q8, .inl (c8, 16, .inl (fun _ => (0 : Int32)))), (h0, .inr (8, [.int th, .ref q1, v2, .ref q3, .ref q4, .ref q5, .ref q6, .ref q7, .ref q8, v9, v10, v11, v12, v13, v14, v15, v16])), (q1, .inl (c1, 16, .inl (fun _ => (0 : Int32))))] := hD
              refine W.widen (k := 0) (n := 0) (Nat.le_of_ble_eq_true rfl) (Nat.le_of_ble_eq_true rfl) ?_
              obtain rfl : r_40 = 0 := hw
              refine W.eq (g2 := F0 m 113 ls [.int 0]) rfl ?_
              refine lv_istore (lv' := [(5, .int 0), (4, .int r_38), (0, .ref h0), (1, .int p0), (2, .int p1), (3, .int p2)]) hx hb dX8_make_113 hl (by decide) rfl (fun ls hl => ?_)
              refine lv_iload hx hb dX8_make_115 (lv_at hl 0 rfl) ?_
              refine lv_if_ge (tgt := 126) hx hb dX8_make_117 (by decide) (fun c_41 => ?_) (fun c_41 => absurd c_41 (by decide))
              refine lv_aload_n hx hb dX8_make_126 rfl (lv_at hl 2 rfl) ?_
              refine lv_iconst (v := 0) hx hb dX8_make_127 (by decide) ?_
              refine va_put (D := (dC, dI)) (ci := 8) (v := .int 0) (ty := .int) (C := RX8) (T := TX8) (N := 17) hx hb hts (by decide +kernel) tyX8 tyX8_ok nmX8 hown hK hP hD hS 6 rfl rfl 0 (by decide) (hts (.fieldLink RX8 60 "KeyAtlasModel" "thrown" "I") (by decide +kernel)) (fun _ h9 => h9) rfl (by decide +kernel) rfl rfl (Nat.le_of_ble_eq_true rfl) dX8_make_128 (fun H locs hP hD hS => ?_)
              have hP : va_P (dC, dI) vwCl [(q3, .inl (c3, 16, .inl (fun _ => (0 : Int32)))), (q4, .inl (c4, 16, .inl (fun _ => (0 : Int32)))), (q5, .inl (c5, 16, .inl (fun _ => (0 : Int32)))), (q6, .inl (c6, 16, .inl (fun _ => (0 : Int32)))), (q7, .inl (c7, 16, .inl (fun _ => (0 : Int32)))), (q8, .inl (c8, 16, .inl (fun _ => (0 : Int32)))), (h0, .inr (8, [.int 0, .ref q1, v2, .ref q3, .ref q4, .ref q5, .ref q6, .ref q7, .ref q8, v9, v10, v11, v12, v13, v14, v15, v16])), (q1, .inl (c1, 16, .inl (fun _ => (0 : Int32))))] H := hP
              have hD : va_D A [(q3, .inl (c3, 16, .inl (fun _ => (0 : Int32)))), (q4, .inl (c4, 16, .inl (fun _ => (0 : Int32)))), (q5, .inl (c5, 16, .inl (fun _ => (0 : Int32)))), (q6, .inl (c6, 16, .inl (fun _ => (0 : Int32)))), (q7, .inl (c7, 16, .inl (fun _ => (0 : Int32)))), (q8, .inl (c8, 16, .inl (fun _ => (0 : Int32)))), (h0, .inr (8, [.int 0, .ref q1, v2, .ref q3, .ref q4, .ref q5, .ref q6, .ref q7, .ref q8, v9, v10, v11, v12, v13, v14, v15, v16])), (q1, .inl (c1, 16, .inl (fun _ => (0 : Int32))))] := hD
              refine lv_aload_n hx hb dX8_make_131 rfl (lv_at hl 2 rfl) ?_
              refine lv_iload hx hb dX8_make_132 (lv_at hl 0 rfl) ?_
              refine lv_iload_n hx hb dX8_make_134 rfl (lv_at hl 3 rfl) ?_
              refine lv_iconst (v := 1) hx hb dX8_make_135 (by decide) ?_
              refine lv_iadd hx hb dX8_make_136 ?_
              have hPc := hP.sub (ws' := [(h0, .inr (8, [.int 0, .ref q1, v2, .ref q3, .ref q4, .ref q5, .ref q6, .ref q7, .ref q8, v9, v10, v11, v12, v13, v14, v15, v16])), (q1, .inl (c1, 16, .inl (fun _ => (0 : Int32)))), (q3, .inl (c3, 16, .inl (fun _ => (0 : Int32)))), (q6, .inl (c6, 16, .inl (fun _ => (0 : Int32)))), (q7, .inl (c7, 16, .inl (fun _ => (0 : Int32)))), (q8, .inl (c8, 16, .inl (fun _ => (0 : Int32))))]) [6, 7, 0, 3, 4, 5] rfl
              have hDc := hD.sub (ws' := [(h0, .inr (8, [.int 0, .ref q1, v2, .ref q3, .ref q4, .ref q5, .ref q6, .ref q7, .ref q8, v9, v10, v11, v12, v13, v14, v15, v16])), (q1, .inl (c1, 16, .inl (fun _ => (0 : Int32)))), (q3, .inl (c3, 16, .inl (fun _ => (0 : Int32)))), (q6, .inl (c6, 16, .inl (fun _ => (0 : Int32)))), (q7, .inl (c7, 16, .inl (fun _ => (0 : Int32)))), (q8, .inl (c8, 16, .inl (fun _ => (0 : Int32))))]) [6, 7, 0, 3, 4, 5] (by decide) rfl
              have hKc := hK.sub (tys' := [(c1, .int), (c3, .int), (c6, .int), (c7, .int), (c8, .int)]) [0, 1, 4, 5, 6] rfl
              have hFc := va_free (wc := [(h0, .inr (8, [.int 0, .ref q1, v2, .ref q3, .ref q4, .ref q5, .ref q6, .ref q7, .ref q8, v9, v10, v11, v12, v13, v14, v15, v16])), (q1, .inl (c1, 16, .inl (fun _ => (0 : Int32)))), (q3, .inl (c3, 16, .inl (fun _ => (0 : Int32)))), (q6, .inl (c6, 16, .inl (fun _ => (0 : Int32)))), (q7, .inl (c7, 16, .inl (fun _ => (0 : Int32)))), (q8, .inl (c8, 16, .inl (fun _ => (0 : Int32))))]) hD hS hA [6, 7, 0, 3, 4, 5] rfl
              refine va_calli (va_runV (As := [.int 0, .int (p0 + 1)]) (rest := []) ⟨hx, hb, hml, hown, hts⟩ (c_X8_born l  dC dI H.size h0 0 q1 q3 q6 q7 q8 c1 c3 c6 c7 c8 v2 (.ref q4) (.ref q5) v9 v10 v11 v12 v13 v14 v15 v16 (p0 + 1)) (cwV 2 hts gX8_make_X8_born rfl rfl rfl (by decide +kernel) ⟨(Nat.le_of_ble_eq_true rfl), (Nat.le_of_ble_eq_true rfl)⟩) ⟨pk_blind, va_recv hKc hPc (ci := 8) (q0 := 0) rfl rfl, pk_call hPc hKc hDc⟩ rfl rfl hl.1 rfl (lv_room (Nat.le_of_ble_eq_true rfl)) dX8_make_137 ⟨(Nat.le_of_ble_eq_true rfl), (Nat.le_of_ble_eq_true rfl)⟩) hS (fun q _ h => hFc q h) hFc (fun r_42 ur_42 t H1 locs ht hvm hw hB hz1 hk1 hS => ?_)
              try dsimp only at hw
              have jr_42 := hw
              obtain ⟨hP1, hK1, hD1⟩ := hB
              rw [ht] at hP1
              have hK1 := va_K.moved hvm.symm hK1
              obtain ⟨hP, hD⟩ := va_join (wr := [(q4, .inl (c4, 16, .inl (fun _ => (0 : Int32)))), (q5, .inl (c5, 16, .inl (fun _ => (0 : Int32))))]) (w1 := [(h0, .inr (8, [.int 0, .ref q1, v2, .ref q3, .ref q4, .ref q5, .ref q6, .ref q7, .ref q8, v9, v10, v11, v12, v13, v14, v15, v16]))]) hP hD [6, 7, 0, 3, 4, 5] [1, 2] rfl rfl (by decide) (by decide) hk1 hFc hP1 hD1
              clear hk1 hz1 ht hPc hDc hKc
              generalize H1 = H at hP hS ⊢
              have hP : va_P (dC, dI) vwCl [(q4, .inl (c4, 16, .inl (fun _ => (0 : Int32)))), (q5, .inl (c5, 16, .inl (fun _ => (0 : Int32)))), (h0, .inr (8, [.int 0, .ref q1, v2, .ref q3, .ref q4, .ref q5, .ref q6, .ref q7, .ref q8, v9, v10, v11, v12, v13, v14, v15, v16]))] H := hP
              have hD : va_D A [(q4, .inl (c4, 16, .inl (fun _ => (0 : Int32)))), (q5, .inl (c5, 16, .inl (fun _ => (0 : Int32)))), (h0, .inr (8, [.int 0, .ref q1, v2, .ref q3, .ref q4, .ref q5, .ref q6, .ref q7, .ref q8, v9, v10, v11, v12, v13, v14, v15, v16]))] := hD
              refine W.widen (k := 0) (n := 0) (Nat.le_of_ble_eq_true rfl) (Nat.le_of_ble_eq_true rfl) ?_
              refine W.eq (g2 := F0 m 140 ls [.int r_42]) rfl ?_
              refine lv_pop hx hb dX8_make_140 rfl ?_
              refine lv_aload_n hx hb dX8_make_141 rfl (lv_at hl 2 rfl) ?_
              refine va_get (D := (dC, dI)) (ci := 8) (v := .ref q4) (C := RX8) (T := TX8) (N := 17) hx hb hts (by decide +kernel) hown hK hP 2 rfl rfl 4 (by decide) (hts (.fieldLink RX8 20 "KeyAtlasModel" "first" "[I") (by decide +kernel)) (fun _ h9 => h9) rfl dX8_make_142 ?_
              refine lv_iload hx hb dX8_make_145 (lv_at hl 0 rfl) ?_
              refine lv_iload_n hx hb dX8_make_147 rfl (lv_at hl 4 rfl) ?_
              refine va_iast (i := 0) hx hb hK hP hD hS 0 2 rfl rfl (by unfold vp_in; decide) dX8_make_148 (fun H locs hP hD hS => ?_)
              have hP : va_P (dC, dI) vwCl [(q4, .inl (c4, 16, .inl (upd (fun _ => (0 : Int32)) (0 : Int32).toNatClampNeg p1))), (q5, .inl (c5, 16, .inl (fun _ => (0 : Int32)))), (h0, .inr (8, [.int 0, .ref q1, v2, .ref q3, .ref q4, .ref q5, .ref q6, .ref q7, .ref q8, v9, v10, v11, v12, v13, v14, v15, v16]))] H := hP
              have hD : va_D A [(q4, .inl (c4, 16, .inl (upd (fun _ => (0 : Int32)) (0 : Int32).toNatClampNeg p1))), (q5, .inl (c5, 16, .inl (fun _ => (0 : Int32)))), (h0, .inr (8, [.int 0, .ref q1, v2, .ref q3, .ref q4, .ref q5, .ref q6, .ref q7, .ref q8, v9, v10, v11, v12, v13, v14, v15, v16]))] := hD
              refine lv_aload_n hx hb dX8_make_149 rfl (lv_at hl 2 rfl) ?_
              refine va_get (D := (dC, dI)) (ci := 8) (v := .ref q5) (C := RX8) (T := TX8) (N := 17) hx hb hts (by decide +kernel) hown hK hP 2 rfl rfl 5 (by decide) (hts (.fieldLink RX8 23 "KeyAtlasModel" "second" "[I") (by decide +kernel)) (fun _ h9 => h9) rfl dX8_make_150 ?_
              refine lv_iload hx hb dX8_make_153 (lv_at hl 0 rfl) ?_
              refine lv_iload_n hx hb dX8_make_155 rfl (lv_at hl 5 rfl) ?_
              refine va_iast (i := 0) hx hb hK hP hD hS 1 3 rfl rfl (by unfold vp_in; decide) dX8_make_156 (fun H locs hP hD hS => ?_)
              have hP : va_P (dC, dI) vwCl [(q4, .inl (c4, 16, .inl (upd (fun _ => (0 : Int32)) (0 : Int32).toNatClampNeg p1))), (q5, .inl (c5, 16, .inl (upd (fun _ => (0 : Int32)) (0 : Int32).toNatClampNeg p2))), (h0, .inr (8, [.int 0, .ref q1, v2, .ref q3, .ref q4, .ref q5, .ref q6, .ref q7, .ref q8, v9, v10, v11, v12, v13, v14, v15, v16]))] H := hP
              have hD : va_D A [(q4, .inl (c4, 16, .inl (upd (fun _ => (0 : Int32)) (0 : Int32).toNatClampNeg p1))), (q5, .inl (c5, 16, .inl (upd (fun _ => (0 : Int32)) (0 : Int32).toNatClampNeg p2))), (h0, .inr (8, [.int 0, .ref q1, v2, .ref q3, .ref q4, .ref q5, .ref q6, .ref q7, .ref q8, v9, v10, v11, v12, v13, v14, v15, v16]))] := hD
              refine lv_iload hx hb dX8_make_157 (lv_at hl 0 rfl) ?_
              have hP9 := hP.sub (ws' := [(h0, .inr (8, [.int 0, .ref q1, v2, .ref q3, .ref q4, .ref q5, .ref q6, .ref q7, .ref q8, v9, v10, v11, v12, v13, v14, v15, v16]))]) [2] rfl
              have hD9 := hD.sub (ws' := [(h0, .inr (8, [.int 0, .ref q1, v2, .ref q3, .ref q4, .ref q5, .ref q6, .ref q7, .ref q8, v9, v10, v11, v12, v13, v14, v15, v16]))]) [2] (by decide) rfl
              have hK9 := hK.sub (tys' := []) [] rfl
              refine W.widen (k := 0) (n := 0) (Nat.le_of_ble_eq_true rfl) (Nat.le_of_ble_eq_true rfl) ?_
              exact W.iret (v := 0) hx hb hr (fun t ht hW => ⟨⟨0, 0, rfl, ⟨tx_at (P := mkIs p0 p1 p2) (n := 0) (by decide) (by unfold mkIs; omega), fun _ => rfl⟩, by rw [ht]; exact hP9, va_K.moved hW.alike hK9, hD9⟩, hS.F ht⟩) hS.2.2 dX8_make_159
            ·
              have ic_39 : r_38.toInt = 0 := tx_eq rfl (by decide) c_39
              refine lv_aload_n hx hb dX8_make_103 rfl (lv_at hl 1 rfl) ?_
              refine lv_iconst (v := 1) hx hb dX8_make_104 (by decide) ?_
              have hPc := hP.sub (ws' := [(h0, .inr (8, [.int th, .ref q1, v2, .ref q3, .ref q4, .ref q5, .ref q6, .ref q7, .ref q8, v9, v10, v11, v12, v13, v14, v15, v16]))]) [0] rfl
              have hDc := hD.sub (ws' := [(h0, .inr (8, [.int th, .ref q1, v2, .ref q3, .ref q4, .ref q5, .ref q6, .ref q7, .ref q8, v9, v10, v11, v12, v13, v14, v15, v16]))]) [0] (by decide) rfl
              have hKc := hK.sub (tys' := []) [] rfl
              have hFc := va_free (wc := [(h0, .inr (8, [.int th, .ref q1, v2, .ref q3, .ref q4, .ref q5, .ref q6, .ref q7, .ref q8, v9, v10, v11, v12, v13, v14, v15, v16]))]) hD hS hA [0] rfl
              refine va_calli (va_runV (As := [.int 1]) (rest := []) ⟨hx, hb, hml, hown, hts⟩ (c_X8_refuse l  dC dI H.size h0 th 1 (.ref q1) v2 (.ref q3) (.ref q4) (.ref q5) (.ref q6) (.ref q7) (.ref q8) v9 v10 v11 v12 v13 v14 v15 v16) (cwV 1 hts gX8_make_X8_refuse rfl rfl rfl (by decide +kernel) ⟨(Nat.le_of_ble_eq_true rfl), (Nat.le_of_ble_eq_true rfl)⟩) ⟨pk_blind, va_recv hKc hPc (ci := 8) (q0 := 0) rfl rfl, pk_call hPc hKc hDc⟩ rfl rfl hl.1 rfl (lv_room (Nat.le_of_ble_eq_true rfl)) dX8_make_105 ⟨(Nat.le_of_ble_eq_true rfl), (Nat.le_of_ble_eq_true rfl)⟩) hS (fun q _ h => hFc q h) hFc (fun r_43 ur_43 t H1 locs ht hvm hw hB hz1 hk1 hS => ?_)
              try dsimp only at hw
              have jr_43 := hw
              obtain ⟨hP1, hK1, hD1⟩ := hB
              rw [ht] at hP1
              have hK1 := va_K.moved hvm.symm hK1
              obtain ⟨hP, hD⟩ := va_join (wr := [(q1, .inl (c1, 16, .inl (fun _ => (0 : Int32)))), (q3, .inl (c3, 16, .inl (fun _ => (0 : Int32)))), (q4, .inl (c4, 16, .inl (fun _ => (0 : Int32)))), (q5, .inl (c5, 16, .inl (fun _ => (0 : Int32)))), (q6, .inl (c6, 16, .inl (fun _ => (0 : Int32)))), (q7, .inl (c7, 16, .inl (fun _ => (0 : Int32)))), (q8, .inl (c8, 16, .inl (fun _ => (0 : Int32))))]) (w1 := [(h0, .inr (8, [.int 1, .ref q1, v2, .ref q3, .ref q4, .ref q5, .ref q6, .ref q7, .ref q8, v9, v10, v11, v12, v13, v14, v15, v16]))]) hP hD [0] [1, 2, 3, 4, 5, 6, 7] rfl rfl (by decide) (by decide) hk1 hFc hP1 hD1
              clear hk1 hz1 ht hPc hDc hKc
              generalize H1 = H at hP hS ⊢
              have hP : va_P (dC, dI) vwCl [(q1, .inl (c1, 16, .inl (fun _ => (0 : Int32)))), (q3, .inl (c3, 16, .inl (fun _ => (0 : Int32)))), (q4, .inl (c4, 16, .inl (fun _ => (0 : Int32)))), (q5, .inl (c5, 16, .inl (fun _ => (0 : Int32)))), (q6, .inl (c6, 16, .inl (fun _ => (0 : Int32)))), (q7, .inl (c7, 16, .inl (fun _ => (0 : Int32)))), (q8, .inl (c8, 16, .inl (fun _ => (0 : Int32)))), (h0, .inr (8, [.int 1, .ref q1, v2, .ref q3, .ref q4, .ref q5, .ref q6, .ref q7, .ref q8, v9, v10, v11, v12, v13, v14, v15, v16]))] H := hP
              have hD : va_D A [(q1, .inl (c1, 16, .inl (fun _ => (0 : Int32)))), (q3, .inl (c3, 16, .inl (fun _ => (0 : Int32)))), (q4, .inl (c4, 16, .inl (fun _ => (0 : Int32)))), (q5, .inl (c5, 16, .inl (fun _ => (0 : Int32)))), (q6, .inl (c6, 16, .inl (fun _ => (0 : Int32)))), (q7, .inl (c7, 16, .inl (fun _ => (0 : Int32)))), (q8, .inl (c8, 16, .inl (fun _ => (0 : Int32)))), (h0, .inr (8, [.int 1, .ref q1, v2, .ref q3, .ref q4, .ref q5, .ref q6, .ref q7, .ref q8, v9, v10, v11, v12, v13, v14, v15, v16]))] := hD
              refine W.widen (k := 0) (n := 0) (Nat.le_of_ble_eq_true rfl) (Nat.le_of_ble_eq_true rfl) ?_
              refine W.eq (g2 := F0 m 108 ls [.int r_43]) rfl ?_
              have hP9 := hP.sub (ws' := [(h0, .inr (8, [.int 1, .ref q1, v2, .ref q3, .ref q4, .ref q5, .ref q6, .ref q7, .ref q8, v9, v10, v11, v12, v13, v14, v15, v16]))]) [7] rfl
              have hD9 := hD.sub (ws' := [(h0, .inr (8, [.int 1, .ref q1, v2, .ref q3, .ref q4, .ref q5, .ref q6, .ref q7, .ref q8, v9, v10, v11, v12, v13, v14, v15, v16]))]) [7] (by decide) rfl
              have hK9 := hK.sub (tys' := []) [] rfl
              refine W.widen (k := 0) (n := 0) (Nat.le_of_ble_eq_true rfl) (Nat.le_of_ble_eq_true rfl) ?_
              exact W.iret (v := r_43) hx hb hr (fun t ht hW => ⟨⟨r_43, 1, rfl, ⟨tx_at (P := mkIs p0 p1 p2) (n := 1) (by decide) (by unfold mkIs; omega), fun h => absurd h (by decide)⟩, by rw [ht]; exact hP9, va_K.moved hW.alike hK9, hD9⟩, hS.F ht⟩) hS.2.2 dX8_make_108
          ·
            have ic_37 : p0.toInt = 1 := tx_eq rfl (by decide) c_37
            refine lv_iload_n hx hb dX8_make_62 rfl (lv_at hl 2 rfl) ?_
            refine lv_iconst (v := 0) hx hb dX8_make_63 (by decide) ?_
            refine lv_sipush (v := 1000) hx hb dX8_make_64 (by decide) ?_
            have hPc := hP.sub (ws' := []) [] rfl
            have hDc := hD.sub (ws' := []) [] (by decide) rfl
            have hKc := hK.sub (tys' := []) [] rfl
            have hFc := va_free (wc := []) hD hS hA [] rfl
            refine va_calli (va_runS (As := [.int p1, .int 0, .int 1000]) (rest := []) ⟨hx, hb, hml, hown, hts⟩ (c_X8_in l  dC dI H.size p1 0 1000 0 1000 (by decide) (by decide)) (va_cwS 3 hts gX8_make_X8_in rfl rfl rfl (by decide +kernel) ⟨(Nat.le_of_ble_eq_true rfl), (Nat.le_of_ble_eq_true rfl)⟩) ⟨pk_blind, pk_call hPc hKc hDc⟩ rfl rfl hl.1 rfl (lv_room (Nat.le_of_ble_eq_true rfl)) dX8_make_67 ⟨(Nat.le_of_ble_eq_true rfl), (Nat.le_of_ble_eq_true rfl)⟩) hS (fun q _ h => hFc q h) hFc (fun r_44 ur_44 t H1 locs ht hvm hw hB hz1 hk1 hS => ?_)
            try dsimp only at hw
            have jr_44 := hw
            obtain ⟨hP, hD⟩ := va_join (wr := [(h0, .inr (8, [.int th, .ref q1, v2, .ref q3, .ref q4, .ref q5, .ref q6, .ref q7, .ref q8, v9, v10, v11, v12, v13, v14, v15, v16])), (q1, .inl (c1, 16, .inl (fun _ => (0 : Int32)))), (q3, .inl (c3, 16, .inl (fun _ => (0 : Int32)))), (q4, .inl (c4, 16, .inl (fun _ => (0 : Int32)))), (q5, .inl (c5, 16, .inl (fun _ => (0 : Int32)))), (q6, .inl (c6, 16, .inl (fun _ => (0 : Int32)))), (q7, .inl (c7, 16, .inl (fun _ => (0 : Int32)))), (q8, .inl (c8, 16, .inl (fun _ => (0 : Int32))))]) (w1 := []) hP hD [] [0, 1, 2, 3, 4, 5, 6, 7] rfl rfl (by decide) (by decide) hk1 hFc tx_P0 tx_D0
            clear hk1 hz1 ht hPc hDc hKc
            generalize H1 = H at hP hS ⊢
            have hP : va_P (dC, dI) vwCl [(h0, .inr (8, [.int th, .ref q1, v2, .ref q3, .ref q4, .ref q5, .ref q6, .ref q7, .ref q8, v9, v10, v11, v12, v13, v14, v15, v16])), (q1, .inl (c1, 16, .inl (fun _ => (0 : Int32)))), (q3, .inl (c3, 16, .inl (fun _ => (0 : Int32)))), (q4, .inl (c4, 16, .inl (fun _ => (0 : Int32)))), (q5, .inl (c5, 16, .inl (fun _ => (0 : Int32)))), (q6, .inl (c6, 16, .inl (fun _ => (0 : Int32)))), (q7, .inl (c7, 16, .inl (fun _ => (0 : Int32)))), (q8, .inl (c8, 16, .inl (fun _ => (0 : Int32))))] H := hP
            have hD : va_D A [(h0, .inr (8, [.int th, .ref q1, v2, .ref q3, .ref q4, .ref q5, .ref q6, .ref q7, .ref q8, v9, v10, v11, v12, v13, v14, v15, v16])), (q1, .inl (c1, 16, .inl (fun _ => (0 : Int32)))), (q3, .inl (c3, 16, .inl (fun _ => (0 : Int32)))), (q4, .inl (c4, 16, .inl (fun _ => (0 : Int32)))), (q5, .inl (c5, 16, .inl (fun _ => (0 : Int32)))), (q6, .inl (c6, 16, .inl (fun _ => (0 : Int32)))), (q7, .inl (c7, 16, .inl (fun _ => (0 : Int32)))), (q8, .inl (c8, 16, .inl (fun _ => (0 : Int32))))] := hD
            refine W.widen (k := 0) (n := 0) (Nat.le_of_ble_eq_true rfl) (Nat.le_of_ble_eq_true rfl) ?_
            refine W.eq (g2 := F0 m 70 ls [.int r_44]) rfl ?_
            refine lv_if_eq (tgt := 86) hx hb dX8_make_70 (by decide) (fun c_45 => ?_) (fun c_45 => ?_)
            ·
              have ic_45 : r_44.toInt = 0 := tx_eq rfl (by decide) c_45
              refine lv_iconst (v := 0) hx hb dX8_make_86 (by decide) ?_
              refine lv_goto (tgt := 96) hx hb dX8_make_87 (by decide) ?_
              refine lv_istore (lv' := [(4, .int 0), (0, .ref h0), (1, .int p0), (2, .int p1), (3, .int p2)]) hx hb dX8_make_96 hl (by decide) rfl (fun ls hl => ?_)
              refine lv_iload hx hb dX8_make_98 (lv_at hl 0 rfl) ?_
              refine lv_if_ne (tgt := 109) hx hb dX8_make_100 (by decide) (fun c_46 => absurd c_46 (by decide)) (fun c_46 => ?_)
              refine lv_aload_n hx hb dX8_make_103 rfl (lv_at hl 1 rfl) ?_
              refine lv_iconst (v := 1) hx hb dX8_make_104 (by decide) ?_
              have hPc := hP.sub (ws' := [(h0, .inr (8, [.int th, .ref q1, v2, .ref q3, .ref q4, .ref q5, .ref q6, .ref q7, .ref q8, v9, v10, v11, v12, v13, v14, v15, v16]))]) [0] rfl
              have hDc := hD.sub (ws' := [(h0, .inr (8, [.int th, .ref q1, v2, .ref q3, .ref q4, .ref q5, .ref q6, .ref q7, .ref q8, v9, v10, v11, v12, v13, v14, v15, v16]))]) [0] (by decide) rfl
              have hKc := hK.sub (tys' := []) [] rfl
              have hFc := va_free (wc := [(h0, .inr (8, [.int th, .ref q1, v2, .ref q3, .ref q4, .ref q5, .ref q6, .ref q7, .ref q8, v9, v10, v11, v12, v13, v14, v15, v16]))]) hD hS hA [0] rfl
              refine va_calli (va_runV (As := [.int 1]) (rest := []) ⟨hx, hb, hml, hown, hts⟩ (c_X8_refuse l  dC dI H.size h0 th 1 (.ref q1) v2 (.ref q3) (.ref q4) (.ref q5) (.ref q6) (.ref q7) (.ref q8) v9 v10 v11 v12 v13 v14 v15 v16) (cwV 1 hts gX8_make_X8_refuse rfl rfl rfl (by decide +kernel) ⟨(Nat.le_of_ble_eq_true rfl), (Nat.le_of_ble_eq_true rfl)⟩) ⟨pk_blind, va_recv hKc hPc (ci := 8) (q0 := 0) rfl rfl, pk_call hPc hKc hDc⟩ rfl rfl hl.1 rfl (lv_room (Nat.le_of_ble_eq_true rfl)) dX8_make_105 ⟨(Nat.le_of_ble_eq_true rfl), (Nat.le_of_ble_eq_true rfl)⟩) hS (fun q _ h => hFc q h) hFc (fun r_47 ur_47 t H1 locs ht hvm hw hB hz1 hk1 hS => ?_)
              try dsimp only at hw
              have jr_47 := hw
              obtain ⟨hP1, hK1, hD1⟩ := hB
              rw [ht] at hP1
              have hK1 := va_K.moved hvm.symm hK1
              obtain ⟨hP, hD⟩ := va_join (wr := [(q1, .inl (c1, 16, .inl (fun _ => (0 : Int32)))), (q3, .inl (c3, 16, .inl (fun _ => (0 : Int32)))), (q4, .inl (c4, 16, .inl (fun _ => (0 : Int32)))), (q5, .inl (c5, 16, .inl (fun _ => (0 : Int32)))), (q6, .inl (c6, 16, .inl (fun _ => (0 : Int32)))), (q7, .inl (c7, 16, .inl (fun _ => (0 : Int32)))), (q8, .inl (c8, 16, .inl (fun _ => (0 : Int32))))]) (w1 := [(h0, .inr (8, [.int 1, .ref q1, v2, .ref q3, .ref q4, .ref q5, .ref q6, .ref q7, .ref q8, v9, v10, v11, v12, v13, v14, v15, v16]))]) hP hD [0] [1, 2, 3, 4, 5, 6, 7] rfl rfl (by decide) (by decide) hk1 hFc hP1 hD1
              clear hk1 hz1 ht hPc hDc hKc
              generalize H1 = H at hP hS ⊢
              have hP : va_P (dC, dI) vwCl [(q1, .inl (c1, 16, .inl (fun _ => (0 : Int32)))), (q3, .inl (c3, 16, .inl (fun _ => (0 : Int32)))), (q4, .inl (c4, 16, .inl (fun _ => (0 : Int32)))), (q5, .inl (c5, 16, .inl (fun _ => (0 : Int32)))), (q6, .inl (c6, 16, .inl (fun _ => (0 : Int32)))), (q7, .inl (c7, 16, .inl (fun _ => (0 : Int32)))), (q8, .inl (c8, 16, .inl (fun _ => (0 : Int32)))), (h0, .inr (8, [.int 1, .ref q1, v2, .ref q3, .ref q4, .ref q5, .ref q6, .ref q7, .ref q8, v9, v10, v11, v12, v13, v14, v15, v16]))] H := hP
              have hD : va_D A [(q1, .inl (c1, 16, .inl (fun _ => (0 : Int32)))), (q3, .inl (c3, 16, .inl (fun _ => (0 : Int32)))), (q4, .inl (c4, 16, .inl (fun _ => (0 : Int32)))), (q5, .inl (c5, 16, .inl (fun _ => (0 : Int32)))), (q6, .inl (c6, 16, .inl (fun _ => (0 : Int32)))), (q7, .inl (c7, 16, .inl (fun _ => (0 : Int32)))), (q8, .inl (c8, 16, .inl (fun _ => (0 : Int32)))), (h0, .inr (8, [.int 1, .ref q1, v2, .ref q3, .ref q4, .ref q5, .ref q6, .ref q7, .ref q8, v9, v10, v11, v12, v13, v14, v15, v16]))] := hD
              refine W.widen (k := 0) (n := 0) (Nat.le_of_ble_eq_true rfl) (Nat.le_of_ble_eq_true rfl) ?_
              refine W.eq (g2 := F0 m 108 ls [.int r_47]) rfl ?_
              have hP9 := hP.sub (ws' := [(h0, .inr (8, [.int 1, .ref q1, v2, .ref q3, .ref q4, .ref q5, .ref q6, .ref q7, .ref q8, v9, v10, v11, v12, v13, v14, v15, v16]))]) [7] rfl
              have hD9 := hD.sub (ws' := [(h0, .inr (8, [.int 1, .ref q1, v2, .ref q3, .ref q4, .ref q5, .ref q6, .ref q7, .ref q8, v9, v10, v11, v12, v13, v14, v15, v16]))]) [7] (by decide) rfl
              have hK9 := hK.sub (tys' := []) [] rfl
              refine W.widen (k := 0) (n := 0) (Nat.le_of_ble_eq_true rfl) (Nat.le_of_ble_eq_true rfl) ?_
              exact W.iret (v := r_47) hx hb hr (fun t ht hW => ⟨⟨r_47, 1, rfl, ⟨tx_at (P := mkIs p0 p1 p2) (n := 1) (by decide) (by unfold mkIs; omega), fun h => absurd h (by decide)⟩, by rw [ht]; exact hP9, va_K.moved hW.alike hK9, hD9⟩, hS.F ht⟩) hS.2.2 dX8_make_108
            ·
              have ic_45 : ¬ r_44.toInt = 0 := tx_ne rfl (by decide) c_45
              refine lv_iload_n hx hb dX8_make_73 rfl (lv_at hl 3 rfl) ?_
              refine lv_iconst (v := 0) hx hb dX8_make_74 (by decide) ?_
              refine lv_iconst (v := 1) hx hb dX8_make_75 (by decide) ?_
              have hPc := hP.sub (ws' := []) [] rfl
              have hDc := hD.sub (ws' := []) [] (by decide) rfl
              have hKc := hK.sub (tys' := []) [] rfl
              have hFc := va_free (wc := []) hD hS hA [] rfl
              refine va_calli (va_runS (As := [.int p2, .int 0, .int 1]) (rest := []) ⟨hx, hb, hml, hown, hts⟩ (c_X8_in l  dC dI H.size p2 0 1 0 1 (by decide) (by decide)) (va_cwS 3 hts gX8_make_X8_in rfl rfl rfl (by decide +kernel) ⟨(Nat.le_of_ble_eq_true rfl), (Nat.le_of_ble_eq_true rfl)⟩) ⟨pk_blind, pk_call hPc hKc hDc⟩ rfl rfl hl.1 rfl (lv_room (Nat.le_of_ble_eq_true rfl)) dX8_make_76 ⟨(Nat.le_of_ble_eq_true rfl), (Nat.le_of_ble_eq_true rfl)⟩) hS (fun q _ h => hFc q h) hFc (fun r_48 ur_48 t H1 locs ht hvm hw hB hz1 hk1 hS => ?_)
              try dsimp only at hw
              have jr_48 := hw
              obtain ⟨hP, hD⟩ := va_join (wr := [(h0, .inr (8, [.int th, .ref q1, v2, .ref q3, .ref q4, .ref q5, .ref q6, .ref q7, .ref q8, v9, v10, v11, v12, v13, v14, v15, v16])), (q1, .inl (c1, 16, .inl (fun _ => (0 : Int32)))), (q3, .inl (c3, 16, .inl (fun _ => (0 : Int32)))), (q4, .inl (c4, 16, .inl (fun _ => (0 : Int32)))), (q5, .inl (c5, 16, .inl (fun _ => (0 : Int32)))), (q6, .inl (c6, 16, .inl (fun _ => (0 : Int32)))), (q7, .inl (c7, 16, .inl (fun _ => (0 : Int32)))), (q8, .inl (c8, 16, .inl (fun _ => (0 : Int32))))]) (w1 := []) hP hD [] [0, 1, 2, 3, 4, 5, 6, 7] rfl rfl (by decide) (by decide) hk1 hFc tx_P0 tx_D0
              clear hk1 hz1 ht hPc hDc hKc
              generalize H1 = H at hP hS ⊢
              have hP : va_P (dC, dI) vwCl [(h0, .inr (8, [.int th, .ref q1, v2, .ref q3, .ref q4, .ref q5, .ref q6, .ref q7, .ref q8, v9, v10, v11, v12, v13, v14, v15, v16])), (q1, .inl (c1, 16, .inl (fun _ => (0 : Int32)))), (q3, .inl (c3, 16, .inl (fun _ => (0 : Int32)))), (q4, .inl (c4, 16, .inl (fun _ => (0 : Int32)))), (q5, .inl (c5, 16, .inl (fun _ => (0 : Int32)))), (q6, .inl (c6, 16, .inl (fun _ => (0 : Int32)))), (q7, .inl (c7, 16, .inl (fun _ => (0 : Int32)))), (q8, .inl (c8, 16, .inl (fun _ => (0 : Int32))))] H := hP
              have hD : va_D A [(h0, .inr (8, [.int th, .ref q1, v2, .ref q3, .ref q4, .ref q5, .ref q6, .ref q7, .ref q8, v9, v10, v11, v12, v13, v14, v15, v16])), (q1, .inl (c1, 16, .inl (fun _ => (0 : Int32)))), (q3, .inl (c3, 16, .inl (fun _ => (0 : Int32)))), (q4, .inl (c4, 16, .inl (fun _ => (0 : Int32)))), (q5, .inl (c5, 16, .inl (fun _ => (0 : Int32)))), (q6, .inl (c6, 16, .inl (fun _ => (0 : Int32)))), (q7, .inl (c7, 16, .inl (fun _ => (0 : Int32)))), (q8, .inl (c8, 16, .inl (fun _ => (0 : Int32))))] := hD
              refine W.widen (k := 0) (n := 0) (Nat.le_of_ble_eq_true rfl) (Nat.le_of_ble_eq_true rfl) ?_
              refine W.eq (g2 := F0 m 79 ls [.int r_48]) rfl ?_
              refine lv_if_eq (tgt := 86) hx hb dX8_make_79 (by decide) (fun c_49 => ?_) (fun c_49 => ?_)
              ·
                have ic_49 : r_48.toInt = 0 := tx_eq rfl (by decide) c_49
                refine lv_iconst (v := 0) hx hb dX8_make_86 (by decide) ?_
                refine lv_goto (tgt := 96) hx hb dX8_make_87 (by decide) ?_
                refine lv_istore (lv' := [(4, .int 0), (0, .ref h0), (1, .int p0), (2, .int p1), (3, .int p2)]) hx hb dX8_make_96 hl (by decide) rfl (fun ls hl => ?_)
                refine lv_iload hx hb dX8_make_98 (lv_at hl 0 rfl) ?_
                refine lv_if_ne (tgt := 109) hx hb dX8_make_100 (by decide) (fun c_50 => absurd c_50 (by decide)) (fun c_50 => ?_)
                refine lv_aload_n hx hb dX8_make_103 rfl (lv_at hl 1 rfl) ?_
                refine lv_iconst (v := 1) hx hb dX8_make_104 (by decide) ?_
                have hPc := hP.sub (ws' := [(h0, .inr (8, [.int th, .ref q1, v2, .ref q3, .ref q4, .ref q5, .ref q6, .ref q7, .ref q8, v9, v10, v11, v12, v13, v14, v15, v16]))]) [0] rfl
                have hDc := hD.sub (ws' := [(h0, .inr (8, [.int th, .ref q1, v2, .ref q3, .ref q4, .ref q5, .ref q6, .ref q7, .ref q8, v9, v10, v11, v12, v13, v14, v15, v16]))]) [0] (by decide) rfl
                have hKc := hK.sub (tys' := []) [] rfl
                have hFc := va_free (wc := [(h0, .inr (8, [.int th, .ref q1, v2, .ref q3, .ref q4, .ref q5, .ref q6, .ref q7, .ref q8, v9, v10, v11, v12, v13, v14, v15, v16]))]) hD hS hA [0] rfl
                refine va_calli (va_runV (As := [.int 1]) (rest := []) ⟨hx, hb, hml, hown, hts⟩ (c_X8_refuse l  dC dI H.size h0 th 1 (.ref q1) v2 (.ref q3) (.ref q4) (.ref q5) (.ref q6) (.ref q7) (.ref q8) v9 v10 v11 v12 v13 v14 v15 v16) (cwV 1 hts gX8_make_X8_refuse rfl rfl rfl (by decide +kernel) ⟨(Nat.le_of_ble_eq_true rfl), (Nat.le_of_ble_eq_true rfl)⟩) ⟨pk_blind, va_recv hKc hPc (ci := 8) (q0 := 0) rfl rfl, pk_call hPc hKc hDc⟩ rfl rfl hl.1 rfl (lv_room (Nat.le_of_ble_eq_true rfl)) dX8_make_105 ⟨(Nat.le_of_ble_eq_true rfl), (Nat.le_of_ble_eq_true rfl)⟩) hS (fun q _ h => hFc q h) hFc (fun r_51 ur_51 t H1 locs ht hvm hw hB hz1 hk1 hS => ?_)
                try dsimp only at hw
                have jr_51 := hw
                obtain ⟨hP1, hK1, hD1⟩ := hB
                rw [ht] at hP1
                have hK1 := va_K.moved hvm.symm hK1
                obtain ⟨hP, hD⟩ := va_join (wr := [(q1, .inl (c1, 16, .inl (fun _ => (0 : Int32)))), (q3, .inl (c3, 16, .inl (fun _ => (0 : Int32)))), (q4, .inl (c4, 16, .inl (fun _ => (0 : Int32)))), (q5, .inl (c5, 16, .inl (fun _ => (0 : Int32)))), (q6, .inl (c6, 16, .inl (fun _ => (0 : Int32)))), (q7, .inl (c7, 16, .inl (fun _ => (0 : Int32)))), (q8, .inl (c8, 16, .inl (fun _ => (0 : Int32))))]) (w1 := [(h0, .inr (8, [.int 1, .ref q1, v2, .ref q3, .ref q4, .ref q5, .ref q6, .ref q7, .ref q8, v9, v10, v11, v12, v13, v14, v15, v16]))]) hP hD [0] [1, 2, 3, 4, 5, 6, 7] rfl rfl (by decide) (by decide) hk1 hFc hP1 hD1
                clear hk1 hz1 ht hPc hDc hKc
                generalize H1 = H at hP hS ⊢
                have hP : va_P (dC, dI) vwCl [(q1, .inl (c1, 16, .inl (fun _ => (0 : Int32)))), (q3, .inl (c3, 16, .inl (fun _ => (0 : Int32)))), (q4, .inl (c4, 16, .inl (fun _ => (0 : Int32)))), (q5, .inl (c5, 16, .inl (fun _ => (0 : Int32)))), (q6, .inl (c6, 16, .inl (fun _ => (0 : Int32)))), (q7, .inl (c7, 16, .inl (fun _ => (0 : Int32)))), (q8, .inl (c8, 16, .inl (fun _ => (0 : Int32)))), (h0, .inr (8, [.int 1, .ref q1, v2, .ref q3, .ref q4, .ref q5, .ref q6, .ref q7, .ref q8, v9, v10, v11, v12, v13, v14, v15, v16]))] H := hP
                have hD : va_D A [(q1, .inl (c1, 16, .inl (fun _ => (0 : Int32)))), (q3, .inl (c3, 16, .inl (fun _ => (0 : Int32)))), (q4, .inl (c4, 16, .inl (fun _ => (0 : Int32)))), (q5, .inl (c5, 16, .inl (fun _ => (0 : Int32)))), (q6, .inl (c6, 16, .inl (fun _ => (0 : Int32)))), (q7, .inl (c7, 16, .inl (fun _ => (0 : Int32)))), (q8, .inl (c8, 16, .inl (fun _ => (0 : Int32)))), (h0, .inr (8, [.int 1, .ref q1, v2, .ref q3, .ref q4, .ref q5, .ref q6, .ref q7, .ref q8, v9, v10, v11, v12, v13, v14, v15, v16]))] := hD
                refine W.widen (k := 0) (n := 0) (Nat.le_of_ble_eq_true rfl) (Nat.le_of_ble_eq_true rfl) ?_
                refine W.eq (g2 := F0 m 108 ls [.int r_51]) rfl ?_
                have hP9 := hP.sub (ws' := [(h0, .inr (8, [.int 1, .ref q1, v2, .ref q3, .ref q4, .ref q5, .ref q6, .ref q7, .ref q8, v9, v10, v11, v12, v13, v14, v15, v16]))]) [7] rfl
                have hD9 := hD.sub (ws' := [(h0, .inr (8, [.int 1, .ref q1, v2, .ref q3, .ref q4, .ref q5, .ref q6, .ref q7, .ref q8, v9, v10, v11, v12, v13, v14, v15, v16]))]) [7] (by decide) rfl
                have hK9 := hK.sub (tys' := []) [] rfl
                refine W.widen (k := 0) (n := 0) (Nat.le_of_ble_eq_true rfl) (Nat.le_of_ble_eq_true rfl) ?_
                exact W.iret (v := r_51) hx hb hr (fun t ht hW => ⟨⟨r_51, 1, rfl, ⟨tx_at (P := mkIs p0 p1 p2) (n := 1) (by decide) (by unfold mkIs; omega), fun h => absurd h (by decide)⟩, by rw [ht]; exact hP9, va_K.moved hW.alike hK9, hD9⟩, hS.F ht⟩) hS.2.2 dX8_make_108
              ·
                have ic_49 : ¬ r_48.toInt = 0 := tx_ne rfl (by decide) c_49
                refine lv_iconst (v := 1) hx hb dX8_make_82 (by decide) ?_
                refine lv_goto (tgt := 96) hx hb dX8_make_83 (by decide) ?_
                refine lv_istore (lv' := [(4, .int 1), (0, .ref h0), (1, .int p0), (2, .int p1), (3, .int p2)]) hx hb dX8_make_96 hl (by decide) rfl (fun ls hl => ?_)
                refine lv_iload hx hb dX8_make_98 (lv_at hl 0 rfl) ?_
                refine lv_if_ne (tgt := 109) hx hb dX8_make_100 (by decide) (fun c_52 => ?_) (fun c_52 => absurd c_52 (by decide))
                refine lv_aload_n hx hb dX8_make_109 rfl (lv_at hl 1 rfl) ?_
                have hPc := hP.sub (ws' := [(h0, .inr (8, [.int th, .ref q1, v2, .ref q3, .ref q4, .ref q5, .ref q6, .ref q7, .ref q8, v9, v10, v11, v12, v13, v14, v15, v16])), (q1, .inl (c1, 16, .inl (fun _ => (0 : Int32))))]) [0, 1] rfl
                have hDc := hD.sub (ws' := [(h0, .inr (8, [.int th, .ref q1, v2, .ref q3, .ref q4, .ref q5, .ref q6, .ref q7, .ref q8, v9, v10, v11, v12, v13, v14, v15, v16])), (q1, .inl (c1, 16, .inl (fun _ => (0 : Int32))))]) [0, 1] (by decide) rfl
                have hKc := hK.sub (tys' := [(c1, .int)]) [0] rfl
                have hFc := va_free (wc := [(h0, .inr (8, [.int th, .ref q1, v2, .ref q3, .ref q4, .ref q5, .ref q6, .ref q7, .ref q8, v9, v10, v11, v12, v13, v14, v15, v16])), (q1, .inl (c1, 16, .inl (fun _ => (0 : Int32))))]) hD hS hA [0, 1] rfl
                refine va_calli (va_runV (As := []) (rest := []) ⟨hx, hb, hml, hown, hts⟩ (c_X8_free l  dC dI H.size h0 q1 c1 th v2 (.ref q3) (.ref q4) (.ref q5) (.ref q6) (.ref q7) (.ref q8) v9 v10 v11 v12 v13 v14 v15 v16) (cwV 0 hts gX8_make_X8_free rfl rfl rfl (by decide +kernel) ⟨(Nat.le_of_ble_eq_true rfl), (Nat.le_of_ble_eq_true rfl)⟩) ⟨pk_blind, va_recv hKc hPc (ci := 8) (q0 := 0) rfl rfl, pk_call hPc hKc hDc⟩ rfl rfl hl.1 rfl (lv_room (Nat.le_of_ble_eq_true rfl)) dX8_make_110 ⟨(Nat.le_of_ble_eq_true rfl), (Nat.le_of_ble_eq_true rfl)⟩) hS (fun q _ h => hFc q h) hFc (fun r_53 ur_53 t H1 locs ht hvm hw hB hz1 hk1 hS => ?_)
                try dsimp only at hw
                obtain ⟨hP1, hK1, hD1⟩ := hB
                rw [ht] at hP1
                have hK1 := va_K.moved hvm.symm hK1
                obtain ⟨hP, hD⟩ := va_join (wr := [(q3, .inl (c3, 16, .inl (fun _ => (0 : Int32)))), (q4, .inl (c4, 16, .inl (fun _ => (0 : Int32)))), (q5, .inl (c5, 16, .inl (fun _ => (0 : Int32)))), (q6, .inl (c6, 16, .inl (fun _ => (0 : Int32)))), (q7, .inl (c7, 16, .inl (fun _ => (0 : Int32)))), (q8, .inl (c8, 16, .inl (fun _ => (0 : Int32))))]) (w1 := [(h0, .inr (8, [.int th, .ref q1, v2, .ref q3, .ref q4, .ref q5, .ref q6, .ref q7, .ref q8, v9, v10, v11, v12, v13, v14, v15, v16])), (q1, .inl (c1, 16, .inl (fun _ => (0 : Int32))))]) hP hD [0, 1] [2, 3, 4, 5, 6, 7] rfl rfl (by decide) (by decide) hk1 hFc hP1 hD1
                clear hk1 hz1 ht hPc hDc hKc
                generalize H1 = H at hP hS ⊢
                have hP : va_P (dC, dI) vwCl [(q3, .inl (c3, 16, .inl (fun _ => (0 : Int32)))), (q4, .inl (c4, 16, .inl (fun _ => (0 : Int32)))), (q5, .inl (c5, 16, .inl (fun _ => (0 : Int32)))), (q6, .inl (c6, 16, .inl (fun _ => (0 : Int32)))), (q7, .inl (c7, 16, .inl (fun _ => (0 : Int32)))), (q8, .inl (c8, 16, .inl (fun _ => (0 : Int32)))), (h0, .inr (8, [.int th, .ref q1, v2, .ref q3, .ref q4, .ref q5, .ref q6, .ref q7, .ref q8, v9, v10, v11, v12, v13, v14, v15, v16])), (q1, .inl (c1, 16, .inl (fun _ => (0 : Int32))))] H := hP
                have hD : va_D A [(q3, .inl (c3, 16, .inl (fun _ => (0 : Int32)))), (q4, .inl (c4, 16, .inl (fun _ => (0 : Int32)))), (q5, .inl (c5, 16, .inl (fun _ => (0 : Int32)))), (q6, .inl (c6, 16, .inl (fun _ => (0 : Int32)))), (q7, .inl (c7, 16, .inl (fun _ => (0 : Int32)))), (q8, .inl (c8, 16, .inl (fun _ => (0 : Int32)))), (h0, .inr (8, [.int th, .ref q1, v2, .ref q3, .ref q4, .ref q5, .ref q6, .ref q7, .ref q8, v9, v10, v11, v12, v13, v14, v15, v16])), (q1, .inl (c1, 16, .inl (fun _ => (0 : Int32))))] := hD
                refine W.widen (k := 0) (n := 0) (Nat.le_of_ble_eq_true rfl) (Nat.le_of_ble_eq_true rfl) ?_
                obtain rfl : r_53 = 0 := hw
                refine W.eq (g2 := F0 m 113 ls [.int 0]) rfl ?_
                refine lv_istore (lv' := [(5, .int 0), (4, .int 1), (0, .ref h0), (1, .int p0), (2, .int p1), (3, .int p2)]) hx hb dX8_make_113 hl (by decide) rfl (fun ls hl => ?_)
                refine lv_iload hx hb dX8_make_115 (lv_at hl 0 rfl) ?_
                refine lv_if_ge (tgt := 126) hx hb dX8_make_117 (by decide) (fun c_54 => ?_) (fun c_54 => absurd c_54 (by decide))
                refine lv_aload_n hx hb dX8_make_126 rfl (lv_at hl 2 rfl) ?_
                refine lv_iconst (v := 0) hx hb dX8_make_127 (by decide) ?_
                refine va_put (D := (dC, dI)) (ci := 8) (v := .int 0) (ty := .int) (C := RX8) (T := TX8) (N := 17) hx hb hts (by decide +kernel) tyX8 tyX8_ok nmX8 hown hK hP hD hS 6 rfl rfl 0 (by decide) (hts (.fieldLink RX8 60 "KeyAtlasModel" "thrown" "I") (by decide +kernel)) (fun _ h9 => h9) rfl (by decide +kernel) rfl rfl (Nat.le_of_ble_eq_true rfl) dX8_make_128 (fun H locs hP hD hS => ?_)
                have hP : va_P (dC, dI) vwCl [(q3, .inl (c3, 16, .inl (fun _ => (0 : Int32)))), (q4, .inl (c4, 16, .inl (fun _ => (0 : Int32)))), (q5, .inl (c5, 16, .inl (fun _ => (0 : Int32)))), (q6, .inl (c6, 16, .inl (fun _ => (0 : Int32)))), (q7, .inl (c7, 16, .inl (fun _ => (0 : Int32)))), (q8, .inl (c8, 16, .inl (fun _ => (0 : Int32)))), (h0, .inr (8, [.int 0, .ref q1, v2, .ref q3, .ref q4, .ref q5, .ref q6, .ref q7, .ref q8, v9, v10, v11, v12, v13, v14, v15, v16])), (q1, .inl (c1, 16, .inl (fun _ => (0 : Int32))))] H := hP
                have hD : va_D A [(q3, .inl (c3, 16, .inl (fun _ => (0 : Int32)))), (q4, .inl (c4, 16, .inl (fun _ => (0 : Int32)))), (q5, .inl (c5, 16, .inl (fun _ => (0 : Int32)))), (q6, .inl (c6, 16, .inl (fun _ => (0 : Int32)))), (q7, .inl (c7, 16, .inl (fun _ => (0 : Int32)))), (q8, .inl (c8, 16, .inl (fun _ => (0 : Int32)))), (h0, .inr (8, [.int 0, .ref q1, v2, .ref q3, .ref q4, .ref q5, .ref q6, .ref q7, .ref q8, v9, v10, v11, v12, v13, v14, v15, v16])), (q1, .inl (c1, 16, .inl (fun _ => (0 : Int32))))] := hD
                refine lv_aload_n hx hb dX8_make_131 rfl (lv_at hl 2 rfl) ?_
                refine lv_iload hx hb dX8_make_132 (lv_at hl 0 rfl) ?_
                refine lv_iload_n hx hb dX8_make_134 rfl (lv_at hl 3 rfl) ?_
                refine lv_iconst (v := 1) hx hb dX8_make_135 (by decide) ?_
                refine lv_iadd hx hb dX8_make_136 ?_
                have hPc := hP.sub (ws' := [(h0, .inr (8, [.int 0, .ref q1, v2, .ref q3, .ref q4, .ref q5, .ref q6, .ref q7, .ref q8, v9, v10, v11, v12, v13, v14, v15, v16])), (q1, .inl (c1, 16, .inl (fun _ => (0 : Int32)))), (q3, .inl (c3, 16, .inl (fun _ => (0 : Int32)))), (q6, .inl (c6, 16, .inl (fun _ => (0 : Int32)))), (q7, .inl (c7, 16, .inl (fun _ => (0 : Int32)))), (q8, .inl (c8, 16, .inl (fun _ => (0 : Int32))))]) [6, 7, 0, 3, 4, 5] rfl
                have hDc := hD.sub (ws' := [(h0, .inr (8, [.int 0, .ref q1, v2, .ref q3, .ref q4, .ref q5, .ref q6, .ref q7, .ref q8, v9, v10, v11, v12, v13, v14, v15, v16])), (q1, .inl (c1, 16, .inl (fun _ => (0 : Int32)))), (q3, .inl (c3, 16, .inl (fun _ => (0 : Int32)))), (q6, .inl (c6, 16, .inl (fun _ => (0 : Int32)))), (q7, .inl (c7, 16, .inl (fun _ => (0 : Int32)))), (q8, .inl (c8, 16, .inl (fun _ => (0 : Int32))))]) [6, 7, 0, 3, 4, 5] (by decide) rfl
                have hKc := hK.sub (tys' := [(c1, .int), (c3, .int), (c6, .int), (c7, .int), (c8, .int)]) [0, 1, 4, 5, 6] rfl
                have hFc := va_free (wc := [(h0, .inr (8, [.int 0, .ref q1, v2, .ref q3, .ref q4, .ref q5, .ref q6, .ref q7, .ref q8, v9, v10, v11, v12, v13, v14, v15, v16])), (q1, .inl (c1, 16, .inl (fun _ => (0 : Int32)))), (q3, .inl (c3, 16, .inl (fun _ => (0 : Int32)))), (q6, .inl (c6, 16, .inl (fun _ => (0 : Int32)))), (q7, .inl (c7, 16, .inl (fun _ => (0 : Int32)))), (q8, .inl (c8, 16, .inl (fun _ => (0 : Int32))))]) hD hS hA [6, 7, 0, 3, 4, 5] rfl
                refine va_calli (va_runV (As := [.int 0, .int (p0 + 1)]) (rest := []) ⟨hx, hb, hml, hown, hts⟩ (c_X8_born l  dC dI H.size h0 0 q1 q3 q6 q7 q8 c1 c3 c6 c7 c8 v2 (.ref q4) (.ref q5) v9 v10 v11 v12 v13 v14 v15 v16 (p0 + 1)) (cwV 2 hts gX8_make_X8_born rfl rfl rfl (by decide +kernel) ⟨(Nat.le_of_ble_eq_true rfl), (Nat.le_of_ble_eq_true rfl)⟩) ⟨pk_blind, va_recv hKc hPc (ci := 8) (q0 := 0) rfl rfl, pk_call hPc hKc hDc⟩ rfl rfl hl.1 rfl (lv_room (Nat.le_of_ble_eq_true rfl)) dX8_make_137 ⟨(Nat.le_of_ble_eq_true rfl), (Nat.le_of_ble_eq_true rfl)⟩) hS (fun q _ h => hFc q h) hFc (fun r_55 ur_55 t H1 locs ht hvm hw hB hz1 hk1 hS => ?_)
                try dsimp only at hw
                have jr_55 := hw
                obtain ⟨hP1, hK1, hD1⟩ := hB
                rw [ht] at hP1
                have hK1 := va_K.moved hvm.symm hK1
                obtain ⟨hP, hD⟩ := va_join (wr := [(q4, .inl (c4, 16, .inl (fun _ => (0 : Int32)))), (q5, .inl (c5, 16, .inl (fun _ => (0 : Int32))))]) (w1 := [(h0, .inr (8, [.int 0, .ref q1, v2, .ref q3, .ref q4, .ref q5, .ref q6, .ref q7, .ref q8, v9, v10, v11, v12, v13, v14, v15, v16]))]) hP hD [6, 7, 0, 3, 4, 5] [1, 2] rfl rfl (by decide) (by decide) hk1 hFc hP1 hD1
                clear hk1 hz1 ht hPc hDc hKc
                generalize H1 = H at hP hS ⊢
                have hP : va_P (dC, dI) vwCl [(q4, .inl (c4, 16, .inl (fun _ => (0 : Int32)))), (q5, .inl (c5, 16, .inl (fun _ => (0 : Int32)))), (h0, .inr (8, [.int 0, .ref q1, v2, .ref q3, .ref q4, .ref q5, .ref q6, .ref q7, .ref q8, v9, v10, v11, v12, v13, v14, v15, v16]))] H := hP
                have hD : va_D A [(q4, .inl (c4, 16, .inl (fun _ => (0 : Int32)))), (q5, .inl (c5, 16, .inl (fun _ => (0 : Int32)))), (h0, .inr (8, [.int 0, .ref q1, v2, .ref q3, .ref q4, .ref q5, .ref q6, .ref q7, .ref q8, v9, v10, v11, v12, v13, v14, v15, v16]))] := hD
                refine W.widen (k := 0) (n := 0) (Nat.le_of_ble_eq_true rfl) (Nat.le_of_ble_eq_true rfl) ?_
                refine W.eq (g2 := F0 m 140 ls [.int r_55]) rfl ?_
                refine lv_pop hx hb dX8_make_140 rfl ?_
                refine lv_aload_n hx hb dX8_make_141 rfl (lv_at hl 2 rfl) ?_
                refine va_get (D := (dC, dI)) (ci := 8) (v := .ref q4) (C := RX8) (T := TX8) (N := 17) hx hb hts (by decide +kernel) hown hK hP 2 rfl rfl 4 (by decide) (hts (.fieldLink RX8 20 "KeyAtlasModel" "first" "[I") (by decide +kernel)) (fun _ h9 => h9) rfl dX8_make_142 ?_
                refine lv_iload hx hb dX8_make_145 (lv_at hl 0 rfl) ?_
                refine lv_iload_n hx hb dX8_make_147 rfl (lv_at hl 4 rfl) ?_
                refine va_iast (i := 0) hx hb hK hP hD hS 0 2 rfl rfl (by unfold vp_in; decide) dX8_make_148 (fun H locs hP hD hS => ?_)
                have hP : va_P (dC, dI) vwCl [(q4, .inl (c4, 16, .inl (upd (fun _ => (0 : Int32)) (0 : Int32).toNatClampNeg p1))), (q5, .inl (c5, 16, .inl (fun _ => (0 : Int32)))), (h0, .inr (8, [.int 0, .ref q1, v2, .ref q3, .ref q4, .ref q5, .ref q6, .ref q7, .ref q8, v9, v10, v11, v12, v13, v14, v15, v16]))] H := hP
                have hD : va_D A [(q4, .inl (c4, 16, .inl (upd (fun _ => (0 : Int32)) (0 : Int32).toNatClampNeg p1))), (q5, .inl (c5, 16, .inl (fun _ => (0 : Int32)))), (h0, .inr (8, [.int 0, .ref q1, v2, .ref q3, .ref q4, .ref q5, .ref q6, .ref q7, .ref q8, v9, v10, v11, v12, v13, v14, v15, v16]))] := hD
                refine lv_aload_n hx hb dX8_make_149 rfl (lv_at hl 2 rfl) ?_
                refine va_get (D := (dC, dI)) (ci := 8) (v := .ref q5) (C := RX8) (T := TX8) (N := 17) hx hb hts (by decide +kernel) hown hK hP 2 rfl rfl 5 (by decide) (hts (.fieldLink RX8 23 "KeyAtlasModel" "second" "[I") (by decide +kernel)) (fun _ h9 => h9) rfl dX8_make_150 ?_
                refine lv_iload hx hb dX8_make_153 (lv_at hl 0 rfl) ?_
                refine lv_iload_n hx hb dX8_make_155 rfl (lv_at hl 5 rfl) ?_
                refine va_iast (i := 0) hx hb hK hP hD hS 1 3 rfl rfl (by unfold vp_in; decide) dX8_make_156 (fun H locs hP hD hS => ?_)
                have hP : va_P (dC, dI) vwCl [(q4, .inl (c4, 16, .inl (upd (fun _ => (0 : Int32)) (0 : Int32).toNatClampNeg p1))), (q5, .inl (c5, 16, .inl (upd (fun _ => (0 : Int32)) (0 : Int32).toNatClampNeg p2))), (h0, .inr (8, [.int 0, .ref q1, v2, .ref q3, .ref q4, .ref q5, .ref q6, .ref q7, .ref q8, v9, v10, v11, v12, v13, v14, v15, v16]))] H := hP
                have hD : va_D A [(q4, .inl (c4, 16, .inl (upd (fun _ => (0 : Int32)) (0 : Int32).toNatClampNeg p1))), (q5, .inl (c5, 16, .inl (upd (fun _ => (0 : Int32)) (0 : Int32).toNatClampNeg p2))), (h0, .inr (8, [.int 0, .ref q1, v2, .ref q3, .ref q4, .ref q5, .ref q6, .ref q7, .ref q8, v9, v10, v11, v12, v13, v14, v15, v16]))] := hD
                refine lv_iload hx hb dX8_make_157 (lv_at hl 0 rfl) ?_
                have hP9 := hP.sub (ws' := [(h0, .inr (8, [.int 0, .ref q1, v2, .ref q3, .ref q4, .ref q5, .ref q6, .ref q7, .ref q8, v9, v10, v11, v12, v13, v14, v15, v16]))]) [2] rfl
                have hD9 := hD.sub (ws' := [(h0, .inr (8, [.int 0, .ref q1, v2, .ref q3, .ref q4, .ref q5, .ref q6, .ref q7, .ref q8, v9, v10, v11, v12, v13, v14, v15, v16]))]) [2] (by decide) rfl
                have hK9 := hK.sub (tys' := []) [] rfl
                refine W.widen (k := 0) (n := 0) (Nat.le_of_ble_eq_true rfl) (Nat.le_of_ble_eq_true rfl) ?_
                exact W.iret (v := 0) hx hb hr (fun t ht hW => ⟨⟨0, 0, rfl, ⟨tx_at (P := mkIs p0 p1 p2) (n := 0) (by decide) (by unfold mkIs; omega), fun _ => rfl⟩, by rw [ht]; exact hP9, va_K.moved hW.alike hK9, hD9⟩, hS.F ht⟩) hS.2.2 dX8_make_159
        ·
          have ic_36 : p0.toInt = 0 := tx_eq rfl (by decide) c_36
          refine lv_iload_n hx hb dX8_make_33 rfl (lv_at hl 2 rfl) ?_
          refine lv_sipush (v := 1000) hx hb dX8_make_34 (by decide) ?_
          refine lv_icmp_gt (tgt := 53) hx hb dX8_make_37 (by decide) (fun c_56 => ?_) (fun c_56 => ?_)
          ·
            have ic_56 : 1000 < p1.toInt := tx_lt (by decide) rfl c_56
            refine lv_iconst (v := 0) hx hb dX8_make_53 (by decide) ?_
            refine lv_goto (tgt := 96) hx hb dX8_make_54 (by decide) ?_
            refine lv_istore (lv' := [(4, .int 0), (0, .ref h0), (1, .int p0), (2, .int p1), (3, .int p2)]) hx hb dX8_make_96 hl (by decide) rfl (fun ls hl => ?_)
            refine lv_iload hx hb dX8_make_98 (lv_at hl 0 rfl) ?_
            refine lv_if_ne (tgt := 109) hx hb dX8_make_100 (by decide) (fun c_57 => absurd c_57 (by decide)) (fun c_57 => ?_)
            refine lv_aload_n hx hb dX8_make_103 rfl (lv_at hl 1 rfl) ?_
            refine lv_iconst (v := 1) hx hb dX8_make_104 (by decide) ?_
            have hPc := hP.sub (ws' := [(h0, .inr (8, [.int th, .ref q1, v2, .ref q3, .ref q4, .ref q5, .ref q6, .ref q7, .ref q8, v9, v10, v11, v12, v13, v14, v15, v16]))]) [0] rfl
            have hDc := hD.sub (ws' := [(h0, .inr (8, [.int th, .ref q1, v2, .ref q3, .ref q4, .ref q5, .ref q6, .ref q7, .ref q8, v9, v10, v11, v12, v13, v14, v15, v16]))]) [0] (by decide) rfl
            have hKc := hK.sub (tys' := []) [] rfl
            have hFc := va_free (wc := [(h0, .inr (8, [.int th, .ref q1, v2, .ref q3, .ref q4, .ref q5, .ref q6, .ref q7, .ref q8, v9, v10, v11, v12, v13, v14, v15, v16]))]) hD hS hA [0] rfl
            refine va_calli (va_runV (As := [.int 1]) (rest := []) ⟨hx, hb, hml, hown, hts⟩ (c_X8_refuse l  dC dI H.size h0 th 1 (.ref q1) v2 (.ref q3) (.ref q4) (.ref q5) (.ref q6) (.ref q7) (.ref q8) v9 v10 v11 v12 v13 v14 v15 v16) (cwV 1 hts gX8_make_X8_refuse rfl rfl rfl (by decide +kernel) ⟨(Nat.le_of_ble_eq_true rfl), (Nat.le_of_ble_eq_true rfl)⟩) ⟨pk_blind, va_recv hKc hPc (ci := 8) (q0 := 0) rfl rfl, pk_call hPc hKc hDc⟩ rfl rfl hl.1 rfl (lv_room (Nat.le_of_ble_eq_true rfl)) dX8_make_105 ⟨(Nat.le_of_ble_eq_true rfl), (Nat.le_of_ble_eq_true rfl)⟩) hS (fun q _ h => hFc q h) hFc (fun r_58 ur_58 t H1 locs ht hvm hw hB hz1 hk1 hS => ?_)
            try dsimp only at hw
            have jr_58 := hw
            obtain ⟨hP1, hK1, hD1⟩ := hB
            rw [ht] at hP1
            have hK1 := va_K.moved hvm.symm hK1
            obtain ⟨hP, hD⟩ := va_join (wr := [(q1, .inl (c1, 16, .inl (fun _ => (0 : Int32)))), (q3, .inl (c3, 16, .inl (fun _ => (0 : Int32)))), (q4, .inl (c4, 16, .inl (fun _ => (0 : Int32)))), (q5, .inl (c5, 16, .inl (fun _ => (0 : Int32)))), (q6, .inl (c6, 16, .inl (fun _ => (0 : Int32)))), (q7, .inl (c7, 16, .inl (fun _ => (0 : Int32)))), (q8, .inl (c8, 16, .inl (fun _ => (0 : Int32))))]) (w1 := [(h0, .inr (8, [.int 1, .ref q1, v2, .ref q3, .ref q4, .ref q5, .ref q6, .ref q7, .ref q8, v9, v10, v11, v12, v13, v14, v15, v16]))]) hP hD [0] [1, 2, 3, 4, 5, 6, 7] rfl rfl (by decide) (by decide) hk1 hFc hP1 hD1
            clear hk1 hz1 ht hPc hDc hKc
            generalize H1 = H at hP hS ⊢
            have hP : va_P (dC, dI) vwCl [(q1, .inl (c1, 16, .inl (fun _ => (0 : Int32)))), (q3, .inl (c3, 16, .inl (fun _ => (0 : Int32)))), (q4, .inl (c4, 16, .inl (fun _ => (0 : Int32)))), (q5, .inl (c5, 16, .inl (fun _ => (0 : Int32)))), (q6, .inl (c6, 16, .inl (fun _ => (0 : Int32)))), (q7, .inl (c7, 16, .inl (fun _ => (0 : Int32)))), (q8, .inl (c8, 16, .inl (fun _ => (0 : Int32)))), (h0, .inr (8, [.int 1, .ref q1, v2, .ref q3, .ref q4, .ref q5, .ref q6, .ref q7, .ref q8, v9, v10, v11, v12, v13, v14, v15, v16]))] H := hP
            have hD : va_D A [(q1, .inl (c1, 16, .inl (fun _ => (0 : Int32)))), (q3, .inl (c3, 16, .inl (fun _ => (0 : Int32)))), (q4, .inl (c4, 16, .inl (fun _ => (0 : Int32)))), (q5, .inl (c5, 16, .inl (fun _ => (0 : Int32)))), (q6, .inl (c6, 16, .inl (fun _ => (0 : Int32)))), (q7, .inl (c7, 16, .inl (fun _ => (0 : Int32)))), (q8, .inl (c8, 16, .inl (fun _ => (0 : Int32)))), (h0, .inr (8, [.int 1, .ref q1, v2, .ref q3, .ref q4, .ref q5, .ref q6, .ref q7, .ref q8, v9, v10, v11, v12, v13, v14, v15, v16]))] := hD
            refine W.widen (k := 0) (n := 0) (Nat.le_of_ble_eq_true rfl) (Nat.le_of_ble_eq_true rfl) ?_
            refine W.eq (g2 := F0 m 108 ls [.int r_58]) rfl ?_
            have hP9 := hP.sub (ws' := [(h0, .inr (8, [.int 1, .ref q1, v2, .ref q3, .ref q4, .ref q5, .ref q6, .ref q7, .ref q8, v9, v10, v11, v12, v13, v14, v15, v16]))]) [7] rfl
            have hD9 := hD.sub (ws' := [(h0, .inr (8, [.int 1, .ref q1, v2, .ref q3, .ref q4, .ref q5, .ref q6, .ref q7, .ref q8, v9, v10, v11, v12, v13, v14, v15, v16]))]) [7] (by decide) rfl
            have hK9 := hK.sub (tys' := []) [] rfl
            refine W.widen (k := 0) (n := 0) (Nat.le_of_ble_eq_true rfl) (Nat.le_of_ble_eq_true rfl) ?_
            exact W.iret (v := r_58) hx hb hr (fun t ht hW => ⟨⟨r_58, 1, rfl, ⟨tx_at (P := mkIs p0 p1 p2) (n := 1) (by decide) (by unfold mkIs; omega), fun h => absurd h (by decide)⟩, by rw [ht]; exact hP9, va_K.moved hW.alike hK9, hD9⟩, hS.F ht⟩) hS.2.2 dX8_make_108
          ·
            have ic_56 : p1.toInt ≤ 1000 := tx_nlt (by decide) rfl c_56
            refine lv_iload_n hx hb dX8_make_40 rfl (lv_at hl 3 rfl) ?_
            refine lv_iconst (v := 0) hx hb dX8_make_41 (by decide) ?_
            refine lv_iconst (v := 3) hx hb dX8_make_42 (by decide) ?_
            have hPc := hP.sub (ws' := []) [] rfl
            have hDc := hD.sub (ws' := []) [] (by decide) rfl
            have hKc := hK.sub (tys' := []) [] rfl
            have hFc := va_free (wc := []) hD hS hA [] rfl
            refine va_calli (va_runS (As := [.int p2, .int 0, .int 3]) (rest := []) ⟨hx, hb, hml, hown, hts⟩ (c_X8_in l  dC dI H.size p2 0 3 0 3 (by decide) (by decide)) (va_cwS 3 hts gX8_make_X8_in rfl rfl rfl (by decide +kernel) ⟨(Nat.le_of_ble_eq_true rfl), (Nat.le_of_ble_eq_true rfl)⟩) ⟨pk_blind, pk_call hPc hKc hDc⟩ rfl rfl hl.1 rfl (lv_room (Nat.le_of_ble_eq_true rfl)) dX8_make_43 ⟨(Nat.le_of_ble_eq_true rfl), (Nat.le_of_ble_eq_true rfl)⟩) hS (fun q _ h => hFc q h) hFc (fun r_59 ur_59 t H1 locs ht hvm hw hB hz1 hk1 hS => ?_)
            try dsimp only at hw
            have jr_59 := hw
            obtain ⟨hP, hD⟩ := va_join (wr := [(h0, .inr (8, [.int th, .ref q1, v2, .ref q3, .ref q4, .ref q5, .ref q6, .ref q7, .ref q8, v9, v10, v11, v12, v13, v14, v15, v16])), (q1, .inl (c1, 16, .inl (fun _ => (0 : Int32)))), (q3, .inl (c3, 16, .inl (fun _ => (0 : Int32)))), (q4, .inl (c4, 16, .inl (fun _ => (0 : Int32)))), (q5, .inl (c5, 16, .inl (fun _ => (0 : Int32)))), (q6, .inl (c6, 16, .inl (fun _ => (0 : Int32)))), (q7, .inl (c7, 16, .inl (fun _ => (0 : Int32)))), (q8, .inl (c8, 16, .inl (fun _ => (0 : Int32))))]) (w1 := []) hP hD [] [0, 1, 2, 3, 4, 5, 6, 7] rfl rfl (by decide) (by decide) hk1 hFc tx_P0 tx_D0
            clear hk1 hz1 ht hPc hDc hKc
            generalize H1 = H at hP hS ⊢
            have hP : va_P (dC, dI) vwCl [(h0, .inr (8, [.int th, .ref q1, v2, .ref q3, .ref q4, .ref q5, .ref q6, .ref q7, .ref q8, v9, v10, v11, v12, v13, v14, v15, v16])), (q1, .inl (c1, 16, .inl (fun _ => (0 : Int32)))), (q3, .inl (c3, 16, .inl (fun _ => (0 : Int32)))), (q4, .inl (c4, 16, .inl (fun _ => (0 : Int32)))), (q5, .inl (c5, 16, .inl (fun _ => (0 : Int32)))), (q6, .inl (c6, 16, .inl (fun _ => (0 : Int32)))), (q7, .inl (c7, 16, .inl (fun _ => (0 : Int32)))), (q8, .inl (c8, 16, .inl (fun _ => (0 : Int32))))] H := hP
            have hD : va_D A [(h0, .inr (8, [.int th, .ref q1, v2, .ref q3, .ref q4, .ref q5, .ref q6, .ref q7, .ref q8, v9, v10, v11, v12, v13, v14, v15, v16])), (q1, .inl (c1, 16, .inl (fun _ => (0 : Int32)))), (q3, .inl (c3, 16, .inl (fun _ => (0 : Int32)))), (q4, .inl (c4, 16, .inl (fun _ => (0 : Int32)))), (q5, .inl (c5, 16, .inl (fun _ => (0 : Int32)))), (q6, .inl (c6, 16, .inl (fun _ => (0 : Int32)))), (q7, .inl (c7, 16, .inl (fun _ => (0 : Int32)))), (q8, .inl (c8, 16, .inl (fun _ => (0 : Int32))))] := hD
            refine W.widen (k := 0) (n := 0) (Nat.le_of_ble_eq_true rfl) (Nat.le_of_ble_eq_true rfl) ?_
            refine W.eq (g2 := F0 m 46 ls [.int r_59]) rfl ?_
            refine lv_if_eq (tgt := 53) hx hb dX8_make_46 (by decide) (fun c_60 => ?_) (fun c_60 => ?_)
            ·
              have ic_60 : r_59.toInt = 0 := tx_eq rfl (by decide) c_60
              refine lv_iconst (v := 0) hx hb dX8_make_53 (by decide) ?_
              refine lv_goto (tgt := 96) hx hb dX8_make_54 (by decide) ?_
              refine lv_istore (lv' := [(4, .int 0), (0, .ref h0), (1, .int p0), (2, .int p1), (3, .int p2)]) hx hb dX8_make_96 hl (by decide) rfl (fun ls hl => ?_)
              refine lv_iload hx hb dX8_make_98 (lv_at hl 0 rfl) ?_
              refine lv_if_ne (tgt := 109) hx hb dX8_make_100 (by decide) (fun c_61 => absurd c_61 (by decide)) (fun c_61 => ?_)
              refine lv_aload_n hx hb dX8_make_103 rfl (lv_at hl 1 rfl) ?_
              refine lv_iconst (v := 1) hx hb dX8_make_104 (by decide) ?_
              have hPc := hP.sub (ws' := [(h0, .inr (8, [.int th, .ref q1, v2, .ref q3, .ref q4, .ref q5, .ref q6, .ref q7, .ref q8, v9, v10, v11, v12, v13, v14, v15, v16]))]) [0] rfl
              have hDc := hD.sub (ws' := [(h0, .inr (8, [.int th, .ref q1, v2, .ref q3, .ref q4, .ref q5, .ref q6, .ref q7, .ref q8, v9, v10, v11, v12, v13, v14, v15, v16]))]) [0] (by decide) rfl
              have hKc := hK.sub (tys' := []) [] rfl
              have hFc := va_free (wc := [(h0, .inr (8, [.int th, .ref q1, v2, .ref q3, .ref q4, .ref q5, .ref q6, .ref q7, .ref q8, v9, v10, v11, v12, v13, v14, v15, v16]))]) hD hS hA [0] rfl
              refine va_calli (va_runV (As := [.int 1]) (rest := []) ⟨hx, hb, hml, hown, hts⟩ (c_X8_refuse l  dC dI H.size h0 th 1 (.ref q1) v2 (.ref q3) (.ref q4) (.ref q5) (.ref q6) (.ref q7) (.ref q8) v9 v10 v11 v12 v13 v14 v15 v16) (cwV 1 hts gX8_make_X8_refuse rfl rfl rfl (by decide +kernel) ⟨(Nat.le_of_ble_eq_true rfl), (Nat.le_of_ble_eq_true rfl)⟩) ⟨pk_blind, va_recv hKc hPc (ci := 8) (q0 := 0) rfl rfl, pk_call hPc hKc hDc⟩ rfl rfl hl.1 rfl (lv_room (Nat.le_of_ble_eq_true rfl)) dX8_make_105 ⟨(Nat.le_of_ble_eq_true rfl), (Nat.le_of_ble_eq_true rfl)⟩) hS (fun q _ h => hFc q h) hFc (fun r_62 ur_62 t H1 locs ht hvm hw hB hz1 hk1 hS => ?_)
              try dsimp only at hw
              have jr_62 := hw
              obtain ⟨hP1, hK1, hD1⟩ := hB
              rw [ht] at hP1
              have hK1 := va_K.moved hvm.symm hK1
              obtain ⟨hP, hD⟩ := va_join (wr := [(q1, .inl (c1, 16, .inl (fun _ => (0 : Int32)))), (q3, .inl (c3, 16, .inl (fun _ => (0 : Int32)))), (q4, .inl (c4, 16, .inl (fun _ => (0 : Int32)))), (q5, .inl (c5, 16, .inl (fun _ => (0 : Int32)))), (q6, .inl (c6, 16, .inl (fun _ => (0 : Int32)))), (q7, .inl (c7, 16, .inl (fun _ => (0 : Int32)))), (q8, .inl (c8, 16, .inl (fun _ => (0 : Int32))))]) (w1 := [(h0, .inr (8, [.int 1, .ref q1, v2, .ref q3, .ref q4, .ref q5, .ref q6, .ref q7, .ref q8, v9, v10, v11, v12, v13, v14, v15, v16]))]) hP hD [0] [1, 2, 3, 4, 5, 6, 7] rfl rfl (by decide) (by decide) hk1 hFc hP1 hD1
              clear hk1 hz1 ht hPc hDc hKc
              generalize H1 = H at hP hS ⊢
              have hP : va_P (dC, dI) vwCl [(q1, .inl (c1, 16, .inl (fun _ => (0 : Int32)))), (q3, .inl (c3, 16, .inl (fun _ => (0 : Int32)))), (q4, .inl (c4, 16, .inl (fun _ => (0 : Int32)))), (q5, .inl (c5, 16, .inl (fun _ => (0 : Int32)))), (q6, .inl (c6, 16, .inl (fun _ => (0 : Int32)))), (q7, .inl (c7, 16, .inl (fun _ => (0 : Int32)))), (q8, .inl (c8, 16, .inl (fun _ => (0 : Int32)))), (h0, .inr (8, [.int 1, .ref q1, v2, .ref q3, .ref q4, .ref q5, .ref q6, .ref q7, .ref q8, v9, v10, v11, v12, v13, v14, v15, v16]))] H := hP
              have hD : va_D A [(q1, .inl (c1, 16, .inl (fun _ => (0 : Int32)))), (q3, .inl (c3, 16, .inl (fun _ => (0 : Int32)))), (q4, .inl (c4, 16, .inl (fun _ => (0 : Int32)))), (q5, .inl (c5, 16, .inl (fun _ => (0 : Int32)))), (q6, .inl (c6, 16, .inl (fun _ => (0 : Int32)))), (q7, .inl (c7, 16, .inl (fun _ => (0 : Int32)))), (q8, .inl (c8, 16, .inl (fun _ => (0 : Int32)))), (h0, .inr (8, [.int 1, .ref q1, v2, .ref q3, .ref q4, .ref q5, .ref q6, .ref q7, .ref q8, v9, v10, v11, v12, v13, v14, v15, v16]))] := hD
              refine W.widen (k := 0) (n := 0) (Nat.le_of_ble_eq_true rfl) (Nat.le_of_ble_eq_true rfl) ?_
              refine W.eq (g2 := F0 m 108 ls [.int r_62]) rfl ?_
              have hP9 := hP.sub (ws' := [(h0, .inr (8, [.int 1, .ref q1, v2, .ref q3, .ref q4, .ref q5, .ref q6, .ref q7, .ref q8, v9, v10, v11, v12, v13, v14, v15, v16]))]) [7] rfl
              have hD9 := hD.sub (ws' := [(h0, .inr (8, [.int 1, .ref q1, v2, .ref q3, .ref q4, .ref q5, .ref q6, .ref q7, .ref q8, v9, v10, v11, v12, v13, v14, v15, v16]))]) [7] (by decide) rfl
              have hK9 := hK.sub (tys' := []) [] rfl
              refine W.widen (k := 0) (n := 0) (Nat.le_of_ble_eq_true rfl) (Nat.le_of_ble_eq_true rfl) ?_
              exact W.iret (v := r_62) hx hb hr (fun t ht hW => ⟨⟨r_62, 1, rfl, ⟨tx_at (P := mkIs p0 p1 p2) (n := 1) (by decide) (by unfold mkIs; omega), fun h => absurd h (by decide)⟩, by rw [ht]; exact hP9, va_K.moved hW.alike hK9, hD9⟩, hS.F ht⟩) hS.2.2 dX8_make_108
            ·
              have ic_60 : ¬ r_59.toInt = 0 := tx_ne rfl (by decide) c_60
              refine lv_iconst (v := 1) hx hb dX8_make_49 (by decide) ?_
              refine lv_goto (tgt := 96) hx hb dX8_make_50 (by decide) ?_
              refine lv_istore (lv' := [(4, .int 1), (0, .ref h0), (1, .int p0), (2, .int p1), (3, .int p2)]) hx hb dX8_make_96 hl (by decide) rfl (fun ls hl => ?_)
              refine lv_iload hx hb dX8_make_98 (lv_at hl 0 rfl) ?_
              refine lv_if_ne (tgt := 109) hx hb dX8_make_100 (by decide) (fun c_63 => ?_) (fun c_63 => absurd c_63 (by decide))
              refine lv_aload_n hx hb dX8_make_109 rfl (lv_at hl 1 rfl) ?_
              have hPc := hP.sub (ws' := [(h0, .inr (8, [.int th, .ref q1, v2, .ref q3, .ref q4, .ref q5, .ref q6, .ref q7, .ref q8, v9, v10, v11, v12, v13, v14, v15, v16])), (q1, .inl (c1, 16, .inl (fun _ => (0 : Int32))))]) [0, 1] rfl
              have hDc := hD.sub (ws' := [(h0, .inr (8, [.int th, .ref q1, v2, .ref q3, .ref q4, .ref q5, .ref q6, .ref q7, .ref q8, v9, v10, v11, v12, v13, v14, v15, v16])), (q1, .inl (c1, 16, .inl (fun _ => (0 : Int32))))]) [0, 1] (by decide) rfl
              have hKc := hK.sub (tys' := [(c1, .int)]) [0] rfl
              have hFc := va_free (wc := [(h0, .inr (8, [.int th, .ref q1, v2, .ref q3, .ref q4, .ref q5, .ref q6, .ref q7, .ref q8, v9, v10, v11, v12, v13, v14, v15, v16])), (q1, .inl (c1, 16, .inl (fun _ => (0 : Int32))))]) hD hS hA [0, 1] rfl
              refine va_calli (va_runV (As := []) (rest := []) ⟨hx, hb, hml, hown, hts⟩ (c_X8_free l  dC dI H.size h0 q1 c1 th v2 (.ref q3) (.ref q4) (.ref q5) (.ref q6) (.ref q7) (.ref q8) v9 v10 v11 v12 v13 v14 v15 v16) (cwV 0 hts gX8_make_X8_free rfl rfl rfl (by decide +kernel) ⟨(Nat.le_of_ble_eq_true rfl), (Nat.le_of_ble_eq_true rfl)⟩) ⟨pk_blind, va_recv hKc hPc (ci := 8) (q0 := 0) rfl rfl, pk_call hPc hKc hDc⟩ rfl rfl hl.1 rfl (lv_room (Nat.le_of_ble_eq_true rfl)) dX8_make_110 ⟨(Nat.le_of_ble_eq_true rfl), (Nat.le_of_ble_eq_true rfl)⟩) hS (fun q _ h => hFc q h) hFc (fun r_64 ur_64 t H1 locs ht hvm hw hB hz1 hk1 hS => ?_)
              try dsimp only at hw
              obtain ⟨hP1, hK1, hD1⟩ := hB
              rw [ht] at hP1
              have hK1 := va_K.moved hvm.symm hK1
              obtain ⟨hP, hD⟩ := va_join (wr := [(q3, .inl (c3, 16, .inl (fun _ => (0 : Int32)))), (q4, .inl (c4, 16, .inl (fun _ => (0 : Int32)))), (q5, .inl (c5, 16, .inl (fun _ => (0 : Int32)))), (q6, .inl (c6, 16, .inl (fun _ => (0 : Int32)))), (q7, .inl (c7, 16, .inl (fun _ => (0 : Int32)))), (q8, .inl (c8, 16, .inl (fun _ => (0 : Int32))))]) (w1 := [(h0, .inr (8, [.int th, .ref q1, v2, .ref q3, .ref q4, .ref q5, .ref q6, .ref q7, .ref q8, v9, v10, v11, v12, v13, v14, v15, v16])), (q1, .inl (c1, 16, .inl (fun _ => (0 : Int32))))]) hP hD [0, 1] [2, 3, 4, 5, 6, 7] rfl rfl (by decide) (by decide) hk1 hFc hP1 hD1
              clear hk1 hz1 ht hPc hDc hKc
              generalize H1 = H at hP hS ⊢
              have hP : va_P (dC, dI) vwCl [(q3, .inl (c3, 16, .inl (fun _ => (0 : Int32)))), (q4, .inl (c4, 16, .inl (fun _ => (0 : Int32)))), (q5, .inl (c5, 16, .inl (fun _ => (0 : Int32)))), (q6, .inl (c6, 16, .inl (fun _ => (0 : Int32)))), (q7, .inl (c7, 16, .inl (fun _ => (0 : Int32)))), (q8, .inl (c8, 16, .inl (fun _ => (0 : Int32)))), (h0, .inr (8, [.int th, .ref q1, v2, .ref q3, .ref q4, .ref q5, .ref q6, .ref q7, .ref q8, v9, v10, v11, v12, v13, v14, v15, v16])), (q1, .inl (c1, 16, .inl (fun _ => (0 : Int32))))] H := hP
              have hD : va_D A [(q3, .inl (c3, 16, .inl (fun _ => (0 : Int32)))), (q4, .inl (c4, 16, .inl (fun _ => (0 : Int32)))), (q5, .inl (c5, 16, .inl (fun _ => (0 : Int32)))), (q6, .inl (c6, 16, .inl (fun _ => (0 : Int32)))), (q7, .inl (c7, 16, .inl (fun _ => (0 : Int32)))), (q8, .inl (c8, 16, .inl (fun _ => (0 : Int32)))), (h0, .inr (8, [.int th, .ref q1, v2, .ref q3, .ref q4, .ref q5, .ref q6, .ref q7, .ref q8, v9, v10, v11, v12, v13, v14, v15, v16])), (q1, .inl (c1, 16, .inl (fun _ => (0 : Int32))))] := hD
              refine W.widen (k := 0) (n := 0) (Nat.le_of_ble_eq_true rfl) (Nat.le_of_ble_eq_true rfl) ?_
              obtain rfl : r_64 = 0 := hw
              refine W.eq (g2 := F0 m 113 ls [.int 0]) rfl ?_
              refine lv_istore (lv' := [(5, .int 0), (4, .int 1), (0, .ref h0), (1, .int p0), (2, .int p1), (3, .int p2)]) hx hb dX8_make_113 hl (by decide) rfl (fun ls hl => ?_)
              refine lv_iload hx hb dX8_make_115 (lv_at hl 0 rfl) ?_
              refine lv_if_ge (tgt := 126) hx hb dX8_make_117 (by decide) (fun c_65 => ?_) (fun c_65 => absurd c_65 (by decide))
              refine lv_aload_n hx hb dX8_make_126 rfl (lv_at hl 2 rfl) ?_
              refine lv_iconst (v := 0) hx hb dX8_make_127 (by decide) ?_
              refine va_put (D := (dC, dI)) (ci := 8) (v := .int 0) (ty := .int) (C := RX8) (T := TX8) (N := 17) hx hb hts (by decide +kernel) tyX8 tyX8_ok nmX8 hown hK hP hD hS 6 rfl rfl 0 (by decide) (hts (.fieldLink RX8 60 "KeyAtlasModel" "thrown" "I") (by decide +kernel)) (fun _ h9 => h9) rfl (by decide +kernel) rfl rfl (Nat.le_of_ble_eq_true rfl) dX8_make_128 (fun H locs hP hD hS => ?_)
              have hP : va_P (dC, dI) vwCl [(q3, .inl (c3, 16, .inl (fun _ => (0 : Int32)))), (q4, .inl (c4, 16, .inl (fun _ => (0 : Int32)))), (q5, .inl (c5, 16, .inl (fun _ => (0 : Int32)))), (q6, .inl (c6, 16, .inl (fun _ => (0 : Int32)))), (q7, .inl (c7, 16, .inl (fun _ => (0 : Int32)))), (q8, .inl (c8, 16, .inl (fun _ => (0 : Int32)))), (h0, .inr (8, [.int 0, .ref q1, v2, .ref q3, .ref q4, .ref q5, .ref q6, .ref q7, .ref q8, v9, v10, v11, v12, v13, v14, v15, v16])), (q1, .inl (c1, 16, .inl (fun _ => (0 : Int32))))] H := hP
              have hD : va_D A [(q3, .inl (c3, 16, .inl (fun _ => (0 : Int32)))), (q4, .inl (c4, 16, .inl (fun _ => (0 : Int32)))), (q5, .inl (c5, 16, .inl (fun _ => (0 : Int32)))), (q6, .inl (c6, 16, .inl (fun _ => (0 : Int32)))), (q7, .inl (c7, 16, .inl (fun _ => (0 : Int32)))), (q8, .inl (c8, 16, .inl (fun _ => (0 : Int32)))), (h0, .inr (8, [.int 0, .ref q1, v2, .ref q3, .ref q4, .ref q5, .ref q6, .ref q7, .ref q8, v9, v10, v11, v12, v13, v14, v15, v16])), (q1, .inl (c1, 16, .inl (fun _ => (0 : Int32))))] := hD
              refine lv_aload_n hx hb dX8_make_131 rfl (lv_at hl 2 rfl) ?_
              refine lv_iload hx hb dX8_make_132 (lv_at hl 0 rfl) ?_
              refine lv_iload_n hx hb dX8_make_134 rfl (lv_at hl 3 rfl) ?_
              refine lv_iconst (v := 1) hx hb dX8_make_135 (by decide) ?_
              refine lv_iadd hx hb dX8_make_136 ?_
              have hPc := hP.sub (ws' := [(h0, .inr (8, [.int 0, .ref q1, v2, .ref q3, .ref q4, .ref q5, .ref q6, .ref q7, .ref q8, v9, v10, v11, v12, v13, v14, v15, v16])), (q1, .inl (c1, 16, .inl (fun _ => (0 : Int32)))), (q3, .inl (c3, 16, .inl (fun _ => (0 : Int32)))), (q6, .inl (c6, 16, .inl (fun _ => (0 : Int32)))), (q7, .inl (c7, 16, .inl (fun _ => (0 : Int32)))), (q8, .inl (c8, 16, .inl (fun _ => (0 : Int32))))]) [6, 7, 0, 3, 4, 5] rfl
              have hDc := hD.sub (ws' := [(h0, .inr (8, [.int 0, .ref q1, v2, .ref q3, .ref q4, .ref q5, .ref q6, .ref q7, .ref q8, v9, v10, v11, v12, v13, v14, v15, v16])), (q1, .inl (c1, 16, .inl (fun _ => (0 : Int32)))), (q3, .inl (c3, 16, .inl (fun _ => (0 : Int32)))), (q6, .inl (c6, 16, .inl (fun _ => (0 : Int32)))), (q7, .inl (c7, 16, .inl (fun _ => (0 : Int32)))), (q8, .inl (c8, 16, .inl (fun _ => (0 : Int32))))]) [6, 7, 0, 3, 4, 5] (by decide) rfl
              have hKc := hK.sub (tys' := [(c1, .int), (c3, .int), (c6, .int), (c7, .int), (c8, .int)]) [0, 1, 4, 5, 6] rfl
              have hFc := va_free (wc := [(h0, .inr (8, [.int 0, .ref q1, v2, .ref q3, .ref q4, .ref q5, .ref q6, .ref q7, .ref q8, v9, v10, v11, v12, v13, v14, v15, v16])), (q1, .inl (c1, 16, .inl (fun _ => (0 : Int32)))), (q3, .inl (c3, 16, .inl (fun _ => (0 : Int32)))), (q6, .inl (c6, 16, .inl (fun _ => (0 : Int32)))), (q7, .inl (c7, 16, .inl (fun _ => (0 : Int32)))), (q8, .inl (c8, 16, .inl (fun _ => (0 : Int32))))]) hD hS hA [6, 7, 0, 3, 4, 5] rfl
              refine va_calli (va_runV (As := [.int 0, .int (p0 + 1)]) (rest := []) ⟨hx, hb, hml, hown, hts⟩ (c_X8_born l  dC dI H.size h0 0 q1 q3 q6 q7 q8 c1 c3 c6 c7 c8 v2 (.ref q4) (.ref q5) v9 v10 v11 v12 v13 v14 v15 v16 (p0 + 1)) (cwV 2 hts gX8_make_X8_born rfl rfl rfl (by decide +kernel) ⟨(Nat.le_of_ble_eq_true rfl), (Nat.le_of_ble_eq_true rfl)⟩) ⟨pk_blind, va_recv hKc hPc (ci := 8) (q0 := 0) rfl rfl, pk_call hPc hKc hDc⟩ rfl rfl hl.1 rfl (lv_room (Nat.le_of_ble_eq_true rfl)) dX8_make_137 ⟨(Nat.le_of_ble_eq_true rfl), (Nat.le_of_ble_eq_true rfl)⟩) hS (fun q _ h => hFc q h) hFc (fun r_66 ur_66 t H1 locs ht hvm hw hB hz1 hk1 hS => ?_)
              try dsimp only at hw
              have jr_66 := hw
              obtain ⟨hP1, hK1, hD1⟩ := hB
              rw [ht] at hP1
              have hK1 := va_K.moved hvm.symm hK1
              obtain ⟨hP, hD⟩ := va_join (wr := [(q4, .inl (c4, 16, .inl (fun _ => (0 : Int32)))), (q5, .inl (c5, 16, .inl (fun _ => (0 : Int32))))]) (w1 := [(h0, .inr (8, [.int 0, .ref q1, v2, .ref q3, .ref q4, .ref q5, .ref q6, .ref q7, .ref q8, v9, v10, v11, v12, v13, v14, v15, v16]))]) hP hD [6, 7, 0, 3, 4, 5] [1, 2] rfl rfl (by decide) (by decide) hk1 hFc hP1 hD1
              clear hk1 hz1 ht hPc hDc hKc
              generalize H1 = H at hP hS ⊢
              have hP : va_P (dC, dI) vwCl [(q4, .inl (c4, 16, .inl (fun _ => (0 : Int32)))), (q5, .inl (c5, 16, .inl (fun _ => (0 : Int32)))), (h0, .inr (8, [.int 0, .ref q1, v2, .ref q3, .ref q4, .ref q5, .ref q6, .ref q7, .ref q8, v9, v10, v11, v12, v13, v14, v15, v16]))] H := hP
              have hD : va_D A [(q4, .inl (c4, 16, .inl (fun _ => (0 : Int32)))), (q5, .inl (c5, 16, .inl (fun _ => (0 : Int32)))), (h0, .inr (8, [.int 0, .ref q1, v2, .ref q3, .ref q4, .ref q5, .ref q6, .ref q7, .ref q8, v9, v10, v11, v12, v13, v14, v15, v16]))] := hD
              refine W.widen (k := 0) (n := 0) (Nat.le_of_ble_eq_true rfl) (Nat.le_of_ble_eq_true rfl) ?_
              refine W.eq (g2 := F0 m 140 ls [.int r_66]) rfl ?_
              refine lv_pop hx hb dX8_make_140 rfl ?_
              refine lv_aload_n hx hb dX8_make_141 rfl (lv_at hl 2 rfl) ?_
              refine va_get (D := (dC, dI)) (ci := 8) (v := .ref q4) (C := RX8) (T := TX8) (N := 17) hx hb hts (by decide +kernel) hown hK hP 2 rfl rfl 4 (by decide) (hts (.fieldLink RX8 20 "KeyAtlasModel" "first" "[I") (by decide +kernel)) (fun _ h9 => h9) rfl dX8_make_142 ?_
              refine lv_iload hx hb dX8_make_145 (lv_at hl 0 rfl) ?_
              refine lv_iload_n hx hb dX8_make_147 rfl (lv_at hl 4 rfl) ?_
              refine va_iast (i := 0) hx hb hK hP hD hS 0 2 rfl rfl (by unfold vp_in; decide) dX8_make_148 (fun H locs hP hD hS => ?_)
              have hP : va_P (dC, dI) vwCl [(q4, .inl (c4, 16, .inl (upd (fun _ => (0 : Int32)) (0 : Int32).toNatClampNeg p1))), (q5, .inl (c5, 16, .inl (fun _ => (0 : Int32)))), (h0, .inr (8, [.int 0, .ref q1, v2, .ref q3, .ref q4, .ref q5, .ref q6, .ref q7, .ref q8, v9, v10, v11, v12, v13, v14, v15, v16]))] H := hP
              have hD : va_D A [(q4, .inl (c4, 16, .inl (upd (fun _ => (0 : Int32)) (0 : Int32).toNatClampNeg p1))), (q5, .inl (c5, 16, .inl (fun _ => (0 : Int32)))), (h0, .inr (8, [.int 0, .ref q1, v2, .ref q3, .ref q4, .ref q5, .ref q6, .ref q7, .ref q8, v9, v10, v11, v12, v13, v14, v15, v16]))] := hD
              refine lv_aload_n hx hb dX8_make_149 rfl (lv_at hl 2 rfl) ?_
              refine va_get (D := (dC, dI)) (ci := 8) (v := .ref q5) (C := RX8) (T := TX8) (N := 17) hx hb hts (by decide +kernel) hown hK hP 2 rfl rfl 5 (by decide) (hts (.fieldLink RX8 23 "KeyAtlasModel" "second" "[I") (by decide +kernel)) (fun _ h9 => h9) rfl dX8_make_150 ?_
              refine lv_iload hx hb dX8_make_153 (lv_at hl 0 rfl) ?_
              refine lv_iload_n hx hb dX8_make_155 rfl (lv_at hl 5 rfl) ?_
              refine va_iast (i := 0) hx hb hK hP hD hS 1 3 rfl rfl (by unfold vp_in; decide) dX8_make_156 (fun H locs hP hD hS => ?_)
              have hP : va_P (dC, dI) vwCl [(q4, .inl (c4, 16, .inl (upd (fun _ => (0 : Int32)) (0 : Int32).toNatClampNeg p1))), (q5, .inl (c5, 16, .inl (upd (fun _ => (0 : Int32)) (0 : Int32).toNatClampNeg p2))), (h0, .inr (8, [.int 0, .ref q1, v2, .ref q3, .ref q4, .ref q5, .ref q6, .ref q7, .ref q8, v9, v10, v11, v12, v13, v14, v15, v16]))] H := hP
              have hD : va_D A [(q4, .inl (c4, 16, .inl (upd (fun _ => (0 : Int32)) (0 : Int32).toNatClampNeg p1))), (q5, .inl (c5, 16, .inl (upd (fun _ => (0 : Int32)) (0 : Int32).toNatClampNeg p2))), (h0, .inr (8, [.int 0, .ref q1, v2, .ref q3, .ref q4, .ref q5, .ref q6, .ref q7, .ref q8, v9, v10, v11, v12, v13, v14, v15, v16]))] := hD
              refine lv_iload hx hb dX8_make_157 (lv_at hl 0 rfl) ?_
              have hP9 := hP.sub (ws' := [(h0, .inr (8, [.int 0, .ref q1, v2, .ref q3, .ref q4, .ref q5, .ref q6, .ref q7, .ref q8, v9, v10, v11, v12, v13, v14, v15, v16]))]) [2] rfl
              have hD9 := hD.sub (ws' := [(h0, .inr (8, [.int 0, .ref q1, v2, .ref q3, .ref q4, .ref q5, .ref q6, .ref q7, .ref q8, v9, v10, v11, v12, v13, v14, v15, v16]))]) [2] (by decide) rfl
              have hK9 := hK.sub (tys' := []) [] rfl
              refine W.widen (k := 0) (n := 0) (Nat.le_of_ble_eq_true rfl) (Nat.le_of_ble_eq_true rfl) ?_
              exact W.iret (v := 0) hx hb hr (fun t ht hW => ⟨⟨0, 0, rfl, ⟨tx_at (P := mkIs p0 p1 p2) (n := 0) (by decide) (by unfold mkIs; omega), fun _ => rfl⟩, by rw [ht]; exact hP9, va_K.moved hW.alike hK9, hD9⟩, hS.F ht⟩) hS.2.2 dX8_make_159
      ·
        have ic_35 : p1.toInt < 0 := tx_nle (by decide) rfl c_35
        refine lv_aload_n hx hb dX8_make_23 rfl (lv_at hl 0 rfl) ?_
        refine lv_iconst (v := 3) hx hb dX8_make_24 (by decide) ?_
        have hPc := hP.sub (ws' := [(h0, .inr (8, [.int th, .ref q1, v2, .ref q3, .ref q4, .ref q5, .ref q6, .ref q7, .ref q8, v9, v10, v11, v12, v13, v14, v15, v16]))]) [0] rfl
        have hDc := hD.sub (ws' := [(h0, .inr (8, [.int th, .ref q1, v2, .ref q3, .ref q4, .ref q5, .ref q6, .ref q7, .ref q8, v9, v10, v11, v12, v13, v14, v15, v16]))]) [0] (by decide) rfl
        have hKc := hK.sub (tys' := []) [] rfl
        have hFc := va_free (wc := [(h0, .inr (8, [.int th, .ref q1, v2, .ref q3, .ref q4, .ref q5, .ref q6, .ref q7, .ref q8, v9, v10, v11, v12, v13, v14, v15, v16]))]) hD hS hA [0] rfl
        refine va_calli (va_runV (As := [.int 3]) (rest := []) ⟨hx, hb, hml, hown, hts⟩ (c_X8_refuse l  dC dI H.size h0 th 3 (.ref q1) v2 (.ref q3) (.ref q4) (.ref q5) (.ref q6) (.ref q7) (.ref q8) v9 v10 v11 v12 v13 v14 v15 v16) (cwV 1 hts gX8_make_X8_refuse rfl rfl rfl (by decide +kernel) ⟨(Nat.le_of_ble_eq_true rfl), (Nat.le_of_ble_eq_true rfl)⟩) ⟨pk_blind, va_recv hKc hPc (ci := 8) (q0 := 0) rfl rfl, pk_call hPc hKc hDc⟩ rfl rfl hl.1 rfl (lv_room (Nat.le_of_ble_eq_true rfl)) dX8_make_25 ⟨(Nat.le_of_ble_eq_true rfl), (Nat.le_of_ble_eq_true rfl)⟩) hS (fun q _ h => hFc q h) hFc (fun r_67 ur_67 t H1 locs ht hvm hw hB hz1 hk1 hS => ?_)
        try dsimp only at hw
        have jr_67 := hw
        obtain ⟨hP1, hK1, hD1⟩ := hB
        rw [ht] at hP1
        have hK1 := va_K.moved hvm.symm hK1
        obtain ⟨hP, hD⟩ := va_join (wr := [(q1, .inl (c1, 16, .inl (fun _ => (0 : Int32)))), (q3, .inl (c3, 16, .inl (fun _ => (0 : Int32)))), (q4, .inl (c4, 16, .inl (fun _ => (0 : Int32)))), (q5, .inl (c5, 16, .inl (fun _ => (0 : Int32)))), (q6, .inl (c6, 16, .inl (fun _ => (0 : Int32)))), (q7, .inl (c7, 16, .inl (fun _ => (0 : Int32)))), (q8, .inl (c8, 16, .inl (fun _ => (0 : Int32))))]) (w1 := [(h0, .inr (8, [.int 3, .ref q1, v2, .ref q3, .ref q4, .ref q5, .ref q6, .ref q7, .ref q8, v9, v10, v11, v12, v13, v14, v15, v16]))]) hP hD [0] [1, 2, 3, 4, 5, 6, 7] rfl rfl (by decide) (by decide) hk1 hFc hP1 hD1
        clear hk1 hz1 ht hPc hDc hKc
        generalize H1 = H at hP hS ⊢
        have hP : va_P (dC, dI) vwCl [(q1, .inl (c1, 16, .inl (fun _ => (0 : Int32)))), (q3, .inl (c3, 16, .inl (fun _ => (0 : Int32)))), (q4, .inl (c4, 16, .inl (fun _ => (0 : Int32)))), (q5, .inl (c5, 16, .inl (fun _ => (0 : Int32)))), (q6, .inl (c6, 16, .inl (fun _ => (0 : Int32)))), (q7, .inl (c7, 16, .inl (fun _ => (0 : Int32)))), (q8, .inl (c8, 16, .inl (fun _ => (0 : Int32)))), (h0, .inr (8, [.int 3, .ref q1, v2, .ref q3, .ref q4, .ref q5, .ref q6, .ref q7, .ref q8, v9, v10, v11, v12, v13, v14, v15, v16]))] H := hP
        have hD : va_D A [(q1, .inl (c1, 16, .inl (fun _ => (0 : Int32)))), (q3, .inl (c3, 16, .inl (fun _ => (0 : Int32)))), (q4, .inl (c4, 16, .inl (fun _ => (0 : Int32)))), (q5, .inl (c5, 16, .inl (fun _ => (0 : Int32)))), (q6, .inl (c6, 16, .inl (fun _ => (0 : Int32)))), (q7, .inl (c7, 16, .inl (fun _ => (0 : Int32)))), (q8, .inl (c8, 16, .inl (fun _ => (0 : Int32)))), (h0, .inr (8, [.int 3, .ref q1, v2, .ref q3, .ref q4, .ref q5, .ref q6, .ref q7, .ref q8, v9, v10, v11, v12, v13, v14, v15, v16]))] := hD
        refine W.widen (k := 0) (n := 0) (Nat.le_of_ble_eq_true rfl) (Nat.le_of_ble_eq_true rfl) ?_
        refine W.eq (g2 := F0 m 28 ls [.int r_67]) rfl ?_
        have hP9 := hP.sub (ws' := [(h0, .inr (8, [.int 3, .ref q1, v2, .ref q3, .ref q4, .ref q5, .ref q6, .ref q7, .ref q8, v9, v10, v11, v12, v13, v14, v15, v16]))]) [7] rfl
        have hD9 := hD.sub (ws' := [(h0, .inr (8, [.int 3, .ref q1, v2, .ref q3, .ref q4, .ref q5, .ref q6, .ref q7, .ref q8, v9, v10, v11, v12, v13, v14, v15, v16]))]) [7] (by decide) rfl
        have hK9 := hK.sub (tys' := []) [] rfl
        refine W.widen (k := 0) (n := 0) (Nat.le_of_ble_eq_true rfl) (Nat.le_of_ble_eq_true rfl) ?_
        exact W.iret (v := r_67) hx hb hr (fun t ht hW => ⟨⟨r_67, 3, rfl, ⟨tx_at (P := mkIs p0 p1 p2) (n := 3) (by decide) (by unfold mkIs; omega), fun h => absurd h (by decide)⟩, by rw [ht]; exact hP9, va_K.moved hW.alike hK9, hD9⟩, hS.F ht⟩) hS.2.2 dX8_make_28
  ·
    have ic_2 : r_1.toInt = 0 := tx_eq rfl (by decide) c_2
    refine lv_aload_n hx hb dX8_make_9 rfl (lv_at hl 0 rfl) ?_
    refine lv_iconst (v := 1) hx hb dX8_make_10 (by decide) ?_
    have hPc := hP.sub (ws' := [(h0, .inr (8, [.int th, .ref q1, v2, .ref q3, .ref q4, .ref q5, .ref q6, .ref q7, .ref q8, v9, v10, v11, v12, v13, v14, v15, v16]))]) [0] rfl
    have hDc := hD.sub (ws' := [(h0, .inr (8, [.int th, .ref q1, v2, .ref q3, .ref q4, .ref q5, .ref q6, .ref q7, .ref q8, v9, v10, v11, v12, v13, v14, v15, v16]))]) [0] (by decide) rfl
    have hKc := hK.sub (tys' := []) [] rfl
    have hFc := va_free (wc := [(h0, .inr (8, [.int th, .ref q1, v2, .ref q3, .ref q4, .ref q5, .ref q6, .ref q7, .ref q8, v9, v10, v11, v12, v13, v14, v15, v16]))]) hD hS hA [0] rfl
    refine va_calli (va_runV (As := [.int 1]) (rest := []) ⟨hx, hb, hml, hown, hts⟩ (c_X8_refuse l  dC dI H.size h0 th 1 (.ref q1) v2 (.ref q3) (.ref q4) (.ref q5) (.ref q6) (.ref q7) (.ref q8) v9 v10 v11 v12 v13 v14 v15 v16) (cwV 1 hts gX8_make_X8_refuse rfl rfl rfl (by decide +kernel) ⟨(Nat.le_of_ble_eq_true rfl), (Nat.le_of_ble_eq_true rfl)⟩) ⟨pk_blind, va_recv hKc hPc (ci := 8) (q0 := 0) rfl rfl, pk_call hPc hKc hDc⟩ rfl rfl hl.1 rfl (lv_room (Nat.le_of_ble_eq_true rfl)) dX8_make_11 ⟨(Nat.le_of_ble_eq_true rfl), (Nat.le_of_ble_eq_true rfl)⟩) hS (fun q _ h => hFc q h) hFc (fun r_68 ur_68 t H1 locs ht hvm hw hB hz1 hk1 hS => ?_)
    try dsimp only at hw
    have jr_68 := hw
    obtain ⟨hP1, hK1, hD1⟩ := hB
    rw [ht] at hP1
    have hK1 := va_K.moved hvm.symm hK1
    obtain ⟨hP, hD⟩ := va_join (wr := [(q1, .inl (c1, 16, .inl (fun _ => (0 : Int32)))), (q3, .inl (c3, 16, .inl (fun _ => (0 : Int32)))), (q4, .inl (c4, 16, .inl (fun _ => (0 : Int32)))), (q5, .inl (c5, 16, .inl (fun _ => (0 : Int32)))), (q6, .inl (c6, 16, .inl (fun _ => (0 : Int32)))), (q7, .inl (c7, 16, .inl (fun _ => (0 : Int32)))), (q8, .inl (c8, 16, .inl (fun _ => (0 : Int32))))]) (w1 := [(h0, .inr (8, [.int 1, .ref q1, v2, .ref q3, .ref q4, .ref q5, .ref q6, .ref q7, .ref q8, v9, v10, v11, v12, v13, v14, v15, v16]))]) hP hD [0] [1, 2, 3, 4, 5, 6, 7] rfl rfl (by decide) (by decide) hk1 hFc hP1 hD1
    clear hk1 hz1 ht hPc hDc hKc
    generalize H1 = H at hP hS ⊢
    have hP : va_P (dC, dI) vwCl [(q1, .inl (c1, 16, .inl (fun _ => (0 : Int32)))), (q3, .inl (c3, 16, .inl (fun _ => (0 : Int32)))), (q4, .inl (c4, 16, .inl (fun _ => (0 : Int32)))), (q5, .inl (c5, 16, .inl (fun _ => (0 : Int32)))), (q6, .inl (c6, 16, .inl (fun _ => (0 : Int32)))), (q7, .inl (c7, 16, .inl (fun _ => (0 : Int32)))), (q8, .inl (c8, 16, .inl (fun _ => (0 : Int32)))), (h0, .inr (8, [.int 1, .ref q1, v2, .ref q3, .ref q4, .ref q5, .ref q6, .ref q7, .ref q8, v9, v10, v11, v12, v13, v14, v15, v16]))] H := hP
    have hD : va_D A [(q1, .inl (c1, 16, .inl (fun _ => (0 : Int32)))), (q3, .inl (c3, 16, .inl (fun _ => (0 : Int32)))), (q4, .inl (c4, 16, .inl (fun _ => (0 : Int32)))), (q5, .inl (c5, 16, .inl (fun _ => (0 : Int32)))), (q6, .inl (c6, 16, .inl (fun _ => (0 : Int32)))), (q7, .inl (c7, 16, .inl (fun _ => (0 : Int32)))), (q8, .inl (c8, 16, .inl (fun _ => (0 : Int32)))), (h0, .inr (8, [.int 1, .ref q1, v2, .ref q3, .ref q4, .ref q5, .ref q6, .ref q7, .ref q8, v9, v10, v11, v12, v13, v14, v15, v16]))] := hD
    refine W.widen (k := 0) (n := 0) (Nat.le_of_ble_eq_true rfl) (Nat.le_of_ble_eq_true rfl) ?_
    refine W.eq (g2 := F0 m 14 ls [.int r_68]) rfl ?_
    have hP9 := hP.sub (ws' := [(h0, .inr (8, [.int 1, .ref q1, v2, .ref q3, .ref q4, .ref q5, .ref q6, .ref q7, .ref q8, v9, v10, v11, v12, v13, v14, v15, v16]))]) [7] rfl
    have hD9 := hD.sub (ws' := [(h0, .inr (8, [.int 1, .ref q1, v2, .ref q3, .ref q4, .ref q5, .ref q6, .ref q7, .ref q8, v9, v10, v11, v12, v13, v14, v15, v16]))]) [7] (by decide) rfl
    have hK9 := hK.sub (tys' := []) [] rfl
    refine W.widen (k := 0) (n := 0) (Nat.le_of_ble_eq_true rfl) (Nat.le_of_ble_eq_true rfl) ?_
    exact W.iret (v := r_68) hx hb hr (fun t ht hW => ⟨⟨r_68, 1, rfl, ⟨tx_at (P := mkIs p0 p1 p2) (n := 1) (by decide) (by unfold mkIs; omega), fun h => absurd h (by decide)⟩, by rw [ht]; exact hP9, va_K.moved hW.alike hK9, hD9⟩, hS.F ht⟩) hS.2.2 dX8_make_14
set_option maxHeartbeats 4000000 in
set_option maxRecDepth 100000 in
/-- drop of the reference, fresh: refused -/
theorem c_X8_drop (l : Launch) (dC : Nat → ClassId) (dI : Nat → Nat → Nat) (sz : Nat) (h0 : Nat) (th : Int32) (q1 : Nat) (q3 : Nat) (q4 : Nat) (q5 : Nat) (q6 : Nat) (q7 : Nat) (q8 : Nat) (c1 : ClassId) (c3 : ClassId) (c4 : ClassId) (c5 : ClassId) (c6 : ClassId) (c7 : ClassId) (c8 : ClassId) (v2 : Value) (v9 : Value) (v10 : Value) (v11 : Value) (v12 : Value) (v13 : Value) (v14 : Value) (v15 : Value) (v16 : Value) (p0 : Int32) : Met l yX8_drop wsP_X8_drop ({ frames := 2, cells := 0, slots := 0, locals := 60 }) (va_Pc [.ref h0, .int p0] (pk_Pre (dC, dI) [(h0, .inr (8, [.int th, .ref q1, v2, .ref q3, .ref q4, .ref q5, .ref q6, .ref q7, .ref q8, v9, v10, v11, v12, v13, v14, v15, v16])), (q1, .inl (c1, 16, .inl (fun _ => (0 : Int32)))), (q3, .inl (c3, 16, .inl (fun _ => (0 : Int32)))), (q4, .inl (c4, 16, .inl (fun _ => (0 : Int32)))), (q5, .inl (c5, 16, .inl (fun _ => (0 : Int32)))), (q6, .inl (c6, 16, .inl (fun _ => (0 : Int32)))), (q7, .inl (c7, 16, .inl (fun _ => (0 : Int32)))), (q8, .inl (c8, 16, .inl (fun _ => (0 : Int32))))] [(c1, .int), (c3, .int), (c4, .int), (c5, .int), (c6, .int), (c7, .int), (c8, .int)] sz)) (va_Qi (fun (r : Int32) (_ : Unit) => True) (fun (_ : Unit) (t : State) => va_P (dC, dI) vwCl [(h0, .inr (8, [.int 1, .ref q1, v2, .ref q3, .ref q4, .ref q5, .ref q6, .ref q7, .ref q8, v9, v10, v11, v12, v13, v14, v15, v16]))] t.heap ∧ va_K (dC, dI) vwCl [] t ∧ va_D (va_A [(h0, .inr (8, [.int th, .ref q1, v2, .ref q3, .ref q4, .ref q5, .ref q6, .ref q7, .ref q8, v9, v10, v11, v12, v13, v14, v15, v16])), (q1, .inl (c1, 16, .inl (fun _ => (0 : Int32)))), (q3, .inl (c3, 16, .inl (fun _ => (0 : Int32)))), (q4, .inl (c4, 16, .inl (fun _ => (0 : Int32)))), (q5, .inl (c5, 16, .inl (fun _ => (0 : Int32)))), (q6, .inl (c6, 16, .inl (fun _ => (0 : Int32)))), (q7, .inl (c7, 16, .inl (fun _ => (0 : Int32)))), (q8, .inl (c8, 16, .inl (fun _ => (0 : Int32))))] sz) [(h0, .inr (8, [.int 1, .ref q1, v2, .ref q3, .ref q4, .ref q5, .ref q6, .ref q7, .ref q8, v9, v10, v11, v12, v13, v14, v15, v16]))]) (va_A [(h0, .inr (8, [.int th, .ref q1, v2, .ref q3, .ref q4, .ref q5, .ref q6, .ref q7, .ref q8, v9, v10, v11, v12, v13, v14, v15, v16])), (q1, .inl (c1, 16, .inl (fun _ => (0 : Int32)))), (q3, .inl (c3, 16, .inl (fun _ => (0 : Int32)))), (q4, .inl (c4, 16, .inl (fun _ => (0 : Int32)))), (q5, .inl (c5, 16, .inl (fun _ => (0 : Int32)))), (q6, .inl (c6, 16, .inl (fun _ => (0 : Int32)))), (q7, .inl (c7, 16, .inl (fun _ => (0 : Int32)))), (q8, .inl (c8, 16, .inl (fun _ => (0 : Int32))))] sz)) 0 0 (va_A [(h0, .inr (8, [.int th, .ref q1, v2, .ref q3, .ref q4, .ref q5, .ref q6, .ref q7, .ref q8, v9, v10, v11, v12, v13, v14, v15, v16])), (q1, .inl (c1, 16, .inl (fun _ => (0 : Int32)))), (q3, .inl (c3, 16, .inl (fun _ => (0 : Int32)))), (q4, .inl (c4, 16, .inl (fun _ => (0 : Int32)))), (q5, .inl (c5, 16, .inl (fun _ => (0 : Int32)))), (q6, .inl (c6, 16, .inl (fun _ => (0 : Int32)))), (q7, .inl (c7, 16, .inl (fun _ => (0 : Int32)))), (q8, .inl (c8, 16, .inl (fun _ => (0 : Int32))))] sz) := by
  refine Met.ofW (cc := cX8_drop) (maxL := 4) (ret := (some .int)) (by decide) rfl ?_
  intro p e s m args below meth c s₁ B hml hv
  obtain ⟨rfl, hsz, hP, hK, hD0⟩ := hv
  have hx := B.exec
  have hb := B.bytes
  have hr := B.returns
  have hts := atoms_spec (ws := wsP_X8_drop) B.pre
  have hown : s.vm.findClass RX8 = some m.cls := findClass_of_methodNamed B.named
  have hlocks := B.notSynchronized
  subst hsz
  have hD := hD0.self (sz := s.heap.size)
  generalize hAe : va_A [(h0, .inr (8, [.int th, .ref q1, v2, .ref q3, .ref q4, .ref q5, .ref q6, .ref q7, .ref q8, v9, v10, v11, v12, v13, v14, v15, v16])), (q1, .inl (c1, 16, .inl (fun _ => (0 : Int32)))), (q3, .inl (c3, 16, .inl (fun _ => (0 : Int32)))), (q4, .inl (c4, 16, .inl (fun _ => (0 : Int32)))), (q5, .inl (c5, 16, .inl (fun _ => (0 : Int32)))), (q6, .inl (c6, 16, .inl (fun _ => (0 : Int32)))), (q7, .inl (c7, 16, .inl (fun _ => (0 : Int32)))), (q8, .inl (c8, 16, .inl (fun _ => (0 : Int32))))] s.heap.size = A at hD ⊢
  have hA : ∀ q : Nat, s.heap.size ≤ q → A q := fun q h => by rw [← hAe]; exact Or.inr h
  have hS : va_S A s.heap s.heap [] := va_S.rf
  have hP : va_P (dC, dI) vwCl [(h0, .inr (8, [.int th, .ref q1, v2, .ref q3, .ref q4, .ref q5, .ref q6, .ref q7, .ref q8, v9, v10, v11, v12, v13, v14, v15, v16])), (q1, .inl (c1, 16, .inl (fun _ => (0 : Int32)))), (q3, .inl (c3, 16, .inl (fun _ => (0 : Int32)))), (q4, .inl (c4, 16, .inl (fun _ => (0 : Int32)))), (q5, .inl (c5, 16, .inl (fun _ => (0 : Int32)))), (q6, .inl (c6, 16, .inl (fun _ => (0 : Int32)))), (q7, .inl (c7, 16, .inl (fun _ => (0 : Int32)))), (q8, .inl (c8, 16, .inl (fun _ => (0 : Int32))))] s.heap := hP
  have hl := lv_entry ([.ref h0, .int p0]) (n := 4) (Nat.le_of_ble_eq_true rfl)
  rw [lg_entry_eq]
  generalize (lg_sl ([.ref h0, .int p0]) ++ List.replicate (4 - (lg_sl ([.ref h0, .int p0])).length) Slot.unset).toArray = ls at hl ⊢
  have hl : lv_has ls 4 [(0, .ref h0), (1, .int p0)] := hl
  refine lv_aload_n hx hb dX8_drop_0 rfl (lv_at hl 0 rfl) ?_
  refine lv_iload_n hx hb dX8_drop_1 rfl (lv_at hl 1 rfl) ?_
  have hPc := hP.sub (ws' := [(h0, .inr (8, [.int th, .ref q1, v2, .ref q3, .ref q4, .ref q5, .ref q6, .ref q7, .ref q8, v9, v10, v11, v12, v13, v14, v15, v16])), (q1, .inl (c1, 16, .inl (fun _ => (0 : Int32))))]) [0, 1] rfl
  have hDc := hD.sub (ws' := [(h0, .inr (8, [.int th, .ref q1, v2, .ref q3, .ref q4, .ref q5, .ref q6, .ref q7, .ref q8, v9, v10, v11, v12, v13, v14, v15, v16])), (q1, .inl (c1, 16, .inl (fun _ => (0 : Int32))))]) [0, 1] (by decide) rfl
  have hKc := hK.sub (tys' := [(c1, .int)]) [0] rfl
  have hFc := va_free (wc := [(h0, .inr (8, [.int th, .ref q1, v2, .ref q3, .ref q4, .ref q5, .ref q6, .ref q7, .ref q8, v9, v10, v11, v12, v13, v14, v15, v16])), (q1, .inl (c1, 16, .inl (fun _ => (0 : Int32))))]) hD hS hA [0, 1] rfl
  refine va_calli (va_runV (As := [.int p0]) (rest := []) ⟨hx, hb, hml, hown, hts⟩ (c_X8_isThere l  dC dI s.heap.size h0 q1 c1 th v2 (.ref q3) (.ref q4) (.ref q5) (.ref q6) (.ref q7) (.ref q8) v9 v10 v11 v12 v13 v14 v15 v16 p0) (cwV 1 hts gP_X8_drop_isThere rfl rfl rfl (by decide +kernel) ⟨(Nat.le_of_ble_eq_true rfl), (Nat.le_of_ble_eq_true rfl)⟩) ⟨pk_blind, va_recv hKc hPc (ci := 8) (q0 := 0) rfl rfl, pk_call hPc hKc hDc⟩ rfl rfl hl.1 rfl (lv_room (Nat.le_of_ble_eq_true rfl)) dX8_drop_2 ⟨(Nat.le_of_ble_eq_true rfl), (Nat.le_of_ble_eq_true rfl)⟩) hS (fun q _ h => hFc q h) hFc (fun r_1 ur_1 t H1 locs ht hvm hw hB hz1 hk1 hS => ?_)
  try dsimp only at hw
  obtain ⟨hP1, hK1, hD1⟩ := hB
  rw [ht] at hP1
  have hK1 := va_K.moved hvm.symm hK1
  obtain ⟨hP, hD⟩ := va_join (wr := [(q3, .inl (c3, 16, .inl (fun _ => (0 : Int32)))), (q4, .inl (c4, 16, .inl (fun _ => (0 : Int32)))), (q5, .inl (c5, 16, .inl (fun _ => (0 : Int32)))), (q6, .inl (c6, 16, .inl (fun _ => (0 : Int32)))), (q7, .inl (c7, 16, .inl (fun _ => (0 : Int32)))), (q8, .inl (c8, 16, .inl (fun _ => (0 : Int32))))]) (w1 := [(h0, .inr (8, [.int th, .ref q1, v2, .ref q3, .ref q4, .ref q5, .ref q6, .ref q7, .ref q8, v9, v10, v11, v12, v13, v14, v15, v16])), (q1, .inl (c1, 16, .inl (fun _ => (0 : Int32))))]) hP hD [0, 1] [2, 3, 4, 5, 6, 7] rfl rfl (by decide) (by decide) hk1 hFc hP1 hD1
  clear hk1 hz1 ht hPc hDc hKc
  generalize H1 = H at hP hS ⊢
  have hP : va_P (dC, dI) vwCl [(q3, .inl (c3, 16, .inl (fun _ => (0 : Int32)))), (q4, .inl (c4, 16, .inl (fun _ => (0 : Int32)))), (q5, .inl (c5, 16, .inl (fun _ => (0 : Int32)))), (q6, .inl (c6, 16, .inl (fun _ => (0 : Int32)))), (q7, .inl (c7, 16, .inl (fun _ => (0 : Int32)))), (q8, .inl (c8, 16, .inl (fun _ => (0 : Int32)))), (h0, .inr (8, [.int th, .ref q1, v2, .ref q3, .ref q4, .ref q5, .ref q6, .ref q7, .ref q8, v9, v10, v11, v12, v13, v14, v15, v16])), (q1, .inl (c1, 16, .inl (fun _ => (0 : Int32))))] H := hP
  have hD : va_D A [(q3, .inl (c3, 16, .inl (fun _ => (0 : Int32)))), (q4, .inl (c4, 16, .inl (fun _ => (0 : Int32)))), (q5, .inl (c5, 16, .inl (fun _ => (0 : Int32)))), (q6, .inl (c6, 16, .inl (fun _ => (0 : Int32)))), (q7, .inl (c7, 16, .inl (fun _ => (0 : Int32)))), (q8, .inl (c8, 16, .inl (fun _ => (0 : Int32)))), (h0, .inr (8, [.int th, .ref q1, v2, .ref q3, .ref q4, .ref q5, .ref q6, .ref q7, .ref q8, v9, v10, v11, v12, v13, v14, v15, v16])), (q1, .inl (c1, 16, .inl (fun _ => (0 : Int32))))] := hD
  refine W.widen (k := 0) (n := 0) (Nat.le_of_ble_eq_true rfl) (Nat.le_of_ble_eq_true rfl) ?_
  obtain rfl : r_1 = 0 := hw
  refine W.eq (g2 := F0 m 5 ls [.int 0]) rfl ?_
  refine lv_if_ne (tgt := 14) hx hb dX8_drop_5 (by decide) (fun c_2 => absurd c_2 (by decide)) (fun c_2 => ?_)
  refine lv_aload_n hx hb dX8_drop_8 rfl (lv_at hl 0 rfl) ?_
  refine lv_iconst (v := 1) hx hb dX8_drop_9 (by decide) ?_
  have hPc := hP.sub (ws' := [(h0, .inr (8, [.int th, .ref q1, v2, .ref q3, .ref q4, .ref q5, .ref q6, .ref q7, .ref q8, v9, v10, v11, v12, v13, v14, v15, v16]))]) [6] rfl
  have hDc := hD.sub (ws' := [(h0, .inr (8, [.int th, .ref q1, v2, .ref q3, .ref q4, .ref q5, .ref q6, .ref q7, .ref q8, v9, v10, v11, v12, v13, v14, v15, v16]))]) [6] (by decide) rfl
  have hKc := hK.sub (tys' := []) [] rfl
  have hFc := va_free (wc := [(h0, .inr (8, [.int th, .ref q1, v2, .ref q3, .ref q4, .ref q5, .ref q6, .ref q7, .ref q8, v9, v10, v11, v12, v13, v14, v15, v16]))]) hD hS hA [6] rfl
  refine va_calli (va_runV (As := [.int 1]) (rest := []) ⟨hx, hb, hml, hown, hts⟩ (c_X8_refuse l  dC dI H.size h0 th 1 (.ref q1) v2 (.ref q3) (.ref q4) (.ref q5) (.ref q6) (.ref q7) (.ref q8) v9 v10 v11 v12 v13 v14 v15 v16) (cwV 1 hts gP_X8_drop_refuse rfl rfl rfl (by decide +kernel) ⟨(Nat.le_of_ble_eq_true rfl), (Nat.le_of_ble_eq_true rfl)⟩) ⟨pk_blind, va_recv hKc hPc (ci := 8) (q0 := 0) rfl rfl, pk_call hPc hKc hDc⟩ rfl rfl hl.1 rfl (lv_room (Nat.le_of_ble_eq_true rfl)) dX8_drop_10 ⟨(Nat.le_of_ble_eq_true rfl), (Nat.le_of_ble_eq_true rfl)⟩) hS (fun q _ h => hFc q h) hFc (fun r_3 ur_3 t H1 locs ht hvm hw hB hz1 hk1 hS => ?_)
  try dsimp only at hw
  have jr_3 := hw
  obtain ⟨hP1, hK1, hD1⟩ := hB
  rw [ht] at hP1
  have hK1 := va_K.moved hvm.symm hK1
  obtain ⟨hP, hD⟩ := va_join (wr := [(q3, .inl (c3, 16, .inl (fun _ => (0 : Int32)))), (q4, .inl (c4, 16, .inl (fun _ => (0 : Int32)))), (q5, .inl (c5, 16, .inl (fun _ => (0 : Int32)))), (q6, .inl (c6, 16, .inl (fun _ => (0 : Int32)))), (q7, .inl (c7, 16, .inl (fun _ => (0 : Int32)))), (q8, .inl (c8, 16, .inl (fun _ => (0 : Int32)))), (q1, .inl (c1, 16, .inl (fun _ => (0 : Int32))))]) (w1 := [(h0, .inr (8, [.int 1, .ref q1, v2, .ref q3, .ref q4, .ref q5, .ref q6, .ref q7, .ref q8, v9, v10, v11, v12, v13, v14, v15, v16]))]) hP hD [6] [0, 1, 2, 3, 4, 5, 7] rfl rfl (by decide) (by decide) hk1 hFc hP1 hD1
  clear hk1 hz1 ht hPc hDc hKc
  generalize H1 = H at hP hS ⊢
  have hP : va_P (dC, dI) vwCl [(q3, .inl (c3, 16, .inl (fun _ => (0 : Int32)))), (q4, .inl (c4, 16, .inl (fun _ => (0 : Int32)))), (q5, .inl (c5, 16, .inl (fun _ => (0 : Int32)))), (q6, .inl (c6, 16, .inl (fun _ => (0 : Int32)))), (q7, .inl (c7, 16, .inl (fun _ => (0 : Int32)))), (q8, .inl (c8, 16, .inl (fun _ => (0 : Int32)))), (q1, .inl (c1, 16, .inl (fun _ => (0 : Int32)))), (h0, .inr (8, [.int 1, .ref q1, v2, .ref q3, .ref q4, .ref q5, .ref q6, .ref q7, .ref q8, v9, v10, v11, v12, v13, v14, v15, v16]))] H := hP
  have hD : va_D A [(q3, .inl (c3, 16, .inl (fun _ => (0 : Int32)))), (q4, .inl (c4, 16, .inl (fun _ => (0 : Int32)))), (q5, .inl (c5, 16, .inl (fun _ => (0 : Int32)))), (q6, .inl (c6, 16, .inl (fun _ => (0 : Int32)))), (q7, .inl (c7, 16, .inl (fun _ => (0 : Int32)))), (q8, .inl (c8, 16, .inl (fun _ => (0 : Int32)))), (q1, .inl (c1, 16, .inl (fun _ => (0 : Int32)))), (h0, .inr (8, [.int 1, .ref q1, v2, .ref q3, .ref q4, .ref q5, .ref q6, .ref q7, .ref q8, v9, v10, v11, v12, v13, v14, v15, v16]))] := hD
  refine W.widen (k := 0) (n := 0) (Nat.le_of_ble_eq_true rfl) (Nat.le_of_ble_eq_true rfl) ?_
  refine W.eq (g2 := F0 m 13 ls [.int r_3]) rfl ?_
  have hP9 := hP.sub (ws' := [(h0, .inr (8, [.int 1, .ref q1, v2, .ref q3, .ref q4, .ref q5, .ref q6, .ref q7, .ref q8, v9, v10, v11, v12, v13, v14, v15, v16]))]) [7] rfl
  have hD9 := hD.sub (ws' := [(h0, .inr (8, [.int 1, .ref q1, v2, .ref q3, .ref q4, .ref q5, .ref q6, .ref q7, .ref q8, v9, v10, v11, v12, v13, v14, v15, v16]))]) [7] (by decide) rfl
  have hK9 := hK.sub (tys' := []) [] rfl
  refine W.widen (k := 0) (n := 0) (Nat.le_of_ble_eq_true rfl) (Nat.le_of_ble_eq_true rfl) ?_
  exact W.iret (v := r_3) hx hb hr (fun t ht hW => ⟨⟨r_3, (), rfl, trivial, by rw [ht]; exact hP9, va_K.moved hW.alike hK9, hD9⟩, hS.F ht⟩) hS.2.2 dX8_drop_13
set_option maxHeartbeats 4000000 in
set_option maxRecDepth 100000 in
/-- map of the reference, fresh: refused -/
theorem c_X8_map (l : Launch) (dC : Nat → ClassId) (dI : Nat → Nat → Nat) (sz : Nat) (h0 : Nat) (th : Int32) (q1 : Nat) (q3 : Nat) (q4 : Nat) (q5 : Nat) (q6 : Nat) (q7 : Nat) (q8 : Nat) (c1 : ClassId) (c3 : ClassId) (c4 : ClassId) (c5 : ClassId) (c6 : ClassId) (c7 : ClassId) (c8 : ClassId) (v2 : Value) (v9 : Value) (v10 : Value) (v11 : Value) (v12 : Value) (v13 : Value) (v14 : Value) (v15 : Value) (v16 : Value) (p0 : Int32) (p1 : Int32) (p2 : Int32) (p3 : Int32) : Met l yX8_map wsP_X8_map ({ frames := 2, cells := 0, slots := 0, locals := 60 }) (va_Pc [.ref h0, .int p0, .int p1, .int p2, .int p3] (pk_Pre (dC, dI) [(h0, .inr (8, [.int th, .ref q1, v2, .ref q3, .ref q4, .ref q5, .ref q6, .ref q7, .ref q8, v9, v10, v11, v12, v13, v14, v15, v16])), (q1, .inl (c1, 16, .inl (fun _ => (0 : Int32)))), (q3, .inl (c3, 16, .inl (fun _ => (0 : Int32)))), (q4, .inl (c4, 16, .inl (fun _ => (0 : Int32)))), (q5, .inl (c5, 16, .inl (fun _ => (0 : Int32)))), (q6, .inl (c6, 16, .inl (fun _ => (0 : Int32)))), (q7, .inl (c7, 16, .inl (fun _ => (0 : Int32)))), (q8, .inl (c8, 16, .inl (fun _ => (0 : Int32))))] [(c1, .int), (c3, .int), (c4, .int), (c5, .int), (c6, .int), (c7, .int), (c8, .int)] sz)) (va_Ql (fun (r : Int64) (_ : Unit) => True) (fun (_ : Unit) (t : State) => va_P (dC, dI) vwCl [(h0, .inr (8, [.int 1, .ref q1, v2, .ref q3, .ref q4, .ref q5, .ref q6, .ref q7, .ref q8, v9, v10, v11, v12, v13, v14, v15, v16]))] t.heap ∧ va_K (dC, dI) vwCl [] t ∧ va_D (va_A [(h0, .inr (8, [.int th, .ref q1, v2, .ref q3, .ref q4, .ref q5, .ref q6, .ref q7, .ref q8, v9, v10, v11, v12, v13, v14, v15, v16])), (q1, .inl (c1, 16, .inl (fun _ => (0 : Int32)))), (q3, .inl (c3, 16, .inl (fun _ => (0 : Int32)))), (q4, .inl (c4, 16, .inl (fun _ => (0 : Int32)))), (q5, .inl (c5, 16, .inl (fun _ => (0 : Int32)))), (q6, .inl (c6, 16, .inl (fun _ => (0 : Int32)))), (q7, .inl (c7, 16, .inl (fun _ => (0 : Int32)))), (q8, .inl (c8, 16, .inl (fun _ => (0 : Int32))))] sz) [(h0, .inr (8, [.int 1, .ref q1, v2, .ref q3, .ref q4, .ref q5, .ref q6, .ref q7, .ref q8, v9, v10, v11, v12, v13, v14, v15, v16]))]) (va_A [(h0, .inr (8, [.int th, .ref q1, v2, .ref q3, .ref q4, .ref q5, .ref q6, .ref q7, .ref q8, v9, v10, v11, v12, v13, v14, v15, v16])), (q1, .inl (c1, 16, .inl (fun _ => (0 : Int32)))), (q3, .inl (c3, 16, .inl (fun _ => (0 : Int32)))), (q4, .inl (c4, 16, .inl (fun _ => (0 : Int32)))), (q5, .inl (c5, 16, .inl (fun _ => (0 : Int32)))), (q6, .inl (c6, 16, .inl (fun _ => (0 : Int32)))), (q7, .inl (c7, 16, .inl (fun _ => (0 : Int32)))), (q8, .inl (c8, 16, .inl (fun _ => (0 : Int32))))] sz)) 0 0 (va_A [(h0, .inr (8, [.int th, .ref q1, v2, .ref q3, .ref q4, .ref q5, .ref q6, .ref q7, .ref q8, v9, v10, v11, v12, v13, v14, v15, v16])), (q1, .inl (c1, 16, .inl (fun _ => (0 : Int32)))), (q3, .inl (c3, 16, .inl (fun _ => (0 : Int32)))), (q4, .inl (c4, 16, .inl (fun _ => (0 : Int32)))), (q5, .inl (c5, 16, .inl (fun _ => (0 : Int32)))), (q6, .inl (c6, 16, .inl (fun _ => (0 : Int32)))), (q7, .inl (c7, 16, .inl (fun _ => (0 : Int32)))), (q8, .inl (c8, 16, .inl (fun _ => (0 : Int32))))] sz) := by
  refine Met.ofW (cc := cX8_map) (maxL := 11) (ret := (some .long)) (by decide) rfl ?_
  intro p e s m args below meth c s₁ B hml hv
  obtain ⟨rfl, hsz, hP, hK, hD0⟩ := hv
  have hx := B.exec
  have hb := B.bytes
  have hr := B.returns
  have hts := atoms_spec (ws := wsP_X8_map) B.pre
  have hown : s.vm.findClass RX8 = some m.cls := findClass_of_methodNamed B.named
  have hlocks := B.notSynchronized
  subst hsz
  have hD := hD0.self (sz := s.heap.size)
  generalize hAe : va_A [(h0, .inr (8, [.int th, .ref q1, v2, .ref q3, .ref q4, .ref q5, .ref q6, .ref q7, .ref q8, v9, v10, v11, v12, v13, v14, v15, v16])), (q1, .inl (c1, 16, .inl (fun _ => (0 : Int32)))), (q3, .inl (c3, 16, .inl (fun _ => (0 : Int32)))), (q4, .inl (c4, 16, .inl (fun _ => (0 : Int32)))), (q5, .inl (c5, 16, .inl (fun _ => (0 : Int32)))), (q6, .inl (c6, 16, .inl (fun _ => (0 : Int32)))), (q7, .inl (c7, 16, .inl (fun _ => (0 : Int32)))), (q8, .inl (c8, 16, .inl (fun _ => (0 : Int32))))] s.heap.size = A at hD ⊢
  have hA : ∀ q : Nat, s.heap.size ≤ q → A q := fun q h => by rw [← hAe]; exact Or.inr h
  have hS : va_S A s.heap s.heap [] := va_S.rf
  have hP : va_P (dC, dI) vwCl [(h0, .inr (8, [.int th, .ref q1, v2, .ref q3, .ref q4, .ref q5, .ref q6, .ref q7, .ref q8, v9, v10, v11, v12, v13, v14, v15, v16])), (q1, .inl (c1, 16, .inl (fun _ => (0 : Int32)))), (q3, .inl (c3, 16, .inl (fun _ => (0 : Int32)))), (q4, .inl (c4, 16, .inl (fun _ => (0 : Int32)))), (q5, .inl (c5, 16, .inl (fun _ => (0 : Int32)))), (q6, .inl (c6, 16, .inl (fun _ => (0 : Int32)))), (q7, .inl (c7, 16, .inl (fun _ => (0 : Int32)))), (q8, .inl (c8, 16, .inl (fun _ => (0 : Int32))))] s.heap := hP
  have hl := lv_entry ([.ref h0, .int p0, .int p1, .int p2, .int p3]) (n := 11) (Nat.le_of_ble_eq_true rfl)
  rw [lg_entry_eq]
  generalize (lg_sl ([.ref h0, .int p0, .int p1, .int p2, .int p3]) ++ List.replicate (11 - (lg_sl ([.ref h0, .int p0, .int p1, .int p2, .int p3])).length) Slot.unset).toArray = ls at hl ⊢
  have hl : lv_has ls 11 [(0, .ref h0), (1, .int p0), (2, .int p1), (3, .int p2), (4, .int p3)] := hl
  refine lv_iload_n hx hb dX8_map_0 rfl (lv_at hl 2 rfl) ?_
  refine lv_bipush (v := 19) hx hb dX8_map_1 (by decide) ?_
  refine lv_icmp_eq (tgt := 12) hx hb dX8_map_3 (by decide) (fun c_1 => ?_) (fun c_1 => ?_)
  ·
    have ic_1 : p1.toInt = 19 := tx_eq rfl (by decide) c_1
    refine lv_iconst (v := 1) hx hb dX8_map_12 (by decide) ?_
    refine lv_goto (tgt := 17) hx hb dX8_map_13 (by decide) ?_
    refine lv_istore (lv' := [(5, .int 1), (0, .ref h0), (1, .int p0), (2, .int p1), (3, .int p2), (4, .int p3)]) hx hb dX8_map_17 hl (by decide) rfl (fun ls hl => ?_)
    refine lv_aload_n hx hb dX8_map_19 rfl (lv_at hl 1 rfl) ?_
    refine lv_iload_n hx hb dX8_map_20 rfl (lv_at hl 2 rfl) ?_
    have hPc := hP.sub (ws' := [(h0, .inr (8, [.int th, .ref q1, v2, .ref q3, .ref q4, .ref q5, .ref q6, .ref q7, .ref q8, v9, v10, v11, v12, v13, v14, v15, v16])), (q1, .inl (c1, 16, .inl (fun _ => (0 : Int32))))]) [0, 1] rfl
    have hDc := hD.sub (ws' := [(h0, .inr (8, [.int th, .ref q1, v2, .ref q3, .ref q4, .ref q5, .ref q6, .ref q7, .ref q8, v9, v10, v11, v12, v13, v14, v15, v16])), (q1, .inl (c1, 16, .inl (fun _ => (0 : Int32))))]) [0, 1] (by decide) rfl
    have hKc := hK.sub (tys' := [(c1, .int)]) [0] rfl
    have hFc := va_free (wc := [(h0, .inr (8, [.int th, .ref q1, v2, .ref q3, .ref q4, .ref q5, .ref q6, .ref q7, .ref q8, v9, v10, v11, v12, v13, v14, v15, v16])), (q1, .inl (c1, 16, .inl (fun _ => (0 : Int32))))]) hD hS hA [0, 1] rfl
    refine va_calli (va_runV (As := [.int p0]) (rest := []) ⟨hx, hb, hml, hown, hts⟩ (c_X8_isThere l  dC dI s.heap.size h0 q1 c1 th v2 (.ref q3) (.ref q4) (.ref q5) (.ref q6) (.ref q7) (.ref q8) v9 v10 v11 v12 v13 v14 v15 v16 p0) (cwV 1 hts gP_X8_map_isThere rfl rfl rfl (by decide +kernel) ⟨(Nat.le_of_ble_eq_true rfl), (Nat.le_of_ble_eq_true rfl)⟩) ⟨pk_blind, va_recv hKc hPc (ci := 8) (q0 := 0) rfl rfl, pk_call hPc hKc hDc⟩ rfl rfl hl.1 rfl (lv_room (Nat.le_of_ble_eq_true rfl)) dX8_map_21 ⟨(Nat.le_of_ble_eq_true rfl), (Nat.le_of_ble_eq_true rfl)⟩) hS (fun q _ h => hFc q h) hFc (fun r_2 ur_2 t H1 locs ht hvm hw hB hz1 hk1 hS => ?_)
    try dsimp only at hw
    obtain ⟨hP1, hK1, hD1⟩ := hB
    rw [ht] at hP1
    have hK1 := va_K.moved hvm.symm hK1
    obtain ⟨hP, hD⟩ := va_join (wr := [(q3, .inl (c3, 16, .inl (fun _ => (0 : Int32)))), (q4, .inl (c4, 16, .inl (fun _ => (0 : Int32)))), (q5, .inl (c5, 16, .inl (fun _ => (0 : Int32)))), (q6, .inl (c6, 16, .inl (fun _ => (0 : Int32)))), (q7, .inl (c7, 16, .inl (fun _ => (0 : Int32)))), (q8, .inl (c8, 16, .inl (fun _ => (0 : Int32))))]) (w1 := [(h0, .inr (8, [.int th, .ref q1, v2, .ref q3, .ref q4, .ref q5, .ref q6, .ref q7, .ref q8, v9, v10, v11, v12, v13, v14, v15, v16])), (q1, .inl (c1, 16, .inl (fun _ => (0 : Int32))))]) hP hD [0, 1] [2, 3, 4, 5, 6, 7] rfl rfl (by decide) (by decide) hk1 hFc hP1 hD1
    clear hk1 hz1 ht hPc hDc hKc
    generalize H1 = H at hP hS ⊢
    have hP : va_P (dC, dI) vwCl [(q3, .inl (c3, 16, .inl (fun _ => (0 : Int32)))), (q4, .inl (c4, 16, .inl (fun _ => (0 : Int32)))), (q5, .inl (c5, 16, .inl (fun _ => (0 : Int32)))), (q6, .inl (c6, 16, .inl (fun _ => (0 : Int32)))), (q7, .inl (c7, 16, .inl (fun _ => (0 : Int32)))), (q8, .inl (c8, 16, .inl (fun _ => (0 : Int32)))), (h0, .inr (8, [.int th, .ref q1, v2, .ref q3, .ref q4, .ref q5, .ref q6, .ref q7, .ref q8, v9, v10, v11, v12, v13, v14, v15, v16])), (q1, .inl (c1, 16, .inl (fun _ => (0 : Int32))))] H := hP
    have hD : va_D A [(q3, .inl (c3, 16, .inl (fun _ => (0 : Int32)))), (q4, .inl (c4, 16, .inl (fun _ => (0 : Int32)))), (q5, .inl (c5, 16, .inl (fun _ => (0 : Int32)))), (q6, .inl (c6, 16, .inl (fun _ => (0 : Int32)))), (q7, .inl (c7, 16, .inl (fun _ => (0 : Int32)))), (q8, .inl (c8, 16, .inl (fun _ => (0 : Int32)))), (h0, .inr (8, [.int th, .ref q1, v2, .ref q3, .ref q4, .ref q5, .ref q6, .ref q7, .ref q8, v9, v10, v11, v12, v13, v14, v15, v16])), (q1, .inl (c1, 16, .inl (fun _ => (0 : Int32))))] := hD
    refine W.widen (k := 0) (n := 0) (Nat.le_of_ble_eq_true rfl) (Nat.le_of_ble_eq_true rfl) ?_
    obtain rfl : r_2 = 0 := hw
    refine W.eq (g2 := F0 m 24 ls [.int 0]) rfl ?_
    refine lv_if_eq (tgt := 41) hx hb dX8_map_24 (by decide) (fun c_3 => ?_) (fun c_3 => absurd c_3 (by decide))
    refine lv_aload_n hx hb dX8_map_41 rfl (lv_at hl 1 rfl) ?_
    refine lv_iconst (v := 1) hx hb dX8_map_42 (by decide) ?_
    have hPc := hP.sub (ws' := [(h0, .inr (8, [.int th, .ref q1, v2, .ref q3, .ref q4, .ref q5, .ref q6, .ref q7, .ref q8, v9, v10, v11, v12, v13, v14, v15, v16]))]) [6] rfl
    have hDc := hD.sub (ws' := [(h0, .inr (8, [.int th, .ref q1, v2, .ref q3, .ref q4, .ref q5, .ref q6, .ref q7, .ref q8, v9, v10, v11, v12, v13, v14, v15, v16]))]) [6] (by decide) rfl
    have hKc := hK.sub (tys' := []) [] rfl
    have hFc := va_free (wc := [(h0, .inr (8, [.int th, .ref q1, v2, .ref q3, .ref q4, .ref q5, .ref q6, .ref q7, .ref q8, v9, v10, v11, v12, v13, v14, v15, v16]))]) hD hS hA [6] rfl
    refine va_calli (va_runV (As := [.int 1]) (rest := []) ⟨hx, hb, hml, hown, hts⟩ (c_X8_refuse l  dC dI H.size h0 th 1 (.ref q1) v2 (.ref q3) (.ref q4) (.ref q5) (.ref q6) (.ref q7) (.ref q8) v9 v10 v11 v12 v13 v14 v15 v16) (cwV 1 hts gP_X8_map_refuse rfl rfl rfl (by decide +kernel) ⟨(Nat.le_of_ble_eq_true rfl), (Nat.le_of_ble_eq_true rfl)⟩) ⟨pk_blind, va_recv hKc hPc (ci := 8) (q0 := 0) rfl rfl, pk_call hPc hKc hDc⟩ rfl rfl hl.1 rfl (lv_room (Nat.le_of_ble_eq_true rfl)) dX8_map_43 ⟨(Nat.le_of_ble_eq_true rfl), (Nat.le_of_ble_eq_true rfl)⟩) hS (fun q _ h => hFc q h) hFc (fun r_4 ur_4 t H1 locs ht hvm hw hB hz1 hk1 hS => ?_)
    try dsimp only at hw
    have jr_4 := hw
    obtain ⟨hP1, hK1, hD1⟩ := hB
    rw [ht] at hP1
    have hK1 := va_K.moved hvm.symm hK1
    obtain ⟨hP, hD⟩ := va_join (wr := [(q3, .inl (c3, 16, .inl (fun _ => (0 : Int32)))), (q4, .inl (c4, 16, .inl (fun _ => (0 : Int32)))), (q5, .inl (c5, 16, .inl (fun _ => (0 : Int32)))), (q6, .inl (c6, 16, .inl (fun _ => (0 : Int32)))), (q7, .inl (c7, 16, .inl (fun _ => (0 : Int32)))), (q8, .inl (c8, 16, .inl (fun _ => (0 : Int32)))), (q1, .inl (c1, 16, .inl (fun _ => (0 : Int32))))]) (w1 := [(h0, .inr (8, [.int 1, .ref q1, v2, .ref q3, .ref q4, .ref q5, .ref q6, .ref q7, .ref q8, v9, v10, v11, v12, v13, v14, v15, v16]))]) hP hD [6] [0, 1, 2, 3, 4, 5, 7] rfl rfl (by decide) (by decide) hk1 hFc hP1 hD1
    clear hk1 hz1 ht hPc hDc hKc
    generalize H1 = H at hP hS ⊢
    have hP : va_P (dC, dI) vwCl [(q3, .inl (c3, 16, .inl (fun _ => (0 : Int32)))), (q4, .inl (c4, 16, .inl (fun _ => (0 : Int32)))), (q5, .inl (c5, 16, .inl (fun _ => (0 : Int32)))), (q6, .inl (c6, 16, .inl (fun _ => (0 : Int32)))), (q7, .inl (c7, 16, .inl (fun _ => (0 : Int32)))), (q8, .inl (c8, 16, .inl (fun _ => (0 : Int32)))), (q1, .inl (c1, 16, .inl (fun _ => (0 : Int32)))), (h0, .inr (8, [.int 1, .ref q1, v2, .ref q3, .ref q4, .ref q5, .ref q6, .ref q7, .ref q8, v9, v10, v11, v12, v13, v14, v15, v16]))] H := hP
    have hD : va_D A [(q3, .inl (c3, 16, .inl (fun _ => (0 : Int32)))), (q4, .inl (c4, 16, .inl (fun _ => (0 : Int32)))), (q5, .inl (c5, 16, .inl (fun _ => (0 : Int32)))), (q6, .inl (c6, 16, .inl (fun _ => (0 : Int32)))), (q7, .inl (c7, 16, .inl (fun _ => (0 : Int32)))), (q8, .inl (c8, 16, .inl (fun _ => (0 : Int32)))), (q1, .inl (c1, 16, .inl (fun _ => (0 : Int32)))), (h0, .inr (8, [.int 1, .ref q1, v2, .ref q3, .ref q4, .ref q5, .ref q6, .ref q7, .ref q8, v9, v10, v11, v12, v13, v14, v15, v16]))] := hD
    refine W.widen (k := 0) (n := 0) (Nat.le_of_ble_eq_true rfl) (Nat.le_of_ble_eq_true rfl) ?_
    refine W.eq (g2 := F0 m 46 ls [.int r_4]) rfl ?_
    refine lv_i2l (v := r_4.toInt64) hx hb dX8_map_46 rfl ?_
    have hP9 := hP.sub (ws' := [(h0, .inr (8, [.int 1, .ref q1, v2, .ref q3, .ref q4, .ref q5, .ref q6, .ref q7, .ref q8, v9, v10, v11, v12, v13, v14, v15, v16]))]) [7] rfl
    have hD9 := hD.sub (ws' := [(h0, .inr (8, [.int 1, .ref q1, v2, .ref q3, .ref q4, .ref q5, .ref q6, .ref q7, .ref q8, v9, v10, v11, v12, v13, v14, v15, v16]))]) [7] (by decide) rfl
    have hK9 := hK.sub (tys' := []) [] rfl
    refine W.widen (k := 0) (n := 0) (Nat.le_of_ble_eq_true rfl) (Nat.le_of_ble_eq_true rfl) ?_
    exact W.lret (v := r_4.toInt64) hx hb hr (fun t ht hW => ⟨⟨r_4.toInt64, (), rfl, trivial, by rw [ht]; exact hP9, va_K.moved hW.alike hK9, hD9⟩, hS.F ht⟩) hS.2.2 dX8_map_47
  ·
    have ic_1 : ¬ p1.toInt = 19 := tx_ne rfl (by decide) c_1
    refine lv_iload_n hx hb dX8_map_6 rfl (lv_at hl 2 rfl) ?_
    refine lv_bipush (v := 20) hx hb dX8_map_7 (by decide) ?_
    refine lv_icmp_ne (tgt := 16) hx hb dX8_map_9 (by decide) (fun c_5 => ?_) (fun c_5 => ?_)
    ·
      have ic_5 : ¬ p1.toInt = 20 := tx_ne rfl (by decide) c_5
      refine lv_iconst (v := 0) hx hb dX8_map_16 (by decide) ?_
      refine lv_istore (lv' := [(5, .int 0), (0, .ref h0), (1, .int p0), (2, .int p1), (3, .int p2), (4, .int p3)]) hx hb dX8_map_17 hl (by decide) rfl (fun ls hl => ?_)
      refine lv_aload_n hx hb dX8_map_19 rfl (lv_at hl 1 rfl) ?_
      refine lv_iload_n hx hb dX8_map_20 rfl (lv_at hl 2 rfl) ?_
      have hPc := hP.sub (ws' := [(h0, .inr (8, [.int th, .ref q1, v2, .ref q3, .ref q4, .ref q5, .ref q6, .ref q7, .ref q8, v9, v10, v11, v12, v13, v14, v15, v16])), (q1, .inl (c1, 16, .inl (fun _ => (0 : Int32))))]) [0, 1] rfl
      have hDc := hD.sub (ws' := [(h0, .inr (8, [.int th, .ref q1, v2, .ref q3, .ref q4, .ref q5, .ref q6, .ref q7, .ref q8, v9, v10, v11, v12, v13, v14, v15, v16])), (q1, .inl (c1, 16, .inl (fun _ => (0 : Int32))))]) [0, 1] (by decide) rfl
      have hKc := hK.sub (tys' := [(c1, .int)]) [0] rfl
      have hFc := va_free (wc := [(h0, .inr (8, [.int th, .ref q1, v2, .ref q3, .ref q4, .ref q5, .ref q6, .ref q7, .ref q8, v9, v10, v11, v12, v13, v14, v15, v16])), (q1, .inl (c1, 16, .inl (fun _ => (0 : Int32))))]) hD hS hA [0, 1] rfl
      refine va_calli (va_runV (As := [.int p0]) (rest := []) ⟨hx, hb, hml, hown, hts⟩ (c_X8_isThere l  dC dI s.heap.size h0 q1 c1 th v2 (.ref q3) (.ref q4) (.ref q5) (.ref q6) (.ref q7) (.ref q8) v9 v10 v11 v12 v13 v14 v15 v16 p0) (cwV 1 hts gP_X8_map_isThere rfl rfl rfl (by decide +kernel) ⟨(Nat.le_of_ble_eq_true rfl), (Nat.le_of_ble_eq_true rfl)⟩) ⟨pk_blind, va_recv hKc hPc (ci := 8) (q0 := 0) rfl rfl, pk_call hPc hKc hDc⟩ rfl rfl hl.1 rfl (lv_room (Nat.le_of_ble_eq_true rfl)) dX8_map_21 ⟨(Nat.le_of_ble_eq_true rfl), (Nat.le_of_ble_eq_true rfl)⟩) hS (fun q _ h => hFc q h) hFc (fun r_6 ur_6 t H1 locs ht hvm hw hB hz1 hk1 hS => ?_)
      try dsimp only at hw
      obtain ⟨hP1, hK1, hD1⟩ := hB
      rw [ht] at hP1
      have hK1 := va_K.moved hvm.symm hK1
      obtain ⟨hP, hD⟩ := va_join (wr := [(q3, .inl (c3, 16, .inl (fun _ => (0 : Int32)))), (q4, .inl (c4, 16, .inl (fun _ => (0 : Int32)))), (q5, .inl (c5, 16, .inl (fun _ => (0 : Int32)))), (q6, .inl (c6, 16, .inl (fun _ => (0 : Int32)))), (q7, .inl (c7, 16, .inl (fun _ => (0 : Int32)))), (q8, .inl (c8, 16, .inl (fun _ => (0 : Int32))))]) (w1 := [(h0, .inr (8, [.int th, .ref q1, v2, .ref q3, .ref q4, .ref q5, .ref q6, .ref q7, .ref q8, v9, v10, v11, v12, v13, v14, v15, v16])), (q1, .inl (c1, 16, .inl (fun _ => (0 : Int32))))]) hP hD [0, 1] [2, 3, 4, 5, 6, 7] rfl rfl (by decide) (by decide) hk1 hFc hP1 hD1
      clear hk1 hz1 ht hPc hDc hKc
      generalize H1 = H at hP hS ⊢
      have hP : va_P (dC, dI) vwCl [(q3, .inl (c3, 16, .inl (fun _ => (0 : Int32)))), (q4, .inl (c4, 16, .inl (fun _ => (0 : Int32)))), (q5, .inl (c5, 16, .inl (fun _ => (0 : Int32)))), (q6, .inl (c6, 16, .inl (fun _ => (0 : Int32)))), (q7, .inl (c7, 16, .inl (fun _ => (0 : Int32)))), (q8, .inl (c8, 16, .inl (fun _ => (0 : Int32)))), (h0, .inr (8, [.int th, .ref q1, v2, .ref q3, .ref q4, .ref q5, .ref q6, .ref q7, .ref q8, v9, v10, v11, v12, v13, v14, v15, v16])), (q1, .inl (c1, 16, .inl (fun _ => (0 : Int32))))] H := hP
      have hD : va_D A [(q3, .inl (c3, 16, .inl (fun _ => (0 : Int32)))), (q4, .inl (c4, 16, .inl (fun _ => (0 : Int32)))), (q5, .inl (c5, 16, .inl (fun _ => (0 : Int32)))), (q6, .inl (c6, 16, .inl (fun _ => (0 : Int32)))), (q7, .inl (c7, 16, .inl (fun _ => (0 : Int32)))), (q8, .inl (c8, 16, .inl (fun _ => (0 : Int32)))), (h0, .inr (8, [.int th, .ref q1, v2, .ref q3, .ref q4, .ref q5, .ref q6, .ref q7, .ref q8, v9, v10, v11, v12, v13, v14, v15, v16])), (q1, .inl (c1, 16, .inl (fun _ => (0 : Int32))))] := hD
      refine W.widen (k := 0) (n := 0) (Nat.le_of_ble_eq_true rfl) (Nat.le_of_ble_eq_true rfl) ?_
      obtain rfl : r_6 = 0 := hw
      refine W.eq (g2 := F0 m 24 ls [.int 0]) rfl ?_
      refine lv_if_eq (tgt := 41) hx hb dX8_map_24 (by decide) (fun c_7 => ?_) (fun c_7 => absurd c_7 (by decide))
      refine lv_aload_n hx hb dX8_map_41 rfl (lv_at hl 1 rfl) ?_
      refine lv_iconst (v := 1) hx hb dX8_map_42 (by decide) ?_
      have hPc := hP.sub (ws' := [(h0, .inr (8, [.int th, .ref q1, v2, .ref q3, .ref q4, .ref q5, .ref q6, .ref q7, .ref q8, v9, v10, v11, v12, v13, v14, v15, v16]))]) [6] rfl
      have hDc := hD.sub (ws' := [(h0, .inr (8, [.int th, .ref q1, v2, .ref q3, .ref q4, .ref q5, .ref q6, .ref q7, .ref q8, v9, v10, v11, v12, v13, v14, v15, v16]))]) [6] (by decide) rfl
      have hKc := hK.sub (tys' := []) [] rfl
      have hFc := va_free (wc := [(h0, .inr (8, [.int th, .ref q1, v2, .ref q3, .ref q4, .ref q5, .ref q6, .ref q7, .ref q8, v9, v10, v11, v12, v13, v14, v15, v16]))]) hD hS hA [6] rfl
      refine va_calli (va_runV (As := [.int 1]) (rest := []) ⟨hx, hb, hml, hown, hts⟩ (c_X8_refuse l  dC dI H.size h0 th 1 (.ref q1) v2 (.ref q3) (.ref q4) (.ref q5) (.ref q6) (.ref q7) (.ref q8) v9 v10 v11 v12 v13 v14 v15 v16) (cwV 1 hts gP_X8_map_refuse rfl rfl rfl (by decide +kernel) ⟨(Nat.le_of_ble_eq_true rfl), (Nat.le_of_ble_eq_true rfl)⟩) ⟨pk_blind, va_recv hKc hPc (ci := 8) (q0 := 0) rfl rfl, pk_call hPc hKc hDc⟩ rfl rfl hl.1 rfl (lv_room (Nat.le_of_ble_eq_true rfl)) dX8_map_43 ⟨(Nat.le_of_ble_eq_true rfl), (Nat.le_of_ble_eq_true rfl)⟩) hS (fun q _ h => hFc q h) hFc (fun r_8 ur_8 t H1 locs ht hvm hw hB hz1 hk1 hS => ?_)
      try dsimp only at hw
      have jr_8 := hw
      obtain ⟨hP1, hK1, hD1⟩ := hB
      rw [ht] at hP1
      have hK1 := va_K.moved hvm.symm hK1
      obtain ⟨hP, hD⟩ := va_join (wr := [(q3, .inl (c3, 16, .inl (fun _ => (0 : Int32)))), (q4, .inl (c4, 16, .inl (fun _ => (0 : Int32)))), (q5, .inl (c5, 16, .inl (fun _ => (0 : Int32)))), (q6, .inl (c6, 16, .inl (fun _ => (0 : Int32)))), (q7, .inl (c7, 16, .inl (fun _ => (0 : Int32)))), (q8, .inl (c8, 16, .inl (fun _ => (0 : Int32)))), (q1, .inl (c1, 16, .inl (fun _ => (0 : Int32))))]) (w1 := [(h0, .inr (8, [.int 1, .ref q1, v2, .ref q3, .ref q4, .ref q5, .ref q6, .ref q7, .ref q8, v9, v10, v11, v12, v13, v14, v15, v16]))]) hP hD [6] [0, 1, 2, 3, 4, 5, 7] rfl rfl (by decide) (by decide) hk1 hFc hP1 hD1
      clear hk1 hz1 ht hPc hDc hKc
      generalize H1 = H at hP hS ⊢
      have hP : va_P (dC, dI) vwCl [(q3, .inl (c3, 16, .inl (fun _ => (0 : Int32)))), (q4, .inl (c4, 16, .inl (fun _ => (0 : Int32)))), (q5, .inl (c5, 16, .inl (fun _ => (0 : Int32)))), (q6, .inl (c6, 16, .inl (fun _ => (0 : Int32)))), (q7, .inl (c7, 16, .inl (fun _ => (0 : Int32)))), (q8, .inl (c8, 16, .inl (fun _ => (0 : Int32)))), (q1, .inl (c1, 16, .inl (fun _ => (0 : Int32)))), (h0, .inr (8, [.int 1, .ref q1, v2, .ref q3, .ref q4, .ref q5, .ref q6, .ref q7, .ref q8, v9, v10, v11, v12, v13, v14, v15, v16]))] H := hP
      have hD : va_D A [(q3, .inl (c3, 16, .inl (fun _ => (0 : Int32)))), (q4, .inl (c4, 16, .inl (fun _ => (0 : Int32)))), (q5, .inl (c5, 16, .inl (fun _ => (0 : Int32)))), (q6, .inl (c6, 16, .inl (fun _ => (0 : Int32)))), (q7, .inl (c7, 16, .inl (fun _ => (0 : Int32)))), (q8, .inl (c8, 16, .inl (fun _ => (0 : Int32)))), (q1, .inl (c1, 16, .inl (fun _ => (0 : Int32)))), (h0, .inr (8, [.int 1, .ref q1, v2, .ref q3, .ref q4, .ref q5, .ref q6, .ref q7, .ref q8, v9, v10, v11, v12, v13, v14, v15, v16]))] := hD
      refine W.widen (k := 0) (n := 0) (Nat.le_of_ble_eq_true rfl) (Nat.le_of_ble_eq_true rfl) ?_
      refine W.eq (g2 := F0 m 46 ls [.int r_8]) rfl ?_
      refine lv_i2l (v := r_8.toInt64) hx hb dX8_map_46 rfl ?_
      have hP9 := hP.sub (ws' := [(h0, .inr (8, [.int 1, .ref q1, v2, .ref q3, .ref q4, .ref q5, .ref q6, .ref q7, .ref q8, v9, v10, v11, v12, v13, v14, v15, v16]))]) [7] rfl
      have hD9 := hD.sub (ws' := [(h0, .inr (8, [.int 1, .ref q1, v2, .ref q3, .ref q4, .ref q5, .ref q6, .ref q7, .ref q8, v9, v10, v11, v12, v13, v14, v15, v16]))]) [7] (by decide) rfl
      have hK9 := hK.sub (tys' := []) [] rfl
      refine W.widen (k := 0) (n := 0) (Nat.le_of_ble_eq_true rfl) (Nat.le_of_ble_eq_true rfl) ?_
      exact W.lret (v := r_8.toInt64) hx hb hr (fun t ht hW => ⟨⟨r_8.toInt64, (), rfl, trivial, by rw [ht]; exact hP9, va_K.moved hW.alike hK9, hD9⟩, hS.F ht⟩) hS.2.2 dX8_map_47
    ·
      have ic_5 : p1.toInt = 20 := tx_eq rfl (by decide) c_5
      refine lv_iconst (v := 1) hx hb dX8_map_12 (by decide) ?_
      refine lv_goto (tgt := 17) hx hb dX8_map_13 (by decide) ?_
      refine lv_istore (lv' := [(5, .int 1), (0, .ref h0), (1, .int p0), (2, .int p1), (3, .int p2), (4, .int p3)]) hx hb dX8_map_17 hl (by decide) rfl (fun ls hl => ?_)
      refine lv_aload_n hx hb dX8_map_19 rfl (lv_at hl 1 rfl) ?_
      refine lv_iload_n hx hb dX8_map_20 rfl (lv_at hl 2 rfl) ?_
      have hPc := hP.sub (ws' := [(h0, .inr (8, [.int th, .ref q1, v2, .ref q3, .ref q4, .ref q5, .ref q6, .ref q7, .ref q8, v9, v10, v11, v12, v13, v14, v15, v16])), (q1, .inl (c1, 16, .inl (fun _ => (0 : Int32))))]) [0, 1] rfl
      have hDc := hD.sub (ws' := [(h0, .inr (8, [.int th, .ref q1, v2, .ref q3, .ref q4, .ref q5, .ref q6, .ref q7, .ref q8, v9, v10, v11, v12, v13, v14, v15, v16])), (q1, .inl (c1, 16, .inl (fun _ => (0 : Int32))))]) [0, 1] (by decide) rfl
      have hKc := hK.sub (tys' := [(c1, .int)]) [0] rfl
      have hFc := va_free (wc := [(h0, .inr (8, [.int th, .ref q1, v2, .ref q3, .ref q4, .ref q5, .ref q6, .ref q7, .ref q8, v9, v10, v11, v12, v13, v14, v15, v16])), (q1, .inl (c1, 16, .inl (fun _ => (0 : Int32))))]) hD hS hA [0, 1] rfl
      refine va_calli (va_runV (As := [.int p0]) (rest := []) ⟨hx, hb, hml, hown, hts⟩ (c_X8_isThere l  dC dI s.heap.size h0 q1 c1 th v2 (.ref q3) (.ref q4) (.ref q5) (.ref q6) (.ref q7) (.ref q8) v9 v10 v11 v12 v13 v14 v15 v16 p0) (cwV 1 hts gP_X8_map_isThere rfl rfl rfl (by decide +kernel) ⟨(Nat.le_of_ble_eq_true rfl), (Nat.le_of_ble_eq_true rfl)⟩) ⟨pk_blind, va_recv hKc hPc (ci := 8) (q0 := 0) rfl rfl, pk_call hPc hKc hDc⟩ rfl rfl hl.1 rfl (lv_room (Nat.le_of_ble_eq_true rfl)) dX8_map_21 ⟨(Nat.le_of_ble_eq_true rfl), (Nat.le_of_ble_eq_true rfl)⟩) hS (fun q _ h => hFc q h) hFc (fun r_9 ur_9 t H1 locs ht hvm hw hB hz1 hk1 hS => ?_)
      try dsimp only at hw
      obtain ⟨hP1, hK1, hD1⟩ := hB
      rw [ht] at hP1
      have hK1 := va_K.moved hvm.symm hK1
      obtain ⟨hP, hD⟩ := va_join (wr := [(q3, .inl (c3, 16, .inl (fun _ => (0 : Int32)))), (q4, .inl (c4, 16, .inl (fun _ => (0 : Int32)))), (q5, .inl (c5, 16, .inl (fun _ => (0 : Int32)))), (q6, .inl (c6, 16, .inl (fun _ => (0 : Int32)))), (q7, .inl (c7, 16, .inl (fun _ => (0 : Int32)))), (q8, .inl (c8, 16, .inl (fun _ => (0 : Int32))))]) (w1 := [(h0, .inr (8, [.int th, .ref q1, v2, .ref q3, .ref q4, .ref q5, .ref q6, .ref q7, .ref q8, v9, v10, v11, v12, v13, v14, v15, v16])), (q1, .inl (c1, 16, .inl (fun _ => (0 : Int32))))]) hP hD [0, 1] [2, 3, 4, 5, 6, 7] rfl rfl (by decide) (by decide) hk1 hFc hP1 hD1
      clear hk1 hz1 ht hPc hDc hKc
      generalize H1 = H at hP hS ⊢
      have hP : va_P (dC, dI) vwCl [(q3, .inl (c3, 16, .inl (fun _ => (0 : Int32)))), (q4, .inl (c4, 16, .inl (fun _ => (0 : Int32)))), (q5, .inl (c5, 16, .inl (fun _ => (0 : Int32)))), (q6, .inl (c6, 16, .inl (fun _ => (0 : Int32)))), (q7, .inl (c7, 16, .inl (fun _ => (0 : Int32)))), (q8, .inl (c8, 16, .inl (fun _ => (0 : Int32)))), (h0, .inr (8, [.int th, .ref q1, v2, .ref q3, .ref q4, .ref q5, .ref q6, .ref q7, .ref q8, v9, v10, v11, v12, v13, v14, v15, v16])), (q1, .inl (c1, 16, .inl (fun _ => (0 : Int32))))] H := hP
      have hD : va_D A [(q3, .inl (c3, 16, .inl (fun _ => (0 : Int32)))), (q4, .inl (c4, 16, .inl (fun _ => (0 : Int32)))), (q5, .inl (c5, 16, .inl (fun _ => (0 : Int32)))), (q6, .inl (c6, 16, .inl (fun _ => (0 : Int32)))), (q7, .inl (c7, 16, .inl (fun _ => (0 : Int32)))), (q8, .inl (c8, 16, .inl (fun _ => (0 : Int32)))), (h0, .inr (8, [.int th, .ref q1, v2, .ref q3, .ref q4, .ref q5, .ref q6, .ref q7, .ref q8, v9, v10, v11, v12, v13, v14, v15, v16])), (q1, .inl (c1, 16, .inl (fun _ => (0 : Int32))))] := hD
      refine W.widen (k := 0) (n := 0) (Nat.le_of_ble_eq_true rfl) (Nat.le_of_ble_eq_true rfl) ?_
      obtain rfl : r_9 = 0 := hw
      refine W.eq (g2 := F0 m 24 ls [.int 0]) rfl ?_
      refine lv_if_eq (tgt := 41) hx hb dX8_map_24 (by decide) (fun c_10 => ?_) (fun c_10 => absurd c_10 (by decide))
      refine lv_aload_n hx hb dX8_map_41 rfl (lv_at hl 1 rfl) ?_
      refine lv_iconst (v := 1) hx hb dX8_map_42 (by decide) ?_
      have hPc := hP.sub (ws' := [(h0, .inr (8, [.int th, .ref q1, v2, .ref q3, .ref q4, .ref q5, .ref q6, .ref q7, .ref q8, v9, v10, v11, v12, v13, v14, v15, v16]))]) [6] rfl
      have hDc := hD.sub (ws' := [(h0, .inr (8, [.int th, .ref q1, v2, .ref q3, .ref q4, .ref q5, .ref q6, .ref q7, .ref q8, v9, v10, v11, v12, v13, v14, v15, v16]))]) [6] (by decide) rfl
      have hKc := hK.sub (tys' := []) [] rfl
      have hFc := va_free (wc := [(h0, .inr (8, [.int th, .ref q1, v2, .ref q3, .ref q4, .ref q5, .ref q6, .ref q7, .ref q8, v9, v10, v11, v12, v13, v14, v15, v16]))]) hD hS hA [6] rfl
      refine va_calli (va_runV (As := [.int 1]) (rest := []) ⟨hx, hb, hml, hown, hts⟩ (c_X8_refuse l  dC dI H.size h0 th 1 (.ref q1) v2 (.ref q3) (.ref q4) (.ref q5) (.ref q6) (.ref q7) (.ref q8) v9 v10 v11 v12 v13 v14 v15 v16) (cwV 1 hts gP_X8_map_refuse rfl rfl rfl (by decide +kernel) ⟨(Nat.le_of_ble_eq_true rfl), (Nat.le_of_ble_eq_true rfl)⟩) ⟨pk_blind, va_recv hKc hPc (ci := 8) (q0 := 0) rfl rfl, pk_call hPc hKc hDc⟩ rfl rfl hl.1 rfl (lv_room (Nat.le_of_ble_eq_true rfl)) dX8_map_43 ⟨(Nat.le_of_ble_eq_true rfl), (Nat.le_of_ble_eq_true rfl)⟩) hS (fun q _ h => hFc q h) hFc (fun r_11 ur_11 t H1 locs ht hvm hw hB hz1 hk1 hS => ?_)
      try dsimp only at hw
      have jr_11 := hw
      obtain ⟨hP1, hK1, hD1⟩ := hB
      rw [ht] at hP1
      have hK1 := va_K.moved hvm.symm hK1
      obtain ⟨hP, hD⟩ := va_join (wr := [(q3, .inl (c3, 16, .inl (fun _ => (0 : Int32)))), (q4, .inl (c4, 16, .inl (fun _ => (0 : Int32)))), (q5, .inl (c5, 16, .inl (fun _ => (0 : Int32)))), (q6, .inl (c6, 16, .inl (fun _ => (0 : Int32)))), (q7, .inl (c7, 16, .inl (fun _ => (0 : Int32)))), (q8, .inl (c8, 16, .inl (fun _ => (0 : Int32)))), (q1, .inl (c1, 16, .inl (fun _ => (0 : Int32))))]) (w1 := [(h0, .inr (8, [.int 1, .ref q1, v2, .ref q3, .ref q4, .ref q5, .ref q6, .ref q7, .ref q8, v9, v10, v11, v12, v13, v14, v15, v16]))]) hP hD [6] [0, 1, 2, 3, 4, 5, 7] rfl rfl (by decide) (by decide) hk1 hFc hP1 hD1
      clear hk1 hz1 ht hPc hDc hKc
      generalize H1 = H at hP hS ⊢
      have hP : va_P (dC, dI) vwCl [(q3, .inl (c3, 16, .inl (fun _ => (0 : Int32)))), (q4, .inl (c4, 16, .inl (fun _ => (0 : Int32)))), (q5, .inl (c5, 16, .inl (fun _ => (0 : Int32)))), (q6, .inl (c6, 16, .inl (fun _ => (0 : Int32)))), (q7, .inl (c7, 16, .inl (fun _ => (0 : Int32)))), (q8, .inl (c8, 16, .inl (fun _ => (0 : Int32)))), (q1, .inl (c1, 16, .inl (fun _ => (0 : Int32)))), (h0, .inr (8, [.int 1, .ref q1, v2, .ref q3, .ref q4, .ref q5, .ref q6, .ref q7, .ref q8, v9, v10, v11, v12, v13, v14, v15, v16]))] H := hP
      have hD : va_D A [(q3, .inl (c3, 16, .inl (fun _ => (0 : Int32)))), (q4, .inl (c4, 16, .inl (fun _ => (0 : Int32)))), (q5, .inl (c5, 16, .inl (fun _ => (0 : Int32)))), (q6, .inl (c6, 16, .inl (fun _ => (0 : Int32)))), (q7, .inl (c7, 16, .inl (fun _ => (0 : Int32)))), (q8, .inl (c8, 16, .inl (fun _ => (0 : Int32)))), (q1, .inl (c1, 16, .inl (fun _ => (0 : Int32)))), (h0, .inr (8, [.int 1, .ref q1, v2, .ref q3, .ref q4, .ref q5, .ref q6, .ref q7, .ref q8, v9, v10, v11, v12, v13, v14, v15, v16]))] := hD
      refine W.widen (k := 0) (n := 0) (Nat.le_of_ble_eq_true rfl) (Nat.le_of_ble_eq_true rfl) ?_
      refine W.eq (g2 := F0 m 46 ls [.int r_11]) rfl ?_
      refine lv_i2l (v := r_11.toInt64) hx hb dX8_map_46 rfl ?_
      have hP9 := hP.sub (ws' := [(h0, .inr (8, [.int 1, .ref q1, v2, .ref q3, .ref q4, .ref q5, .ref q6, .ref q7, .ref q8, v9, v10, v11, v12, v13, v14, v15, v16]))]) [7] rfl
      have hD9 := hD.sub (ws' := [(h0, .inr (8, [.int 1, .ref q1, v2, .ref q3, .ref q4, .ref q5, .ref q6, .ref q7, .ref q8, v9, v10, v11, v12, v13, v14, v15, v16]))]) [7] (by decide) rfl
      have hK9 := hK.sub (tys' := []) [] rfl
      refine W.widen (k := 0) (n := 0) (Nat.le_of_ble_eq_true rfl) (Nat.le_of_ble_eq_true rfl) ?_
      exact W.lret (v := r_11.toInt64) hx hb hr (fun t ht hW => ⟨⟨r_11.toInt64, (), rfl, trivial, by rw [ht]; exact hP9, va_K.moved hW.alike hK9, hD9⟩, hS.F ht⟩) hS.2.2 dX8_map_47
set_option maxHeartbeats 4000000 in
set_option maxRecDepth 100000 in
/-- view of the reference, fresh: refused -/
theorem c_X8_view (l : Launch) (dC : Nat → ClassId) (dI : Nat → Nat → Nat) (sz : Nat) (h0 : Nat) (th : Int32) (q1 : Nat) (q3 : Nat) (q4 : Nat) (q5 : Nat) (q6 : Nat) (q7 : Nat) (q8 : Nat) (c1 : ClassId) (c3 : ClassId) (c4 : ClassId) (c5 : ClassId) (c6 : ClassId) (c7 : ClassId) (c8 : ClassId) (v2 : Value) (v9 : Value) (v10 : Value) (v11 : Value) (v12 : Value) (v13 : Value) (v14 : Value) (v15 : Value) (v16 : Value) (p0 : Int32) (p1 : Int32) (p2 : Int32) (p3 : Int32) : Met l yX8_view wsP_X8_view ({ frames := 2, cells := 0, slots := 0, locals := 60 }) (va_Pc [.ref h0, .int p0, .int p1, .int p2, .int p3] (pk_Pre (dC, dI) [(h0, .inr (8, [.int th, .ref q1, v2, .ref q3, .ref q4, .ref q5, .ref q6, .ref q7, .ref q8, v9, v10, v11, v12, v13, v14, v15, v16])), (q1, .inl (c1, 16, .inl (fun _ => (0 : Int32)))), (q3, .inl (c3, 16, .inl (fun _ => (0 : Int32)))), (q4, .inl (c4, 16, .inl (fun _ => (0 : Int32)))), (q5, .inl (c5, 16, .inl (fun _ => (0 : Int32)))), (q6, .inl (c6, 16, .inl (fun _ => (0 : Int32)))), (q7, .inl (c7, 16, .inl (fun _ => (0 : Int32)))), (q8, .inl (c8, 16, .inl (fun _ => (0 : Int32))))] [(c1, .int), (c3, .int), (c4, .int), (c5, .int), (c6, .int), (c7, .int), (c8, .int)] sz)) (va_Qi (fun (r : Int32) (_ : Unit) => True) (fun (_ : Unit) (t : State) => va_P (dC, dI) vwCl [(h0, .inr (8, [.int 1, .ref q1, v2, .ref q3, .ref q4, .ref q5, .ref q6, .ref q7, .ref q8, v9, v10, v11, v12, v13, v14, v15, v16]))] t.heap ∧ va_K (dC, dI) vwCl [] t ∧ va_D (va_A [(h0, .inr (8, [.int th, .ref q1, v2, .ref q3, .ref q4, .ref q5, .ref q6, .ref q7, .ref q8, v9, v10, v11, v12, v13, v14, v15, v16])), (q1, .inl (c1, 16, .inl (fun _ => (0 : Int32)))), (q3, .inl (c3, 16, .inl (fun _ => (0 : Int32)))), (q4, .inl (c4, 16, .inl (fun _ => (0 : Int32)))), (q5, .inl (c5, 16, .inl (fun _ => (0 : Int32)))), (q6, .inl (c6, 16, .inl (fun _ => (0 : Int32)))), (q7, .inl (c7, 16, .inl (fun _ => (0 : Int32)))), (q8, .inl (c8, 16, .inl (fun _ => (0 : Int32))))] sz) [(h0, .inr (8, [.int 1, .ref q1, v2, .ref q3, .ref q4, .ref q5, .ref q6, .ref q7, .ref q8, v9, v10, v11, v12, v13, v14, v15, v16]))]) (va_A [(h0, .inr (8, [.int th, .ref q1, v2, .ref q3, .ref q4, .ref q5, .ref q6, .ref q7, .ref q8, v9, v10, v11, v12, v13, v14, v15, v16])), (q1, .inl (c1, 16, .inl (fun _ => (0 : Int32)))), (q3, .inl (c3, 16, .inl (fun _ => (0 : Int32)))), (q4, .inl (c4, 16, .inl (fun _ => (0 : Int32)))), (q5, .inl (c5, 16, .inl (fun _ => (0 : Int32)))), (q6, .inl (c6, 16, .inl (fun _ => (0 : Int32)))), (q7, .inl (c7, 16, .inl (fun _ => (0 : Int32)))), (q8, .inl (c8, 16, .inl (fun _ => (0 : Int32))))] sz)) 0 0 (va_A [(h0, .inr (8, [.int th, .ref q1, v2, .ref q3, .ref q4, .ref q5, .ref q6, .ref q7, .ref q8, v9, v10, v11, v12, v13, v14, v15, v16])), (q1, .inl (c1, 16, .inl (fun _ => (0 : Int32)))), (q3, .inl (c3, 16, .inl (fun _ => (0 : Int32)))), (q4, .inl (c4, 16, .inl (fun _ => (0 : Int32)))), (q5, .inl (c5, 16, .inl (fun _ => (0 : Int32)))), (q6, .inl (c6, 16, .inl (fun _ => (0 : Int32)))), (q7, .inl (c7, 16, .inl (fun _ => (0 : Int32)))), (q8, .inl (c8, 16, .inl (fun _ => (0 : Int32))))] sz) := by
  refine Met.ofW (cc := cX8_view) (maxL := 6) (ret := (some .int)) (by decide) rfl ?_
  intro p e s m args below meth c s₁ B hml hv
  obtain ⟨rfl, hsz, hP, hK, hD0⟩ := hv
  have hx := B.exec
  have hb := B.bytes
  have hr := B.returns
  have hts := atoms_spec (ws := wsP_X8_view) B.pre
  have hown : s.vm.findClass RX8 = some m.cls := findClass_of_methodNamed B.named
  have hlocks := B.notSynchronized
  subst hsz
  have hD := hD0.self (sz := s.heap.size)
  generalize hAe : va_A [(h0, .inr (8, [.int th, .ref q1, v2, .ref q3, .ref q4, .ref q5, .ref q6, .ref q7, .ref q8, v9, v10, v11, v12, v13, v14, v15, v16])), (q1, .inl (c1, 16, .inl (fun _ => (0 : Int32)))), (q3, .inl (c3, 16, .inl (fun _ => (0 : Int32)))), (q4, .inl (c4, 16, .inl (fun _ => (0 : Int32)))), (q5, .inl (c5, 16, .inl (fun _ => (0 : Int32)))), (q6, .inl (c6, 16, .inl (fun _ => (0 : Int32)))), (q7, .inl (c7, 16, .inl (fun _ => (0 : Int32)))), (q8, .inl (c8, 16, .inl (fun _ => (0 : Int32))))] s.heap.size = A at hD ⊢
  have hA : ∀ q : Nat, s.heap.size ≤ q → A q := fun q h => by rw [← hAe]; exact Or.inr h
  have hS : va_S A s.heap s.heap [] := va_S.rf
  have hP : va_P (dC, dI) vwCl [(h0, .inr (8, [.int th, .ref q1, v2, .ref q3, .ref q4, .ref q5, .ref q6, .ref q7, .ref q8, v9, v10, v11, v12, v13, v14, v15, v16])), (q1, .inl (c1, 16, .inl (fun _ => (0 : Int32)))), (q3, .inl (c3, 16, .inl (fun _ => (0 : Int32)))), (q4, .inl (c4, 16, .inl (fun _ => (0 : Int32)))), (q5, .inl (c5, 16, .inl (fun _ => (0 : Int32)))), (q6, .inl (c6, 16, .inl (fun _ => (0 : Int32)))), (q7, .inl (c7, 16, .inl (fun _ => (0 : Int32)))), (q8, .inl (c8, 16, .inl (fun _ => (0 : Int32))))] s.heap := hP
  have hl := lv_entry ([.ref h0, .int p0, .int p1, .int p2, .int p3]) (n := 6) (Nat.le_of_ble_eq_true rfl)
  rw [lg_entry_eq]
  generalize (lg_sl ([.ref h0, .int p0, .int p1, .int p2, .int p3]) ++ List.replicate (6 - (lg_sl ([.ref h0, .int p0, .int p1, .int p2, .int p3])).length) Slot.unset).toArray = ls at hl ⊢
  have hl : lv_has ls 6 [(0, .ref h0), (1, .int p0), (2, .int p1), (3, .int p2), (4, .int p3)] := hl
  refine lv_aload_n hx hb dX8_view_0 rfl (lv_at hl 0 rfl) ?_
  refine lv_iload_n hx hb dX8_view_1 rfl (lv_at hl 1 rfl) ?_
  have hPc := hP.sub (ws' := [(h0, .inr (8, [.int th, .ref q1, v2, .ref q3, .ref q4, .ref q5, .ref q6, .ref q7, .ref q8, v9, v10, v11, v12, v13, v14, v15, v16])), (q1, .inl (c1, 16, .inl (fun _ => (0 : Int32))))]) [0, 1] rfl
  have hDc := hD.sub (ws' := [(h0, .inr (8, [.int th, .ref q1, v2, .ref q3, .ref q4, .ref q5, .ref q6, .ref q7, .ref q8, v9, v10, v11, v12, v13, v14, v15, v16])), (q1, .inl (c1, 16, .inl (fun _ => (0 : Int32))))]) [0, 1] (by decide) rfl
  have hKc := hK.sub (tys' := [(c1, .int)]) [0] rfl
  have hFc := va_free (wc := [(h0, .inr (8, [.int th, .ref q1, v2, .ref q3, .ref q4, .ref q5, .ref q6, .ref q7, .ref q8, v9, v10, v11, v12, v13, v14, v15, v16])), (q1, .inl (c1, 16, .inl (fun _ => (0 : Int32))))]) hD hS hA [0, 1] rfl
  refine va_calli (va_runV (As := [.int p0]) (rest := []) ⟨hx, hb, hml, hown, hts⟩ (c_X8_isThere l  dC dI s.heap.size h0 q1 c1 th v2 (.ref q3) (.ref q4) (.ref q5) (.ref q6) (.ref q7) (.ref q8) v9 v10 v11 v12 v13 v14 v15 v16 p0) (cwV 1 hts gP_X8_view_isThere rfl rfl rfl (by decide +kernel) ⟨(Nat.le_of_ble_eq_true rfl), (Nat.le_of_ble_eq_true rfl)⟩) ⟨pk_blind, va_recv hKc hPc (ci := 8) (q0 := 0) rfl rfl, pk_call hPc hKc hDc⟩ rfl rfl hl.1 rfl (lv_room (Nat.le_of_ble_eq_true rfl)) dX8_view_2 ⟨(Nat.le_of_ble_eq_true rfl), (Nat.le_of_ble_eq_true rfl)⟩) hS (fun q _ h => hFc q h) hFc (fun r_1 ur_1 t H1 locs ht hvm hw hB hz1 hk1 hS => ?_)
  try dsimp only at hw
  obtain ⟨hP1, hK1, hD1⟩ := hB
  rw [ht] at hP1
  have hK1 := va_K.moved hvm.symm hK1
  obtain ⟨hP, hD⟩ := va_join (wr := [(q3, .inl (c3, 16, .inl (fun _ => (0 : Int32)))), (q4, .inl (c4, 16, .inl (fun _ => (0 : Int32)))), (q5, .inl (c5, 16, .inl (fun _ => (0 : Int32)))), (q6, .inl (c6, 16, .inl (fun _ => (0 : Int32)))), (q7, .inl (c7, 16, .inl (fun _ => (0 : Int32)))), (q8, .inl (c8, 16, .inl (fun _ => (0 : Int32))))]) (w1 := [(h0, .inr (8, [.int th, .ref q1, v2, .ref q3, .ref q4, .ref q5, .ref q6, .ref q7, .ref q8, v9, v10, v11, v12, v13, v14, v15, v16])), (q1, .inl (c1, 16, .inl (fun _ => (0 : Int32))))]) hP hD [0, 1] [2, 3, 4, 5, 6, 7] rfl rfl (by decide) (by decide) hk1 hFc hP1 hD1
  clear hk1 hz1 ht hPc hDc hKc
  generalize H1 = H at hP hS ⊢
  have hP : va_P (dC, dI) vwCl [(q3, .inl (c3, 16, .inl (fun _ => (0 : Int32)))), (q4, .inl (c4, 16, .inl (fun _ => (0 : Int32)))), (q5, .inl (c5, 16, .inl (fun _ => (0 : Int32)))), (q6, .inl (c6, 16, .inl (fun _ => (0 : Int32)))), (q7, .inl (c7, 16, .inl (fun _ => (0 : Int32)))), (q8, .inl (c8, 16, .inl (fun _ => (0 : Int32)))), (h0, .inr (8, [.int th, .ref q1, v2, .ref q3, .ref q4, .ref q5, .ref q6, .ref q7, .ref q8, v9, v10, v11, v12, v13, v14, v15, v16])), (q1, .inl (c1, 16, .inl (fun _ => (0 : Int32))))] H := hP
  have hD : va_D A [(q3, .inl (c3, 16, .inl (fun _ => (0 : Int32)))), (q4, .inl (c4, 16, .inl (fun _ => (0 : Int32)))), (q5, .inl (c5, 16, .inl (fun _ => (0 : Int32)))), (q6, .inl (c6, 16, .inl (fun _ => (0 : Int32)))), (q7, .inl (c7, 16, .inl (fun _ => (0 : Int32)))), (q8, .inl (c8, 16, .inl (fun _ => (0 : Int32)))), (h0, .inr (8, [.int th, .ref q1, v2, .ref q3, .ref q4, .ref q5, .ref q6, .ref q7, .ref q8, v9, v10, v11, v12, v13, v14, v15, v16])), (q1, .inl (c1, 16, .inl (fun _ => (0 : Int32))))] := hD
  refine W.widen (k := 0) (n := 0) (Nat.le_of_ble_eq_true rfl) (Nat.le_of_ble_eq_true rfl) ?_
  obtain rfl : r_1 = 0 := hw
  refine W.eq (g2 := F0 m 5 ls [.int 0]) rfl ?_
  refine lv_if_ne (tgt := 14) hx hb dX8_view_5 (by decide) (fun c_2 => absurd c_2 (by decide)) (fun c_2 => ?_)
  refine lv_aload_n hx hb dX8_view_8 rfl (lv_at hl 0 rfl) ?_
  refine lv_iconst (v := 1) hx hb dX8_view_9 (by decide) ?_
  have hPc := hP.sub (ws' := [(h0, .inr (8, [.int th, .ref q1, v2, .ref q3, .ref q4, .ref q5, .ref q6, .ref q7, .ref q8, v9, v10, v11, v12, v13, v14, v15, v16]))]) [6] rfl
  have hDc := hD.sub (ws' := [(h0, .inr (8, [.int th, .ref q1, v2, .ref q3, .ref q4, .ref q5, .ref q6, .ref q7, .ref q8, v9, v10, v11, v12, v13, v14, v15, v16]))]) [6] (by decide) rfl
  have hKc := hK.sub (tys' := []) [] rfl
  have hFc := va_free (wc := [(h0, .inr (8, [.int th, .ref q1, v2, .ref q3, .ref q4, .ref q5, .ref q6, .ref q7, .ref q8, v9, v10, v11, v12, v13, v14, v15, v16]))]) hD hS hA [6] rfl
  refine va_calli (va_runV (As := [.int 1]) (rest := []) ⟨hx, hb, hml, hown, hts⟩ (c_X8_refuse l  dC dI H.size h0 th 1 (.ref q1) v2 (.ref q3) (.ref q4) (.ref q5) (.ref q6) (.ref q7) (.ref q8) v9 v10 v11 v12 v13 v14 v15 v16) (cwV 1 hts gP_X8_view_refuse rfl rfl rfl (by decide +kernel) ⟨(Nat.le_of_ble_eq_true rfl), (Nat.le_of_ble_eq_true rfl)⟩) ⟨pk_blind, va_recv hKc hPc (ci := 8) (q0 := 0) rfl rfl, pk_call hPc hKc hDc⟩ rfl rfl hl.1 rfl (lv_room (Nat.le_of_ble_eq_true rfl)) dX8_view_10 ⟨(Nat.le_of_ble_eq_true rfl), (Nat.le_of_ble_eq_true rfl)⟩) hS (fun q _ h => hFc q h) hFc (fun r_3 ur_3 t H1 locs ht hvm hw hB hz1 hk1 hS => ?_)
  try dsimp only at hw
  have jr_3 := hw
  obtain ⟨hP1, hK1, hD1⟩ := hB
  rw [ht] at hP1
  have hK1 := va_K.moved hvm.symm hK1
  obtain ⟨hP, hD⟩ := va_join (wr := [(q3, .inl (c3, 16, .inl (fun _ => (0 : Int32)))), (q4, .inl (c4, 16, .inl (fun _ => (0 : Int32)))), (q5, .inl (c5, 16, .inl (fun _ => (0 : Int32)))), (q6, .inl (c6, 16, .inl (fun _ => (0 : Int32)))), (q7, .inl (c7, 16, .inl (fun _ => (0 : Int32)))), (q8, .inl (c8, 16, .inl (fun _ => (0 : Int32)))), (q1, .inl (c1, 16, .inl (fun _ => (0 : Int32))))]) (w1 := [(h0, .inr (8, [.int 1, .ref q1, v2, .ref q3, .ref q4, .ref q5, .ref q6, .ref q7, .ref q8, v9, v10, v11, v12, v13, v14, v15, v16]))]) hP hD [6] [0, 1, 2, 3, 4, 5, 7] rfl rfl (by decide) (by decide) hk1 hFc hP1 hD1
  clear hk1 hz1 ht hPc hDc hKc
  generalize H1 = H at hP hS ⊢
  have hP : va_P (dC, dI) vwCl [(q3, .inl (c3, 16, .inl (fun _ => (0 : Int32)))), (q4, .inl (c4, 16, .inl (fun _ => (0 : Int32)))), (q5, .inl (c5, 16, .inl (fun _ => (0 : Int32)))), (q6, .inl (c6, 16, .inl (fun _ => (0 : Int32)))), (q7, .inl (c7, 16, .inl (fun _ => (0 : Int32)))), (q8, .inl (c8, 16, .inl (fun _ => (0 : Int32)))), (q1, .inl (c1, 16, .inl (fun _ => (0 : Int32)))), (h0, .inr (8, [.int 1, .ref q1, v2, .ref q3, .ref q4, .ref q5, .ref q6, .ref q7, .ref q8, v9, v10, v11, v12, v13, v14, v15, v16]))] H := hP
  have hD : va_D A [(q3, .inl (c3, 16, .inl (fun _ => (0 : Int32)))), (q4, .inl (c4, 16, .inl (fun _ => (0 : Int32)))), (q5, .inl (c5, 16, .inl (fun _ => (0 : Int32)))), (q6, .inl (c6, 16, .inl (fun _ => (0 : Int32)))), (q7, .inl (c7, 16, .inl (fun _ => (0 : Int32)))), (q8, .inl (c8, 16, .inl (fun _ => (0 : Int32)))), (q1, .inl (c1, 16, .inl (fun _ => (0 : Int32)))), (h0, .inr (8, [.int 1, .ref q1, v2, .ref q3, .ref q4, .ref q5, .ref q6, .ref q7, .ref q8, v9, v10, v11, v12, v13, v14, v15, v16]))] := hD
  refine W.widen (k := 0) (n := 0) (Nat.le_of_ble_eq_true rfl) (Nat.le_of_ble_eq_true rfl) ?_
  refine W.eq (g2 := F0 m 13 ls [.int r_3]) rfl ?_
  have hP9 := hP.sub (ws' := [(h0, .inr (8, [.int 1, .ref q1, v2, .ref q3, .ref q4, .ref q5, .ref q6, .ref q7, .ref q8, v9, v10, v11, v12, v13, v14, v15, v16]))]) [7] rfl
  have hD9 := hD.sub (ws' := [(h0, .inr (8, [.int 1, .ref q1, v2, .ref q3, .ref q4, .ref q5, .ref q6, .ref q7, .ref q8, v9, v10, v11, v12, v13, v14, v15, v16]))]) [7] (by decide) rfl
  have hK9 := hK.sub (tys' := []) [] rfl
  refine W.widen (k := 0) (n := 0) (Nat.le_of_ble_eq_true rfl) (Nat.le_of_ble_eq_true rfl) ?_
  exact W.iret (v := r_3) hx hb hr (fun t ht hW => ⟨⟨r_3, (), rfl, trivial, by rw [ht]; exact hP9, va_K.moved hW.alike hK9, hD9⟩, hS.F ht⟩) hS.2.2 dX8_view_13
set_option maxHeartbeats 4000000 in
set_option maxRecDepth 100000 in
/-- cursor of the reference, fresh: refused -/
theorem c_X8_cursor (l : Launch) (dC : Nat → ClassId) (dI : Nat → Nat → Nat) (sz : Nat) (h0 : Nat) (th : Int32) (q1 : Nat) (q3 : Nat) (q4 : Nat) (q5 : Nat) (q6 : Nat) (q7 : Nat) (q8 : Nat) (c1 : ClassId) (c3 : ClassId) (c4 : ClassId) (c5 : ClassId) (c6 : ClassId) (c7 : ClassId) (c8 : ClassId) (v2 : Value) (v9 : Value) (v10 : Value) (v11 : Value) (v12 : Value) (v13 : Value) (v14 : Value) (v15 : Value) (v16 : Value) (p0 : Int32) : Met l yX8_cursor wsP_X8_cursor ({ frames := 2, cells := 0, slots := 0, locals := 60 }) (va_Pc [.ref h0, .int p0] (pk_Pre (dC, dI) [(h0, .inr (8, [.int th, .ref q1, v2, .ref q3, .ref q4, .ref q5, .ref q6, .ref q7, .ref q8, v9, v10, v11, v12, v13, v14, v15, v16])), (q1, .inl (c1, 16, .inl (fun _ => (0 : Int32)))), (q3, .inl (c3, 16, .inl (fun _ => (0 : Int32)))), (q4, .inl (c4, 16, .inl (fun _ => (0 : Int32)))), (q5, .inl (c5, 16, .inl (fun _ => (0 : Int32)))), (q6, .inl (c6, 16, .inl (fun _ => (0 : Int32)))), (q7, .inl (c7, 16, .inl (fun _ => (0 : Int32)))), (q8, .inl (c8, 16, .inl (fun _ => (0 : Int32))))] [(c1, .int), (c3, .int), (c4, .int), (c5, .int), (c6, .int), (c7, .int), (c8, .int)] sz)) (va_Qi (fun (r : Int32) (_ : Unit) => True) (fun (_ : Unit) (t : State) => va_P (dC, dI) vwCl [(h0, .inr (8, [.int 1, .ref q1, v2, .ref q3, .ref q4, .ref q5, .ref q6, .ref q7, .ref q8, v9, v10, v11, v12, v13, v14, v15, v16]))] t.heap ∧ va_K (dC, dI) vwCl [] t ∧ va_D (va_A [(h0, .inr (8, [.int th, .ref q1, v2, .ref q3, .ref q4, .ref q5, .ref q6, .ref q7, .ref q8, v9, v10, v11, v12, v13, v14, v15, v16])), (q1, .inl (c1, 16, .inl (fun _ => (0 : Int32)))), (q3, .inl (c3, 16, .inl (fun _ => (0 : Int32)))), (q4, .inl (c4, 16, .inl (fun _ => (0 : Int32)))), (q5, .inl (c5, 16, .inl (fun _ => (0 : Int32)))), (q6, .inl (c6, 16, .inl (fun _ => (0 : Int32)))), (q7, .inl (c7, 16, .inl (fun _ => (0 : Int32)))), (q8, .inl (c8, 16, .inl (fun _ => (0 : Int32))))] sz) [(h0, .inr (8, [.int 1, .ref q1, v2, .ref q3, .ref q4, .ref q5, .ref q6, .ref q7, .ref q8, v9, v10, v11, v12, v13, v14, v15, v16]))]) (va_A [(h0, .inr (8, [.int th, .ref q1, v2, .ref q3, .ref q4, .ref q5, .ref q6, .ref q7, .ref q8, v9, v10, v11, v12, v13, v14, v15, v16])), (q1, .inl (c1, 16, .inl (fun _ => (0 : Int32)))), (q3, .inl (c3, 16, .inl (fun _ => (0 : Int32)))), (q4, .inl (c4, 16, .inl (fun _ => (0 : Int32)))), (q5, .inl (c5, 16, .inl (fun _ => (0 : Int32)))), (q6, .inl (c6, 16, .inl (fun _ => (0 : Int32)))), (q7, .inl (c7, 16, .inl (fun _ => (0 : Int32)))), (q8, .inl (c8, 16, .inl (fun _ => (0 : Int32))))] sz)) 0 0 (va_A [(h0, .inr (8, [.int th, .ref q1, v2, .ref q3, .ref q4, .ref q5, .ref q6, .ref q7, .ref q8, v9, v10, v11, v12, v13, v14, v15, v16])), (q1, .inl (c1, 16, .inl (fun _ => (0 : Int32)))), (q3, .inl (c3, 16, .inl (fun _ => (0 : Int32)))), (q4, .inl (c4, 16, .inl (fun _ => (0 : Int32)))), (q5, .inl (c5, 16, .inl (fun _ => (0 : Int32)))), (q6, .inl (c6, 16, .inl (fun _ => (0 : Int32)))), (q7, .inl (c7, 16, .inl (fun _ => (0 : Int32)))), (q8, .inl (c8, 16, .inl (fun _ => (0 : Int32))))] sz) := by
  refine Met.ofW (cc := cX8_cursor) (maxL := 3) (ret := (some .int)) (by decide) rfl ?_
  intro p e s m args below meth c s₁ B hml hv
  obtain ⟨rfl, hsz, hP, hK, hD0⟩ := hv
  have hx := B.exec
  have hb := B.bytes
  have hr := B.returns
  have hts := atoms_spec (ws := wsP_X8_cursor) B.pre
  have hown : s.vm.findClass RX8 = some m.cls := findClass_of_methodNamed B.named
  have hlocks := B.notSynchronized
  subst hsz
  have hD := hD0.self (sz := s.heap.size)
  generalize hAe : va_A [(h0, .inr (8, [.int th, .ref q1, v2, .ref q3, .ref q4, .ref q5, .ref q6, .ref q7, .ref q8, v9, v10, v11, v12, v13, v14, v15, v16])), (q1, .inl (c1, 16, .inl (fun _ => (0 : Int32)))), (q3, .inl (c3, 16, .inl (fun _ => (0 : Int32)))), (q4, .inl (c4, 16, .inl (fun _ => (0 : Int32)))), (q5, .inl (c5, 16, .inl (fun _ => (0 : Int32)))), (q6, .inl (c6, 16, .inl (fun _ => (0 : Int32)))), (q7, .inl (c7, 16, .inl (fun _ => (0 : Int32)))), (q8, .inl (c8, 16, .inl (fun _ => (0 : Int32))))] s.heap.size = A at hD ⊢
  have hA : ∀ q : Nat, s.heap.size ≤ q → A q := fun q h => by rw [← hAe]; exact Or.inr h
  have hS : va_S A s.heap s.heap [] := va_S.rf
  have hP : va_P (dC, dI) vwCl [(h0, .inr (8, [.int th, .ref q1, v2, .ref q3, .ref q4, .ref q5, .ref q6, .ref q7, .ref q8, v9, v10, v11, v12, v13, v14, v15, v16])), (q1, .inl (c1, 16, .inl (fun _ => (0 : Int32)))), (q3, .inl (c3, 16, .inl (fun _ => (0 : Int32)))), (q4, .inl (c4, 16, .inl (fun _ => (0 : Int32)))), (q5, .inl (c5, 16, .inl (fun _ => (0 : Int32)))), (q6, .inl (c6, 16, .inl (fun _ => (0 : Int32)))), (q7, .inl (c7, 16, .inl (fun _ => (0 : Int32)))), (q8, .inl (c8, 16, .inl (fun _ => (0 : Int32))))] s.heap := hP
  have hl := lv_entry ([.ref h0, .int p0]) (n := 3) (Nat.le_of_ble_eq_true rfl)
  rw [lg_entry_eq]
  generalize (lg_sl ([.ref h0, .int p0]) ++ List.replicate (3 - (lg_sl ([.ref h0, .int p0])).length) Slot.unset).toArray = ls at hl ⊢
  have hl : lv_has ls 3 [(0, .ref h0), (1, .int p0)] := hl
  refine lv_aload_n hx hb dX8_cursor_0 rfl (lv_at hl 0 rfl) ?_
  refine lv_iload_n hx hb dX8_cursor_1 rfl (lv_at hl 1 rfl) ?_
  have hPc := hP.sub (ws' := [(h0, .inr (8, [.int th, .ref q1, v2, .ref q3, .ref q4, .ref q5, .ref q6, .ref q7, .ref q8, v9, v10, v11, v12, v13, v14, v15, v16])), (q1, .inl (c1, 16, .inl (fun _ => (0 : Int32))))]) [0, 1] rfl
  have hDc := hD.sub (ws' := [(h0, .inr (8, [.int th, .ref q1, v2, .ref q3, .ref q4, .ref q5, .ref q6, .ref q7, .ref q8, v9, v10, v11, v12, v13, v14, v15, v16])), (q1, .inl (c1, 16, .inl (fun _ => (0 : Int32))))]) [0, 1] (by decide) rfl
  have hKc := hK.sub (tys' := [(c1, .int)]) [0] rfl
  have hFc := va_free (wc := [(h0, .inr (8, [.int th, .ref q1, v2, .ref q3, .ref q4, .ref q5, .ref q6, .ref q7, .ref q8, v9, v10, v11, v12, v13, v14, v15, v16])), (q1, .inl (c1, 16, .inl (fun _ => (0 : Int32))))]) hD hS hA [0, 1] rfl
  refine va_calli (va_runV (As := [.int p0]) (rest := []) ⟨hx, hb, hml, hown, hts⟩ (c_X8_isThere l  dC dI s.heap.size h0 q1 c1 th v2 (.ref q3) (.ref q4) (.ref q5) (.ref q6) (.ref q7) (.ref q8) v9 v10 v11 v12 v13 v14 v15 v16 p0) (cwV 1 hts gP_X8_cursor_isThere rfl rfl rfl (by decide +kernel) ⟨(Nat.le_of_ble_eq_true rfl), (Nat.le_of_ble_eq_true rfl)⟩) ⟨pk_blind, va_recv hKc hPc (ci := 8) (q0 := 0) rfl rfl, pk_call hPc hKc hDc⟩ rfl rfl hl.1 rfl (lv_room (Nat.le_of_ble_eq_true rfl)) dX8_cursor_2 ⟨(Nat.le_of_ble_eq_true rfl), (Nat.le_of_ble_eq_true rfl)⟩) hS (fun q _ h => hFc q h) hFc (fun r_1 ur_1 t H1 locs ht hvm hw hB hz1 hk1 hS => ?_)
  try dsimp only at hw
  obtain ⟨hP1, hK1, hD1⟩ := hB
  rw [ht] at hP1
  have hK1 := va_K.moved hvm.symm hK1
  obtain ⟨hP, hD⟩ := va_join (wr := [(q3, .inl (c3, 16, .inl (fun _ => (0 : Int32)))), (q4, .inl (c4, 16, .inl (fun _ => (0 : Int32)))), (q5, .inl (c5, 16, .inl (fun _ => (0 : Int32)))), (q6, .inl (c6, 16, .inl (fun _ => (0 : Int32)))), (q7, .inl (c7, 16, .inl (fun _ => (0 : Int32)))), (q8, .inl (c8, 16, .inl (fun _ => (0 : Int32))))]) (w1 := [(h0, .inr (8, [.int th, .ref q1, v2, .ref q3, .ref q4, .ref q5, .ref q6, .ref q7, .ref q8, v9, v10, v11, v12, v13, v14, v15, v16])), (q1, .inl (c1, 16, .inl (fun _ => (0 : Int32))))]) hP hD [0, 1] [2, 3, 4, 5, 6, 7] rfl rfl (by decide) (by decide) hk1 hFc hP1 hD1
  clear hk1 hz1 ht hPc hDc hKc
  generalize H1 = H at hP hS ⊢
  have hP : va_P (dC, dI) vwCl [(q3, .inl (c3, 16, .inl (fun _ => (0 : Int32)))), (q4, .inl (c4, 16, .inl (fun _ => (0 : Int32)))), (q5, .inl (c5, 16, .inl (fun _ => (0 : Int32)))), (q6, .inl (c6, 16, .inl (fun _ => (0 : Int32)))), (q7, .inl (c7, 16, .inl (fun _ => (0 : Int32)))), (q8, .inl (c8, 16, .inl (fun _ => (0 : Int32)))), (h0, .inr (8, [.int th, .ref q1, v2, .ref q3, .ref q4, .ref q5, .ref q6, .ref q7, .ref q8, v9, v10, v11, v12, v13, v14, v15, v16])), (q1, .inl (c1, 16, .inl (fun _ => (0 : Int32))))] H := hP
  have hD : va_D A [(q3, .inl (c3, 16, .inl (fun _ => (0 : Int32)))), (q4, .inl (c4, 16, .inl (fun _ => (0 : Int32)))), (q5, .inl (c5, 16, .inl (fun _ => (0 : Int32)))), (q6, .inl (c6, 16, .inl (fun _ => (0 : Int32)))), (q7, .inl (c7, 16, .inl (fun _ => (0 : Int32)))), (q8, .inl (c8, 16, .inl (fun _ => (0 : Int32)))), (h0, .inr (8, [.int th, .ref q1, v2, .ref q3, .ref q4, .ref q5, .ref q6, .ref q7, .ref q8, v9, v10, v11, v12, v13, v14, v15, v16])), (q1, .inl (c1, 16, .inl (fun _ => (0 : Int32))))] := hD
  refine W.widen (k := 0) (n := 0) (Nat.le_of_ble_eq_true rfl) (Nat.le_of_ble_eq_true rfl) ?_
  obtain rfl : r_1 = 0 := hw
  refine W.eq (g2 := F0 m 5 ls [.int 0]) rfl ?_
  refine lv_if_ne (tgt := 14) hx hb dX8_cursor_5 (by decide) (fun c_2 => absurd c_2 (by decide)) (fun c_2 => ?_)
  refine lv_aload_n hx hb dX8_cursor_8 rfl (lv_at hl 0 rfl) ?_
  refine lv_iconst (v := 1) hx hb dX8_cursor_9 (by decide) ?_
  have hPc := hP.sub (ws' := [(h0, .inr (8, [.int th, .ref q1, v2, .ref q3, .ref q4, .ref q5, .ref q6, .ref q7, .ref q8, v9, v10, v11, v12, v13, v14, v15, v16]))]) [6] rfl
  have hDc := hD.sub (ws' := [(h0, .inr (8, [.int th, .ref q1, v2, .ref q3, .ref q4, .ref q5, .ref q6, .ref q7, .ref q8, v9, v10, v11, v12, v13, v14, v15, v16]))]) [6] (by decide) rfl
  have hKc := hK.sub (tys' := []) [] rfl
  have hFc := va_free (wc := [(h0, .inr (8, [.int th, .ref q1, v2, .ref q3, .ref q4, .ref q5, .ref q6, .ref q7, .ref q8, v9, v10, v11, v12, v13, v14, v15, v16]))]) hD hS hA [6] rfl
  refine va_calli (va_runV (As := [.int 1]) (rest := []) ⟨hx, hb, hml, hown, hts⟩ (c_X8_refuse l  dC dI H.size h0 th 1 (.ref q1) v2 (.ref q3) (.ref q4) (.ref q5) (.ref q6) (.ref q7) (.ref q8) v9 v10 v11 v12 v13 v14 v15 v16) (cwV 1 hts gP_X8_cursor_refuse rfl rfl rfl (by decide +kernel) ⟨(Nat.le_of_ble_eq_true rfl), (Nat.le_of_ble_eq_true rfl)⟩) ⟨pk_blind, va_recv hKc hPc (ci := 8) (q0 := 0) rfl rfl, pk_call hPc hKc hDc⟩ rfl rfl hl.1 rfl (lv_room (Nat.le_of_ble_eq_true rfl)) dX8_cursor_10 ⟨(Nat.le_of_ble_eq_true rfl), (Nat.le_of_ble_eq_true rfl)⟩) hS (fun q _ h => hFc q h) hFc (fun r_3 ur_3 t H1 locs ht hvm hw hB hz1 hk1 hS => ?_)
  try dsimp only at hw
  have jr_3 := hw
  obtain ⟨hP1, hK1, hD1⟩ := hB
  rw [ht] at hP1
  have hK1 := va_K.moved hvm.symm hK1
  obtain ⟨hP, hD⟩ := va_join (wr := [(q3, .inl (c3, 16, .inl (fun _ => (0 : Int32)))), (q4, .inl (c4, 16, .inl (fun _ => (0 : Int32)))), (q5, .inl (c5, 16, .inl (fun _ => (0 : Int32)))), (q6, .inl (c6, 16, .inl (fun _ => (0 : Int32)))), (q7, .inl (c7, 16, .inl (fun _ => (0 : Int32)))), (q8, .inl (c8, 16, .inl (fun _ => (0 : Int32)))), (q1, .inl (c1, 16, .inl (fun _ => (0 : Int32))))]) (w1 := [(h0, .inr (8, [.int 1, .ref q1, v2, .ref q3, .ref q4, .ref q5, .ref q6, .ref q7, .ref q8, v9, v10, v11, v12, v13, v14, v15, v16]))]) hP hD [6] [0, 1, 2, 3, 4, 5, 7] rfl rfl (by decide) (by decide) hk1 hFc hP1 hD1
  clear hk1 hz1 ht hPc hDc hKc
  generalize H1 = H at hP hS ⊢
  have hP : va_P (dC, dI) vwCl [(q3, .inl (c3, 16, .inl (fun _ => (0 : Int32)))), (q4, .inl (c4, 16, .inl (fun _ => (0 : Int32)))), (q5, .inl (c5, 16, .inl (fun _ => (0 : Int32)))), (q6, .inl (c6, 16, .inl (fun _ => (0 : Int32)))), (q7, .inl (c7, 16, .inl (fun _ => (0 : Int32)))), (q8, .inl (c8, 16, .inl (fun _ => (0 : Int32)))), (q1, .inl (c1, 16, .inl (fun _ => (0 : Int32)))), (h0, .inr (8, [.int 1, .ref q1, v2, .ref q3, .ref q4, .ref q5, .ref q6, .ref q7, .ref q8, v9, v10, v11, v12, v13, v14, v15, v16]))] H := hP
  have hD : va_D A [(q3, .inl (c3, 16, .inl (fun _ => (0 : Int32)))), (q4, .inl (c4, 16, .inl (fun _ => (0 : Int32)))), (q5, .inl (c5, 16, .inl (fun _ => (0 : Int32)))), (q6, .inl (c6, 16, .inl (fun _ => (0 : Int32)))), (q7, .inl (c7, 16, .inl (fun _ => (0 : Int32)))), (q8, .inl (c8, 16, .inl (fun _ => (0 : Int32)))), (q1, .inl (c1, 16, .inl (fun _ => (0 : Int32)))), (h0, .inr (8, [.int 1, .ref q1, v2, .ref q3, .ref q4, .ref q5, .ref q6, .ref q7, .ref q8, v9, v10, v11, v12, v13, v14, v15, v16]))] := hD
  refine W.widen (k := 0) (n := 0) (Nat.le_of_ble_eq_true rfl) (Nat.le_of_ble_eq_true rfl) ?_
  refine W.eq (g2 := F0 m 13 ls [.int r_3]) rfl ?_
  have hP9 := hP.sub (ws' := [(h0, .inr (8, [.int 1, .ref q1, v2, .ref q3, .ref q4, .ref q5, .ref q6, .ref q7, .ref q8, v9, v10, v11, v12, v13, v14, v15, v16]))]) [7] rfl
  have hD9 := hD.sub (ws' := [(h0, .inr (8, [.int 1, .ref q1, v2, .ref q3, .ref q4, .ref q5, .ref q6, .ref q7, .ref q8, v9, v10, v11, v12, v13, v14, v15, v16]))]) [7] (by decide) rfl
  have hK9 := hK.sub (tys' := []) [] rfl
  refine W.widen (k := 0) (n := 0) (Nat.le_of_ble_eq_true rfl) (Nat.le_of_ble_eq_true rfl) ?_
  exact W.iret (v := r_3) hx hb hr (fun t ht hW => ⟨⟨r_3, (), rfl, trivial, by rw [ht]; exact hP9, va_K.moved hW.alike hK9, hD9⟩, hS.F ht⟩) hS.2.2 dX8_cursor_13
set_option maxHeartbeats 4000000 in
set_option maxRecDepth 100000 in
/-- move of the reference, fresh: refused -/
theorem c_X8_move (l : Launch) (dC : Nat → ClassId) (dI : Nat → Nat → Nat) (sz : Nat) (h0 : Nat) (th : Int32) (q1 : Nat) (q3 : Nat) (q4 : Nat) (q5 : Nat) (q6 : Nat) (q7 : Nat) (q8 : Nat) (c1 : ClassId) (c3 : ClassId) (c4 : ClassId) (c5 : ClassId) (c6 : ClassId) (c7 : ClassId) (c8 : ClassId) (v2 : Value) (v9 : Value) (v10 : Value) (v11 : Value) (v12 : Value) (v13 : Value) (v14 : Value) (v15 : Value) (v16 : Value) (p0 : Int32) (p1 : Int32) (p2 : Int32) : Met l yX8_move wsP_X8_move ({ frames := 2, cells := 0, slots := 0, locals := 60 }) (va_Pc [.ref h0, .int p0, .int p1, .int p2] (pk_Pre (dC, dI) [(h0, .inr (8, [.int th, .ref q1, v2, .ref q3, .ref q4, .ref q5, .ref q6, .ref q7, .ref q8, v9, v10, v11, v12, v13, v14, v15, v16])), (q1, .inl (c1, 16, .inl (fun _ => (0 : Int32)))), (q3, .inl (c3, 16, .inl (fun _ => (0 : Int32)))), (q4, .inl (c4, 16, .inl (fun _ => (0 : Int32)))), (q5, .inl (c5, 16, .inl (fun _ => (0 : Int32)))), (q6, .inl (c6, 16, .inl (fun _ => (0 : Int32)))), (q7, .inl (c7, 16, .inl (fun _ => (0 : Int32)))), (q8, .inl (c8, 16, .inl (fun _ => (0 : Int32))))] [(c1, .int), (c3, .int), (c4, .int), (c5, .int), (c6, .int), (c7, .int), (c8, .int)] sz)) (va_Ql (fun (r : Int64) (_ : Unit) => True) (fun (_ : Unit) (t : State) => va_P (dC, dI) vwCl [(h0, .inr (8, [.int 1, .ref q1, v2, .ref q3, .ref q4, .ref q5, .ref q6, .ref q7, .ref q8, v9, v10, v11, v12, v13, v14, v15, v16]))] t.heap ∧ va_K (dC, dI) vwCl [] t ∧ va_D (va_A [(h0, .inr (8, [.int th, .ref q1, v2, .ref q3, .ref q4, .ref q5, .ref q6, .ref q7, .ref q8, v9, v10, v11, v12, v13, v14, v15, v16])), (q1, .inl (c1, 16, .inl (fun _ => (0 : Int32)))), (q3, .inl (c3, 16, .inl (fun _ => (0 : Int32)))), (q4, .inl (c4, 16, .inl (fun _ => (0 : Int32)))), (q5, .inl (c5, 16, .inl (fun _ => (0 : Int32)))), (q6, .inl (c6, 16, .inl (fun _ => (0 : Int32)))), (q7, .inl (c7, 16, .inl (fun _ => (0 : Int32)))), (q8, .inl (c8, 16, .inl (fun _ => (0 : Int32))))] sz) [(h0, .inr (8, [.int 1, .ref q1, v2, .ref q3, .ref q4, .ref q5, .ref q6, .ref q7, .ref q8, v9, v10, v11, v12, v13, v14, v15, v16]))]) (va_A [(h0, .inr (8, [.int th, .ref q1, v2, .ref q3, .ref q4, .ref q5, .ref q6, .ref q7, .ref q8, v9, v10, v11, v12, v13, v14, v15, v16])), (q1, .inl (c1, 16, .inl (fun _ => (0 : Int32)))), (q3, .inl (c3, 16, .inl (fun _ => (0 : Int32)))), (q4, .inl (c4, 16, .inl (fun _ => (0 : Int32)))), (q5, .inl (c5, 16, .inl (fun _ => (0 : Int32)))), (q6, .inl (c6, 16, .inl (fun _ => (0 : Int32)))), (q7, .inl (c7, 16, .inl (fun _ => (0 : Int32)))), (q8, .inl (c8, 16, .inl (fun _ => (0 : Int32))))] sz)) 0 0 (va_A [(h0, .inr (8, [.int th, .ref q1, v2, .ref q3, .ref q4, .ref q5, .ref q6, .ref q7, .ref q8, v9, v10, v11, v12, v13, v14, v15, v16])), (q1, .inl (c1, 16, .inl (fun _ => (0 : Int32)))), (q3, .inl (c3, 16, .inl (fun _ => (0 : Int32)))), (q4, .inl (c4, 16, .inl (fun _ => (0 : Int32)))), (q5, .inl (c5, 16, .inl (fun _ => (0 : Int32)))), (q6, .inl (c6, 16, .inl (fun _ => (0 : Int32)))), (q7, .inl (c7, 16, .inl (fun _ => (0 : Int32)))), (q8, .inl (c8, 16, .inl (fun _ => (0 : Int32))))] sz) := by
  refine Met.ofW (cc := cX8_move) (maxL := 9) (ret := (some .long)) (by decide) rfl ?_
  intro p e s m args below meth c s₁ B hml hv
  obtain ⟨rfl, hsz, hP, hK, hD0⟩ := hv
  have hx := B.exec
  have hb := B.bytes
  have hr := B.returns
  have hts := atoms_spec (ws := wsP_X8_move) B.pre
  have hown : s.vm.findClass RX8 = some m.cls := findClass_of_methodNamed B.named
  have hlocks := B.notSynchronized
  subst hsz
  have hD := hD0.self (sz := s.heap.size)
  generalize hAe : va_A [(h0, .inr (8, [.int th, .ref q1, v2, .ref q3, .ref q4, .ref q5, .ref q6, .ref q7, .ref q8, v9, v10, v11, v12, v13, v14, v15, v16])), (q1, .inl (c1, 16, .inl (fun _ => (0 : Int32)))), (q3, .inl (c3, 16, .inl (fun _ => (0 : Int32)))), (q4, .inl (c4, 16, .inl (fun _ => (0 : Int32)))), (q5, .inl (c5, 16, .inl (fun _ => (0 : Int32)))), (q6, .inl (c6, 16, .inl (fun _ => (0 : Int32)))), (q7, .inl (c7, 16, .inl (fun _ => (0 : Int32)))), (q8, .inl (c8, 16, .inl (fun _ => (0 : Int32))))] s.heap.size = A at hD ⊢
  have hA : ∀ q : Nat, s.heap.size ≤ q → A q := fun q h => by rw [← hAe]; exact Or.inr h
  have hS : va_S A s.heap s.heap [] := va_S.rf
  have hP : va_P (dC, dI) vwCl [(h0, .inr (8, [.int th, .ref q1, v2, .ref q3, .ref q4, .ref q5, .ref q6, .ref q7, .ref q8, v9, v10, v11, v12, v13, v14, v15, v16])), (q1, .inl (c1, 16, .inl (fun _ => (0 : Int32)))), (q3, .inl (c3, 16, .inl (fun _ => (0 : Int32)))), (q4, .inl (c4, 16, .inl (fun _ => (0 : Int32)))), (q5, .inl (c5, 16, .inl (fun _ => (0 : Int32)))), (q6, .inl (c6, 16, .inl (fun _ => (0 : Int32)))), (q7, .inl (c7, 16, .inl (fun _ => (0 : Int32)))), (q8, .inl (c8, 16, .inl (fun _ => (0 : Int32))))] s.heap := hP
  have hl := lv_entry ([.ref h0, .int p0, .int p1, .int p2]) (n := 9) (Nat.le_of_ble_eq_true rfl)
  rw [lg_entry_eq]
  generalize (lg_sl ([.ref h0, .int p0, .int p1, .int p2]) ++ List.replicate (9 - (lg_sl ([.ref h0, .int p0, .int p1, .int p2])).length) Slot.unset).toArray = ls at hl ⊢
  have hl : lv_has ls 9 [(0, .ref h0), (1, .int p0), (2, .int p1), (3, .int p2)] := hl
  refine lv_aload_n hx hb dX8_move_0 rfl (lv_at hl 0 rfl) ?_
  refine lv_iload_n hx hb dX8_move_1 rfl (lv_at hl 1 rfl) ?_
  have hPc := hP.sub (ws' := [(h0, .inr (8, [.int th, .ref q1, v2, .ref q3, .ref q4, .ref q5, .ref q6, .ref q7, .ref q8, v9, v10, v11, v12, v13, v14, v15, v16])), (q1, .inl (c1, 16, .inl (fun _ => (0 : Int32))))]) [0, 1] rfl
  have hDc := hD.sub (ws' := [(h0, .inr (8, [.int th, .ref q1, v2, .ref q3, .ref q4, .ref q5, .ref q6, .ref q7, .ref q8, v9, v10, v11, v12, v13, v14, v15, v16])), (q1, .inl (c1, 16, .inl (fun _ => (0 : Int32))))]) [0, 1] (by decide) rfl
  have hKc := hK.sub (tys' := [(c1, .int)]) [0] rfl
  have hFc := va_free (wc := [(h0, .inr (8, [.int th, .ref q1, v2, .ref q3, .ref q4, .ref q5, .ref q6, .ref q7, .ref q8, v9, v10, v11, v12, v13, v14, v15, v16])), (q1, .inl (c1, 16, .inl (fun _ => (0 : Int32))))]) hD hS hA [0, 1] rfl
  refine va_calli (va_runV (As := [.int p0]) (rest := []) ⟨hx, hb, hml, hown, hts⟩ (c_X8_isThere l  dC dI s.heap.size h0 q1 c1 th v2 (.ref q3) (.ref q4) (.ref q5) (.ref q6) (.ref q7) (.ref q8) v9 v10 v11 v12 v13 v14 v15 v16 p0) (cwV 1 hts gP_X8_move_isThere rfl rfl rfl (by decide +kernel) ⟨(Nat.le_of_ble_eq_true rfl), (Nat.le_of_ble_eq_true rfl)⟩) ⟨pk_blind, va_recv hKc hPc (ci := 8) (q0 := 0) rfl rfl, pk_call hPc hKc hDc⟩ rfl rfl hl.1 rfl (lv_room (Nat.le_of_ble_eq_true rfl)) dX8_move_2 ⟨(Nat.le_of_ble_eq_true rfl), (Nat.le_of_ble_eq_true rfl)⟩) hS (fun q _ h => hFc q h) hFc (fun r_1 ur_1 t H1 locs ht hvm hw hB hz1 hk1 hS => ?_)
  try dsimp only at hw
  obtain ⟨hP1, hK1, hD1⟩ := hB
  rw [ht] at hP1
  have hK1 := va_K.moved hvm.symm hK1
  obtain ⟨hP, hD⟩ := va_join (wr := [(q3, .inl (c3, 16, .inl (fun _ => (0 : Int32)))), (q4, .inl (c4, 16, .inl (fun _ => (0 : Int32)))), (q5, .inl (c5, 16, .inl (fun _ => (0 : Int32)))), (q6, .inl (c6, 16, .inl (fun _ => (0 : Int32)))), (q7, .inl (c7, 16, .inl (fun _ => (0 : Int32)))), (q8, .inl (c8, 16, .inl (fun _ => (0 : Int32))))]) (w1 := [(h0, .inr (8, [.int th, .ref q1, v2, .ref q3, .ref q4, .ref q5, .ref q6, .ref q7, .ref q8, v9, v10, v11, v12, v13, v14, v15, v16])), (q1, .inl (c1, 16, .inl (fun _ => (0 : Int32))))]) hP hD [0, 1] [2, 3, 4, 5, 6, 7] rfl rfl (by decide) (by decide) hk1 hFc hP1 hD1
  clear hk1 hz1 ht hPc hDc hKc
  generalize H1 = H at hP hS ⊢
  have hP : va_P (dC, dI) vwCl [(q3, .inl (c3, 16, .inl (fun _ => (0 : Int32)))), (q4, .inl (c4, 16, .inl (fun _ => (0 : Int32)))), (q5, .inl (c5, 16, .inl (fun _ => (0 : Int32)))), (q6, .inl (c6, 16, .inl (fun _ => (0 : Int32)))), (q7, .inl (c7, 16, .inl (fun _ => (0 : Int32)))), (q8, .inl (c8, 16, .inl (fun _ => (0 : Int32)))), (h0, .inr (8, [.int th, .ref q1, v2, .ref q3, .ref q4, .ref q5, .ref q6, .ref q7, .ref q8, v9, v10, v11, v12, v13, v14, v15, v16])), (q1, .inl (c1, 16, .inl (fun _ => (0 : Int32))))] H := hP
  have hD : va_D A [(q3, .inl (c3, 16, .inl (fun _ => (0 : Int32)))), (q4, .inl (c4, 16, .inl (fun _ => (0 : Int32)))), (q5, .inl (c5, 16, .inl (fun _ => (0 : Int32)))), (q6, .inl (c6, 16, .inl (fun _ => (0 : Int32)))), (q7, .inl (c7, 16, .inl (fun _ => (0 : Int32)))), (q8, .inl (c8, 16, .inl (fun _ => (0 : Int32)))), (h0, .inr (8, [.int th, .ref q1, v2, .ref q3, .ref q4, .ref q5, .ref q6, .ref q7, .ref q8, v9, v10, v11, v12, v13, v14, v15, v16])), (q1, .inl (c1, 16, .inl (fun _ => (0 : Int32))))] := hD
  refine W.widen (k := 0) (n := 0) (Nat.le_of_ble_eq_true rfl) (Nat.le_of_ble_eq_true rfl) ?_
  obtain rfl : r_1 = 0 := hw
  refine W.eq (g2 := F0 m 5 ls [.int 0]) rfl ?_
  refine lv_if_ne (tgt := 15) hx hb dX8_move_5 (by decide) (fun c_2 => absurd c_2 (by decide)) (fun c_2 => ?_)
  refine lv_aload_n hx hb dX8_move_8 rfl (lv_at hl 0 rfl) ?_
  refine lv_iconst (v := 1) hx hb dX8_move_9 (by decide) ?_
  have hPc := hP.sub (ws' := [(h0, .inr (8, [.int th, .ref q1, v2, .ref q3, .ref q4, .ref q5, .ref q6, .ref q7, .ref q8, v9, v10, v11, v12, v13, v14, v15, v16]))]) [6] rfl
  have hDc := hD.sub (ws' := [(h0, .inr (8, [.int th, .ref q1, v2, .ref q3, .ref q4, .ref q5, .ref q6, .ref q7, .ref q8, v9, v10, v11, v12, v13, v14, v15, v16]))]) [6] (by decide) rfl
  have hKc := hK.sub (tys' := []) [] rfl
  have hFc := va_free (wc := [(h0, .inr (8, [.int th, .ref q1, v2, .ref q3, .ref q4, .ref q5, .ref q6, .ref q7, .ref q8, v9, v10, v11, v12, v13, v14, v15, v16]))]) hD hS hA [6] rfl
  refine va_calli (va_runV (As := [.int 1]) (rest := []) ⟨hx, hb, hml, hown, hts⟩ (c_X8_refuse l  dC dI H.size h0 th 1 (.ref q1) v2 (.ref q3) (.ref q4) (.ref q5) (.ref q6) (.ref q7) (.ref q8) v9 v10 v11 v12 v13 v14 v15 v16) (cwV 1 hts gP_X8_move_refuse rfl rfl rfl (by decide +kernel) ⟨(Nat.le_of_ble_eq_true rfl), (Nat.le_of_ble_eq_true rfl)⟩) ⟨pk_blind, va_recv hKc hPc (ci := 8) (q0 := 0) rfl rfl, pk_call hPc hKc hDc⟩ rfl rfl hl.1 rfl (lv_room (Nat.le_of_ble_eq_true rfl)) dX8_move_10 ⟨(Nat.le_of_ble_eq_true rfl), (Nat.le_of_ble_eq_true rfl)⟩) hS (fun q _ h => hFc q h) hFc (fun r_3 ur_3 t H1 locs ht hvm hw hB hz1 hk1 hS => ?_)
  try dsimp only at hw
  have jr_3 := hw
  obtain ⟨hP1, hK1, hD1⟩ := hB
  rw [ht] at hP1
  have hK1 := va_K.moved hvm.symm hK1
  obtain ⟨hP, hD⟩ := va_join (wr := [(q3, .inl (c3, 16, .inl (fun _ => (0 : Int32)))), (q4, .inl (c4, 16, .inl (fun _ => (0 : Int32)))), (q5, .inl (c5, 16, .inl (fun _ => (0 : Int32)))), (q6, .inl (c6, 16, .inl (fun _ => (0 : Int32)))), (q7, .inl (c7, 16, .inl (fun _ => (0 : Int32)))), (q8, .inl (c8, 16, .inl (fun _ => (0 : Int32)))), (q1, .inl (c1, 16, .inl (fun _ => (0 : Int32))))]) (w1 := [(h0, .inr (8, [.int 1, .ref q1, v2, .ref q3, .ref q4, .ref q5, .ref q6, .ref q7, .ref q8, v9, v10, v11, v12, v13, v14, v15, v16]))]) hP hD [6] [0, 1, 2, 3, 4, 5, 7] rfl rfl (by decide) (by decide) hk1 hFc hP1 hD1
  clear hk1 hz1 ht hPc hDc hKc
  generalize H1 = H at hP hS ⊢
  have hP : va_P (dC, dI) vwCl [(q3, .inl (c3, 16, .inl (fun _ => (0 : Int32)))), (q4, .inl (c4, 16, .inl (fun _ => (0 : Int32)))), (q5, .inl (c5, 16, .inl (fun _ => (0 : Int32)))), (q6, .inl (c6, 16, .inl (fun _ => (0 : Int32)))), (q7, .inl (c7, 16, .inl (fun _ => (0 : Int32)))), (q8, .inl (c8, 16, .inl (fun _ => (0 : Int32)))), (q1, .inl (c1, 16, .inl (fun _ => (0 : Int32)))), (h0, .inr (8, [.int 1, .ref q1, v2, .ref q3, .ref q4, .ref q5, .ref q6, .ref q7, .ref q8, v9, v10, v11, v12, v13, v14, v15, v16]))] H := hP
  have hD : va_D A [(q3, .inl (c3, 16, .inl (fun _ => (0 : Int32)))), (q4, .inl (c4, 16, .inl (fun _ => (0 : Int32)))), (q5, .inl (c5, 16, .inl (fun _ => (0 : Int32)))), (q6, .inl (c6, 16, .inl (fun _ => (0 : Int32)))), (q7, .inl (c7, 16, .inl (fun _ => (0 : Int32)))), (q8, .inl (c8, 16, .inl (fun _ => (0 : Int32)))), (q1, .inl (c1, 16, .inl (fun _ => (0 : Int32)))), (h0, .inr (8, [.int 1, .ref q1, v2, .ref q3, .ref q4, .ref q5, .ref q6, .ref q7, .ref q8, v9, v10, v11, v12, v13, v14, v15, v16]))] := hD
  refine W.widen (k := 0) (n := 0) (Nat.le_of_ble_eq_true rfl) (Nat.le_of_ble_eq_true rfl) ?_
  refine W.eq (g2 := F0 m 13 ls [.int r_3]) rfl ?_
  refine lv_i2l (v := r_3.toInt64) hx hb dX8_move_13 rfl ?_
  have hP9 := hP.sub (ws' := [(h0, .inr (8, [.int 1, .ref q1, v2, .ref q3, .ref q4, .ref q5, .ref q6, .ref q7, .ref q8, v9, v10, v11, v12, v13, v14, v15, v16]))]) [7] rfl
  have hD9 := hD.sub (ws' := [(h0, .inr (8, [.int 1, .ref q1, v2, .ref q3, .ref q4, .ref q5, .ref q6, .ref q7, .ref q8, v9, v10, v11, v12, v13, v14, v15, v16]))]) [7] (by decide) rfl
  have hK9 := hK.sub (tys' := []) [] rfl
  refine W.widen (k := 0) (n := 0) (Nat.le_of_ble_eq_true rfl) (Nat.le_of_ble_eq_true rfl) ?_
  exact W.lret (v := r_3.toInt64) hx hb hr (fun t ht hW => ⟨⟨r_3.toInt64, (), rfl, trivial, by rw [ht]; exact hP9, va_K.moved hW.alike hK9, hD9⟩, hS.F ht⟩) hS.2.2 dX8_move_14
set_option maxHeartbeats 4000000 in
set_option maxRecDepth 100000 in
/-- item of the reference, fresh: refused -/
theorem c_X8_item (l : Launch) (dC : Nat → ClassId) (dI : Nat → Nat → Nat) (sz : Nat) (h0 : Nat) (th : Int32) (q1 : Nat) (q3 : Nat) (q4 : Nat) (q5 : Nat) (q6 : Nat) (q7 : Nat) (q8 : Nat) (c1 : ClassId) (c3 : ClassId) (c4 : ClassId) (c5 : ClassId) (c6 : ClassId) (c7 : ClassId) (c8 : ClassId) (v2 : Value) (v9 : Value) (v10 : Value) (v11 : Value) (v12 : Value) (v13 : Value) (v14 : Value) (v15 : Value) (v16 : Value) (p0 : Int32) (p1 : Int32) (p2 : Int32) : Met l yX8_item wsP_X8_item ({ frames := 2, cells := 0, slots := 0, locals := 60 }) (va_Pc [.ref h0, .int p0, .int p1, .int p2] (pk_Pre (dC, dI) [(h0, .inr (8, [.int th, .ref q1, v2, .ref q3, .ref q4, .ref q5, .ref q6, .ref q7, .ref q8, v9, v10, v11, v12, v13, v14, v15, v16])), (q1, .inl (c1, 16, .inl (fun _ => (0 : Int32)))), (q3, .inl (c3, 16, .inl (fun _ => (0 : Int32)))), (q4, .inl (c4, 16, .inl (fun _ => (0 : Int32)))), (q5, .inl (c5, 16, .inl (fun _ => (0 : Int32)))), (q6, .inl (c6, 16, .inl (fun _ => (0 : Int32)))), (q7, .inl (c7, 16, .inl (fun _ => (0 : Int32)))), (q8, .inl (c8, 16, .inl (fun _ => (0 : Int32))))] [(c1, .int), (c3, .int), (c4, .int), (c5, .int), (c6, .int), (c7, .int), (c8, .int)] sz)) (va_Ql (fun (r : Int64) (_ : Unit) => True) (fun (_ : Unit) (t : State) => va_P (dC, dI) vwCl [(h0, .inr (8, [.int 1, .ref q1, v2, .ref q3, .ref q4, .ref q5, .ref q6, .ref q7, .ref q8, v9, v10, v11, v12, v13, v14, v15, v16]))] t.heap ∧ va_K (dC, dI) vwCl [] t ∧ va_D (va_A [(h0, .inr (8, [.int th, .ref q1, v2, .ref q3, .ref q4, .ref q5, .ref q6, .ref q7, .ref q8, v9, v10, v11, v12, v13, v14, v15, v16])), (q1, .inl (c1, 16, .inl (fun _ => (0 : Int32)))), (q3, .inl (c3, 16, .inl (fun _ => (0 : Int32)))), (q4, .inl (c4, 16, .inl (fun _ => (0 : Int32)))), (q5, .inl (c5, 16, .inl (fun _ => (0 : Int32)))), (q6, .inl (c6, 16, .inl (fun _ => (0 : Int32)))), (q7, .inl (c7, 16, .inl (fun _ => (0 : Int32)))), (q8, .inl (c8, 16, .inl (fun _ => (0 : Int32))))] sz) [(h0, .inr (8, [.int 1, .ref q1, v2, .ref q3, .ref q4, .ref q5, .ref q6, .ref q7, .ref q8, v9, v10, v11, v12, v13, v14, v15, v16]))]) (va_A [(h0, .inr (8, [.int th, .ref q1, v2, .ref q3, .ref q4, .ref q5, .ref q6, .ref q7, .ref q8, v9, v10, v11, v12, v13, v14, v15, v16])), (q1, .inl (c1, 16, .inl (fun _ => (0 : Int32)))), (q3, .inl (c3, 16, .inl (fun _ => (0 : Int32)))), (q4, .inl (c4, 16, .inl (fun _ => (0 : Int32)))), (q5, .inl (c5, 16, .inl (fun _ => (0 : Int32)))), (q6, .inl (c6, 16, .inl (fun _ => (0 : Int32)))), (q7, .inl (c7, 16, .inl (fun _ => (0 : Int32)))), (q8, .inl (c8, 16, .inl (fun _ => (0 : Int32))))] sz)) 0 0 (va_A [(h0, .inr (8, [.int th, .ref q1, v2, .ref q3, .ref q4, .ref q5, .ref q6, .ref q7, .ref q8, v9, v10, v11, v12, v13, v14, v15, v16])), (q1, .inl (c1, 16, .inl (fun _ => (0 : Int32)))), (q3, .inl (c3, 16, .inl (fun _ => (0 : Int32)))), (q4, .inl (c4, 16, .inl (fun _ => (0 : Int32)))), (q5, .inl (c5, 16, .inl (fun _ => (0 : Int32)))), (q6, .inl (c6, 16, .inl (fun _ => (0 : Int32)))), (q7, .inl (c7, 16, .inl (fun _ => (0 : Int32)))), (q8, .inl (c8, 16, .inl (fun _ => (0 : Int32))))] sz) := by
  refine Met.ofW (cc := cX8_item) (maxL := 5) (ret := (some .long)) (by decide) rfl ?_
  intro p e s m args below meth c s₁ B hml hv
  obtain ⟨rfl, hsz, hP, hK, hD0⟩ := hv
  have hx := B.exec
  have hb := B.bytes
  have hr := B.returns
  have hts := atoms_spec (ws := wsP_X8_item) B.pre
  have hown : s.vm.findClass RX8 = some m.cls := findClass_of_methodNamed B.named
  have hlocks := B.notSynchronized
  subst hsz
  have hD := hD0.self (sz := s.heap.size)
  generalize hAe : va_A [(h0, .inr (8, [.int th, .ref q1, v2, .ref q3, .ref q4, .ref q5, .ref q6, .ref q7, .ref q8, v9, v10, v11, v12, v13, v14, v15, v16])), (q1, .inl (c1, 16, .inl (fun _ => (0 : Int32)))), (q3, .inl (c3, 16, .inl (fun _ => (0 : Int32)))), (q4, .inl (c4, 16, .inl (fun _ => (0 : Int32)))), (q5, .inl (c5, 16, .inl (fun _ => (0 : Int32)))), (q6, .inl (c6, 16, .inl (fun _ => (0 : Int32)))), (q7, .inl (c7, 16, .inl (fun _ => (0 : Int32)))), (q8, .inl (c8, 16, .inl (fun _ => (0 : Int32))))] s.heap.size = A at hD ⊢
  have hA : ∀ q : Nat, s.heap.size ≤ q → A q := fun q h => by rw [← hAe]; exact Or.inr h
  have hS : va_S A s.heap s.heap [] := va_S.rf
  have hP : va_P (dC, dI) vwCl [(h0, .inr (8, [.int th, .ref q1, v2, .ref q3, .ref q4, .ref q5, .ref q6, .ref q7, .ref q8, v9, v10, v11, v12, v13, v14, v15, v16])), (q1, .inl (c1, 16, .inl (fun _ => (0 : Int32)))), (q3, .inl (c3, 16, .inl (fun _ => (0 : Int32)))), (q4, .inl (c4, 16, .inl (fun _ => (0 : Int32)))), (q5, .inl (c5, 16, .inl (fun _ => (0 : Int32)))), (q6, .inl (c6, 16, .inl (fun _ => (0 : Int32)))), (q7, .inl (c7, 16, .inl (fun _ => (0 : Int32)))), (q8, .inl (c8, 16, .inl (fun _ => (0 : Int32))))] s.heap := hP
  have hl := lv_entry ([.ref h0, .int p0, .int p1, .int p2]) (n := 5) (Nat.le_of_ble_eq_true rfl)
  rw [lg_entry_eq]
  generalize (lg_sl ([.ref h0, .int p0, .int p1, .int p2]) ++ List.replicate (5 - (lg_sl ([.ref h0, .int p0, .int p1, .int p2])).length) Slot.unset).toArray = ls at hl ⊢
  have hl : lv_has ls 5 [(0, .ref h0), (1, .int p0), (2, .int p1), (3, .int p2)] := hl
  refine lv_aload_n hx hb dX8_item_0 rfl (lv_at hl 0 rfl) ?_
  refine lv_iload_n hx hb dX8_item_1 rfl (lv_at hl 1 rfl) ?_
  have hPc := hP.sub (ws' := [(h0, .inr (8, [.int th, .ref q1, v2, .ref q3, .ref q4, .ref q5, .ref q6, .ref q7, .ref q8, v9, v10, v11, v12, v13, v14, v15, v16])), (q1, .inl (c1, 16, .inl (fun _ => (0 : Int32))))]) [0, 1] rfl
  have hDc := hD.sub (ws' := [(h0, .inr (8, [.int th, .ref q1, v2, .ref q3, .ref q4, .ref q5, .ref q6, .ref q7, .ref q8, v9, v10, v11, v12, v13, v14, v15, v16])), (q1, .inl (c1, 16, .inl (fun _ => (0 : Int32))))]) [0, 1] (by decide) rfl
  have hKc := hK.sub (tys' := [(c1, .int)]) [0] rfl
  have hFc := va_free (wc := [(h0, .inr (8, [.int th, .ref q1, v2, .ref q3, .ref q4, .ref q5, .ref q6, .ref q7, .ref q8, v9, v10, v11, v12, v13, v14, v15, v16])), (q1, .inl (c1, 16, .inl (fun _ => (0 : Int32))))]) hD hS hA [0, 1] rfl
  refine va_calli (va_runV (As := [.int p0]) (rest := []) ⟨hx, hb, hml, hown, hts⟩ (c_X8_isThere l  dC dI s.heap.size h0 q1 c1 th v2 (.ref q3) (.ref q4) (.ref q5) (.ref q6) (.ref q7) (.ref q8) v9 v10 v11 v12 v13 v14 v15 v16 p0) (cwV 1 hts gP_X8_item_isThere rfl rfl rfl (by decide +kernel) ⟨(Nat.le_of_ble_eq_true rfl), (Nat.le_of_ble_eq_true rfl)⟩) ⟨pk_blind, va_recv hKc hPc (ci := 8) (q0 := 0) rfl rfl, pk_call hPc hKc hDc⟩ rfl rfl hl.1 rfl (lv_room (Nat.le_of_ble_eq_true rfl)) dX8_item_2 ⟨(Nat.le_of_ble_eq_true rfl), (Nat.le_of_ble_eq_true rfl)⟩) hS (fun q _ h => hFc q h) hFc (fun r_1 ur_1 t H1 locs ht hvm hw hB hz1 hk1 hS => ?_)
  try dsimp only at hw
  obtain ⟨hP1, hK1, hD1⟩ := hB
  rw [ht] at hP1
  have hK1 := va_K.moved hvm.symm hK1
  obtain ⟨hP, hD⟩ := va_join (wr := [(q3, .inl (c3, 16, .inl (fun _ => (0 : Int32)))), (q4, .inl (c4, 16, .inl (fun _ => (0 : Int32)))), (q5, .inl (c5, 16, .inl (fun _ => (0 : Int32)))), (q6, .inl (c6, 16, .inl (fun _ => (0 : Int32)))), (q7, .inl (c7, 16, .inl (fun _ => (0 : Int32)))), (q8, .inl (c8, 16, .inl (fun _ => (0 : Int32))))]) (w1 := [(h0, .inr (8, [.int th, .ref q1, v2, .ref q3, .ref q4, .ref q5, .ref q6, .ref q7, .ref q8, v9, v10, v11, v12, v13, v14, v15, v16])), (q1, .inl (c1, 16, .inl (fun _ => (0 : Int32))))]) hP hD [0, 1] [2, 3, 4, 5, 6, 7] rfl rfl (by decide) (by decide) hk1 hFc hP1 hD1
  clear hk1 hz1 ht hPc hDc hKc
  generalize H1 = H at hP hS ⊢
  have hP : va_P (dC, dI) vwCl [(q3, .inl (c3, 16, .inl (fun _ => (0 : Int32)))), (q4, .inl (c4, 16, .inl (fun _ => (0 : Int32)))), (q5, .inl (c5, 16, .inl (fun _ => (0 : Int32)))), (q6, .inl (c6, 16, .inl (fun _ => (0 : Int32)))), (q7, .inl (c7, 16, .inl (fun _ => (0 : Int32)))), (q8, .inl (c8, 16, .inl (fun _ => (0 : Int32)))), (h0, .inr (8, [.int th, .ref q1, v2, .ref q3, .ref q4, .ref q5, .ref q6, .ref q7, .ref q8, v9, v10, v11, v12, v13, v14, v15, v16])), (q1, .inl (c1, 16, .inl (fun _ => (0 : Int32))))] H := hP
  have hD : va_D A [(q3, .inl (c3, 16, .inl (fun _ => (0 : Int32)))), (q4, .inl (c4, 16, .inl (fun _ => (0 : Int32)))), (q5, .inl (c5, 16, .inl (fun _ => (0 : Int32)))), (q6, .inl (c6, 16, .inl (fun _ => (0 : Int32)))), (q7, .inl (c7, 16, .inl (fun _ => (0 : Int32)))), (q8, .inl (c8, 16, .inl (fun _ => (0 : Int32)))), (h0, .inr (8, [.int th, .ref q1, v2, .ref q3, .ref q4, .ref q5, .ref q6, .ref q7, .ref q8, v9, v10, v11, v12, v13, v14, v15, v16])), (q1, .inl (c1, 16, .inl (fun _ => (0 : Int32))))] := hD
  refine W.widen (k := 0) (n := 0) (Nat.le_of_ble_eq_true rfl) (Nat.le_of_ble_eq_true rfl) ?_
  obtain rfl : r_1 = 0 := hw
  refine W.eq (g2 := F0 m 5 ls [.int 0]) rfl ?_
  refine lv_if_ne (tgt := 15) hx hb dX8_item_5 (by decide) (fun c_2 => absurd c_2 (by decide)) (fun c_2 => ?_)
  refine lv_aload_n hx hb dX8_item_8 rfl (lv_at hl 0 rfl) ?_
  refine lv_iconst (v := 1) hx hb dX8_item_9 (by decide) ?_
  have hPc := hP.sub (ws' := [(h0, .inr (8, [.int th, .ref q1, v2, .ref q3, .ref q4, .ref q5, .ref q6, .ref q7, .ref q8, v9, v10, v11, v12, v13, v14, v15, v16]))]) [6] rfl
  have hDc := hD.sub (ws' := [(h0, .inr (8, [.int th, .ref q1, v2, .ref q3, .ref q4, .ref q5, .ref q6, .ref q7, .ref q8, v9, v10, v11, v12, v13, v14, v15, v16]))]) [6] (by decide) rfl
  have hKc := hK.sub (tys' := []) [] rfl
  have hFc := va_free (wc := [(h0, .inr (8, [.int th, .ref q1, v2, .ref q3, .ref q4, .ref q5, .ref q6, .ref q7, .ref q8, v9, v10, v11, v12, v13, v14, v15, v16]))]) hD hS hA [6] rfl
  refine va_calli (va_runV (As := [.int 1]) (rest := []) ⟨hx, hb, hml, hown, hts⟩ (c_X8_refuse l  dC dI H.size h0 th 1 (.ref q1) v2 (.ref q3) (.ref q4) (.ref q5) (.ref q6) (.ref q7) (.ref q8) v9 v10 v11 v12 v13 v14 v15 v16) (cwV 1 hts gP_X8_item_refuse rfl rfl rfl (by decide +kernel) ⟨(Nat.le_of_ble_eq_true rfl), (Nat.le_of_ble_eq_true rfl)⟩) ⟨pk_blind, va_recv hKc hPc (ci := 8) (q0 := 0) rfl rfl, pk_call hPc hKc hDc⟩ rfl rfl hl.1 rfl (lv_room (Nat.le_of_ble_eq_true rfl)) dX8_item_10 ⟨(Nat.le_of_ble_eq_true rfl), (Nat.le_of_ble_eq_true rfl)⟩) hS (fun q _ h => hFc q h) hFc (fun r_3 ur_3 t H1 locs ht hvm hw hB hz1 hk1 hS => ?_)
  try dsimp only at hw
  have jr_3 := hw
  obtain ⟨hP1, hK1, hD1⟩ := hB
  rw [ht] at hP1
  have hK1 := va_K.moved hvm.symm hK1
  obtain ⟨hP, hD⟩ := va_join (wr := [(q3, .inl (c3, 16, .inl (fun _ => (0 : Int32)))), (q4, .inl (c4, 16, .inl (fun _ => (0 : Int32)))), (q5, .inl (c5, 16, .inl (fun _ => (0 : Int32)))), (q6, .inl (c6, 16, .inl (fun _ => (0 : Int32)))), (q7, .inl (c7, 16, .inl (fun _ => (0 : Int32)))), (q8, .inl (c8, 16, .inl (fun _ => (0 : Int32)))), (q1, .inl (c1, 16, .inl (fun _ => (0 : Int32))))]) (w1 := [(h0, .inr (8, [.int 1, .ref q1, v2, .ref q3, .ref q4, .ref q5, .ref q6, .ref q7, .ref q8, v9, v10, v11, v12, v13, v14, v15, v16]))]) hP hD [6] [0, 1, 2, 3, 4, 5, 7] rfl rfl (by decide) (by decide) hk1 hFc hP1 hD1
  clear hk1 hz1 ht hPc hDc hKc
  generalize H1 = H at hP hS ⊢
  have hP : va_P (dC, dI) vwCl [(q3, .inl (c3, 16, .inl (fun _ => (0 : Int32)))), (q4, .inl (c4, 16, .inl (fun _ => (0 : Int32)))), (q5, .inl (c5, 16, .inl (fun _ => (0 : Int32)))), (q6, .inl (c6, 16, .inl (fun _ => (0 : Int32)))), (q7, .inl (c7, 16, .inl (fun _ => (0 : Int32)))), (q8, .inl (c8, 16, .inl (fun _ => (0 : Int32)))), (q1, .inl (c1, 16, .inl (fun _ => (0 : Int32)))), (h0, .inr (8, [.int 1, .ref q1, v2, .ref q3, .ref q4, .ref q5, .ref q6, .ref q7, .ref q8, v9, v10, v11, v12, v13, v14, v15, v16]))] H := hP
  have hD : va_D A [(q3, .inl (c3, 16, .inl (fun _ => (0 : Int32)))), (q4, .inl (c4, 16, .inl (fun _ => (0 : Int32)))), (q5, .inl (c5, 16, .inl (fun _ => (0 : Int32)))), (q6, .inl (c6, 16, .inl (fun _ => (0 : Int32)))), (q7, .inl (c7, 16, .inl (fun _ => (0 : Int32)))), (q8, .inl (c8, 16, .inl (fun _ => (0 : Int32)))), (q1, .inl (c1, 16, .inl (fun _ => (0 : Int32)))), (h0, .inr (8, [.int 1, .ref q1, v2, .ref q3, .ref q4, .ref q5, .ref q6, .ref q7, .ref q8, v9, v10, v11, v12, v13, v14, v15, v16]))] := hD
  refine W.widen (k := 0) (n := 0) (Nat.le_of_ble_eq_true rfl) (Nat.le_of_ble_eq_true rfl) ?_
  refine W.eq (g2 := F0 m 13 ls [.int r_3]) rfl ?_
  refine lv_i2l (v := r_3.toInt64) hx hb dX8_item_13 rfl ?_
  have hP9 := hP.sub (ws' := [(h0, .inr (8, [.int 1, .ref q1, v2, .ref q3, .ref q4, .ref q5, .ref q6, .ref q7, .ref q8, v9, v10, v11, v12, v13, v14, v15, v16]))]) [7] rfl
  have hD9 := hD.sub (ws' := [(h0, .inr (8, [.int 1, .ref q1, v2, .ref q3, .ref q4, .ref q5, .ref q6, .ref q7, .ref q8, v9, v10, v11, v12, v13, v14, v15, v16]))]) [7] (by decide) rfl
  have hK9 := hK.sub (tys' := []) [] rfl
  refine W.widen (k := 0) (n := 0) (Nat.le_of_ble_eq_true rfl) (Nat.le_of_ble_eq_true rfl) ?_
  exact W.lret (v := r_3.toInt64) hx hb hr (fun t ht hW => ⟨⟨r_3.toInt64, (), rfl, trivial, by rw [ht]; exact hP9, va_K.moved hW.alike hK9, hD9⟩, hS.F ht⟩) hS.2.2 dX8_item_14
set_option maxHeartbeats 4000000 in
set_option maxRecDepth 100000 in
/-- count of the reference, fresh -/
theorem c_X8_count (l : Launch) (dC : Nat → ClassId) (dI : Nat → Nat → Nat) (sz : Nat) (h0 : Nat) (th : Int32) (q1 : Nat) (q3 : Nat) (q4 : Nat) (q5 : Nat) (q6 : Nat) (q7 : Nat) (q8 : Nat) (c1 : ClassId) (c3 : ClassId) (c4 : ClassId) (c5 : ClassId) (c6 : ClassId) (c7 : ClassId) (c8 : ClassId) (v2 : Value) (v9 : Value) (v10 : Value) (v11 : Value) (v12 : Value) (v13 : Value) (v14 : Value) (v15 : Value) (v16 : Value) (p0 : Int32) : Met l yX8_count wsP_X8_count ({ frames := 1, cells := 0, slots := 0, locals := 40 }) (va_Pc [.ref h0, .int p0] (pk_Pre (dC, dI) [(h0, .inr (8, [.int th, .ref q1, v2, .ref q3, .ref q4, .ref q5, .ref q6, .ref q7, .ref q8, v9, v10, v11, v12, v13, v14, v15, v16])), (q1, .inl (c1, 16, .inl (fun _ => (0 : Int32)))), (q3, .inl (c3, 16, .inl (fun _ => (0 : Int32)))), (q4, .inl (c4, 16, .inl (fun _ => (0 : Int32)))), (q5, .inl (c5, 16, .inl (fun _ => (0 : Int32)))), (q6, .inl (c6, 16, .inl (fun _ => (0 : Int32)))), (q7, .inl (c7, 16, .inl (fun _ => (0 : Int32)))), (q8, .inl (c8, 16, .inl (fun _ => (0 : Int32))))] [(c1, .int), (c3, .int), (c4, .int), (c5, .int), (c6, .int), (c7, .int), (c8, .int)] sz)) (va_Qi (fun (r : Int32) (u : Int32) => ctIs p0 u.toInt r.toInt) (fun (u : Int32) (t : State) => va_P (dC, dI) vwCl [(h0, .inr (8, [.int u, .ref q1, v2, .ref q3, .ref q4, .ref q5, .ref q6, .ref q7, .ref q8, v9, v10, v11, v12, v13, v14, v15, v16]))] t.heap ∧ va_K (dC, dI) vwCl [] t ∧ va_D (va_A [(h0, .inr (8, [.int th, .ref q1, v2, .ref q3, .ref q4, .ref q5, .ref q6, .ref q7, .ref q8, v9, v10, v11, v12, v13, v14, v15, v16])), (q1, .inl (c1, 16, .inl (fun _ => (0 : Int32)))), (q3, .inl (c3, 16, .inl (fun _ => (0 : Int32)))), (q4, .inl (c4, 16, .inl (fun _ => (0 : Int32)))), (q5, .inl (c5, 16, .inl (fun _ => (0 : Int32)))), (q6, .inl (c6, 16, .inl (fun _ => (0 : Int32)))), (q7, .inl (c7, 16, .inl (fun _ => (0 : Int32)))), (q8, .inl (c8, 16, .inl (fun _ => (0 : Int32))))] sz) [(h0, .inr (8, [.int u, .ref q1, v2, .ref q3, .ref q4, .ref q5, .ref q6, .ref q7, .ref q8, v9, v10, v11, v12, v13, v14, v15, v16]))]) (va_A [(h0, .inr (8, [.int th, .ref q1, v2, .ref q3, .ref q4, .ref q5, .ref q6, .ref q7, .ref q8, v9, v10, v11, v12, v13, v14, v15, v16])), (q1, .inl (c1, 16, .inl (fun _ => (0 : Int32)))), (q3, .inl (c3, 16, .inl (fun _ => (0 : Int32)))), (q4, .inl (c4, 16, .inl (fun _ => (0 : Int32)))), (q5, .inl (c5, 16, .inl (fun _ => (0 : Int32)))), (q6, .inl (c6, 16, .inl (fun _ => (0 : Int32)))), (q7, .inl (c7, 16, .inl (fun _ => (0 : Int32)))), (q8, .inl (c8, 16, .inl (fun _ => (0 : Int32))))] sz)) 0 0 (va_A [(h0, .inr (8, [.int th, .ref q1, v2, .ref q3, .ref q4, .ref q5, .ref q6, .ref q7, .ref q8, v9, v10, v11, v12, v13, v14, v15, v16])), (q1, .inl (c1, 16, .inl (fun _ => (0 : Int32)))), (q3, .inl (c3, 16, .inl (fun _ => (0 : Int32)))), (q4, .inl (c4, 16, .inl (fun _ => (0 : Int32)))), (q5, .inl (c5, 16, .inl (fun _ => (0 : Int32)))), (q6, .inl (c6, 16, .inl (fun _ => (0 : Int32)))), (q7, .inl (c7, 16, .inl (fun _ => (0 : Int32)))), (q8, .inl (c8, 16, .inl (fun _ => (0 : Int32))))] sz) := by
  refine Met.ofW (cc := cX8_count) (maxL := 4) (ret := (some .int)) (by decide) rfl ?_
  intro p e s m args below meth c s₁ B hml hv
  obtain ⟨rfl, hsz, hP, hK, hD0⟩ := hv
  have hx := B.exec
  have hb := B.bytes
  have hr := B.returns
  have hts := atoms_spec (ws := wsP_X8_count) B.pre
  have hown : s.vm.findClass RX8 = some m.cls := findClass_of_methodNamed B.named
  have hlocks := B.notSynchronized
  subst hsz
  have hD := hD0.self (sz := s.heap.size)
  generalize hAe : va_A [(h0, .inr (8, [.int th, .ref q1, v2, .ref q3, .ref q4, .ref q5, .ref q6, .ref q7, .ref q8, v9, v10, v11, v12, v13, v14, v15, v16])), (q1, .inl (c1, 16, .inl (fun _ => (0 : Int32)))), (q3, .inl (c3, 16, .inl (fun _ => (0 : Int32)))), (q4, .inl (c4, 16, .inl (fun _ => (0 : Int32)))), (q5, .inl (c5, 16, .inl (fun _ => (0 : Int32)))), (q6, .inl (c6, 16, .inl (fun _ => (0 : Int32)))), (q7, .inl (c7, 16, .inl (fun _ => (0 : Int32)))), (q8, .inl (c8, 16, .inl (fun _ => (0 : Int32))))] s.heap.size = A at hD ⊢
  have hA : ∀ q : Nat, s.heap.size ≤ q → A q := fun q h => by rw [← hAe]; exact Or.inr h
  have hS : va_S A s.heap s.heap [] := va_S.rf
  have hP : va_P (dC, dI) vwCl [(h0, .inr (8, [.int th, .ref q1, v2, .ref q3, .ref q4, .ref q5, .ref q6, .ref q7, .ref q8, v9, v10, v11, v12, v13, v14, v15, v16])), (q1, .inl (c1, 16, .inl (fun _ => (0 : Int32)))), (q3, .inl (c3, 16, .inl (fun _ => (0 : Int32)))), (q4, .inl (c4, 16, .inl (fun _ => (0 : Int32)))), (q5, .inl (c5, 16, .inl (fun _ => (0 : Int32)))), (q6, .inl (c6, 16, .inl (fun _ => (0 : Int32)))), (q7, .inl (c7, 16, .inl (fun _ => (0 : Int32)))), (q8, .inl (c8, 16, .inl (fun _ => (0 : Int32))))] s.heap := hP
  have hl := lv_entry ([.ref h0, .int p0]) (n := 4) (Nat.le_of_ble_eq_true rfl)
  rw [lg_entry_eq]
  generalize (lg_sl ([.ref h0, .int p0]) ++ List.replicate (4 - (lg_sl ([.ref h0, .int p0])).length) Slot.unset).toArray = ls at hl ⊢
  have hl : lv_has ls 4 [(0, .ref h0), (1, .int p0)] := hl
  refine lv_iload_n hx hb dX8_count_0 rfl (lv_at hl 1 rfl) ?_
  refine lv_if_eq (tgt := 32) hx hb dX8_count_1 (by decide) (fun c_1 => ?_) (fun c_1 => ?_)
  ·
    have ic_1 : p0.toInt = 0 := tx_eq rfl (by decide) c_1
    refine lv_aload_n hx hb dX8_count_32 rfl (lv_at hl 0 rfl) ?_
    refine lv_iconst (v := 0) hx hb dX8_count_33 (by decide) ?_
    refine va_put (D := (dC, dI)) (ci := 8) (v := .int 0) (ty := .int) (C := RX8) (T := TX8) (N := 17) hx hb hts (by decide +kernel) tyX8 tyX8_ok nmX8 hown hK hP hD hS 0 rfl rfl 0 (by decide) (hts (.fieldLink RX8 60 "KeyAtlasModel" "thrown" "I") (by decide +kernel)) (fun _ h9 => h9) rfl (by decide +kernel) rfl rfl (Nat.le_of_ble_eq_true rfl) dX8_count_34 (fun H locs hP hD hS => ?_)
    have hP : va_P (dC, dI) vwCl [(h0, .inr (8, [.int 0, .ref q1, v2, .ref q3, .ref q4, .ref q5, .ref q6, .ref q7, .ref q8, v9, v10, v11, v12, v13, v14, v15, v16])), (q1, .inl (c1, 16, .inl (fun _ => (0 : Int32)))), (q3, .inl (c3, 16, .inl (fun _ => (0 : Int32)))), (q4, .inl (c4, 16, .inl (fun _ => (0 : Int32)))), (q5, .inl (c5, 16, .inl (fun _ => (0 : Int32)))), (q6, .inl (c6, 16, .inl (fun _ => (0 : Int32)))), (q7, .inl (c7, 16, .inl (fun _ => (0 : Int32)))), (q8, .inl (c8, 16, .inl (fun _ => (0 : Int32))))] H := hP
    have hD : va_D A [(h0, .inr (8, [.int 0, .ref q1, v2, .ref q3, .ref q4, .ref q5, .ref q6, .ref q7, .ref q8, v9, v10, v11, v12, v13, v14, v15, v16])), (q1, .inl (c1, 16, .inl (fun _ => (0 : Int32)))), (q3, .inl (c3, 16, .inl (fun _ => (0 : Int32)))), (q4, .inl (c4, 16, .inl (fun _ => (0 : Int32)))), (q5, .inl (c5, 16, .inl (fun _ => (0 : Int32)))), (q6, .inl (c6, 16, .inl (fun _ => (0 : Int32)))), (q7, .inl (c7, 16, .inl (fun _ => (0 : Int32)))), (q8, .inl (c8, 16, .inl (fun _ => (0 : Int32))))] := hD
    refine lv_iload_n hx hb dX8_count_37 rfl (lv_at hl 1 rfl) ?_
    refine lv_if_ne (tgt := 76) hx hb dX8_count_38 (by decide) (fun c_2 => ?_) (fun c_2 => ?_)
    ·
      have ic_2 : ¬ p0.toInt = 0 := tx_ne rfl (by decide) c_2
      refine lv_iload_n hx hb dX8_count_76 rfl (lv_at hl 1 rfl) ?_
      refine lv_bipush (v := 30) hx hb dX8_count_77 (by decide) ?_
      refine lv_icmp_ge (tgt := 94) hx hb dX8_count_79 (by decide) (fun c_3 => ?_) (fun c_3 => ?_)
      ·
        have ic_3 : 30 ≤ p0.toInt := tx_le (by decide) rfl c_3
        refine lv_aload_n hx hb dX8_count_94 rfl (lv_at hl 0 rfl) ?_
        refine lv_iload_n hx hb dX8_count_95 rfl (lv_at hl 1 rfl) ?_
        refine lv_bipush (v := 30) hx hb dX8_count_96 (by decide) ?_
        refine lv_isub hx hb dX8_count_98 ?_
        have hPc := hP.sub (ws' := [(h0, .inr (8, [.int 0, .ref q1, v2, .ref q3, .ref q4, .ref q5, .ref q6, .ref q7, .ref q8, v9, v10, v11, v12, v13, v14, v15, v16])), (q1, .inl (c1, 16, .inl (fun _ => (0 : Int32))))]) [0, 1] rfl
        have hDc := hD.sub (ws' := [(h0, .inr (8, [.int 0, .ref q1, v2, .ref q3, .ref q4, .ref q5, .ref q6, .ref q7, .ref q8, v9, v10, v11, v12, v13, v14, v15, v16])), (q1, .inl (c1, 16, .inl (fun _ => (0 : Int32))))]) [0, 1] (by decide) rfl
        have hKc := hK.sub (tys' := [(c1, .int)]) [0] rfl
        have hFc := va_free (wc := [(h0, .inr (8, [.int 0, .ref q1, v2, .ref q3, .ref q4, .ref q5, .ref q6, .ref q7, .ref q8, v9, v10, v11, v12, v13, v14, v15, v16])), (q1, .inl (c1, 16, .inl (fun _ => (0 : Int32))))]) hD hS hA [0, 1] rfl
        refine va_calli (va_runV (As := [.int (p0 - 30)]) (rest := []) ⟨hx, hb, hml, hown, hts⟩ (c_X8_isMap l  dC dI H.size h0 q1 c1 0 v2 (.ref q3) (.ref q4) (.ref q5) (.ref q6) (.ref q7) (.ref q8) v9 v10 v11 v12 v13 v14 v15 v16 (p0 - 30) (tx_subin (b := 30) (by decide) (by omega) (by omega) (by omega))) (cwV 1 hts gP_X8_count_isMap rfl rfl rfl (by decide +kernel) ⟨(Nat.le_of_ble_eq_true rfl), (Nat.le_of_ble_eq_true rfl)⟩) ⟨pk_blind, va_recv hKc hPc (ci := 8) (q0 := 0) rfl rfl, pk_call hPc hKc hDc⟩ rfl rfl hl.1 rfl (lv_room (Nat.le_of_ble_eq_true rfl)) dX8_count_99 ⟨(Nat.le_of_ble_eq_true rfl), (Nat.le_of_ble_eq_true rfl)⟩) hS (fun q _ h => hFc q h) hFc (fun r_4 ur_4 t H1 locs ht hvm hw hB hz1 hk1 hS => ?_)
        try dsimp only at hw
        obtain ⟨hP1, hK1, hD1⟩ := hB
        rw [ht] at hP1
        have hK1 := va_K.moved hvm.symm hK1
        obtain ⟨hP, hD⟩ := va_join (wr := [(q3, .inl (c3, 16, .inl (fun _ => (0 : Int32)))), (q4, .inl (c4, 16, .inl (fun _ => (0 : Int32)))), (q5, .inl (c5, 16, .inl (fun _ => (0 : Int32)))), (q6, .inl (c6, 16, .inl (fun _ => (0 : Int32)))), (q7, .inl (c7, 16, .inl (fun _ => (0 : Int32)))), (q8, .inl (c8, 16, .inl (fun _ => (0 : Int32))))]) (w1 := [(h0, .inr (8, [.int 0, .ref q1, v2, .ref q3, .ref q4, .ref q5, .ref q6, .ref q7, .ref q8, v9, v10, v11, v12, v13, v14, v15, v16])), (q1, .inl (c1, 16, .inl (fun _ => (0 : Int32))))]) hP hD [0, 1] [2, 3, 4, 5, 6, 7] rfl rfl (by decide) (by decide) hk1 hFc hP1 hD1
        clear hk1 hz1 ht hPc hDc hKc
        generalize H1 = H at hP hS ⊢
        have hP : va_P (dC, dI) vwCl [(q3, .inl (c3, 16, .inl (fun _ => (0 : Int32)))), (q4, .inl (c4, 16, .inl (fun _ => (0 : Int32)))), (q5, .inl (c5, 16, .inl (fun _ => (0 : Int32)))), (q6, .inl (c6, 16, .inl (fun _ => (0 : Int32)))), (q7, .inl (c7, 16, .inl (fun _ => (0 : Int32)))), (q8, .inl (c8, 16, .inl (fun _ => (0 : Int32)))), (h0, .inr (8, [.int 0, .ref q1, v2, .ref q3, .ref q4, .ref q5, .ref q6, .ref q7, .ref q8, v9, v10, v11, v12, v13, v14, v15, v16])), (q1, .inl (c1, 16, .inl (fun _ => (0 : Int32))))] H := hP
        have hD : va_D A [(q3, .inl (c3, 16, .inl (fun _ => (0 : Int32)))), (q4, .inl (c4, 16, .inl (fun _ => (0 : Int32)))), (q5, .inl (c5, 16, .inl (fun _ => (0 : Int32)))), (q6, .inl (c6, 16, .inl (fun _ => (0 : Int32)))), (q7, .inl (c7, 16, .inl (fun _ => (0 : Int32)))), (q8, .inl (c8, 16, .inl (fun _ => (0 : Int32)))), (h0, .inr (8, [.int 0, .ref q1, v2, .ref q3, .ref q4, .ref q5, .ref q6, .ref q7, .ref q8, v9, v10, v11, v12, v13, v14, v15, v16])), (q1, .inl (c1, 16, .inl (fun _ => (0 : Int32))))] := hD
        refine W.widen (k := 0) (n := 0) (Nat.le_of_ble_eq_true rfl) (Nat.le_of_ble_eq_true rfl) ?_
        obtain rfl : r_4 = 0 := hw
        refine W.eq (g2 := F0 m 102 ls [.int 0]) rfl ?_
        refine lv_if_eq (tgt := 116) hx hb dX8_count_102 (by decide) (fun c_5 => ?_) (fun c_5 => absurd c_5 (by decide))
        refine lv_iconst (v := (-1)) hx hb dX8_count_116 (by decide) ?_
        have hP9 := hP.sub (ws' := [(h0, .inr (8, [.int 0, .ref q1, v2, .ref q3, .ref q4, .ref q5, .ref q6, .ref q7, .ref q8, v9, v10, v11, v12, v13, v14, v15, v16]))]) [6] rfl
        have hD9 := hD.sub (ws' := [(h0, .inr (8, [.int 0, .ref q1, v2, .ref q3, .ref q4, .ref q5, .ref q6, .ref q7, .ref q8, v9, v10, v11, v12, v13, v14, v15, v16]))]) [6] (by decide) rfl
        have hK9 := hK.sub (tys' := []) [] rfl
        refine W.widen (k := 0) (n := 0) (Nat.le_of_ble_eq_true rfl) (Nat.le_of_ble_eq_true rfl) ?_
        exact W.iret (v := -1) hx hb hr (fun t ht hW => ⟨⟨-1, 0, rfl, tx_at2 (P := ctIs p0) (n := 0) (m := -1) (by decide) (by decide) (by unfold ctIs; omega), by rw [ht]; exact hP9, va_K.moved hW.alike hK9, hD9⟩, hS.F ht⟩) hS.2.2 dX8_count_117
      ·
        have ic_3 : p0.toInt < 30 := tx_nle (by decide) rfl c_3
        refine lv_aload_n hx hb dX8_count_82 rfl (lv_at hl 0 rfl) ?_
        refine va_get (D := (dC, dI)) (ci := 8) (v := .ref q1) (C := RX8) (T := TX8) (N := 17) hx hb hts (by decide +kernel) hown hK hP 0 rfl rfl 1 (by decide) (hts (.fieldLink RX8 7 "KeyAtlasModel" "kind" "[I") (by decide +kernel)) (fun _ h9 => h9) rfl dX8_count_83 ?_
        refine lv_iload_n hx hb dX8_count_86 rfl (lv_at hl 1 rfl) ?_
        refine lv_bipush (v := 10) hx hb dX8_count_87 (by decide) ?_
        refine lv_isub hx hb dX8_count_89 ?_
        refine va_iald (i := p0 - 10) hx hb hK hP 1 0 rfl rfl (tx_subin (b := 10) (by decide) (by omega) (by omega) (by omega)) dX8_count_90 ?_
        refine W.eq (g2 := F0 m 91 ls [.int 0]) rfl ?_
        refine lv_iconst (v := 1) hx hb dX8_count_91 (by decide) ?_
        refine lv_isub hx hb dX8_count_92 ?_
        refine lv_topi (fun z_6 ez_6 => ?_)
        obtain rfl : z_6 = (-1 : Int32) := ez_6.trans (by decide)
        have hP9 := hP.sub (ws' := [(h0, .inr (8, [.int 0, .ref q1, v2, .ref q3, .ref q4, .ref q5, .ref q6, .ref q7, .ref q8, v9, v10, v11, v12, v13, v14, v15, v16]))]) [0] rfl
        have hD9 := hD.sub (ws' := [(h0, .inr (8, [.int 0, .ref q1, v2, .ref q3, .ref q4, .ref q5, .ref q6, .ref q7, .ref q8, v9, v10, v11, v12, v13, v14, v15, v16]))]) [0] (by decide) rfl
        have hK9 := hK.sub (tys' := []) [] rfl
        refine W.widen (k := 0) (n := 0) (Nat.le_of_ble_eq_true rfl) (Nat.le_of_ble_eq_true rfl) ?_
        exact W.iret (v := -1) hx hb hr (fun t ht hW => ⟨⟨-1, 0, rfl, tx_at2 (P := ctIs p0) (n := 0) (m := -1) (by decide) (by decide) (by unfold ctIs; omega), by rw [ht]; exact hP9, va_K.moved hW.alike hK9, hD9⟩, hS.F ht⟩) hS.2.2 dX8_count_93
    ·
      have ic_2 : p0.toInt = 0 := tx_eq rfl (by decide) c_2
      refine lv_iconst (v := 0) hx hb dX8_count_41 (by decide) ?_
      refine lv_istore_n (lv' := [(2, .int 0), (0, .ref h0), (1, .int p0)]) hx hb dX8_count_42 rfl hl (by decide) rfl (fun ls hl => ?_)
      refine lv_iconst (v := 0) hx hb dX8_count_43 (by decide) ?_
      refine lv_istore_n (lv' := [(3, .int 0), (2, .int 0), (0, .ref h0), (1, .int p0)]) hx hb dX8_count_44 rfl hl (by decide) rfl (fun ls hl => ?_)
      refine lv_iload_n hx hb dX8_count_45 rfl (lv_at hl 0 rfl) ?_
      refine lv_bipush (v := 16) hx hb dX8_count_46 (by decide) ?_
      refine lv_icmp_ge (tgt := 74) hx hb dX8_count_48 (by decide) (fun c_7 => absurd c_7 (by decide)) (fun c_7 => ?_)
      refine lv_iload_n hx hb dX8_count_51 rfl (lv_at hl 1 rfl) ?_
      refine lv_aload_n hx hb dX8_count_52 rfl (lv_at hl 2 rfl) ?_
      refine va_get (D := (dC, dI)) (ci := 8) (v := .ref q1) (C := RX8) (T := TX8) (N := 17) hx hb hts (by decide +kernel) hown hK hP 0 rfl rfl 1 (by decide) (hts (.fieldLink RX8 7 "KeyAtlasModel" "kind" "[I") (by decide +kernel)) (fun _ h9 => h9) rfl dX8_count_53 ?_
      refine lv_iload_n hx hb dX8_count_56 rfl (lv_at hl 0 rfl) ?_
      refine va_iald (i := 0) hx hb hK hP 1 0 rfl rfl (by unfold vp_in; decide) dX8_count_57 ?_
      refine W.eq (g2 := F0 m 58 ls [.int 0, .int 0]) rfl ?_
      refine lv_if_eq (tgt := 65) hx hb dX8_count_58 (by decide) (fun c_8 => ?_) (fun c_8 => absurd c_8 (by decide))
      refine lv_iconst (v := 0) hx hb dX8_count_65 (by decide) ?_
      refine lv_iadd hx hb dX8_count_66 ?_
      refine lv_topi (fun z_9 ez_9 => ?_)
      obtain rfl : z_9 = (0 : Int32) := ez_9.trans (by decide)
      refine lv_istore_n (lv' := [(2, .int 0), (3, .int 0), (0, .ref h0), (1, .int p0)]) hx hb dX8_count_67 rfl hl (by decide) rfl (fun ls hl => ?_)
      refine lv_iinc (v := 1) (lv' := [(3, .int 1), (2, .int 0), (0, .ref h0), (1, .int p0)]) hx hb dX8_count_68 hl (k := 1) rfl (by decide) (by decide) rfl (fun ls hl => ?_)
      refine lv_goto (tgt := 45) hx hb dX8_count_71 (by decide) ?_
      refine lv_iload_n hx hb dX8_count_45 rfl (lv_at hl 0 rfl) ?_
      refine lv_bipush (v := 16) hx hb dX8_count_46 (by decide) ?_
      refine lv_icmp_ge (tgt := 74) hx hb dX8_count_48 (by decide) (fun c_10 => absurd c_10 (by decide)) (fun c_10 => ?_)
      refine lv_iload_n hx hb dX8_count_51 rfl (lv_at hl 1 rfl) ?_
      refine lv_aload_n hx hb dX8_count_52 rfl (lv_at hl 2 rfl) ?_
      refine va_get (D := (dC, dI)) (ci := 8) (v := .ref q1) (C := RX8) (T := TX8) (N := 17) hx hb hts (by decide +kernel) hown hK hP 0 rfl rfl 1 (by decide) (hts (.fieldLink RX8 7 "KeyAtlasModel" "kind" "[I") (by decide +kernel)) (fun _ h9 => h9) rfl dX8_count_53 ?_
      refine lv_iload_n hx hb dX8_count_56 rfl (lv_at hl 0 rfl) ?_
      refine va_iald (i := 1) hx hb hK hP 1 0 rfl rfl (by unfold vp_in; decide) dX8_count_57 ?_
      refine W.eq (g2 := F0 m 58 ls [.int 0, .int 0]) rfl ?_
      refine lv_if_eq (tgt := 65) hx hb dX8_count_58 (by decide) (fun c_11 => ?_) (fun c_11 => absurd c_11 (by decide))
      refine lv_iconst (v := 0) hx hb dX8_count_65 (by decide) ?_
      refine lv_iadd hx hb dX8_count_66 ?_
      refine lv_topi (fun z_12 ez_12 => ?_)
      obtain rfl : z_12 = (0 : Int32) := ez_12.trans (by decide)
      refine lv_istore_n (lv' := [(2, .int 0), (3, .int 1), (0, .ref h0), (1, .int p0)]) hx hb dX8_count_67 rfl hl (by decide) rfl (fun ls hl => ?_)
      refine lv_iinc (v := 2) (lv' := [(3, .int 2), (2, .int 0), (0, .ref h0), (1, .int p0)]) hx hb dX8_count_68 hl (k := 1) rfl (by decide) (by decide) rfl (fun ls hl => ?_)
      refine lv_goto (tgt := 45) hx hb dX8_count_71 (by decide) ?_
      refine lv_iload_n hx hb dX8_count_45 rfl (lv_at hl 0 rfl) ?_
      refine lv_bipush (v := 16) hx hb dX8_count_46 (by decide) ?_
      refine lv_icmp_ge (tgt := 74) hx hb dX8_count_48 (by decide) (fun c_13 => absurd c_13 (by decide)) (fun c_13 => ?_)
      refine lv_iload_n hx hb dX8_count_51 rfl (lv_at hl 1 rfl) ?_
      refine lv_aload_n hx hb dX8_count_52 rfl (lv_at hl 2 rfl) ?_
      refine va_get (D := (dC, dI)) (ci := 8) (v := .ref q1) (C := RX8) (T := TX8) (N := 17) hx hb hts (by decide +kernel) hown hK hP 0 rfl rfl 1 (by decide) (hts (.fieldLink RX8 7 "KeyAtlasModel" "kind" "[I") (by decide +kernel)) (fun _ h9 => h9) rfl dX8_count_53 ?_
      refine lv_iload_n hx hb dX8_count_56 rfl (lv_at hl 0 rfl) ?_
      refine va_iald (i := 2) hx hb hK hP 1 0 rfl rfl (by unfold vp_in; decide) dX8_count_57 ?_
      refine W.eq (g2 := F0 m 58 ls [.int 0, .int 0]) rfl ?_
      refine lv_if_eq (tgt := 65) hx hb dX8_count_58 (by decide) (fun c_14 => ?_) (fun c_14 => absurd c_14 (by decide))
      refine lv_iconst (v := 0) hx hb dX8_count_65 (by decide) ?_
      refine lv_iadd hx hb dX8_count_66 ?_
      refine lv_topi (fun z_15 ez_15 => ?_)
      obtain rfl : z_15 = (0 : Int32) := ez_15.trans (by decide)
      refine lv_istore_n (lv' := [(2, .int 0), (3, .int 2), (0, .ref h0), (1, .int p0)]) hx hb dX8_count_67 rfl hl (by decide) rfl (fun ls hl => ?_)
      refine lv_iinc (v := 3) (lv' := [(3, .int 3), (2, .int 0), (0, .ref h0), (1, .int p0)]) hx hb dX8_count_68 hl (k := 1) rfl (by decide) (by decide) rfl (fun ls hl => ?_)
      refine lv_goto (tgt := 45) hx hb dX8_count_71 (by decide) ?_
      refine lv_iload_n hx hb dX8_count_45 rfl (lv_at hl 0 rfl) ?_
      refine lv_bipush (v := 16) hx hb dX8_count_46 (by decide) ?_
      refine lv_icmp_ge (tgt := 74) hx hb dX8_count_48 (by decide) (fun c_16 => absurd c_16 (by decide)) (fun c_16 => ?_)
      refine lv_iload_n hx hb dX8_count_51 rfl (lv_at hl 1 rfl) ?_
      refine lv_aload_n hx hb dX8_count_52 rfl (lv_at hl 2 rfl) ?_
      refine va_get (D := (dC, dI)) (ci := 8) (v := .ref q1) (C := RX8) (T := TX8) (N := 17) hx hb hts (by decide +kernel) hown hK hP 0 rfl rfl 1 (by decide) (hts (.fieldLink RX8 7 "KeyAtlasModel" "kind" "[I") (by decide +kernel)) (fun _ h9 => h9) rfl dX8_count_53 ?_
      refine lv_iload_n hx hb dX8_count_56 rfl (lv_at hl 0 rfl) ?_
      refine va_iald (i := 3) hx hb hK hP 1 0 rfl rfl (by unfold vp_in; decide) dX8_count_57 ?_
      refine W.eq (g2 := F0 m 58 ls [.int 0, .int 0]) rfl ?_
      refine lv_if_eq (tgt := 65) hx hb dX8_count_58 (by decide) (fun c_17 => ?_) (fun c_17 => absurd c_17 (by decide))
      refine lv_iconst (v := 0) hx hb dX8_count_65 (by decide) ?_
      refine lv_iadd hx hb dX8_count_66 ?_
      refine lv_topi (fun z_18 ez_18 => ?_)
      obtain rfl : z_18 = (0 : Int32) := ez_18.trans (by decide)
      refine lv_istore_n (lv' := [(2, .int 0), (3, .int 3), (0, .ref h0), (1, .int p0)]) hx hb dX8_count_67 rfl hl (by decide) rfl (fun ls hl => ?_)
      refine lv_iinc (v := 4) (lv' := [(3, .int 4), (2, .int 0), (0, .ref h0), (1, .int p0)]) hx hb dX8_count_68 hl (k := 1) rfl (by decide) (by decide) rfl (fun ls hl => ?_)
      refine lv_goto (tgt := 45) hx hb dX8_count_71 (by decide) ?_
      refine lv_iload_n hx hb dX8_count_45 rfl (lv_at hl 0 rfl) ?_
      refine lv_bipush (v := 16) hx hb dX8_count_46 (by decide) ?_
      refine lv_icmp_ge (tgt := 74) hx hb dX8_count_48 (by decide) (fun c_19 => absurd c_19 (by decide)) (fun c_19 => ?_)
      refine lv_iload_n hx hb dX8_count_51 rfl (lv_at hl 1 rfl) ?_
      refine lv_aload_n hx hb dX8_count_52 rfl (lv_at hl 2 rfl) ?_
      refine va_get (D := (dC, dI)) (ci := 8) (v := .ref q1) (C := RX8) (T := TX8) (N := 17) hx hb hts (by decide +kernel) hown hK hP 0 rfl rfl 1 (by decide) (hts (.fieldLink RX8 7 "KeyAtlasModel" "kind" "[I") (by decide +kernel)) (fun _ h9 => h9) rfl dX8_count_53 ?_
      refine lv_iload_n hx hb dX8_count_56 rfl (lv_at hl 0 rfl) ?_
      refine va_iald (i := 4) hx hb hK hP 1 0 rfl rfl (by unfold vp_in; decide) dX8_count_57 ?_
      refine W.eq (g2 := F0 m 58 ls [.int 0, .int 0]) rfl ?_
      refine lv_if_eq (tgt := 65) hx hb dX8_count_58 (by decide) (fun c_20 => ?_) (fun c_20 => absurd c_20 (by decide))
      refine lv_iconst (v := 0) hx hb dX8_count_65 (by decide) ?_
      refine lv_iadd hx hb dX8_count_66 ?_
      refine lv_topi (fun z_21 ez_21 => ?_)
      obtain rfl : z_21 = (0 : Int32) := ez_21.trans (by decide)
      refine lv_istore_n (lv' := [(2, .int 0), (3, .int 4), (0, .ref h0), (1, .int p0)]) hx hb dX8_count_67 rfl hl (by decide) rfl (fun ls hl => ?_)
      refine lv_iinc (v := 5) (lv' := [(3, .int 5), (2, .int 0), (0, .ref h0), (1, .int p0)]) hx hb dX8_count_68 hl (k := 1) rfl (by decide) (by decide) rfl (fun ls hl => ?_)
      refine lv_goto (tgt := 45) hx hb dX8_count_71 (by decide) ?_
      refine lv_iload_n hx hb dX8_count_45 rfl (lv_at hl 0 rfl) ?_
      refine lv_bipush (v := 16) hx hb dX8_count_46 (by decide) ?_
      refine lv_icmp_ge (tgt := 74) hx hb dX8_count_48 (by decide) (fun c_22 => absurd c_22 (by decide)) (fun c_22 => ?_)
      refine lv_iload_n hx hb dX8_count_51 rfl (lv_at hl 1 rfl) ?_
      refine lv_aload_n hx hb dX8_count_52 rfl (lv_at hl 2 rfl) ?_
      refine va_get (D := (dC, dI)) (ci := 8) (v := .ref q1) (C := RX8) (T := TX8) (N := 17) hx hb hts (by decide +kernel) hown hK hP 0 rfl rfl 1 (by decide) (hts (.fieldLink RX8 7 "KeyAtlasModel" "kind" "[I") (by decide +kernel)) (fun _ h9 => h9) rfl dX8_count_53 ?_
      refine lv_iload_n hx hb dX8_count_56 rfl (lv_at hl 0 rfl) ?_
      refine va_iald (i := 5) hx hb hK hP 1 0 rfl rfl (by unfold vp_in; decide) dX8_count_57 ?_
      refine W.eq (g2 := F0 m 58 ls [.int 0, .int 0]) rfl ?_
      refine lv_if_eq (tgt := 65) hx hb dX8_count_58 (by decide) (fun c_23 => ?_) (fun c_23 => absurd c_23 (by decide))
      refine lv_iconst (v := 0) hx hb dX8_count_65 (by decide) ?_
      refine lv_iadd hx hb dX8_count_66 ?_
      refine lv_topi (fun z_24 ez_24 => ?_)
      obtain rfl : z_24 = (0 : Int32) := ez_24.trans (by decide)
      refine lv_istore_n (lv' := [(2, .int 0), (3, .int 5), (0, .ref h0), (1, .int p0)]) hx hb dX8_count_67 rfl hl (by decide) rfl (fun ls hl => ?_)
      refine lv_iinc (v := 6) (lv' := [(3, .int 6), (2, .int 0), (0, .ref h0), (1, .int p0)]) hx hb dX8_count_68 hl (k := 1) rfl (by decide) (by decide) rfl (fun ls hl => ?_)
      refine lv_goto (tgt := 45) hx hb dX8_count_71 (by decide) ?_
      refine lv_iload_n hx hb dX8_count_45 rfl (lv_at hl 0 rfl) ?_
      refine lv_bipush (v := 16) hx hb dX8_count_46 (by decide) ?_
      refine lv_icmp_ge (tgt := 74) hx hb dX8_count_48 (by decide) (fun c_25 => absurd c_25 (by decide)) (fun c_25 => ?_)
      refine lv_iload_n hx hb dX8_count_51 rfl (lv_at hl 1 rfl) ?_
      refine lv_aload_n hx hb dX8_count_52 rfl (lv_at hl 2 rfl) ?_
      refine va_get (D := (dC, dI)) (ci := 8) (v := .ref q1) (C := RX8) (T := TX8) (N := 17) hx hb hts (by decide +kernel) hown hK hP 0 rfl rfl 1 (by decide) (hts (.fieldLink RX8 7 "KeyAtlasModel" "kind" "[I") (by decide +kernel)) (fun _ h9 => h9) rfl dX8_count_53 ?_
      refine lv_iload_n hx hb dX8_count_56 rfl (lv_at hl 0 rfl) ?_
      refine va_iald (i := 6) hx hb hK hP 1 0 rfl rfl (by unfold vp_in; decide) dX8_count_57 ?_
      refine W.eq (g2 := F0 m 58 ls [.int 0, .int 0]) rfl ?_
      refine lv_if_eq (tgt := 65) hx hb dX8_count_58 (by decide) (fun c_26 => ?_) (fun c_26 => absurd c_26 (by decide))
      refine lv_iconst (v := 0) hx hb dX8_count_65 (by decide) ?_
      refine lv_iadd hx hb dX8_count_66 ?_
      refine lv_topi (fun z_27 ez_27 => ?_)
      obtain rfl : z_27 = (0 : Int32) := ez_27.trans (by decide)
      refine lv_istore_n (lv' := [(2, .int 0), (3, .int 6), (0, .ref h0), (1, .int p0)]) hx hb dX8_count_67 rfl hl (by decide) rfl (fun ls hl => ?_)
      refine lv_iinc (v := 7) (lv' := [(3, .int 7), (2, .int 0), (0, .ref h0), (1, .int p0)]) hx hb dX8_count_68 hl (k := 1) rfl (by decide) (by decide) rfl (fun ls hl => ?_)
      refine lv_goto (tgt := 45) hx hb dX8_count_71 (by decide) ?_
      refine lv_iload_n hx hb dX8_count_45 rfl (lv_at hl 0 rfl) ?_
      refine lv_bipush (v := 16) hx hb dX8_count_46 (by decide) ?_
      refine lv_icmp_ge (tgt := 74) hx hb dX8_count_48 (by decide) (fun c_28 => absurd c_28 (by decide)) (fun c_28 => ?_)
      refine lv_iload_n hx hb dX8_count_51 rfl (lv_at hl 1 rfl) ?_
      refine lv_aload_n hx hb dX8_count_52 rfl (lv_at hl 2 rfl) ?_
      refine va_get (D := (dC, dI)) (ci := 8) (v := .ref q1) (C := RX8) (T := TX8) (N := 17) hx hb hts (by decide +kernel) hown hK hP 0 rfl rfl 1 (by decide) (hts (.fieldLink RX8 7 "KeyAtlasModel" "kind" "[I") (by decide +kernel)) (fun _ h9 => h9) rfl dX8_count_53 ?_
      refine lv_iload_n hx hb dX8_count_56 rfl (lv_at hl 0 rfl) ?_
      refine va_iald (i := 7) hx hb hK hP 1 0 rfl rfl (by unfold vp_in; decide) dX8_count_57 ?_
      refine W.eq (g2 := F0 m 58 ls [.int 0, .int 0]) rfl ?_
      refine lv_if_eq (tgt := 65) hx hb dX8_count_58 (by decide) (fun c_29 => ?_) (fun c_29 => absurd c_29 (by decide))
      refine lv_iconst (v := 0) hx hb dX8_count_65 (by decide) ?_
      refine lv_iadd hx hb dX8_count_66 ?_
      refine lv_topi (fun z_30 ez_30 => ?_)
      obtain rfl : z_30 = (0 : Int32) := ez_30.trans (by decide)
      refine lv_istore_n (lv' := [(2, .int 0), (3, .int 7), (0, .ref h0), (1, .int p0)]) hx hb dX8_count_67 rfl hl (by decide) rfl (fun ls hl => ?_)
      refine lv_iinc (v := 8) (lv' := [(3, .int 8), (2, .int 0), (0, .ref h0), (1, .int p0)]) hx hb dX8_count_68 hl (k := 1) rfl (by decide) (by decide) rfl (fun ls hl => ?_)
      refine lv_goto (tgt := 45) hx hb dX8_count_71 (by decide) ?_
      refine lv_iload_n hx hb dX8_count_45 rfl (lv_at hl 0 rfl) ?_
      refine lv_bipush (v := 16) hx hb dX8_count_46 (by decide) ?_
      refine lv_icmp_ge (tgt := 74) hx hb dX8_count_48 (by decide) (fun c_31 => absurd c_31 (by decide)) (fun c_31 => ?_)
      refine lv_iload_n hx hb dX8_count_51 rfl (lv_at hl 1 rfl) ?_
      refine lv_aload_n hx hb dX8_count_52 rfl (lv_at hl 2 rfl) ?_
      refine va_get (D := (dC, dI)) (ci := 8) (v := .ref q1) (C := RX8) (T := TX8) (N := 17) hx hb hts (by decide +kernel) hown hK hP 0 rfl rfl 1 (by decide) (hts (.fieldLink RX8 7 "KeyAtlasModel" "kind" "[I") (by decide +kernel)) (fun _ h9 => h9) rfl dX8_count_53 ?_
      refine lv_iload_n hx hb dX8_count_56 rfl (lv_at hl 0 rfl) ?_
      refine va_iald (i := 8) hx hb hK hP 1 0 rfl rfl (by unfold vp_in; decide) dX8_count_57 ?_
      refine W.eq (g2 := F0 m 58 ls [.int 0, .int 0]) rfl ?_
      refine lv_if_eq (tgt := 65) hx hb dX8_count_58 (by decide) (fun c_32 => ?_) (fun c_32 => absurd c_32 (by decide))
      refine lv_iconst (v := 0) hx hb dX8_count_65 (by decide) ?_
      refine lv_iadd hx hb dX8_count_66 ?_
      refine lv_topi (fun z_33 ez_33 => ?_)
      obtain rfl : z_33 = (0 : Int32) := ez_33.trans (by decide)
      refine lv_istore_n (lv' := [(2, .int 0), (3, .int 8), (0, .ref h0), (1, .int p0)]) hx hb dX8_count_67 rfl hl (by decide) rfl (fun ls hl => ?_)
      refine lv_iinc (v := 9) (lv' := [(3, .int 9), (2, .int 0), (0, .ref h0), (1, .int p0)]) hx hb dX8_count_68 hl (k := 1) rfl (by decide) (by decide) rfl (fun ls hl => ?_)
      refine lv_goto (tgt := 45) hx hb dX8_count_71 (by decide) ?_
      refine lv_iload_n hx hb dX8_count_45 rfl (lv_at hl 0 rfl) ?_
      refine lv_bipush (v := 16) hx hb dX8_count_46 (by decide) ?_
      refine lv_icmp_ge (tgt := 74) hx hb dX8_count_48 (by decide) (fun c_34 => absurd c_34 (by decide)) (fun c_34 => ?_)
      refine lv_iload_n hx hb dX8_count_51 rfl (lv_at hl 1 rfl) ?_
      refine lv_aload_n hx hb dX8_count_52 rfl (lv_at hl 2 rfl) ?_
      refine va_get (D := (dC, dI)) (ci := 8) (v := .ref q1) (C := RX8) (T := TX8) (N := 17) hx hb hts (by decide +kernel) hown hK hP 0 rfl rfl 1 (by decide) (hts (.fieldLink RX8 7 "KeyAtlasModel" "kind" "[I") (by decide +kernel)) (fun _ h9 => h9) rfl dX8_count_53 ?_
      refine lv_iload_n hx hb dX8_count_56 rfl (lv_at hl 0 rfl) ?_
      refine va_iald (i := 9) hx hb hK hP 1 0 rfl rfl (by unfold vp_in; decide) dX8_count_57 ?_
      refine W.eq (g2 := F0 m 58 ls [.int 0, .int 0]) rfl ?_
      refine lv_if_eq (tgt := 65) hx hb dX8_count_58 (by decide) (fun c_35 => ?_) (fun c_35 => absurd c_35 (by decide))
      refine lv_iconst (v := 0) hx hb dX8_count_65 (by decide) ?_
      refine lv_iadd hx hb dX8_count_66 ?_
      refine lv_topi (fun z_36 ez_36 => ?_)
      obtain rfl : z_36 = (0 : Int32) := ez_36.trans (by decide)
      refine lv_istore_n (lv' := [(2, .int 0), (3, .int 9), (0, .ref h0), (1, .int p0)]) hx hb dX8_count_67 rfl hl (by decide) rfl (fun ls hl => ?_)
      refine lv_iinc (v := 10) (lv' := [(3, .int 10), (2, .int 0), (0, .ref h0), (1, .int p0)]) hx hb dX8_count_68 hl (k := 1) rfl (by decide) (by decide) rfl (fun ls hl => ?_)
      refine lv_goto (tgt := 45) hx hb dX8_count_71 (by decide) ?_
      refine lv_iload_n hx hb dX8_count_45 rfl (lv_at hl 0 rfl) ?_
      refine lv_bipush (v := 16) hx hb dX8_count_46 (by decide) ?_
      refine lv_icmp_ge (tgt := 74) hx hb dX8_count_48 (by decide) (fun c_37 => absurd c_37 (by decide)) (fun c_37 => ?_)
      refine lv_iload_n hx hb dX8_count_51 rfl (lv_at hl 1 rfl) ?_
      refine lv_aload_n hx hb dX8_count_52 rfl (lv_at hl 2 rfl) ?_
      refine va_get (D := (dC, dI)) (ci := 8) (v := .ref q1) (C := RX8) (T := TX8) (N := 17) hx hb hts (by decide +kernel) hown hK hP 0 rfl rfl 1 (by decide) (hts (.fieldLink RX8 7 "KeyAtlasModel" "kind" "[I") (by decide +kernel)) (fun _ h9 => h9) rfl dX8_count_53 ?_
      refine lv_iload_n hx hb dX8_count_56 rfl (lv_at hl 0 rfl) ?_
      refine va_iald (i := 10) hx hb hK hP 1 0 rfl rfl (by unfold vp_in; decide) dX8_count_57 ?_
      refine W.eq (g2 := F0 m 58 ls [.int 0, .int 0]) rfl ?_
      refine lv_if_eq (tgt := 65) hx hb dX8_count_58 (by decide) (fun c_38 => ?_) (fun c_38 => absurd c_38 (by decide))
      refine lv_iconst (v := 0) hx hb dX8_count_65 (by decide) ?_
      refine lv_iadd hx hb dX8_count_66 ?_
      refine lv_topi (fun z_39 ez_39 => ?_)
      obtain rfl : z_39 = (0 : Int32) := ez_39.trans (by decide)
      refine lv_istore_n (lv' := [(2, .int 0), (3, .int 10), (0, .ref h0), (1, .int p0)]) hx hb dX8_count_67 rfl hl (by decide) rfl (fun ls hl => ?_)
      refine lv_iinc (v := 11) (lv' := [(3, .int 11), (2, .int 0), (0, .ref h0), (1, .int p0)]) hx hb dX8_count_68 hl (k := 1) rfl (by decide) (by decide) rfl (fun ls hl => ?_)
      refine lv_goto (tgt := 45) hx hb dX8_count_71 (by decide) ?_
      refine lv_iload_n hx hb dX8_count_45 rfl (lv_at hl 0 rfl) ?_
      refine lv_bipush (v := 16) hx hb dX8_count_46 (by decide) ?_
      refine lv_icmp_ge (tgt := 74) hx hb dX8_count_48 (by decide) (fun c_40 => absurd c_40 (by decide)) (fun c_40 => ?_)
      refine lv_iload_n hx hb dX8_count_51 rfl (lv_at hl 1 rfl) ?_
      refine lv_aload_n hx hb dX8_count_52 rfl (lv_at hl 2 rfl) ?_
      refine va_get (D := (dC, dI)) (ci := 8) (v := .ref q1) (C := RX8) (T := TX8) (N := 17) hx hb hts (by decide +kernel) hown hK hP 0 rfl rfl 1 (by decide) (hts (.fieldLink RX8 7 "KeyAtlasModel" "kind" "[I") (by decide +kernel)) (fun _ h9 => h9) rfl dX8_count_53 ?_
      refine lv_iload_n hx hb dX8_count_56 rfl (lv_at hl 0 rfl) ?_
      refine va_iald (i := 11) hx hb hK hP 1 0 rfl rfl (by unfold vp_in; decide) dX8_count_57 ?_
      refine W.eq (g2 := F0 m 58 ls [.int 0, .int 0]) rfl ?_
      refine lv_if_eq (tgt := 65) hx hb dX8_count_58 (by decide) (fun c_41 => ?_) (fun c_41 => absurd c_41 (by decide))
      refine lv_iconst (v := 0) hx hb dX8_count_65 (by decide) ?_
      refine lv_iadd hx hb dX8_count_66 ?_
      refine lv_topi (fun z_42 ez_42 => ?_)
      obtain rfl : z_42 = (0 : Int32) := ez_42.trans (by decide)
      refine lv_istore_n (lv' := [(2, .int 0), (3, .int 11), (0, .ref h0), (1, .int p0)]) hx hb dX8_count_67 rfl hl (by decide) rfl (fun ls hl => ?_)
      refine lv_iinc (v := 12) (lv' := [(3, .int 12), (2, .int 0), (0, .ref h0), (1, .int p0)]) hx hb dX8_count_68 hl (k := 1) rfl (by decide) (by decide) rfl (fun ls hl => ?_)
      refine lv_goto (tgt := 45) hx hb dX8_count_71 (by decide) ?_
      refine lv_iload_n hx hb dX8_count_45 rfl (lv_at hl 0 rfl) ?_
      refine lv_bipush (v := 16) hx hb dX8_count_46 (by decide) ?_
      refine lv_icmp_ge (tgt := 74) hx hb dX8_count_48 (by decide) (fun c_43 => absurd c_43 (by decide)) (fun c_43 => ?_)
      refine lv_iload_n hx hb dX8_count_51 rfl (lv_at hl 1 rfl) ?_
      refine lv_aload_n hx hb dX8_count_52 rfl (lv_at hl 2 rfl) ?_
      refine va_get (D := (dC, dI)) (ci := 8) (v := .ref q1) (C := RX8) (T := TX8) (N := 17) hx hb hts (by decide +kernel) hown hK hP 0 rfl rfl 1 (by decide) (hts (.fieldLink RX8 7 "KeyAtlasModel" "kind" "[I") (by decide +kernel)) (fun _ h9 => h9) rfl dX8_count_53 ?_
      refine lv_iload_n hx hb dX8_count_56 rfl (lv_at hl 0 rfl) ?_
      refine va_iald (i := 12) hx hb hK hP 1 0 rfl rfl (by unfold vp_in; decide) dX8_count_57 ?_
      refine W.eq (g2 := F0 m 58 ls [.int 0, .int 0]) rfl ?_
      refine lv_if_eq (tgt := 65) hx hb dX8_count_58 (by decide) (fun c_44 => ?_) (fun c_44 => absurd c_44 (by decide))
      refine lv_iconst (v := 0) hx hb dX8_count_65 (by decide) ?_
      refine lv_iadd hx hb dX8_count_66 ?_
      refine lv_topi (fun z_45 ez_45 => ?_)
      obtain rfl : z_45 = (0 : Int32) := ez_45.trans (by decide)
      refine lv_istore_n (lv' := [(2, .int 0), (3, .int 12), (0, .ref h0), (1, .int p0)]) hx hb dX8_count_67 rfl hl (by decide) rfl (fun ls hl => ?_)
      refine lv_iinc (v := 13) (lv' := [(3, .int 13), (2, .int 0), (0, .ref h0), (1, .int p0)]) hx hb dX8_count_68 hl (k := 1) rfl (by decide) (by decide) rfl (fun ls hl => ?_)
      refine lv_goto (tgt := 45) hx hb dX8_count_71 (by decide) ?_
      refine lv_iload_n hx hb dX8_count_45 rfl (lv_at hl 0 rfl) ?_
      refine lv_bipush (v := 16) hx hb dX8_count_46 (by decide) ?_
      refine lv_icmp_ge (tgt := 74) hx hb dX8_count_48 (by decide) (fun c_46 => absurd c_46 (by decide)) (fun c_46 => ?_)
      refine lv_iload_n hx hb dX8_count_51 rfl (lv_at hl 1 rfl) ?_
      refine lv_aload_n hx hb dX8_count_52 rfl (lv_at hl 2 rfl) ?_
      refine va_get (D := (dC, dI)) (ci := 8) (v := .ref q1) (C := RX8) (T := TX8) (N := 17) hx hb hts (by decide +kernel) hown hK hP 0 rfl rfl 1 (by decide) (hts (.fieldLink RX8 7 "KeyAtlasModel" "kind" "[I") (by decide +kernel)) (fun _ h9 => h9) rfl dX8_count_53 ?_
      refine lv_iload_n hx hb dX8_count_56 rfl (lv_at hl 0 rfl) ?_
      refine va_iald (i := 13) hx hb hK hP 1 0 rfl rfl (by unfold vp_in; decide) dX8_count_57 ?_
      refine W.eq (g2 := F0 m 58 ls [.int 0, .int 0]) rfl ?_
      refine lv_if_eq (tgt := 65) hx hb dX8_count_58 (by decide) (fun c_47 => ?_) (fun c_47 => absurd c_47 (by decide))
      refine lv_iconst (v := 0) hx hb dX8_count_65 (by decide) ?_
      refine lv_iadd hx hb dX8_count_66 ?_
      refine lv_topi (fun z_48 ez_48 => ?_)
      obtain rfl : z_48 = (0 : Int32) := ez_48.trans (by decide)
      refine lv_istore_n (lv' := [(2, .int 0), (3, .int 13), (0, .ref h0), (1, .int p0)]) hx hb dX8_count_67 rfl hl (by decide) rfl (fun ls hl => ?_)
      refine lv_iinc (v := 14) (lv' := [(3, .int 14), (2, .int 0), (0, .ref h0), (1, .int p0)]) hx hb dX8_count_68 hl (k := 1) rfl (by decide) (by decide) rfl (fun ls hl => ?_)
      refine lv_goto (tgt := 45) hx hb dX8_count_71 (by decide) ?_
      refine lv_iload_n hx hb dX8_count_45 rfl (lv_at hl 0 rfl) ?_
      refine lv_bipush (v := 16) hx hb dX8_count_46 (by decide) ?_
      refine lv_icmp_ge (tgt := 74) hx hb dX8_count_48 (by decide) (fun c_49 => absurd c_49 (by decide)) (fun c_49 => ?_)
      refine lv_iload_n hx hb dX8_count_51 rfl (lv_at hl 1 rfl) ?_
      refine lv_aload_n hx hb dX8_count_52 rfl (lv_at hl 2 rfl) ?_
      refine va_get (D := (dC, dI)) (ci := 8) (v := .ref q1) (C := RX8) (T := TX8) (N := 17) hx hb hts (by decide +kernel) hown hK hP 0 rfl rfl 1 (by decide) (hts (.fieldLink RX8 7 "KeyAtlasModel" "kind" "[I") (by decide +kernel)) (fun _ h9 => h9) rfl dX8_count_53 ?_
      refine lv_iload_n hx hb dX8_count_56 rfl (lv_at hl 0 rfl) ?_
      refine va_iald (i := 14) hx hb hK hP 1 0 rfl rfl (by unfold vp_in; decide) dX8_count_57 ?_
      refine W.eq (g2 := F0 m 58 ls [.int 0, .int 0]) rfl ?_
      refine lv_if_eq (tgt := 65) hx hb dX8_count_58 (by decide) (fun c_50 => ?_) (fun c_50 => absurd c_50 (by decide))
      refine lv_iconst (v := 0) hx hb dX8_count_65 (by decide) ?_
      refine lv_iadd hx hb dX8_count_66 ?_
      refine lv_topi (fun z_51 ez_51 => ?_)
      obtain rfl : z_51 = (0 : Int32) := ez_51.trans (by decide)
      refine lv_istore_n (lv' := [(2, .int 0), (3, .int 14), (0, .ref h0), (1, .int p0)]) hx hb dX8_count_67 rfl hl (by decide) rfl (fun ls hl => ?_)
      refine lv_iinc (v := 15) (lv' := [(3, .int 15), (2, .int 0), (0, .ref h0), (1, .int p0)]) hx hb dX8_count_68 hl (k := 1) rfl (by decide) (by decide) rfl (fun ls hl => ?_)
      refine lv_goto (tgt := 45) hx hb dX8_count_71 (by decide) ?_
      refine lv_iload_n hx hb dX8_count_45 rfl (lv_at hl 0 rfl) ?_
      refine lv_bipush (v := 16) hx hb dX8_count_46 (by decide) ?_
      refine lv_icmp_ge (tgt := 74) hx hb dX8_count_48 (by decide) (fun c_52 => absurd c_52 (by decide)) (fun c_52 => ?_)
      refine lv_iload_n hx hb dX8_count_51 rfl (lv_at hl 1 rfl) ?_
      refine lv_aload_n hx hb dX8_count_52 rfl (lv_at hl 2 rfl) ?_
      refine va_get (D := (dC, dI)) (ci := 8) (v := .ref q1) (C := RX8) (T := TX8) (N := 17) hx hb hts (by decide +kernel) hown hK hP 0 rfl rfl 1 (by decide) (hts (.fieldLink RX8 7 "KeyAtlasModel" "kind" "[I") (by decide +kernel)) (fun _ h9 => h9) rfl dX8_count_53 ?_
      refine lv_iload_n hx hb dX8_count_56 rfl (lv_at hl 0 rfl) ?_
      refine va_iald (i := 15) hx hb hK hP 1 0 rfl rfl (by unfold vp_in; decide) dX8_count_57 ?_
      refine W.eq (g2 := F0 m 58 ls [.int 0, .int 0]) rfl ?_
      refine lv_if_eq (tgt := 65) hx hb dX8_count_58 (by decide) (fun c_53 => ?_) (fun c_53 => absurd c_53 (by decide))
      refine lv_iconst (v := 0) hx hb dX8_count_65 (by decide) ?_
      refine lv_iadd hx hb dX8_count_66 ?_
      refine lv_topi (fun z_54 ez_54 => ?_)
      obtain rfl : z_54 = (0 : Int32) := ez_54.trans (by decide)
      refine lv_istore_n (lv' := [(2, .int 0), (3, .int 15), (0, .ref h0), (1, .int p0)]) hx hb dX8_count_67 rfl hl (by decide) rfl (fun ls hl => ?_)
      refine lv_iinc (v := 16) (lv' := [(3, .int 16), (2, .int 0), (0, .ref h0), (1, .int p0)]) hx hb dX8_count_68 hl (k := 1) rfl (by decide) (by decide) rfl (fun ls hl => ?_)
      refine lv_goto (tgt := 45) hx hb dX8_count_71 (by decide) ?_
      refine lv_iload_n hx hb dX8_count_45 rfl (lv_at hl 0 rfl) ?_
      refine lv_bipush (v := 16) hx hb dX8_count_46 (by decide) ?_
      refine lv_icmp_ge (tgt := 74) hx hb dX8_count_48 (by decide) (fun c_55 => ?_) (fun c_55 => absurd c_55 (by decide))
      refine lv_iload_n hx hb dX8_count_74 rfl (lv_at hl 1 rfl) ?_
      have hP9 := hP.sub (ws' := [(h0, .inr (8, [.int 0, .ref q1, v2, .ref q3, .ref q4, .ref q5, .ref q6, .ref q7, .ref q8, v9, v10, v11, v12, v13, v14, v15, v16]))]) [0] rfl
      have hD9 := hD.sub (ws' := [(h0, .inr (8, [.int 0, .ref q1, v2, .ref q3, .ref q4, .ref q5, .ref q6, .ref q7, .ref q8, v9, v10, v11, v12, v13, v14, v15, v16]))]) [0] (by decide) rfl
      have hK9 := hK.sub (tys' := []) [] rfl
      refine W.widen (k := 0) (n := 0) (Nat.le_of_ble_eq_true rfl) (Nat.le_of_ble_eq_true rfl) ?_
      exact W.iret (v := 0) hx hb hr (fun t ht hW => ⟨⟨0, 0, rfl, tx_at2 (P := ctIs p0) (n := 0) (m := 0) (by decide) (by decide) (by unfold ctIs; omega), by rw [ht]; exact hP9, va_K.moved hW.alike hK9, hD9⟩, hS.F ht⟩) hS.2.2 dX8_count_75
  ·
    have ic_1 : ¬ p0.toInt = 0 := tx_ne rfl (by decide) c_1
    refine lv_iload_n hx hb dX8_count_4 rfl (lv_at hl 1 rfl) ?_
    refine lv_bipush (v := 10) hx hb dX8_count_5 (by decide) ?_
    refine lv_bipush (v := 25) hx hb dX8_count_7 (by decide) ?_
    have hPc := hP.sub (ws' := []) [] rfl
    have hDc := hD.sub (ws' := []) [] (by decide) rfl
    have hKc := hK.sub (tys' := []) [] rfl
    have hFc := va_free (wc := []) hD hS hA [] rfl
    refine va_calli (va_runS (As := [.int p0, .int 10, .int 25]) (rest := []) ⟨hx, hb, hml, hown, hts⟩ (c_X8_in l  dC dI s.heap.size p0 10 25 10 25 (by decide) (by decide)) (va_cwS 3 hts gP_X8_count_in rfl rfl rfl (by decide +kernel) ⟨(Nat.le_of_ble_eq_true rfl), (Nat.le_of_ble_eq_true rfl)⟩) ⟨pk_blind, pk_call hPc hKc hDc⟩ rfl rfl hl.1 rfl (lv_room (Nat.le_of_ble_eq_true rfl)) dX8_count_9 ⟨(Nat.le_of_ble_eq_true rfl), (Nat.le_of_ble_eq_true rfl)⟩) hS (fun q _ h => hFc q h) hFc (fun r_56 ur_56 t H1 locs ht hvm hw hB hz1 hk1 hS => ?_)
    try dsimp only at hw
    have jr_56 := hw
    obtain ⟨hP, hD⟩ := va_join (wr := [(h0, .inr (8, [.int th, .ref q1, v2, .ref q3, .ref q4, .ref q5, .ref q6, .ref q7, .ref q8, v9, v10, v11, v12, v13, v14, v15, v16])), (q1, .inl (c1, 16, .inl (fun _ => (0 : Int32)))), (q3, .inl (c3, 16, .inl (fun _ => (0 : Int32)))), (q4, .inl (c4, 16, .inl (fun _ => (0 : Int32)))), (q5, .inl (c5, 16, .inl (fun _ => (0 : Int32)))), (q6, .inl (c6, 16, .inl (fun _ => (0 : Int32)))), (q7, .inl (c7, 16, .inl (fun _ => (0 : Int32)))), (q8, .inl (c8, 16, .inl (fun _ => (0 : Int32))))]) (w1 := []) hP hD [] [0, 1, 2, 3, 4, 5, 6, 7] rfl rfl (by decide) (by decide) hk1 hFc tx_P0 tx_D0
    clear hk1 hz1 ht hPc hDc hKc
    generalize H1 = H at hP hS ⊢
    have hP : va_P (dC, dI) vwCl [(h0, .inr (8, [.int th, .ref q1, v2, .ref q3, .ref q4, .ref q5, .ref q6, .ref q7, .ref q8, v9, v10, v11, v12, v13, v14, v15, v16])), (q1, .inl (c1, 16, .inl (fun _ => (0 : Int32)))), (q3, .inl (c3, 16, .inl (fun _ => (0 : Int32)))), (q4, .inl (c4, 16, .inl (fun _ => (0 : Int32)))), (q5, .inl (c5, 16, .inl (fun _ => (0 : Int32)))), (q6, .inl (c6, 16, .inl (fun _ => (0 : Int32)))), (q7, .inl (c7, 16, .inl (fun _ => (0 : Int32)))), (q8, .inl (c8, 16, .inl (fun _ => (0 : Int32))))] H := hP
    have hD : va_D A [(h0, .inr (8, [.int th, .ref q1, v2, .ref q3, .ref q4, .ref q5, .ref q6, .ref q7, .ref q8, v9, v10, v11, v12, v13, v14, v15, v16])), (q1, .inl (c1, 16, .inl (fun _ => (0 : Int32)))), (q3, .inl (c3, 16, .inl (fun _ => (0 : Int32)))), (q4, .inl (c4, 16, .inl (fun _ => (0 : Int32)))), (q5, .inl (c5, 16, .inl (fun _ => (0 : Int32)))), (q6, .inl (c6, 16, .inl (fun _ => (0 : Int32)))), (q7, .inl (c7, 16, .inl (fun _ => (0 : Int32)))), (q8, .inl (c8, 16, .inl (fun _ => (0 : Int32))))] := hD
    refine W.widen (k := 0) (n := 0) (Nat.le_of_ble_eq_true rfl) (Nat.le_of_ble_eq_true rfl) ?_
    refine W.eq (g2 := F0 m 12 ls [.int r_56]) rfl ?_
    refine lv_if_ne (tgt := 32) hx hb dX8_count_12 (by decide) (fun c_57 => ?_) (fun c_57 => ?_)
    ·
      have ic_57 : ¬ r_56.toInt = 0 := tx_ne rfl (by decide) c_57
      refine lv_aload_n hx hb dX8_count_32 rfl (lv_at hl 0 rfl) ?_
      refine lv_iconst (v := 0) hx hb dX8_count_33 (by decide) ?_
      refine va_put (D := (dC, dI)) (ci := 8) (v := .int 0) (ty := .int) (C := RX8) (T := TX8) (N := 17) hx hb hts (by decide +kernel) tyX8 tyX8_ok nmX8 hown hK hP hD hS 0 rfl rfl 0 (by decide) (hts (.fieldLink RX8 60 "KeyAtlasModel" "thrown" "I") (by decide +kernel)) (fun _ h9 => h9) rfl (by decide +kernel) rfl rfl (Nat.le_of_ble_eq_true rfl) dX8_count_34 (fun H locs hP hD hS => ?_)
      have hP : va_P (dC, dI) vwCl [(h0, .inr (8, [.int 0, .ref q1, v2, .ref q3, .ref q4, .ref q5, .ref q6, .ref q7, .ref q8, v9, v10, v11, v12, v13, v14, v15, v16])), (q1, .inl (c1, 16, .inl (fun _ => (0 : Int32)))), (q3, .inl (c3, 16, .inl (fun _ => (0 : Int32)))), (q4, .inl (c4, 16, .inl (fun _ => (0 : Int32)))), (q5, .inl (c5, 16, .inl (fun _ => (0 : Int32)))), (q6, .inl (c6, 16, .inl (fun _ => (0 : Int32)))), (q7, .inl (c7, 16, .inl (fun _ => (0 : Int32)))), (q8, .inl (c8, 16, .inl (fun _ => (0 : Int32))))] H := hP
      have hD : va_D A [(h0, .inr (8, [.int 0, .ref q1, v2, .ref q3, .ref q4, .ref q5, .ref q6, .ref q7, .ref q8, v9, v10, v11, v12, v13, v14, v15, v16])), (q1, .inl (c1, 16, .inl (fun _ => (0 : Int32)))), (q3, .inl (c3, 16, .inl (fun _ => (0 : Int32)))), (q4, .inl (c4, 16, .inl (fun _ => (0 : Int32)))), (q5, .inl (c5, 16, .inl (fun _ => (0 : Int32)))), (q6, .inl (c6, 16, .inl (fun _ => (0 : Int32)))), (q7, .inl (c7, 16, .inl (fun _ => (0 : Int32)))), (q8, .inl (c8, 16, .inl (fun _ => (0 : Int32))))] := hD
      refine lv_iload_n hx hb dX8_count_37 rfl (lv_at hl 1 rfl) ?_
      refine lv_if_ne (tgt := 76) hx hb dX8_count_38 (by decide) (fun c_58 => ?_) (fun c_58 => ?_)
      ·
        have ic_58 : ¬ p0.toInt = 0 := tx_ne rfl (by decide) c_58
        refine lv_iload_n hx hb dX8_count_76 rfl (lv_at hl 1 rfl) ?_
        refine lv_bipush (v := 30) hx hb dX8_count_77 (by decide) ?_
        refine lv_icmp_ge (tgt := 94) hx hb dX8_count_79 (by decide) (fun c_59 => ?_) (fun c_59 => ?_)
        ·
          have ic_59 : 30 ≤ p0.toInt := tx_le (by decide) rfl c_59
          refine lv_aload_n hx hb dX8_count_94 rfl (lv_at hl 0 rfl) ?_
          refine lv_iload_n hx hb dX8_count_95 rfl (lv_at hl 1 rfl) ?_
          refine lv_bipush (v := 30) hx hb dX8_count_96 (by decide) ?_
          refine lv_isub hx hb dX8_count_98 ?_
          have hPc := hP.sub (ws' := [(h0, .inr (8, [.int 0, .ref q1, v2, .ref q3, .ref q4, .ref q5, .ref q6, .ref q7, .ref q8, v9, v10, v11, v12, v13, v14, v15, v16])), (q1, .inl (c1, 16, .inl (fun _ => (0 : Int32))))]) [0, 1] rfl
          have hDc := hD.sub (ws' := [(h0, .inr (8, [.int 0, .ref q1, v2, .ref q3, .ref q4, .ref q5, .ref q6, .ref q7, .ref q8, v9, v10, v11, v12, v13, v14, v15, v16])), (q1, .inl (c1, 16, .inl (fun _ => (0 : Int32))))]) [0, 1] (by decide) rfl
          have hKc := hK.sub (tys' := [(c1, .int)]) [0] rfl
          have hFc := va_free (wc := [(h0, .inr (8, [.int 0, .ref q1, v2, .ref q3, .ref q4, .ref q5, .ref q6, .ref q7, .ref q8, v9, v10, v11, v12, v13, v14, v15, v16])), (q1, .inl (c1, 16, .inl (fun _ => (0 : Int32))))]) hD hS hA [0, 1] rfl
          refine va_calli (va_runV (As := [.int (p0 - 30)]) (rest := []) ⟨hx, hb, hml, hown, hts⟩ (c_X8_isMap l  dC dI H.size h0 q1 c1 0 v2 (.ref q3) (.ref q4) (.ref q5) (.ref q6) (.ref q7) (.ref q8) v9 v10 v11 v12 v13 v14 v15 v16 (p0 - 30) (tx_subin (b := 30) (by decide) (by omega) (by omega) (by omega))) (cwV 1 hts gP_X8_count_isMap rfl rfl rfl (by decide +kernel) ⟨(Nat.le_of_ble_eq_true rfl), (Nat.le_of_ble_eq_true rfl)⟩) ⟨pk_blind, va_recv hKc hPc (ci := 8) (q0 := 0) rfl rfl, pk_call hPc hKc hDc⟩ rfl rfl hl.1 rfl (lv_room (Nat.le_of_ble_eq_true rfl)) dX8_count_99 ⟨(Nat.le_of_ble_eq_true rfl), (Nat.le_of_ble_eq_true rfl)⟩) hS (fun q _ h => hFc q h) hFc (fun r_60 ur_60 t H1 locs ht hvm hw hB hz1 hk1 hS => ?_)
          try dsimp only at hw
          obtain ⟨hP1, hK1, hD1⟩ := hB
          rw [ht] at hP1
          have hK1 := va_K.moved hvm.symm hK1
          obtain ⟨hP, hD⟩ := va_join (wr := [(q3, .inl (c3, 16, .inl (fun _ => (0 : Int32)))), (q4, .inl (c4, 16, .inl (fun _ => (0 : Int32)))), (q5, .inl (c5, 16, .inl (fun _ => (0 : Int32)))), (q6, .inl (c6, 16, .inl (fun _ => (0 : Int32)))), (q7, .inl (c7, 16, .inl (fun _ => (0 : Int32)))), (q8, .inl (c8, 16, .inl (fun _ => (0 : Int32))))]) (w1 := [(h0, .inr (8, [.int 0, .ref q1, v2, .ref q3, .ref q4, .ref q5, .ref q6, .ref q7, .ref q8, v9, v10, v11, v12, v13, v14, v15, v16])), (q1, .inl (c1, 16, .inl (fun _ => (0 : Int32))))]) hP hD [0, 1] [2, 3, 4, 5, 6, 7] rfl rfl (by decide) (by decide) hk1 hFc hP1 hD1
          clear hk1 hz1 ht hPc hDc hKc
          generalize H1 = H at hP hS ⊢
          have hP : va_P (dC, dI) vwCl [(q3, .inl (c3, 16, .inl (fun _ => (0 : Int32)))), (q4, .inl (c4, 16, .inl (fun _ => (0 : Int32)))), (q5, .inl (c5, 16, .inl (fun _ => (0 : Int32)))), (q6, .inl (c6, 16, .inl (fun _ => (0 : Int32)))), (q7, .inl (c7, 16, .inl (fun _ => (0 : Int32)))), (q8, .inl (c8, 16, .inl (fun _ => (0 : Int32)))), (h0, .inr (8, [.int 0, .ref q1, v2, .ref q3, .ref q4, .ref q5, .ref q6, .ref q7, .ref q8, v9, v10, v11, v12, v13, v14, v15, v16])), (q1, .inl (c1, 16, .inl (fun _ => (0 : Int32))))] H := hP
          have hD : va_D A [(q3, .inl (c3, 16, .inl (fun _ => (0 : Int32)))), (q4, .inl (c4, 16, .inl (fun _ => (0 : Int32)))), (q5, .inl (c5, 16, .inl (fun _ => (0 : Int32)))), (q6, .inl (c6, 16, .inl (fun _ => (0 : Int32)))), (q7, .inl (c7, 16, .inl (fun _ => (0 : Int32)))), (q8, .inl (c8, 16, .inl (fun _ => (0 : Int32)))), (h0, .inr (8, [.int 0, .ref q1, v2, .ref q3, .ref q4, .ref q5, .ref q6, .ref q7, .ref q8, v9, v10, v11, v12, v13, v14, v15, v16])), (q1, .inl (c1, 16, .inl (fun _ => (0 : Int32))))] := hD
          refine W.widen (k := 0) (n := 0) (Nat.le_of_ble_eq_true rfl) (Nat.le_of_ble_eq_true rfl) ?_
          obtain rfl : r_60 = 0 := hw
          refine W.eq (g2 := F0 m 102 ls [.int 0]) rfl ?_
          refine lv_if_eq (tgt := 116) hx hb dX8_count_102 (by decide) (fun c_61 => ?_) (fun c_61 => absurd c_61 (by decide))
          refine lv_iconst (v := (-1)) hx hb dX8_count_116 (by decide) ?_
          have hP9 := hP.sub (ws' := [(h0, .inr (8, [.int 0, .ref q1, v2, .ref q3, .ref q4, .ref q5, .ref q6, .ref q7, .ref q8, v9, v10, v11, v12, v13, v14, v15, v16]))]) [6] rfl
          have hD9 := hD.sub (ws' := [(h0, .inr (8, [.int 0, .ref q1, v2, .ref q3, .ref q4, .ref q5, .ref q6, .ref q7, .ref q8, v9, v10, v11, v12, v13, v14, v15, v16]))]) [6] (by decide) rfl
          have hK9 := hK.sub (tys' := []) [] rfl
          refine W.widen (k := 0) (n := 0) (Nat.le_of_ble_eq_true rfl) (Nat.le_of_ble_eq_true rfl) ?_
          exact W.iret (v := -1) hx hb hr (fun t ht hW => ⟨⟨-1, 0, rfl, tx_at2 (P := ctIs p0) (n := 0) (m := -1) (by decide) (by decide) (by unfold ctIs; omega), by rw [ht]; exact hP9, va_K.moved hW.alike hK9, hD9⟩, hS.F ht⟩) hS.2.2 dX8_count_117
        ·
          have ic_59 : p0.toInt < 30 := tx_nle (by decide) rfl c_59
          refine lv_aload_n hx hb dX8_count_82 rfl (lv_at hl 0 rfl) ?_
          refine va_get (D := (dC, dI)) (ci := 8) (v := .ref q1) (C := RX8) (T := TX8) (N := 17) hx hb hts (by decide +kernel) hown hK hP 0 rfl rfl 1 (by decide) (hts (.fieldLink RX8 7 "KeyAtlasModel" "kind" "[I") (by decide +kernel)) (fun _ h9 => h9) rfl dX8_count_83 ?_
          refine lv_iload_n hx hb dX8_count_86 rfl (lv_at hl 1 rfl) ?_
          refine lv_bipush (v := 10) hx hb dX8_count_87 (by decide) ?_
          refine lv_isub hx hb dX8_count_89 ?_
          refine va_iald (i := p0 - 10) hx hb hK hP 1 0 rfl rfl (tx_subin (b := 10) (by decide) (by omega) (by omega) (by omega)) dX8_count_90 ?_
          refine W.eq (g2 := F0 m 91 ls [.int 0]) rfl ?_
          refine lv_iconst (v := 1) hx hb dX8_count_91 (by decide) ?_
          refine lv_isub hx hb dX8_count_92 ?_
          refine lv_topi (fun z_62 ez_62 => ?_)
          obtain rfl : z_62 = (-1 : Int32) := ez_62.trans (by decide)
          have hP9 := hP.sub (ws' := [(h0, .inr (8, [.int 0, .ref q1, v2, .ref q3, .ref q4, .ref q5, .ref q6, .ref q7, .ref q8, v9, v10, v11, v12, v13, v14, v15, v16]))]) [0] rfl
          have hD9 := hD.sub (ws' := [(h0, .inr (8, [.int 0, .ref q1, v2, .ref q3, .ref q4, .ref q5, .ref q6, .ref q7, .ref q8, v9, v10, v11, v12, v13, v14, v15, v16]))]) [0] (by decide) rfl
          have hK9 := hK.sub (tys' := []) [] rfl
          refine W.widen (k := 0) (n := 0) (Nat.le_of_ble_eq_true rfl) (Nat.le_of_ble_eq_true rfl) ?_
          exact W.iret (v := -1) hx hb hr (fun t ht hW => ⟨⟨-1, 0, rfl, tx_at2 (P := ctIs p0) (n := 0) (m := -1) (by decide) (by decide) (by unfold ctIs; omega), by rw [ht]; exact hP9, va_K.moved hW.alike hK9, hD9⟩, hS.F ht⟩) hS.2.2 dX8_count_93
      ·
        have ic_58 : p0.toInt = 0 := tx_eq rfl (by decide) c_58
        refine lv_iconst (v := 0) hx hb dX8_count_41 (by decide) ?_
        refine lv_istore_n (lv' := [(2, .int 0), (0, .ref h0), (1, .int p0)]) hx hb dX8_count_42 rfl hl (by decide) rfl (fun ls hl => ?_)
        refine lv_iconst (v := 0) hx hb dX8_count_43 (by decide) ?_
        refine lv_istore_n (lv' := [(3, .int 0), (2, .int 0), (0, .ref h0), (1, .int p0)]) hx hb dX8_count_44 rfl hl (by decide) rfl (fun ls hl => ?_)
        refine lv_iload_n hx hb dX8_count_45 rfl (lv_at hl 0 rfl) ?_
        refine lv_bipush (v := 16) hx hb dX8_count_46 (by decide) ?_
        refine lv_icmp_ge (tgt := 74) hx hb dX8_count_48 (by decide) (fun c_63 => absurd c_63 (by decide)) (fun c_63 => ?_)
        refine lv_iload_n hx hb dX8_count_51 rfl (lv_at hl 1 rfl) ?_
        refine lv_aload_n hx hb dX8_count_52 rfl (lv_at hl 2 rfl) ?_
        refine va_get (D := (dC, dI)) (ci := 8) (v := .ref q1) (C := RX8) (T := TX8) (N := 17) hx hb hts (by decide +kernel) hown hK hP 0 rfl rfl 1 (by decide) (hts (.fieldLink RX8 7 "KeyAtlasModel" "kind" "[I") (by decide +kernel)) (fun _ h9 => h9) rfl dX8_count_53 ?_
        refine lv_iload_n hx hb dX8_count_56 rfl (lv_at hl 0 rfl) ?_
        refine va_iald (i := 0) hx hb hK hP 1 0 rfl rfl (by unfold vp_in; decide) dX8_count_57 ?_
        refine W.eq (g2 := F0 m 58 ls [.int 0, .int 0]) rfl ?_
        refine lv_if_eq (tgt := 65) hx hb dX8_count_58 (by decide) (fun c_64 => ?_) (fun c_64 => absurd c_64 (by decide))
        refine lv_iconst (v := 0) hx hb dX8_count_65 (by decide) ?_
        refine lv_iadd hx hb dX8_count_66 ?_
        refine lv_topi (fun z_65 ez_65 => ?_)
        obtain rfl : z_65 = (0 : Int32) := ez_65.trans (by decide)
        refine lv_istore_n (lv' := [(2, .int 0), (3, .int 0), (0, .ref h0), (1, .int p0)]) hx hb dX8_count_67 rfl hl (by decide) rfl (fun ls hl => ?_)
        refine lv_iinc (v := 1) (lv' := [(3, .int 1), (2, .int 0), (0, .ref h0), (1, .int p0)]) hx hb dX8_count_68 hl (k := 1) rfl (by decide) (by decide) rfl (fun ls hl => ?_)
        refine lv_goto (tgt := 45) hx hb dX8_count_71 (by decide) ?_
        refine lv_iload_n hx hb dX8_count_45 rfl (lv_at hl 0 rfl) ?_
        refine lv_bipush (v := 16) hx hb dX8_count_46 (by decide) ?_
        refine lv_icmp_ge (tgt := 74) hx hb dX8_count_48 (by decide) (fun c_66 => absurd c_66 (by decide)) (fun c_66 => ?_)
        refine lv_iload_n hx hb dX8_count_51 rfl (lv_at hl 1 rfl) ?_
        refine lv_aload_n hx hb dX8_count_52 rfl (lv_at hl 2 rfl) ?_
        refine va_get (D := (dC, dI)) (ci := 8) (v := .ref q1) (C := RX8) (T := TX8) (N := 17) hx hb hts (by decide +kernel) hown hK hP 0 rfl rfl 1 (by decide) (hts (.fieldLink RX8 7 "KeyAtlasModel" "kind" "[I") (by decide +kernel)) (fun _ h9 => h9) rfl dX8_count_53 ?_
        refine lv_iload_n hx hb dX8_count_56 rfl (lv_at hl 0 rfl) ?_
        refine va_iald (i := 1) hx hb hK hP 1 0 rfl rfl (by unfold vp_in; decide) dX8_count_57 ?_
        refine W.eq (g2 := F0 m 58 ls [.int 0, .int 0]) rfl ?_
        refine lv_if_eq (tgt := 65) hx hb dX8_count_58 (by decide) (fun c_67 => ?_) (fun c_67 => absurd c_67 (by decide))
        refine lv_iconst (v := 0) hx hb dX8_count_65 (by decide) ?_
        refine lv_iadd hx hb dX8_count_66 ?_
        refine lv_topi (fun z_68 ez_68 => ?_)
        obtain rfl : z_68 = (0 : Int32) := ez_68.trans (by decide)
        refine lv_istore_n (lv' := [(2, .int 0), (3, .int 1), (0, .ref h0), (1, .int p0)]) hx hb dX8_count_67 rfl hl (by decide) rfl (fun ls hl => ?_)
        refine lv_iinc (v := 2) (lv' := [(3, .int 2), (2, .int 0), (0, .ref h0), (1, .int p0)]) hx hb dX8_count_68 hl (k := 1) rfl (by decide) (by decide) rfl (fun ls hl => ?_)
        refine lv_goto (tgt := 45) hx hb dX8_count_71 (by decide) ?_
        refine lv_iload_n hx hb dX8_count_45 rfl (lv_at hl 0 rfl) ?_
        refine lv_bipush (v := 16) hx hb dX8_count_46 (by decide) ?_
        refine lv_icmp_ge (tgt := 74) hx hb dX8_count_48 (by decide) (fun c_69 => absurd c_69 (by decide)) (fun c_69 => ?_)
        refine lv_iload_n hx hb dX8_count_51 rfl (lv_at hl 1 rfl) ?_
        refine lv_aload_n hx hb dX8_count_52 rfl (lv_at hl 2 rfl) ?_
        refine va_get (D := (dC, dI)) (ci := 8) (v := .ref q1) (C := RX8) (T := TX8) (N := 17) hx hb hts (by decide +kernel) hown hK hP 0 rfl rfl 1 (by decide) (hts (.fieldLink RX8 7 "KeyAtlasModel" "kind" "[I") (by decide +kernel)) (fun _ h9 => h9) rfl dX8_count_53 ?_
        refine lv_iload_n hx hb dX8_count_56 rfl (lv_at hl 0 rfl) ?_
        refine va_iald (i := 2) hx hb hK hP 1 0 rfl rfl (by unfold vp_in; decide) dX8_count_57 ?_
        refine W.eq (g2 := F0 m 58 ls [.int 0, .int 0]) rfl ?_
        refine lv_if_eq (tgt := 65) hx hb dX8_count_58 (by decide) (fun c_70 => ?_) (fun c_70 => absurd c_70 (by decide))
        refine lv_iconst (v := 0) hx hb dX8_count_65 (by decide) ?_
        refine lv_iadd hx hb dX8_count_66 ?_
        refine lv_topi (fun z_71 ez_71 => ?_)
        obtain rfl : z_71 = (0 : Int32) := ez_71.trans (by decide)
        refine lv_istore_n (lv' := [(2, .int 0), (3, .int 2), (0, .ref h0), (1, .int p0)]) hx hb dX8_count_67 rfl hl (by decide) rfl (fun ls hl => ?_)
        refine lv_iinc (v := 3) (lv' := [(3, .int 3), (2, .int 0), (0, .ref h0), (1, .int p0)]) hx hb dX8_count_68 hl (k := 1) rfl (by decide) (by decide) rfl (fun ls hl => ?_)
        refine lv_goto (tgt := 45) hx hb dX8_count_71 (by decide) ?_
        refine lv_iload_n hx hb dX8_count_45 rfl (lv_at hl 0 rfl) ?_
        refine lv_bipush (v := 16) hx hb dX8_count_46 (by decide) ?_
        refine lv_icmp_ge (tgt := 74) hx hb dX8_count_48 (by decide) (fun c_72 => absurd c_72 (by decide)) (fun c_72 => ?_)
        refine lv_iload_n hx hb dX8_count_51 rfl (lv_at hl 1 rfl) ?_
        refine lv_aload_n hx hb dX8_count_52 rfl (lv_at hl 2 rfl) ?_
        refine va_get (D := (dC, dI)) (ci := 8) (v := .ref q1) (C := RX8) (T := TX8) (N := 17) hx hb hts (by decide +kernel) hown hK hP 0 rfl rfl 1 (by decide) (hts (.fieldLink RX8 7 "KeyAtlasModel" "kind" "[I") (by decide +kernel)) (fun _ h9 => h9) rfl dX8_count_53 ?_
        refine lv_iload_n hx hb dX8_count_56 rfl (lv_at hl 0 rfl) ?_
        refine va_iald (i := 3) hx hb hK hP 1 0 rfl rfl (by unfold vp_in; decide) dX8_count_57 ?_
        refine W.eq (g2 := F0 m 58 ls [.int 0, .int 0]) rfl ?_
        refine lv_if_eq (tgt := 65) hx hb dX8_count_58 (by decide) (fun c_73 => ?_) (fun c_73 => absurd c_73 (by decide))
        refine lv_iconst (v := 0) hx hb dX8_count_65 (by decide) ?_
        refine lv_iadd hx hb dX8_count_66 ?_
        refine lv_topi (fun z_74 ez_74 => ?_)
        obtain rfl : z_74 = (0 : Int32) := ez_74.trans (by decide)
        refine lv_istore_n (lv' := [(2, .int 0), (3, .int 3), (0, .ref h0), (1, .int p0)]) hx hb dX8_count_67 rfl hl (by decide) rfl (fun ls hl => ?_)
        refine lv_iinc (v := 4) (lv' := [(3, .int 4), (2, .int 0), (0, .ref h0), (1, .int p0)]) hx hb dX8_count_68 hl (k := 1) rfl (by decide) (by decide) rfl (fun ls hl => ?_)
        refine lv_goto (tgt := 45) hx hb dX8_count_71 (by decide) ?_
        refine lv_iload_n hx hb dX8_count_45 rfl (lv_at hl 0 rfl) ?_
        refine lv_bipush (v := 16) hx hb dX8_count_46 (by decide) ?_
        refine lv_icmp_ge (tgt := 74) hx hb dX8_count_48 (by decide) (fun c_75 => absurd c_75 (by decide)) (fun c_75 => ?_)
        refine lv_iload_n hx hb dX8_count_51 rfl (lv_at hl 1 rfl) ?_
        refine lv_aload_n hx hb dX8_count_52 rfl (lv_at hl 2 rfl) ?_
        refine va_get (D := (dC, dI)) (ci := 8) (v := .ref q1) (C := RX8) (T := TX8) (N := 17) hx hb hts (by decide +kernel) hown hK hP 0 rfl rfl 1 (by decide) (hts (.fieldLink RX8 7 "KeyAtlasModel" "kind" "[I") (by decide +kernel)) (fun _ h9 => h9) rfl dX8_count_53 ?_
        refine lv_iload_n hx hb dX8_count_56 rfl (lv_at hl 0 rfl) ?_
        refine va_iald (i := 4) hx hb hK hP 1 0 rfl rfl (by unfold vp_in; decide) dX8_count_57 ?_
        refine W.eq (g2 := F0 m 58 ls [.int 0, .int 0]) rfl ?_
        refine lv_if_eq (tgt := 65) hx hb dX8_count_58 (by decide) (fun c_76 => ?_) (fun c_76 => absurd c_76 (by decide))
        refine lv_iconst (v := 0) hx hb dX8_count_65 (by decide) ?_
        refine lv_iadd hx hb dX8_count_66 ?_
        refine lv_topi (fun z_77 ez_77 => ?_)
        obtain rfl : z_77 = (0 : Int32) := ez_77.trans (by decide)
        refine lv_istore_n (lv' := [(2, .int 0), (3, .int 4), (0, .ref h0), (1, .int p0)]) hx hb dX8_count_67 rfl hl (by decide) rfl (fun ls hl => ?_)
        refine lv_iinc (v := 5) (lv' := [(3, .int 5), (2, .int 0), (0, .ref h0), (1, .int p0)]) hx hb dX8_count_68 hl (k := 1) rfl (by decide) (by decide) rfl (fun ls hl => ?_)
        refine lv_goto (tgt := 45) hx hb dX8_count_71 (by decide) ?_
        refine lv_iload_n hx hb dX8_count_45 rfl (lv_at hl 0 rfl) ?_
        refine lv_bipush (v := 16) hx hb dX8_count_46 (by decide) ?_
        refine lv_icmp_ge (tgt := 74) hx hb dX8_count_48 (by decide) (fun c_78 => absurd c_78 (by decide)) (fun c_78 => ?_)
        refine lv_iload_n hx hb dX8_count_51 rfl (lv_at hl 1 rfl) ?_
        refine lv_aload_n hx hb dX8_count_52 rfl (lv_at hl 2 rfl) ?_
        refine va_get (D := (dC, dI)) (ci := 8) (v := .ref q1) (C := RX8) (T := TX8) (N := 17) hx hb hts (by decide +kernel) hown hK hP 0 rfl rfl 1 (by decide) (hts (.fieldLink RX8 7 "KeyAtlasModel" "kind" "[I") (by decide +kernel)) (fun _ h9 => h9) rfl dX8_count_53 ?_
        refine lv_iload_n hx hb dX8_count_56 rfl (lv_at hl 0 rfl) ?_
        refine va_iald (i := 5) hx hb hK hP 1 0 rfl rfl (by unfold vp_in; decide) dX8_count_57 ?_
        refine W.eq (g2 := F0 m 58 ls [.int 0, .int 0]) rfl ?_
        refine lv_if_eq (tgt := 65) hx hb dX8_count_58 (by decide) (fun c_79 => ?_) (fun c_79 => absurd c_79 (by decide))
        refine lv_iconst (v := 0) hx hb dX8_count_65 (by decide) ?_
        refine lv_iadd hx hb dX8_count_66 ?_
        refine lv_topi (fun z_80 ez_80 => ?_)
        obtain rfl : z_80 = (0 : Int32) := ez_80.trans (by decide)
        refine lv_istore_n (lv' := [(2, .int 0), (3, .int 5), (0, .ref h0), (1, .int p0)]) hx hb dX8_count_67 rfl hl (by decide) rfl (fun ls hl => ?_)
        refine lv_iinc (v := 6) (lv' := [(3, .int 6), (2, .int 0), (0, .ref h0), (1, .int p0)]) hx hb dX8_count_68 hl (k := 1) rfl (by decide) (by decide) rfl (fun ls hl => ?_)
        refine lv_goto (tgt := 45) hx hb dX8_count_71 (by decide) ?_
        refine lv_iload_n hx hb dX8_count_45 rfl (lv_at hl 0 rfl) ?_
        refine lv_bipush (v := 16) hx hb dX8_count_46 (by decide) ?_
        refine lv_icmp_ge (tgt := 74) hx hb dX8_count_48 (by decide) (fun c_81 => absurd c_81 (by decide)) (fun c_81 => ?_)
        refine lv_iload_n hx hb dX8_count_51 rfl (lv_at hl 1 rfl) ?_
        refine lv_aload_n hx hb dX8_count_52 rfl (lv_at hl 2 rfl) ?_
        refine va_get (D := (dC, dI)) (ci := 8) (v := .ref q1) (C := RX8) (T := TX8) (N := 17) hx hb hts (by decide +kernel) hown hK hP 0 rfl rfl 1 (by decide) (hts (.fieldLink RX8 7 "KeyAtlasModel" "kind" "[I") (by decide +kernel)) (fun _ h9 => h9) rfl dX8_count_53 ?_
        refine lv_iload_n hx hb dX8_count_56 rfl (lv_at hl 0 rfl) ?_
        refine va_iald (i := 6) hx hb hK hP 1 0 rfl rfl (by unfold vp_in; decide) dX8_count_57 ?_
        refine W.eq (g2 := F0 m 58 ls [.int 0, .int 0]) rfl ?_
        refine lv_if_eq (tgt := 65) hx hb dX8_count_58 (by decide) (fun c_82 => ?_) (fun c_82 => absurd c_82 (by decide))
        refine lv_iconst (v := 0) hx hb dX8_count_65 (by decide) ?_
        refine lv_iadd hx hb dX8_count_66 ?_
        refine lv_topi (fun z_83 ez_83 => ?_)
        obtain rfl : z_83 = (0 : Int32) := ez_83.trans (by decide)
        refine lv_istore_n (lv' := [(2, .int 0), (3, .int 6), (0, .ref h0), (1, .int p0)]) hx hb dX8_count_67 rfl hl (by decide) rfl (fun ls hl => ?_)
        refine lv_iinc (v := 7) (lv' := [(3, .int 7), (2, .int 0), (0, .ref h0), (1, .int p0)]) hx hb dX8_count_68 hl (k := 1) rfl (by decide) (by decide) rfl (fun ls hl => ?_)
        refine lv_goto (tgt := 45) hx hb dX8_count_71 (by decide) ?_
        refine lv_iload_n hx hb dX8_count_45 rfl (lv_at hl 0 rfl) ?_
        refine lv_bipush (v := 16) hx hb dX8_count_46 (by decide) ?_
        refine lv_icmp_ge (tgt := 74) hx hb dX8_count_48 (by decide) (fun c_84 => absurd c_84 (by decide)) (fun c_84 => ?_)
        refine lv_iload_n hx hb dX8_count_51 rfl (lv_at hl 1 rfl) ?_
        refine lv_aload_n hx hb dX8_count_52 rfl (lv_at hl 2 rfl) ?_
        refine va_get (D := (dC, dI)) (ci := 8) (v := .ref q1) (C := RX8) (T := TX8) (N := 17) hx hb hts (by decide +kernel) hown hK hP 0 rfl rfl 1 (by decide) (hts (.fieldLink RX8 7 "KeyAtlasModel" "kind" "[I") (by decide +kernel)) (fun _ h9 => h9) rfl dX8_count_53 ?_
        refine lv_iload_n hx hb dX8_count_56 rfl (lv_at hl 0 rfl) ?_
        refine va_iald (i := 7) hx hb hK hP 1 0 rfl rfl (by unfold vp_in; decide) dX8_count_57 ?_
        refine W.eq (g2 := F0 m 58 ls [.int 0, .int 0]) rfl ?_
        refine lv_if_eq (tgt := 65) hx hb dX8_count_58 (by decide) (fun c_85 => ?_) (fun c_85 => absurd c_85 (by decide))
        refine lv_iconst (v := 0) hx hb dX8_count_65 (by decide) ?_
        refine lv_iadd hx hb dX8_count_66 ?_
        refine lv_topi (fun z_86 ez_86 => ?_)
        obtain rfl : z_86 = (0 : Int32) := ez_86.trans (by decide)
        refine lv_istore_n (lv' := [(2, .int 0), (3, .int 7), (0, .ref h0), (1, .int p0)]) hx hb dX8_count_67 rfl hl (by decide) rfl (fun ls hl => ?_)
        refine lv_iinc (v := 8) (lv' := [(3, .int 8), (2, .int 0), (0, .ref h0), (1, .int p0)]) hx hb dX8_count_68 hl (k := 1) rfl (by decide) (by decide) rfl (fun ls hl => ?_)
        refine lv_goto (tgt := 45) hx hb dX8_count_71 (by decide) ?_
        refine lv_iload_n hx hb dX8_count_45 rfl (lv_at hl 0 rfl) ?_
        refine lv_bipush (v := 16) hx hb dX8_count_46 (by decide) ?_
        refine lv_icmp_ge (tgt := 74) hx hb dX8_count_48 (by decide) (fun c_87 => absurd c_87 (by decide)) (fun c_87 => ?_)
        refine lv_iload_n hx hb dX8_count_51 rfl (lv_at hl 1 rfl) ?_
        refine lv_aload_n hx hb dX8_count_52 rfl (lv_at hl 2 rfl) ?_
        refine va_get (D := (dC, dI)) (ci := 8) (v := .ref q1) (C := RX8) (T := TX8) (N := 17) hx hb hts (by decide +kernel) hown hK hP 0 rfl rfl 1 (by decide) (hts (.fieldLink RX8 7 "KeyAtlasModel" "kind" "[I") (by decide +kernel)) (fun _ h9 => h9) rfl dX8_count_53 ?_
        refine lv_iload_n hx hb dX8_count_56 rfl (lv_at hl 0 rfl) ?_
        refine va_iald (i := 8) hx hb hK hP 1 0 rfl rfl (by unfold vp_in; decide) dX8_count_57 ?_
        refine W.eq (g2 := F0 m 58 ls [.int 0, .int 0]) rfl ?_
        refine lv_if_eq (tgt := 65) hx hb dX8_count_58 (by decide) (fun c_88 => ?_) (fun c_88 => absurd c_88 (by decide))
        refine lv_iconst (v := 0) hx hb dX8_count_65 (by decide) ?_
        refine lv_iadd hx hb dX8_count_66 ?_
        refine lv_topi (fun z_89 ez_89 => ?_)
        obtain rfl : z_89 = (0 : Int32) := ez_89.trans (by decide)
        refine lv_istore_n (lv' := [(2, .int 0), (3, .int 8), (0, .ref h0), (1, .int p0)]) hx hb dX8_count_67 rfl hl (by decide) rfl (fun ls hl => ?_)
        refine lv_iinc (v := 9) (lv' := [(3, .int 9), (2, .int 0), (0, .ref h0), (1, .int p0)]) hx hb dX8_count_68 hl (k := 1) rfl (by decide) (by decide) rfl (fun ls hl => ?_)
        refine lv_goto (tgt := 45) hx hb dX8_count_71 (by decide) ?_
        refine lv_iload_n hx hb dX8_count_45 rfl (lv_at hl 0 rfl) ?_
        refine lv_bipush (v := 16) hx hb dX8_count_46 (by decide) ?_
        refine lv_icmp_ge (tgt := 74) hx hb dX8_count_48 (by decide) (fun c_90 => absurd c_90 (by decide)) (fun c_90 => ?_)
        refine lv_iload_n hx hb dX8_count_51 rfl (lv_at hl 1 rfl) ?_
        refine lv_aload_n hx hb dX8_count_52 rfl (lv_at hl 2 rfl) ?_
        refine va_get (D := (dC, dI)) (ci := 8) (v := .ref q1) (C := RX8) (T := TX8) (N := 17) hx hb hts (by decide +kernel) hown hK hP 0 rfl rfl 1 (by decide) (hts (.fieldLink RX8 7 "KeyAtlasModel" "kind" "[I") (by decide +kernel)) (fun _ h9 => h9) rfl dX8_count_53 ?_
        refine lv_iload_n hx hb dX8_count_56 rfl (lv_at hl 0 rfl) ?_
        refine va_iald (i := 9) hx hb hK hP 1 0 rfl rfl (by unfold vp_in; decide) dX8_count_57 ?_
        refine W.eq (g2 := F0 m 58 ls [.int 0, .int 0]) rfl ?_
        refine lv_if_eq (tgt := 65) hx hb dX8_count_58 (by decide) (fun c_91 => ?_) (fun c_91 => absurd c_91 (by decide))
        refine lv_iconst (v := 0) hx hb dX8_count_65 (by decide) ?_
        refine lv_iadd hx hb dX8_count_66 ?_
        refine lv_topi (fun z_92 ez_92 => ?_)
        obtain rfl : z_92 = (0 : Int32) := ez_92.trans (by decide)
        refine lv_istore_n (lv' := [(2, .int 0), (3, .int 9), (0, .ref h0), (1, .int p0)]) hx hb dX8_count_67 rfl hl (by decide) rfl (fun ls hl => ?_)
        refine lv_iinc (v := 10) (lv' := [(3, .int 10), (2, .int 0), (0, .ref h0), (1, .int p0)]) hx hb dX8_count_68 hl (k := 1) rfl (by decide) (by decide) rfl (fun ls hl => ?_)
        refine lv_goto (tgt := 45) hx hb dX8_count_71 (by decide) ?_
        refine lv_iload_n hx hb dX8_count_45 rfl (lv_at hl 0 rfl) ?_
        refine lv_bipush (v := 16) hx hb dX8_count_46 (by decide) ?_
        refine lv_icmp_ge (tgt := 74) hx hb dX8_count_48 (by decide) (fun c_93 => absurd c_93 (by decide)) (fun c_93 => ?_)
        refine lv_iload_n hx hb dX8_count_51 rfl (lv_at hl 1 rfl) ?_
        refine lv_aload_n hx hb dX8_count_52 rfl (lv_at hl 2 rfl) ?_
        refine va_get (D := (dC, dI)) (ci := 8) (v := .ref q1) (C := RX8) (T := TX8) (N := 17) hx hb hts (by decide +kernel) hown hK hP 0 rfl rfl 1 (by decide) (hts (.fieldLink RX8 7 "KeyAtlasModel" "kind" "[I") (by decide +kernel)) (fun _ h9 => h9) rfl dX8_count_53 ?_
        refine lv_iload_n hx hb dX8_count_56 rfl (lv_at hl 0 rfl) ?_
        refine va_iald (i := 10) hx hb hK hP 1 0 rfl rfl (by unfold vp_in; decide) dX8_count_57 ?_
        refine W.eq (g2 := F0 m 58 ls [.int 0, .int 0]) rfl ?_
        refine lv_if_eq (tgt := 65) hx hb dX8_count_58 (by decide) (fun c_94 => ?_) (fun c_94 => absurd c_94 (by decide))
        refine lv_iconst (v := 0) hx hb dX8_count_65 (by decide) ?_
        refine lv_iadd hx hb dX8_count_66 ?_
        refine lv_topi (fun z_95 ez_95 => ?_)
        obtain rfl : z_95 = (0 : Int32) := ez_95.trans (by decide)
        refine lv_istore_n (lv' := [(2, .int 0), (3, .int 10), (0, .ref h0), (1, .int p0)]) hx hb dX8_count_67 rfl hl (by decide) rfl (fun ls hl => ?_)
        refine lv_iinc (v := 11) (lv' := [(3, .int 11), (2, .int 0), (0, .ref h0), (1, .int p0)]) hx hb dX8_count_68 hl (k := 1) rfl (by decide) (by decide) rfl (fun ls hl => ?_)
        refine lv_goto (tgt := 45) hx hb dX8_count_71 (by decide) ?_
        refine lv_iload_n hx hb dX8_count_45 rfl (lv_at hl 0 rfl) ?_
        refine lv_bipush (v := 16) hx hb dX8_count_46 (by decide) ?_
        refine lv_icmp_ge (tgt := 74) hx hb dX8_count_48 (by decide) (fun c_96 => absurd c_96 (by decide)) (fun c_96 => ?_)
        refine lv_iload_n hx hb dX8_count_51 rfl (lv_at hl 1 rfl) ?_
        refine lv_aload_n hx hb dX8_count_52 rfl (lv_at hl 2 rfl) ?_
        refine va_get (D := (dC, dI)) (ci := 8) (v := .ref q1) (C := RX8) (T := TX8) (N := 17) hx hb hts (by decide +kernel) hown hK hP 0 rfl rfl 1 (by decide) (hts (.fieldLink RX8 7 "KeyAtlasModel" "kind" "[I") (by decide +kernel)) (fun _ h9 => h9) rfl dX8_count_53 ?_
        refine lv_iload_n hx hb dX8_count_56 rfl (lv_at hl 0 rfl) ?_
        refine va_iald (i := 11) hx hb hK hP 1 0 rfl rfl (by unfold vp_in; decide) dX8_count_57 ?_
        refine W.eq (g2 := F0 m 58 ls [.int 0, .int 0]) rfl ?_
        refine lv_if_eq (tgt := 65) hx hb dX8_count_58 (by decide) (fun c_97 => ?_) (fun c_97 => absurd c_97 (by decide))
        refine lv_iconst (v := 0) hx hb dX8_count_65 (by decide) ?_
        refine lv_iadd hx hb dX8_count_66 ?_
        refine lv_topi (fun z_98 ez_98 => ?_)
        obtain rfl : z_98 = (0 : Int32) := ez_98.trans (by decide)
        refine lv_istore_n (lv' := [(2, .int 0), (3, .int 11), (0, .ref h0), (1, .int p0)]) hx hb dX8_count_67 rfl hl (by decide) rfl (fun ls hl => ?_)
        refine lv_iinc (v := 12) (lv' := [(3, .int 12), (2, .int 0), (0, .ref h0), (1, .int p0)]) hx hb dX8_count_68 hl (k := 1) rfl (by decide) (by decide) rfl (fun ls hl => ?_)
        refine lv_goto (tgt := 45) hx hb dX8_count_71 (by decide) ?_
        refine lv_iload_n hx hb dX8_count_45 rfl (lv_at hl 0 rfl) ?_
        refine lv_bipush (v := 16) hx hb dX8_count_46 (by decide) ?_
        refine lv_icmp_ge (tgt := 74) hx hb dX8_count_48 (by decide) (fun c_99 => absurd c_99 (by decide)) (fun c_99 => ?_)
        refine lv_iload_n hx hb dX8_count_51 rfl (lv_at hl 1 rfl) ?_
        refine lv_aload_n hx hb dX8_count_52 rfl (lv_at hl 2 rfl) ?_
        refine va_get (D := (dC, dI)) (ci := 8) (v := .ref q1) (C := RX8) (T := TX8) (N := 17) hx hb hts (by decide +kernel) hown hK hP 0 rfl rfl 1 (by decide) (hts (.fieldLink RX8 7 "KeyAtlasModel" "kind" "[I") (by decide +kernel)) (fun _ h9 => h9) rfl dX8_count_53 ?_
        refine lv_iload_n hx hb dX8_count_56 rfl (lv_at hl 0 rfl) ?_
        refine va_iald (i := 12) hx hb hK hP 1 0 rfl rfl (by unfold vp_in; decide) dX8_count_57 ?_
        refine W.eq (g2 := F0 m 58 ls [.int 0, .int 0]) rfl ?_
        refine lv_if_eq (tgt := 65) hx hb dX8_count_58 (by decide) (fun c_100 => ?_) (fun c_100 => absurd c_100 (by decide))
        refine lv_iconst (v := 0) hx hb dX8_count_65 (by decide) ?_
        refine lv_iadd hx hb dX8_count_66 ?_
        refine lv_topi (fun z_101 ez_101 => ?_)
        obtain rfl : z_101 = (0 : Int32) := ez_101.trans (by decide)
        refine lv_istore_n (lv' := [(2, .int 0), (3, .int 12), (0, .ref h0), (1, .int p0)]) hx hb dX8_count_67 rfl hl (by decide) rfl (fun ls hl => ?_)
        refine lv_iinc (v := 13) (lv' := [(3, .int 13), (2, .int 0), (0, .ref h0), (1, .int p0)]) hx hb dX8_count_68 hl (k := 1) rfl (by decide) (by decide) rfl (fun ls hl => ?_)
        refine lv_goto (tgt := 45) hx hb dX8_count_71 (by decide) ?_
        refine lv_iload_n hx hb dX8_count_45 rfl (lv_at hl 0 rfl) ?_
        refine lv_bipush (v := 16) hx hb dX8_count_46 (by decide) ?_
        refine lv_icmp_ge (tgt := 74) hx hb dX8_count_48 (by decide) (fun c_102 => absurd c_102 (by decide)) (fun c_102 => ?_)
        refine lv_iload_n hx hb dX8_count_51 rfl (lv_at hl 1 rfl) ?_
        refine lv_aload_n hx hb dX8_count_52 rfl (lv_at hl 2 rfl) ?_
        refine va_get (D := (dC, dI)) (ci := 8) (v := .ref q1) (C := RX8) (T := TX8) (N := 17) hx hb hts (by decide +kernel) hown hK hP 0 rfl rfl 1 (by decide) (hts (.fieldLink RX8 7 "KeyAtlasModel" "kind" "[I") (by decide +kernel)) (fun _ h9 => h9) rfl dX8_count_53 ?_
        refine lv_iload_n hx hb dX8_count_56 rfl (lv_at hl 0 rfl) ?_
        refine va_iald (i := 13) hx hb hK hP 1 0 rfl rfl (by unfold vp_in; decide) dX8_count_57 ?_
        refine W.eq (g2 := F0 m 58 ls [.int 0, .int 0]) rfl ?_
        refine lv_if_eq (tgt := 65) hx hb dX8_count_58 (by decide) (fun c_103 => ?_) (fun c_103 => absurd c_103 (by decide))
        refine lv_iconst (v := 0) hx hb dX8_count_65 (by decide) ?_
        refine lv_iadd hx hb dX8_count_66 ?_
        refine lv_topi (fun z_104 ez_104 => ?_)
        obtain rfl : z_104 = (0 : Int32) := ez_104.trans (by decide)
        refine lv_istore_n (lv' := [(2, .int 0), (3, .int 13), (0, .ref h0), (1, .int p0)]) hx hb dX8_count_67 rfl hl (by decide) rfl (fun ls hl => ?_)
        refine lv_iinc (v := 14) (lv' := [(3, .int 14), (2, .int 0), (0, .ref h0), (1, .int p0)]) hx hb dX8_count_68 hl (k := 1) rfl (by decide) (by decide) rfl (fun ls hl => ?_)
        refine lv_goto (tgt := 45) hx hb dX8_count_71 (by decide) ?_
        refine lv_iload_n hx hb dX8_count_45 rfl (lv_at hl 0 rfl) ?_
        refine lv_bipush (v := 16) hx hb dX8_count_46 (by decide) ?_
        refine lv_icmp_ge (tgt := 74) hx hb dX8_count_48 (by decide) (fun c_105 => absurd c_105 (by decide)) (fun c_105 => ?_)
        refine lv_iload_n hx hb dX8_count_51 rfl (lv_at hl 1 rfl) ?_
        refine lv_aload_n hx hb dX8_count_52 rfl (lv_at hl 2 rfl) ?_
        refine va_get (D := (dC, dI)) (ci := 8) (v := .ref q1) (C := RX8) (T := TX8) (N := 17) hx hb hts (by decide +kernel) hown hK hP 0 rfl rfl 1 (by decide) (hts (.fieldLink RX8 7 "KeyAtlasModel" "kind" "[I") (by decide +kernel)) (fun _ h9 => h9) rfl dX8_count_53 ?_
        refine lv_iload_n hx hb dX8_count_56 rfl (lv_at hl 0 rfl) ?_
        refine va_iald (i := 14) hx hb hK hP 1 0 rfl rfl (by unfold vp_in; decide) dX8_count_57 ?_
        refine W.eq (g2 := F0 m 58 ls [.int 0, .int 0]) rfl ?_
        refine lv_if_eq (tgt := 65) hx hb dX8_count_58 (by decide) (fun c_106 => ?_) (fun c_106 => absurd c_106 (by decide))
        refine lv_iconst (v := 0) hx hb dX8_count_65 (by decide) ?_
        refine lv_iadd hx hb dX8_count_66 ?_
        refine lv_topi (fun z_107 ez_107 => ?_)
        obtain rfl : z_107 = (0 : Int32) := ez_107.trans (by decide)
        refine lv_istore_n (lv' := [(2, .int 0), (3, .int 14), (0, .ref h0), (1, .int p0)]) hx hb dX8_count_67 rfl hl (by decide) rfl (fun ls hl => ?_)
        refine lv_iinc (v := 15) (lv' := [(3, .int 15), (2, .int 0), (0, .ref h0), (1, .int p0)]) hx hb dX8_count_68 hl (k := 1) rfl (by decide) (by decide) rfl (fun ls hl => ?_)
        refine lv_goto (tgt := 45) hx hb dX8_count_71 (by decide) ?_
        refine lv_iload_n hx hb dX8_count_45 rfl (lv_at hl 0 rfl) ?_
        refine lv_bipush (v := 16) hx hb dX8_count_46 (by decide) ?_
        refine lv_icmp_ge (tgt := 74) hx hb dX8_count_48 (by decide) (fun c_108 => absurd c_108 (by decide)) (fun c_108 => ?_)
        refine lv_iload_n hx hb dX8_count_51 rfl (lv_at hl 1 rfl) ?_
        refine lv_aload_n hx hb dX8_count_52 rfl (lv_at hl 2 rfl) ?_
        refine va_get (D := (dC, dI)) (ci := 8) (v := .ref q1) (C := RX8) (T := TX8) (N := 17) hx hb hts (by decide +kernel) hown hK hP 0 rfl rfl 1 (by decide) (hts (.fieldLink RX8 7 "KeyAtlasModel" "kind" "[I") (by decide +kernel)) (fun _ h9 => h9) rfl dX8_count_53 ?_
        refine lv_iload_n hx hb dX8_count_56 rfl (lv_at hl 0 rfl) ?_
        refine va_iald (i := 15) hx hb hK hP 1 0 rfl rfl (by unfold vp_in; decide) dX8_count_57 ?_
        refine W.eq (g2 := F0 m 58 ls [.int 0, .int 0]) rfl ?_
        refine lv_if_eq (tgt := 65) hx hb dX8_count_58 (by decide) (fun c_109 => ?_) (fun c_109 => absurd c_109 (by decide))
        refine lv_iconst (v := 0) hx hb dX8_count_65 (by decide) ?_
        refine lv_iadd hx hb dX8_count_66 ?_
        refine lv_topi (fun z_110 ez_110 => ?_)
        obtain rfl : z_110 = (0 : Int32) := ez_110.trans (by decide)
        refine lv_istore_n (lv' := [(2, .int 0), (3, .int 15), (0, .ref h0), (1, .int p0)]) hx hb dX8_count_67 rfl hl (by decide) rfl (fun ls hl => ?_)
        refine lv_iinc (v := 16) (lv' := [(3, .int 16), (2, .int 0), (0, .ref h0), (1, .int p0)]) hx hb dX8_count_68 hl (k := 1) rfl (by decide) (by decide) rfl (fun ls hl => ?_)
        refine lv_goto (tgt := 45) hx hb dX8_count_71 (by decide) ?_
        refine lv_iload_n hx hb dX8_count_45 rfl (lv_at hl 0 rfl) ?_
        refine lv_bipush (v := 16) hx hb dX8_count_46 (by decide) ?_
        refine lv_icmp_ge (tgt := 74) hx hb dX8_count_48 (by decide) (fun c_111 => ?_) (fun c_111 => absurd c_111 (by decide))
        refine lv_iload_n hx hb dX8_count_74 rfl (lv_at hl 1 rfl) ?_
        have hP9 := hP.sub (ws' := [(h0, .inr (8, [.int 0, .ref q1, v2, .ref q3, .ref q4, .ref q5, .ref q6, .ref q7, .ref q8, v9, v10, v11, v12, v13, v14, v15, v16]))]) [0] rfl
        have hD9 := hD.sub (ws' := [(h0, .inr (8, [.int 0, .ref q1, v2, .ref q3, .ref q4, .ref q5, .ref q6, .ref q7, .ref q8, v9, v10, v11, v12, v13, v14, v15, v16]))]) [0] (by decide) rfl
        have hK9 := hK.sub (tys' := []) [] rfl
        refine W.widen (k := 0) (n := 0) (Nat.le_of_ble_eq_true rfl) (Nat.le_of_ble_eq_true rfl) ?_
        exact W.iret (v := 0) hx hb hr (fun t ht hW => ⟨⟨0, 0, rfl, tx_at2 (P := ctIs p0) (n := 0) (m := 0) (by decide) (by decide) (by unfold ctIs; omega), by rw [ht]; exact hP9, va_K.moved hW.alike hK9, hD9⟩, hS.F ht⟩) hS.2.2 dX8_count_75
    ·
      have ic_57 : r_56.toInt = 0 := tx_eq rfl (by decide) c_57
      refine lv_iload_n hx hb dX8_count_15 rfl (lv_at hl 1 rfl) ?_
      refine lv_bipush (v := 30) hx hb dX8_count_16 (by decide) ?_
      refine lv_bipush (v := 45) hx hb dX8_count_18 (by decide) ?_
      have hPc := hP.sub (ws' := []) [] rfl
      have hDc := hD.sub (ws' := []) [] (by decide) rfl
      have hKc := hK.sub (tys' := []) [] rfl
      have hFc := va_free (wc := []) hD hS hA [] rfl
      refine va_calli (va_runS (As := [.int p0, .int 30, .int 45]) (rest := []) ⟨hx, hb, hml, hown, hts⟩ (c_X8_in l  dC dI H.size p0 30 45 30 45 (by decide) (by decide)) (va_cwS 3 hts gP_X8_count_in rfl rfl rfl (by decide +kernel) ⟨(Nat.le_of_ble_eq_true rfl), (Nat.le_of_ble_eq_true rfl)⟩) ⟨pk_blind, pk_call hPc hKc hDc⟩ rfl rfl hl.1 rfl (lv_room (Nat.le_of_ble_eq_true rfl)) dX8_count_20 ⟨(Nat.le_of_ble_eq_true rfl), (Nat.le_of_ble_eq_true rfl)⟩) hS (fun q _ h => hFc q h) hFc (fun r_112 ur_112 t H1 locs ht hvm hw hB hz1 hk1 hS => ?_)
      try dsimp only at hw
      have jr_112 := hw
      obtain ⟨hP, hD⟩ := va_join (wr := [(h0, .inr (8, [.int th, .ref q1, v2, .ref q3, .ref q4, .ref q5, .ref q6, .ref q7, .ref q8, v9, v10, v11, v12, v13, v14, v15, v16])), (q1, .inl (c1, 16, .inl (fun _ => (0 : Int32)))), (q3, .inl (c3, 16, .inl (fun _ => (0 : Int32)))), (q4, .inl (c4, 16, .inl (fun _ => (0 : Int32)))), (q5, .inl (c5, 16, .inl (fun _ => (0 : Int32)))), (q6, .inl (c6, 16, .inl (fun _ => (0 : Int32)))), (q7, .inl (c7, 16, .inl (fun _ => (0 : Int32)))), (q8, .inl (c8, 16, .inl (fun _ => (0 : Int32))))]) (w1 := []) hP hD [] [0, 1, 2, 3, 4, 5, 6, 7] rfl rfl (by decide) (by decide) hk1 hFc tx_P0 tx_D0
      clear hk1 hz1 ht hPc hDc hKc
      generalize H1 = H at hP hS ⊢
      have hP : va_P (dC, dI) vwCl [(h0, .inr (8, [.int th, .ref q1, v2, .ref q3, .ref q4, .ref q5, .ref q6, .ref q7, .ref q8, v9, v10, v11, v12, v13, v14, v15, v16])), (q1, .inl (c1, 16, .inl (fun _ => (0 : Int32)))), (q3, .inl (c3, 16, .inl (fun _ => (0 : Int32)))), (q4, .inl (c4, 16, .inl (fun _ => (0 : Int32)))), (q5, .inl (c5, 16, .inl (fun _ => (0 : Int32)))), (q6, .inl (c6, 16, .inl (fun _ => (0 : Int32)))), (q7, .inl (c7, 16, .inl (fun _ => (0 : Int32)))), (q8, .inl (c8, 16, .inl (fun _ => (0 : Int32))))] H := hP
      have hD : va_D A [(h0, .inr (8, [.int th, .ref q1, v2, .ref q3, .ref q4, .ref q5, .ref q6, .ref q7, .ref q8, v9, v10, v11, v12, v13, v14, v15, v16])), (q1, .inl (c1, 16, .inl (fun _ => (0 : Int32)))), (q3, .inl (c3, 16, .inl (fun _ => (0 : Int32)))), (q4, .inl (c4, 16, .inl (fun _ => (0 : Int32)))), (q5, .inl (c5, 16, .inl (fun _ => (0 : Int32)))), (q6, .inl (c6, 16, .inl (fun _ => (0 : Int32)))), (q7, .inl (c7, 16, .inl (fun _ => (0 : Int32)))), (q8, .inl (c8, 16, .inl (fun _ => (0 : Int32))))] := hD
      refine W.widen (k := 0) (n := 0) (Nat.le_of_ble_eq_true rfl) (Nat.le_of_ble_eq_true rfl) ?_
      refine W.eq (g2 := F0 m 23 ls [.int r_112]) rfl ?_
      refine lv_if_ne (tgt := 32) hx hb dX8_count_23 (by decide) (fun c_113 => ?_) (fun c_113 => ?_)
      ·
        have ic_113 : ¬ r_112.toInt = 0 := tx_ne rfl (by decide) c_113
        refine lv_aload_n hx hb dX8_count_32 rfl (lv_at hl 0 rfl) ?_
        refine lv_iconst (v := 0) hx hb dX8_count_33 (by decide) ?_
        refine va_put (D := (dC, dI)) (ci := 8) (v := .int 0) (ty := .int) (C := RX8) (T := TX8) (N := 17) hx hb hts (by decide +kernel) tyX8 tyX8_ok nmX8 hown hK hP hD hS 0 rfl rfl 0 (by decide) (hts (.fieldLink RX8 60 "KeyAtlasModel" "thrown" "I") (by decide +kernel)) (fun _ h9 => h9) rfl (by decide +kernel) rfl rfl (Nat.le_of_ble_eq_true rfl) dX8_count_34 (fun H locs hP hD hS => ?_)
        have hP : va_P (dC, dI) vwCl [(h0, .inr (8, [.int 0, .ref q1, v2, .ref q3, .ref q4, .ref q5, .ref q6, .ref q7, .ref q8, v9, v10, v11, v12, v13, v14, v15, v16])), (q1, .inl (c1, 16, .inl (fun _ => (0 : Int32)))), (q3, .inl (c3, 16, .inl (fun _ => (0 : Int32)))), (q4, .inl (c4, 16, .inl (fun _ => (0 : Int32)))), (q5, .inl (c5, 16, .inl (fun _ => (0 : Int32)))), (q6, .inl (c6, 16, .inl (fun _ => (0 : Int32)))), (q7, .inl (c7, 16, .inl (fun _ => (0 : Int32)))), (q8, .inl (c8, 16, .inl (fun _ => (0 : Int32))))] H := hP
        have hD : va_D A [(h0, .inr (8, [.int 0, .ref q1, v2, .ref q3, .ref q4, .ref q5, .ref q6, .ref q7, .ref q8, v9, v10, v11, v12, v13, v14, v15, v16])), (q1, .inl (c1, 16, .inl (fun _ => (0 : Int32)))), (q3, .inl (c3, 16, .inl (fun _ => (0 : Int32)))), (q4, .inl (c4, 16, .inl (fun _ => (0 : Int32)))), (q5, .inl (c5, 16, .inl (fun _ => (0 : Int32)))), (q6, .inl (c6, 16, .inl (fun _ => (0 : Int32)))), (q7, .inl (c7, 16, .inl (fun _ => (0 : Int32)))), (q8, .inl (c8, 16, .inl (fun _ => (0 : Int32))))] := hD
        refine lv_iload_n hx hb dX8_count_37 rfl (lv_at hl 1 rfl) ?_
        refine lv_if_ne (tgt := 76) hx hb dX8_count_38 (by decide) (fun c_114 => ?_) (fun c_114 => ?_)
        ·
          have ic_114 : ¬ p0.toInt = 0 := tx_ne rfl (by decide) c_114
          refine lv_iload_n hx hb dX8_count_76 rfl (lv_at hl 1 rfl) ?_
          refine lv_bipush (v := 30) hx hb dX8_count_77 (by decide) ?_
          refine lv_icmp_ge (tgt := 94) hx hb dX8_count_79 (by decide) (fun c_115 => ?_) (fun c_115 => ?_)
          ·
            have ic_115 : 30 ≤ p0.toInt := tx_le (by decide) rfl c_115
            refine lv_aload_n hx hb dX8_count_94 rfl (lv_at hl 0 rfl) ?_
            refine lv_iload_n hx hb dX8_count_95 rfl (lv_at hl 1 rfl) ?_
            refine lv_bipush (v := 30) hx hb dX8_count_96 (by decide) ?_
            refine lv_isub hx hb dX8_count_98 ?_
            have hPc := hP.sub (ws' := [(h0, .inr (8, [.int 0, .ref q1, v2, .ref q3, .ref q4, .ref q5, .ref q6, .ref q7, .ref q8, v9, v10, v11, v12, v13, v14, v15, v16])), (q1, .inl (c1, 16, .inl (fun _ => (0 : Int32))))]) [0, 1] rfl
            have hDc := hD.sub (ws' := [(h0, .inr (8, [.int 0, .ref q1, v2, .ref q3, .ref q4, .ref q5, .ref q6, .ref q7, .ref q8, v9, v10, v11, v12, v13, v14, v15, v16])), (q1, .inl (c1, 16, .inl (fun _ => (0 : Int32))))]) [0, 1] (by decide) rfl
            have hKc := hK.sub (tys' := [(c1, .int)]) [0] rfl
            have hFc := va_free (wc := [(h0, .inr (8, [.int 0, .ref q1, v2, .ref q3, .ref q4, .ref q5, .ref q6, .ref q7, .ref q8, v9, v10, v11, v12, v13, v14, v15, v16])), (q1, .inl (c1, 16, .inl (fun _ => (0 : Int32))))]) hD hS hA [0, 1] rfl
            refine va_calli (va_runV (As := [.int (p0 - 30)]) (rest := []) ⟨hx, hb, hml, hown, hts⟩ (c_X8_isMap l  dC dI H.size h0 q1 c1 0 v2 (.ref q3) (.ref q4) (.ref q5) (.ref q6) (.ref q7) (.ref q8) v9 v10 v11 v12 v13 v14 v15 v16 (p0 - 30) (tx_subin (b := 30) (by decide) (by omega) (by omega) (by omega))) (cwV 1 hts gP_X8_count_isMap rfl rfl rfl (by decide +kernel) ⟨(Nat.le_of_ble_eq_true rfl), (Nat.le_of_ble_eq_true rfl)⟩) ⟨pk_blind, va_recv hKc hPc (ci := 8) (q0 := 0) rfl rfl, pk_call hPc hKc hDc⟩ rfl rfl hl.1 rfl (lv_room (Nat.le_of_ble_eq_true rfl)) dX8_count_99 ⟨(Nat.le_of_ble_eq_true rfl), (Nat.le_of_ble_eq_true rfl)⟩) hS (fun q _ h => hFc q h) hFc (fun r_116 ur_116 t H1 locs ht hvm hw hB hz1 hk1 hS => ?_)
            try dsimp only at hw
            obtain ⟨hP1, hK1, hD1⟩ := hB
            rw [ht] at hP1
            have hK1 := va_K.moved hvm.symm hK1
            obtain ⟨hP, hD⟩ := va_join (wr := [(q3, .inl (c3, 16, .inl (fun _ => (0 : Int32)))), (q4, .inl (c4, 16, .inl (fun _ => (0 : Int32)))), (q5, .inl (c5, 16, .inl (fun _ => (0 : Int32)))), (q6, .inl (c6, 16, .inl (fun _ => (0 : Int32)))), (q7, .inl (c7, 16, .inl (fun _ => (0 : Int32)))), (q8, .inl (c8, 16, .inl (fun _ => (0 : Int32))))]) (w1 := [(h0, .inr (8, [.int 0, .ref q1, v2, .ref q3, .ref q4, .ref q5, .ref q6, .ref q7, .ref q8, v9, v10, v11, v12, v13, v14, v15, v16])), (q1, .inl (c1, 16, .inl (fun _ => (0 : Int32))))]) hP hD [0, 1] [2, 3, 4, 5, 6, 7] rfl rfl (by decide) (by decide) hk1 hFc hP1 hD1
            clear hk1 hz1 ht hPc hDc hKc
            generalize H1 = H at hP hS ⊢
            have hP : va_P (dC, dI) vwCl [(q3, .inl (c3, 16, .inl (fun _ => (0 : Int32)))), (q4, .inl (c4, 16, .inl (fun _ => (0 : Int32)))), (q5, .inl (c5, 16, .inl (fun _ => (0 : Int32)))), (q6, .inl (c6, 16, .inl (fun _ => (0 : Int32)))), (q7, .inl (c7, 16, .inl (fun _ => (0 : Int32)))), (q8, .inl (c8, 16, .inl (fun _ => (0 : Int32)))), (h0, .inr (8, [.int 0, .ref q1, v2, .ref q3, .ref q4, .ref q5, .ref q6, .ref q7, .ref q8, v9, v10, v11, v12, v13, v14, v15, v16])), (q1, .inl (c1, 16, .inl (fun _ => (0 : Int32))))] H := hP
            have hD : va_D A [(q3, .inl (c3, 16, .inl (fun _ => (0 : Int32)))), (q4, .inl (c4, 16, .inl (fun _ => (0 : Int32)))), (q5, .inl (c5, 16, .inl (fun _ => (0 : Int32)))), (q6, .inl (c6, 16, .inl (fun _ => (0 : Int32)))), (q7, .inl (c7, 16, .inl (fun _ => (0 : Int32)))), (q8, .inl (c8, 16, .inl (fun _ => (0 : Int32)))), (h0, .inr (8, [.int 0, .ref q1, v2, .ref q3, .ref q4, .ref q5, .ref q6, .ref q7, .ref q8, v9, v10, v11, v12, v13, v14, v15, v16])), (q1, .inl (c1, 16, .inl (fun _ => (0 : Int32))))] := hD
            refine W.widen (k := 0) (n := 0) (Nat.le_of_ble_eq_true rfl) (Nat.le_of_ble_eq_true rfl) ?_
            obtain rfl : r_116 = 0 := hw
            refine W.eq (g2 := F0 m 102 ls [.int 0]) rfl ?_
            refine lv_if_eq (tgt := 116) hx hb dX8_count_102 (by decide) (fun c_117 => ?_) (fun c_117 => absurd c_117 (by decide))
            refine lv_iconst (v := (-1)) hx hb dX8_count_116 (by decide) ?_
            have hP9 := hP.sub (ws' := [(h0, .inr (8, [.int 0, .ref q1, v2, .ref q3, .ref q4, .ref q5, .ref q6, .ref q7, .ref q8, v9, v10, v11, v12, v13, v14, v15, v16]))]) [6] rfl
            have hD9 := hD.sub (ws' := [(h0, .inr (8, [.int 0, .ref q1, v2, .ref q3, .ref q4, .ref q5, .ref q6, .ref q7, .ref q8, v9, v10, v11, v12, v13, v14, v15, v16]))]) [6] (by decide) rfl
            have hK9 := hK.sub (tys' := []) [] rfl
            refine W.widen (k := 0) (n := 0) (Nat.le_of_ble_eq_true rfl) (Nat.le_of_ble_eq_true rfl) ?_
            exact W.iret (v := -1) hx hb hr (fun t ht hW => ⟨⟨-1, 0, rfl, tx_at2 (P := ctIs p0) (n := 0) (m := -1) (by decide) (by decide) (by unfold ctIs; omega), by rw [ht]; exact hP9, va_K.moved hW.alike hK9, hD9⟩, hS.F ht⟩) hS.2.2 dX8_count_117
          ·
            have ic_115 : p0.toInt < 30 := tx_nle (by decide) rfl c_115
            refine lv_aload_n hx hb dX8_count_82 rfl (lv_at hl 0 rfl) ?_
            refine va_get (D := (dC, dI)) (ci := 8) (v := .ref q1) (C := RX8) (T := TX8) (N := 17) hx hb hts (by decide +kernel) hown hK hP 0 rfl rfl 1 (by decide) (hts (.fieldLink RX8 7 "KeyAtlasModel" "kind" "[I") (by decide +kernel)) (fun _ h9 => h9) rfl dX8_count_83 ?_
            refine lv_iload_n hx hb dX8_count_86 rfl (lv_at hl 1 rfl) ?_
            refine lv_bipush (v := 10) hx hb dX8_count_87 (by decide) ?_
            refine lv_isub hx hb dX8_count_89 ?_
            refine va_iald (i := p0 - 10) hx hb hK hP 1 0 rfl rfl (tx_subin (b := 10) (by decide) (by omega) (by omega) (by omega)) dX8_count_90 ?_
            refine W.eq (g2 := F0 m 91 ls [.int 0]) rfl ?_
            refine lv_iconst (v := 1) hx hb dX8_count_91 (by decide) ?_
            refine lv_isub hx hb dX8_count_92 ?_
            refine lv_topi (fun z_118 ez_118 => ?_)
            obtain rfl : z_118 = (-1 : Int32) := ez_118.trans (by decide)
            have hP9 := hP.sub (ws' := [(h0, .inr (8, [.int 0, .ref q1, v2, .ref q3, .ref q4, .ref q5, .ref q6, .ref q7, .ref q8, v9, v10, v11, v12, v13, v14, v15, v16]))]) [0] rfl
            have hD9 := hD.sub (ws' := [(h0, .inr (8, [.int 0, .ref q1, v2, .ref q3, .ref q4, .ref q5, .ref q6, .ref q7, .ref q8, v9, v10, v11, v12, v13, v14, v15, v16]))]) [0] (by decide) rfl
            have hK9 := hK.sub (tys' := []) [] rfl
            refine W.widen (k := 0) (n := 0) (Nat.le_of_ble_eq_true rfl) (Nat.le_of_ble_eq_true rfl) ?_
            exact W.iret (v := -1) hx hb hr (fun t ht hW => ⟨⟨-1, 0, rfl, tx_at2 (P := ctIs p0) (n := 0) (m := -1) (by decide) (by decide) (by unfold ctIs; omega), by rw [ht]; exact hP9, va_K.moved hW.alike hK9, hD9⟩, hS.F ht⟩) hS.2.2 dX8_count_93
        ·
          have ic_114 : p0.toInt = 0 := tx_eq rfl (by decide) c_114
          refine lv_iconst (v := 0) hx hb dX8_count_41 (by decide) ?_
          refine lv_istore_n (lv' := [(2, .int 0), (0, .ref h0), (1, .int p0)]) hx hb dX8_count_42 rfl hl (by decide) rfl (fun ls hl => ?_)
          refine lv_iconst (v := 0) hx hb dX8_count_43 (by decide) ?_
          refine lv_istore_n (lv' := [(3, .int 0), (2, .int 0), (0, .ref h0), (1, .int p0)]) hx hb dX8_count_44 rfl hl (by decide) rfl (fun ls hl => ?_)
          refine lv_iload_n hx hb dX8_count_45 rfl (lv_at hl 0 rfl) ?_
          refine lv_bipush (v := 16) hx hb dX8_count_46 (by decide) ?_
          refine lv_icmp_ge (tgt := 74) hx hb dX8_count_48 (by decide) (fun c_119 => absurd c_119 (by decide)) (fun c_119 => ?_)
          refine lv_iload_n hx hb dX8_count_51 rfl (lv_at hl 1 rfl) ?_
          refine lv_aload_n hx hb dX8_count_52 rfl (lv_at hl 2 rfl) ?_
          refine va_get (D := (dC, dI)) (ci := 8) (v := .ref q1) (C := RX8) (T := TX8) (N := 17) hx hb hts (by decide +kernel) hown hK hP 0 rfl rfl 1 (by decide) (hts (.fieldLink RX8 7 "KeyAtlasModel" "kind" "[I") (by decide +kernel)) (fun _ h9 => h9) rfl dX8_count_53 ?_
          refine lv_iload_n hx hb dX8_count_56 rfl (lv_at hl 0 rfl) ?_
          refine va_iald (i := 0) hx hb hK hP 1 0 rfl rfl (by unfold vp_in; decide) dX8_count_57 ?_
          refine W.eq (g2 := F0 m 58 ls [.int 0, .int 0]) rfl ?_
          refine lv_if_eq (tgt := 65) hx hb dX8_count_58 (by decide) (fun c_120 => ?_) (fun c_120 => absurd c_120 (by decide))
          refine lv_iconst (v := 0) hx hb dX8_count_65 (by decide) ?_
          refine lv_iadd hx hb dX8_count_66 ?_
          refine lv_topi (fun z_121 ez_121 => ?_)
          obtain rfl : z_121 = (0 : Int32) := ez_121.trans (by decide)
          refine lv_istore_n (lv' := [(2, .int 0), (3, .int 0), (0, .ref h0), (1, .int p0)]) hx hb dX8_count_67 rfl hl (by decide) rfl (fun ls hl => ?_)
          refine lv_iinc (v := 1) (lv' := [(3, .int 1), (2, .int 0), (0, .ref h0), (1, .int p0)]) hx hb dX8_count_68 hl (k := 1) rfl (by decide) (by decide) rfl (fun ls hl => ?_)
          refine lv_goto (tgt := 45) hx hb dX8_count_71 (by decide) ?_
          refine lv_iload_n hx hb dX8_count_45 rfl (lv_at hl 0 rfl) ?_
          refine lv_bipush (v := 16) hx hb dX8_count_46 (by decide) ?_
          refine lv_icmp_ge (tgt := 74) hx hb dX8_count_48 (by decide) (fun c_122 => absurd c_122 (by decide)) (fun c_122 => ?_)
          refine lv_iload_n hx hb dX8_count_51 rfl (lv_at hl 1 rfl) ?_
          refine lv_aload_n hx hb dX8_count_52 rfl (lv_at hl 2 rfl) ?_
          refine va_get (D := (dC, dI)) (ci := 8) (v := .ref q1) (C := RX8) (T := TX8) (N := 17) hx hb hts (by decide +kernel) hown hK hP 0 rfl rfl 1 (by decide) (hts (.fieldLink RX8 7 "KeyAtlasModel" "kind" "[I") (by decide +kernel)) (fun _ h9 => h9) rfl dX8_count_53 ?_
          refine lv_iload_n hx hb dX8_count_56 rfl (lv_at hl 0 rfl) ?_
          refine va_iald (i := 1) hx hb hK hP 1 0 rfl rfl (by unfold vp_in; decide) dX8_count_57 ?_
          refine W.eq (g2 := F0 m 58 ls [.int 0, .int 0]) rfl ?_
          refine lv_if_eq (tgt := 65) hx hb dX8_count_58 (by decide) (fun c_123 => ?_) (fun c_123 => absurd c_123 (by decide))
          refine lv_iconst (v := 0) hx hb dX8_count_65 (by decide) ?_
          refine lv_iadd hx hb dX8_count_66 ?_
          refine lv_topi (fun z_124 ez_124 => ?_)
          obtain rfl : z_124 = (0 : Int32) := ez_124.trans (by decide)
          refine lv_istore_n (lv' := [(2, .int 0), (3, .int 1), (0, .ref h0), (1, .int p0)]) hx hb dX8_count_67 rfl hl (by decide) rfl (fun ls hl => ?_)
          refine lv_iinc (v := 2) (lv' := [(3, .int 2), (2, .int 0), (0, .ref h0), (1, .int p0)]) hx hb dX8_count_68 hl (k := 1) rfl (by decide) (by decide) rfl (fun ls hl => ?_)
          refine lv_goto (tgt := 45) hx hb dX8_count_71 (by decide) ?_
          refine lv_iload_n hx hb dX8_count_45 rfl (lv_at hl 0 rfl) ?_
          refine lv_bipush (v := 16) hx hb dX8_count_46 (by decide) ?_
          refine lv_icmp_ge (tgt := 74) hx hb dX8_count_48 (by decide) (fun c_125 => absurd c_125 (by decide)) (fun c_125 => ?_)
          refine lv_iload_n hx hb dX8_count_51 rfl (lv_at hl 1 rfl) ?_
          refine lv_aload_n hx hb dX8_count_52 rfl (lv_at hl 2 rfl) ?_
          refine va_get (D := (dC, dI)) (ci := 8) (v := .ref q1) (C := RX8) (T := TX8) (N := 17) hx hb hts (by decide +kernel) hown hK hP 0 rfl rfl 1 (by decide) (hts (.fieldLink RX8 7 "KeyAtlasModel" "kind" "[I") (by decide +kernel)) (fun _ h9 => h9) rfl dX8_count_53 ?_
          refine lv_iload_n hx hb dX8_count_56 rfl (lv_at hl 0 rfl) ?_
          refine va_iald (i := 2) hx hb hK hP 1 0 rfl rfl (by unfold vp_in; decide) dX8_count_57 ?_
          refine W.eq (g2 := F0 m 58 ls [.int 0, .int 0]) rfl ?_
          refine lv_if_eq (tgt := 65) hx hb dX8_count_58 (by decide) (fun c_126 => ?_) (fun c_126 => absurd c_126 (by decide))
          refine lv_iconst (v := 0) hx hb dX8_count_65 (by decide) ?_
          refine lv_iadd hx hb dX8_count_66 ?_
          refine lv_topi (fun z_127 ez_127 => ?_)
          obtain rfl : z_127 = (0 : Int32) := ez_127.trans (by decide)
          refine lv_istore_n (lv' := [(2, .int 0), (3, .int 2), (0, .ref h0), (1, .int p0)]) hx hb dX8_count_67 rfl hl (by decide) rfl (fun ls hl => ?_)
          refine lv_iinc (v := 3) (lv' := [(3, .int 3), (2, .int 0), (0, .ref h0), (1, .int p0)]) hx hb dX8_count_68 hl (k := 1) rfl (by decide) (by decide) rfl (fun ls hl => ?_)
          refine lv_goto (tgt := 45) hx hb dX8_count_71 (by decide) ?_
          refine lv_iload_n hx hb dX8_count_45 rfl (lv_at hl 0 rfl) ?_
          refine lv_bipush (v := 16) hx hb dX8_count_46 (by decide) ?_
          refine lv_icmp_ge (tgt := 74) hx hb dX8_count_48 (by decide) (fun c_128 => absurd c_128 (by decide)) (fun c_128 => ?_)
          refine lv_iload_n hx hb dX8_count_51 rfl (lv_at hl 1 rfl) ?_
          refine lv_aload_n hx hb dX8_count_52 rfl (lv_at hl 2 rfl) ?_
          refine va_get (D := (dC, dI)) (ci := 8) (v := .ref q1) (C := RX8) (T := TX8) (N := 17) hx hb hts (by decide +kernel) hown hK hP 0 rfl rfl 1 (by decide) (hts (.fieldLink RX8 7 "KeyAtlasModel" "kind" "[I") (by decide +kernel)) (fun _ h9 => h9) rfl dX8_count_53 ?_
          refine lv_iload_n hx hb dX8_count_56 rfl (lv_at hl 0 rfl) ?_
          refine va_iald (i := 3) hx hb hK hP 1 0 rfl rfl (by unfold vp_in; decide) dX8_count_57 ?_
          refine W.eq (g2 := F0 m 58 ls [.int 0, .int 0]) rfl ?_
          refine lv_if_eq (tgt := 65) hx hb dX8_count_58 (by decide) (fun c_129 => ?_) (fun c_129 => absurd c_129 (by decide))
          refine lv_iconst (v := 0) hx hb dX8_count_65 (by decide) ?_
          refine lv_iadd hx hb dX8_count_66 ?_
          refine lv_topi (fun z_130 ez_130 => ?_)
          obtain rfl : z_130 = (0 : Int32) := ez_130.trans (by decide)
          refine lv_istore_n (lv' := [(2, .int 0), (3, .int 3), (0, .ref h0), (1, .int p0)]) hx hb dX8_count_67 rfl hl (by decide) rfl (fun ls hl => ?_)
          refine lv_iinc (v := 4) (lv' := [(3, .int 4), (2, .int 0), (0, .ref h0), (1, .int p0)]) hx hb dX8_count_68 hl (k := 1) rfl (by decide) (by decide) rfl (fun ls hl => ?_)
          refine lv_goto (tgt := 45) hx hb dX8_count_71 (by decide) ?_
          refine lv_iload_n hx hb dX8_count_45 rfl (lv_at hl 0 rfl) ?_
          refine lv_bipush (v := 16) hx hb dX8_count_46 (by decide) ?_
          refine lv_icmp_ge (tgt := 74) hx hb dX8_count_48 (by decide) (fun c_131 => absurd c_131 (by decide)) (fun c_131 => ?_)
          refine lv_iload_n hx hb dX8_count_51 rfl (lv_at hl 1 rfl) ?_
          refine lv_aload_n hx hb dX8_count_52 rfl (lv_at hl 2 rfl) ?_
          refine va_get (D := (dC, dI)) (ci := 8) (v := .ref q1) (C := RX8) (T := TX8) (N := 17) hx hb hts (by decide +kernel) hown hK hP 0 rfl rfl 1 (by decide) (hts (.fieldLink RX8 7 "KeyAtlasModel" "kind" "[I") (by decide +kernel)) (fun _ h9 => h9) rfl dX8_count_53 ?_
          refine lv_iload_n hx hb dX8_count_56 rfl (lv_at hl 0 rfl) ?_
          refine va_iald (i := 4) hx hb hK hP 1 0 rfl rfl (by unfold vp_in; decide) dX8_count_57 ?_
          refine W.eq (g2 := F0 m 58 ls [.int 0, .int 0]) rfl ?_
          refine lv_if_eq (tgt := 65) hx hb dX8_count_58 (by decide) (fun c_132 => ?_) (fun c_132 => absurd c_132 (by decide))
          refine lv_iconst (v := 0) hx hb dX8_count_65 (by decide) ?_
          refine lv_iadd hx hb dX8_count_66 ?_
          refine lv_topi (fun z_133 ez_133 => ?_)
          obtain rfl : z_133 = (0 : Int32) := ez_133.trans (by decide)
          refine lv_istore_n (lv' := [(2, .int 0), (3, .int 4), (0, .ref h0), (1, .int p0)]) hx hb dX8_count_67 rfl hl (by decide) rfl (fun ls hl => ?_)
          refine lv_iinc (v := 5) (lv' := [(3, .int 5), (2, .int 0), (0, .ref h0), (1, .int p0)]) hx hb dX8_count_68 hl (k := 1) rfl (by decide) (by decide) rfl (fun ls hl => ?_)
          refine lv_goto (tgt := 45) hx hb dX8_count_71 (by decide) ?_
          refine lv_iload_n hx hb dX8_count_45 rfl (lv_at hl 0 rfl) ?_
          refine lv_bipush (v := 16) hx hb dX8_count_46 (by decide) ?_
          refine lv_icmp_ge (tgt := 74) hx hb dX8_count_48 (by decide) (fun c_134 => absurd c_134 (by decide)) (fun c_134 => ?_)
          refine lv_iload_n hx hb dX8_count_51 rfl (lv_at hl 1 rfl) ?_
          refine lv_aload_n hx hb dX8_count_52 rfl (lv_at hl 2 rfl) ?_
          refine va_get (D := (dC, dI)) (ci := 8) (v := .ref q1) (C := RX8) (T := TX8) (N := 17) hx hb hts (by decide +kernel) hown hK hP 0 rfl rfl 1 (by decide) (hts (.fieldLink RX8 7 "KeyAtlasModel" "kind" "[I") (by decide +kernel)) (fun _ h9 => h9) rfl dX8_count_53 ?_
          refine lv_iload_n hx hb dX8_count_56 rfl (lv_at hl 0 rfl) ?_
          refine va_iald (i := 5) hx hb hK hP 1 0 rfl rfl (by unfold vp_in; decide) dX8_count_57 ?_
          refine W.eq (g2 := F0 m 58 ls [.int 0, .int 0]) rfl ?_
          refine lv_if_eq (tgt := 65) hx hb dX8_count_58 (by decide) (fun c_135 => ?_) (fun c_135 => absurd c_135 (by decide))
          refine lv_iconst (v := 0) hx hb dX8_count_65 (by decide) ?_
          refine lv_iadd hx hb dX8_count_66 ?_
          refine lv_topi (fun z_136 ez_136 => ?_)
          obtain rfl : z_136 = (0 : Int32) := ez_136.trans (by decide)
          refine lv_istore_n (lv' := [(2, .int 0), (3, .int 5), (0, .ref h0), (1, .int p0)]) hx hb dX8_count_67 rfl hl (by decide) rfl (fun ls hl => ?_)
          refine lv_iinc (v := 6) (lv' := [(3, .int 6), (2, .int 0), (0, .ref h0), (1, .int p0)]) hx hb dX8_count_68 hl (k := 1) rfl (by decide) (by decide) rfl (fun ls hl => ?_)
          refine lv_goto (tgt := 45) hx hb dX8_count_71 (by decide) ?_
          refine lv_iload_n hx hb dX8_count_45 rfl (lv_at hl 0 rfl) ?_
          refine lv_bipush (v := 16) hx hb dX8_count_46 (by decide) ?_
          refine lv_icmp_ge (tgt := 74) hx hb dX8_count_48 (by decide) (fun c_137 => absurd c_137 (by decide)) (fun c_137 => ?_)
          refine lv_iload_n hx hb dX8_count_51 rfl (lv_at hl 1 rfl) ?_
          refine lv_aload_n hx hb dX8_count_52 rfl (lv_at hl 2 rfl) ?_
          refine va_get (D := (dC, dI)) (ci := 8) (v := .ref q1) (C := RX8) (T := TX8) (N := 17) hx hb hts (by decide +kernel) hown hK hP 0 rfl rfl 1 (by decide) (hts (.fieldLink RX8 7 "KeyAtlasModel" "kind" "[I") (by decide +kernel)) (fun _ h9 => h9) rfl dX8_count_53 ?_
          refine lv_iload_n hx hb dX8_count_56 rfl (lv_at hl 0 rfl) ?_
          refine va_iald (i := 6) hx hb hK hP 1 0 rfl rfl (by unfold vp_in; decide) dX8_count_57 ?_
          refine W.eq (g2 := F0 m 58 ls [.int 0, .int 0]) rfl ?_
          refine lv_if_eq (tgt := 65) hx hb dX8_count_58 (by decide) (fun c_138 => ?_) (fun c_138 => absurd c_138 (by decide))
          refine lv_iconst (v := 0) hx hb dX8_count_65 (by decide) ?_
          refine lv_iadd hx hb dX8_count_66 ?_
          refine lv_topi (fun z_139 ez_139 => ?_)
          obtain rfl : z_139 = (0 : Int32) := ez_139.trans (by decide)
          refine lv_istore_n (lv' := [(2, .int 0), (3, .int 6), (0, .ref h0), (1, .int p0)]) hx hb dX8_count_67 rfl hl (by decide) rfl (fun ls hl => ?_)
          refine lv_iinc (v := 7) (lv' := [(3, .int 7), (2, .int 0), (0, .ref h0), (1, .int p0)]) hx hb dX8_count_68 hl (k := 1) rfl (by decide) (by decide) rfl (fun ls hl => ?_)
          refine lv_goto (tgt := 45) hx hb dX8_count_71 (by decide) ?_
          refine lv_iload_n hx hb dX8_count_45 rfl (lv_at hl 0 rfl) ?_
          refine lv_bipush (v := 16) hx hb dX8_count_46 (by decide) ?_
          refine lv_icmp_ge (tgt := 74) hx hb dX8_count_48 (by decide) (fun c_140 => absurd c_140 (by decide)) (fun c_140 => ?_)
          refine lv_iload_n hx hb dX8_count_51 rfl (lv_at hl 1 rfl) ?_
          refine lv_aload_n hx hb dX8_count_52 rfl (lv_at hl 2 rfl) ?_
          refine va_get (D := (dC, dI)) (ci := 8) (v := .ref q1) (C := RX8) (T := TX8) (N := 17) hx hb hts (by decide +kernel) hown hK hP 0 rfl rfl 1 (by decide) (hts (.fieldLink RX8 7 "KeyAtlasModel" "kind" "[I") (by decide +kernel)) (fun _ h9 => h9) rfl dX8_count_53 ?_
          refine lv_iload_n hx hb dX8_count_56 rfl (lv_at hl 0 rfl) ?_
          refine va_iald (i := 7) hx hb hK hP 1 0 rfl rfl (by unfold vp_in; decide) dX8_count_57 ?_
          refine W.eq (g2 := F0 m 58 ls [.int 0, .int 0]) rfl ?_
          refine lv_if_eq (tgt := 65) hx hb dX8_count_58 (by decide) (fun c_141 => ?_) (fun c_141 => absurd c_141 (by decide))
          refine lv_iconst (v := 0) hx hb dX8_count_65 (by decide) ?_
          refine lv_iadd hx hb dX8_count_66 ?_
          refine lv_topi (fun z_142 ez_142 => ?_)
          obtain rfl : z_142 = (0 : Int32) := ez_142.trans (by decide)
          refine lv_istore_n (lv' := [(2, .int 0), (3, .int 7), (0, .ref h0), (1, .int p0)]) hx hb dX8_count_67 rfl hl (by decide) rfl (fun ls hl => ?_)
          refine lv_iinc (v := 8) (lv' := [(3, .int 8), (2, .int 0), (0, .ref h0), (1, .int p0)]) hx hb dX8_count_68 hl (k := 1) rfl (by decide) (by decide) rfl (fun ls hl => ?_)
          refine lv_goto (tgt := 45) hx hb dX8_count_71 (by decide) ?_
          refine lv_iload_n hx hb dX8_count_45 rfl (lv_at hl 0 rfl) ?_
          refine lv_bipush (v := 16) hx hb dX8_count_46 (by decide) ?_
          refine lv_icmp_ge (tgt := 74) hx hb dX8_count_48 (by decide) (fun c_143 => absurd c_143 (by decide)) (fun c_143 => ?_)
          refine lv_iload_n hx hb dX8_count_51 rfl (lv_at hl 1 rfl) ?_
          refine lv_aload_n hx hb dX8_count_52 rfl (lv_at hl 2 rfl) ?_
          refine va_get (D := (dC, dI)) (ci := 8) (v := .ref q1) (C := RX8) (T := TX8) (N := 17) hx hb hts (by decide +kernel) hown hK hP 0 rfl rfl 1 (by decide) (hts (.fieldLink RX8 7 "KeyAtlasModel" "kind" "[I") (by decide +kernel)) (fun _ h9 => h9) rfl dX8_count_53 ?_
          refine lv_iload_n hx hb dX8_count_56 rfl (lv_at hl 0 rfl) ?_
          refine va_iald (i := 8) hx hb hK hP 1 0 rfl rfl (by unfold vp_in; decide) dX8_count_57 ?_
          refine W.eq (g2 := F0 m 58 ls [.int 0, .int 0]) rfl ?_
          refine lv_if_eq (tgt := 65) hx hb dX8_count_58 (by decide) (fun c_144 => ?_) (fun c_144 => absurd c_144 (by decide))
          refine lv_iconst (v := 0) hx hb dX8_count_65 (by decide) ?_
          refine lv_iadd hx hb dX8_count_66 ?_
          refine lv_topi (fun z_145 ez_145 => ?_)
          obtain rfl : z_145 = (0 : Int32) := ez_145.trans (by decide)
          refine lv_istore_n (lv' := [(2, .int 0), (3, .int 8), (0, .ref h0), (1, .int p0)]) hx hb dX8_count_67 rfl hl (by decide) rfl (fun ls hl => ?_)
          refine lv_iinc (v := 9) (lv' := [(3, .int 9), (2, .int 0), (0, .ref h0), (1, .int p0)]) hx hb dX8_count_68 hl (k := 1) rfl (by decide) (by decide) rfl (fun ls hl => ?_)
          refine lv_goto (tgt := 45) hx hb dX8_count_71 (by decide) ?_
          refine lv_iload_n hx hb dX8_count_45 rfl (lv_at hl 0 rfl) ?_
          refine lv_bipush (v := 16) hx hb dX8_count_46 (by decide) ?_
          refine lv_icmp_ge (tgt := 74) hx hb dX8_count_48 (by decide) (fun c_146 => absurd c_146 (by decide)) (fun c_146 => ?_)
          refine lv_iload_n hx hb dX8_count_51 rfl (lv_at hl 1 rfl) ?_
          refine lv_aload_n hx hb dX8_count_52 rfl (lv_at hl 2 rfl) ?_
          refine va_get (D := (dC, dI)) (ci := 8) (v := .ref q1) (C := RX8) (T := TX8) (N := 17) hx hb hts (by decide +kernel) hown hK hP 0 rfl rfl 1 (by decide) (hts (.fieldLink RX8 7 "KeyAtlasModel" "kind" "[I") (by decide +kernel)) (fun _ h9 => h9) rfl dX8_count_53 ?_
          refine lv_iload_n hx hb dX8_count_56 rfl (lv_at hl 0 rfl) ?_
          refine va_iald (i := 9) hx hb hK hP 1 0 rfl rfl (by unfold vp_in; decide) dX8_count_57 ?_
          refine W.eq (g2 := F0 m 58 ls [.int 0, .int 0]) rfl ?_
          refine lv_if_eq (tgt := 65) hx hb dX8_count_58 (by decide) (fun c_147 => ?_) (fun c_147 => absurd c_147 (by decide))
          refine lv_iconst (v := 0) hx hb dX8_count_65 (by decide) ?_
          refine lv_iadd hx hb dX8_count_66 ?_
          refine lv_topi (fun z_148 ez_148 => ?_)
          obtain rfl : z_148 = (0 : Int32) := ez_148.trans (by decide)
          refine lv_istore_n (lv' := [(2, .int 0), (3, .int 9), (0, .ref h0), (1, .int p0)]) hx hb dX8_count_67 rfl hl (by decide) rfl (fun ls hl => ?_)
          refine lv_iinc (v := 10) (lv' := [(3, .int 10), (2, .int 0), (0, .ref h0), (1, .int p0)]) hx hb dX8_count_68 hl (k := 1) rfl (by decide) (by decide) rfl (fun ls hl => ?_)
          refine lv_goto (tgt := 45) hx hb dX8_count_71 (by decide) ?_
          refine lv_iload_n hx hb dX8_count_45 rfl (lv_at hl 0 rfl) ?_
          refine lv_bipush (v := 16) hx hb dX8_count_46 (by decide) ?_
          refine lv_icmp_ge (tgt := 74) hx hb dX8_count_48 (by decide) (fun c_149 => absurd c_149 (by decide)) (fun c_149 => ?_)
          refine lv_iload_n hx hb dX8_count_51 rfl (lv_at hl 1 rfl) ?_
          refine lv_aload_n hx hb dX8_count_52 rfl (lv_at hl 2 rfl) ?_
          refine va_get (D := (dC, dI)) (ci := 8) (v := .ref q1) (C := RX8) (T := TX8) (N := 17) hx hb hts (by decide +kernel) hown hK hP 0 rfl rfl 1 (by decide) (hts (.fieldLink RX8 7 "KeyAtlasModel" "kind" "[I") (by decide +kernel)) (fun _ h9 => h9) rfl dX8_count_53 ?_
          refine lv_iload_n hx hb dX8_count_56 rfl (lv_at hl 0 rfl) ?_
          refine va_iald (i := 10) hx hb hK hP 1 0 rfl rfl (by unfold vp_in; decide) dX8_count_57 ?_
          refine W.eq (g2 := F0 m 58 ls [.int 0, .int 0]) rfl ?_
          refine lv_if_eq (tgt := 65) hx hb dX8_count_58 (by decide) (fun c_150 => ?_) (fun c_150 => absurd c_150 (by decide))
          refine lv_iconst (v := 0) hx hb dX8_count_65 (by decide) ?_
          refine lv_iadd hx hb dX8_count_66 ?_
          refine lv_topi (fun z_151 ez_151 => ?_)
          obtain rfl : z_151 = (0 : Int32) := ez_151.trans (by decide)
          refine lv_istore_n (lv' := [(2, .int 0), (3, .int 10), (0, .ref h0), (1, .int p0)]) hx hb dX8_count_67 rfl hl (by decide) rfl (fun ls hl => ?_)
          refine lv_iinc (v := 11) (lv' := [(3, .int 11), (2, .int 0), (0, .ref h0), (1, .int p0)]) hx hb dX8_count_68 hl (k := 1) rfl (by decide) (by decide) rfl (fun ls hl => ?_)
          refine lv_goto (tgt := 45) hx hb dX8_count_71 (by decide) ?_
          refine lv_iload_n hx hb dX8_count_45 rfl (lv_at hl 0 rfl) ?_
          refine lv_bipush (v := 16) hx hb dX8_count_46 (by decide) ?_
          refine lv_icmp_ge (tgt := 74) hx hb dX8_count_48 (by decide) (fun c_152 => absurd c_152 (by decide)) (fun c_152 => ?_)
          refine lv_iload_n hx hb dX8_count_51 rfl (lv_at hl 1 rfl) ?_
          refine lv_aload_n hx hb dX8_count_52 rfl (lv_at hl 2 rfl) ?_
          refine va_get (D := (dC, dI)) (ci := 8) (v := .ref q1) (C := RX8) (T := TX8) (N := 17) hx hb hts (by decide +kernel) hown hK hP 0 rfl rfl 1 (by decide) (hts (.fieldLink RX8 7 "KeyAtlasModel" "kind" "[I") (by decide +kernel)) (fun _ h9 => h9) rfl dX8_count_53 ?_
          refine lv_iload_n hx hb dX8_count_56 rfl (lv_at hl 0 rfl) ?_
          refine va_iald (i := 11) hx hb hK hP 1 0 rfl rfl (by unfold vp_in; decide) dX8_count_57 ?_
          refine W.eq (g2 := F0 m 58 ls [.int 0, .int 0]) rfl ?_
          refine lv_if_eq (tgt := 65) hx hb dX8_count_58 (by decide) (fun c_153 => ?_) (fun c_153 => absurd c_153 (by decide))
          refine lv_iconst (v := 0) hx hb dX8_count_65 (by decide) ?_
          refine lv_iadd hx hb dX8_count_66 ?_
          refine lv_topi (fun z_154 ez_154 => ?_)
          obtain rfl : z_154 = (0 : Int32) := ez_154.trans (by decide)
          refine lv_istore_n (lv' := [(2, .int 0), (3, .int 11), (0, .ref h0), (1, .int p0)]) hx hb dX8_count_67 rfl hl (by decide) rfl (fun ls hl => ?_)
          refine lv_iinc (v := 12) (lv' := [(3, .int 12), (2, .int 0), (0, .ref h0), (1, .int p0)]) hx hb dX8_count_68 hl (k := 1) rfl (by decide) (by decide) rfl (fun ls hl => ?_)
          refine lv_goto (tgt := 45) hx hb dX8_count_71 (by decide) ?_
          refine lv_iload_n hx hb dX8_count_45 rfl (lv_at hl 0 rfl) ?_
          refine lv_bipush (v := 16) hx hb dX8_count_46 (by decide) ?_
          refine lv_icmp_ge (tgt := 74) hx hb dX8_count_48 (by decide) (fun c_155 => absurd c_155 (by decide)) (fun c_155 => ?_)
          refine lv_iload_n hx hb dX8_count_51 rfl (lv_at hl 1 rfl) ?_
          refine lv_aload_n hx hb dX8_count_52 rfl (lv_at hl 2 rfl) ?_
          refine va_get (D := (dC, dI)) (ci := 8) (v := .ref q1) (C := RX8) (T := TX8) (N := 17) hx hb hts (by decide +kernel) hown hK hP 0 rfl rfl 1 (by decide) (hts (.fieldLink RX8 7 "KeyAtlasModel" "kind" "[I") (by decide +kernel)) (fun _ h9 => h9) rfl dX8_count_53 ?_
          refine lv_iload_n hx hb dX8_count_56 rfl (lv_at hl 0 rfl) ?_
          refine va_iald (i := 12) hx hb hK hP 1 0 rfl rfl (by unfold vp_in; decide) dX8_count_57 ?_
          refine W.eq (g2 := F0 m 58 ls [.int 0, .int 0]) rfl ?_
          refine lv_if_eq (tgt := 65) hx hb dX8_count_58 (by decide) (fun c_156 => ?_) (fun c_156 => absurd c_156 (by decide))
          refine lv_iconst (v := 0) hx hb dX8_count_65 (by decide) ?_
          refine lv_iadd hx hb dX8_count_66 ?_
          refine lv_topi (fun z_157 ez_157 => ?_)
          obtain rfl : z_157 = (0 : Int32) := ez_157.trans (by decide)
          refine lv_istore_n (lv' := [(2, .int 0), (3, .int 12), (0, .ref h0), (1, .int p0)]) hx hb dX8_count_67 rfl hl (by decide) rfl (fun ls hl => ?_)
          refine lv_iinc (v := 13) (lv' := [(3, .int 13), (2, .int 0), (0, .ref h0), (1, .int p0)]) hx hb dX8_count_68 hl (k := 1) rfl (by decide) (by decide) rfl (fun ls hl => ?_)
          refine lv_goto (tgt := 45) hx hb dX8_count_71 (by decide) ?_
          refine lv_iload_n hx hb dX8_count_45 rfl (lv_at hl 0 rfl) ?_
          refine lv_bipush (v := 16) hx hb dX8_count_46 (by decide) ?_
          refine lv_icmp_ge (tgt := 74) hx hb dX8_count_48 (by decide) (fun c_158 => absurd c_158 (by decide)) (fun c_158 => ?_)
          refine lv_iload_n hx hb dX8_count_51 rfl (lv_at hl 1 rfl) ?_
          refine lv_aload_n hx hb dX8_count_52 rfl (lv_at hl 2 rfl) ?_
          refine va_get (D := (dC, dI)) (ci := 8) (v := .ref q1) (C := RX8) (T := TX8) (N := 17) hx hb hts (by decide +kernel) hown hK hP 0 rfl rfl 1 (by decide) (hts (.fieldLink RX8 7 "KeyAtlasModel" "kind" "[I") (by decide +kernel)) (fun _ h9 => h9) rfl dX8_count_53 ?_
          refine lv_iload_n hx hb dX8_count_56 rfl (lv_at hl 0 rfl) ?_
          refine va_iald (i := 13) hx hb hK hP 1 0 rfl rfl (by unfold vp_in; decide) dX8_count_57 ?_
          refine W.eq (g2 := F0 m 58 ls [.int 0, .int 0]) rfl ?_
          refine lv_if_eq (tgt := 65) hx hb dX8_count_58 (by decide) (fun c_159 => ?_) (fun c_159 => absurd c_159 (by decide))
          refine lv_iconst (v := 0) hx hb dX8_count_65 (by decide) ?_
          refine lv_iadd hx hb dX8_count_66 ?_
          refine lv_topi (fun z_160 ez_160 => ?_)
          obtain rfl : z_160 = (0 : Int32) := ez_160.trans (by decide)
          refine lv_istore_n (lv' := [(2, .int 0), (3, .int 13), (0, .ref h0), (1, .int p0)]) hx hb dX8_count_67 rfl hl (by decide) rfl (fun ls hl => ?_)
          refine lv_iinc (v := 14) (lv' := [(3, .int 14), (2, .int 0), (0, .ref h0), (1, .int p0)]) hx hb dX8_count_68 hl (k := 1) rfl (by decide) (by decide) rfl (fun ls hl => ?_)
          refine lv_goto (tgt := 45) hx hb dX8_count_71 (by decide) ?_
          refine lv_iload_n hx hb dX8_count_45 rfl (lv_at hl 0 rfl) ?_
          refine lv_bipush (v := 16) hx hb dX8_count_46 (by decide) ?_
          refine lv_icmp_ge (tgt := 74) hx hb dX8_count_48 (by decide) (fun c_161 => absurd c_161 (by decide)) (fun c_161 => ?_)
          refine lv_iload_n hx hb dX8_count_51 rfl (lv_at hl 1 rfl) ?_
          refine lv_aload_n hx hb dX8_count_52 rfl (lv_at hl 2 rfl) ?_
          refine va_get (D := (dC, dI)) (ci := 8) (v := .ref q1) (C := RX8) (T := TX8) (N := 17) hx hb hts (by decide +kernel) hown hK hP 0 rfl rfl 1 (by decide) (hts (.fieldLink RX8 7 "KeyAtlasModel" "kind" "[I") (by decide +kernel)) (fun _ h9 => h9) rfl dX8_count_53 ?_
          refine lv_iload_n hx hb dX8_count_56 rfl (lv_at hl 0 rfl) ?_
          refine va_iald (i := 14) hx hb hK hP 1 0 rfl rfl (by unfold vp_in; decide) dX8_count_57 ?_
          refine W.eq (g2 := F0 m 58 ls [.int 0, .int 0]) rfl ?_
          refine lv_if_eq (tgt := 65) hx hb dX8_count_58 (by decide) (fun c_162 => ?_) (fun c_162 => absurd c_162 (by decide))
          refine lv_iconst (v := 0) hx hb dX8_count_65 (by decide) ?_
          refine lv_iadd hx hb dX8_count_66 ?_
          refine lv_topi (fun z_163 ez_163 => ?_)
          obtain rfl : z_163 = (0 : Int32) := ez_163.trans (by decide)
          refine lv_istore_n (lv' := [(2, .int 0), (3, .int 14), (0, .ref h0), (1, .int p0)]) hx hb dX8_count_67 rfl hl (by decide) rfl (fun ls hl => ?_)
          refine lv_iinc (v := 15) (lv' := [(3, .int 15), (2, .int 0), (0, .ref h0), (1, .int p0)]) hx hb dX8_count_68 hl (k := 1) rfl (by decide) (by decide) rfl (fun ls hl => ?_)
          refine lv_goto (tgt := 45) hx hb dX8_count_71 (by decide) ?_
          refine lv_iload_n hx hb dX8_count_45 rfl (lv_at hl 0 rfl) ?_
          refine lv_bipush (v := 16) hx hb dX8_count_46 (by decide) ?_
          refine lv_icmp_ge (tgt := 74) hx hb dX8_count_48 (by decide) (fun c_164 => absurd c_164 (by decide)) (fun c_164 => ?_)
          refine lv_iload_n hx hb dX8_count_51 rfl (lv_at hl 1 rfl) ?_
          refine lv_aload_n hx hb dX8_count_52 rfl (lv_at hl 2 rfl) ?_
          refine va_get (D := (dC, dI)) (ci := 8) (v := .ref q1) (C := RX8) (T := TX8) (N := 17) hx hb hts (by decide +kernel) hown hK hP 0 rfl rfl 1 (by decide) (hts (.fieldLink RX8 7 "KeyAtlasModel" "kind" "[I") (by decide +kernel)) (fun _ h9 => h9) rfl dX8_count_53 ?_
          refine lv_iload_n hx hb dX8_count_56 rfl (lv_at hl 0 rfl) ?_
          refine va_iald (i := 15) hx hb hK hP 1 0 rfl rfl (by unfold vp_in; decide) dX8_count_57 ?_
          refine W.eq (g2 := F0 m 58 ls [.int 0, .int 0]) rfl ?_
          refine lv_if_eq (tgt := 65) hx hb dX8_count_58 (by decide) (fun c_165 => ?_) (fun c_165 => absurd c_165 (by decide))
          refine lv_iconst (v := 0) hx hb dX8_count_65 (by decide) ?_
          refine lv_iadd hx hb dX8_count_66 ?_
          refine lv_topi (fun z_166 ez_166 => ?_)
          obtain rfl : z_166 = (0 : Int32) := ez_166.trans (by decide)
          refine lv_istore_n (lv' := [(2, .int 0), (3, .int 15), (0, .ref h0), (1, .int p0)]) hx hb dX8_count_67 rfl hl (by decide) rfl (fun ls hl => ?_)
          refine lv_iinc (v := 16) (lv' := [(3, .int 16), (2, .int 0), (0, .ref h0), (1, .int p0)]) hx hb dX8_count_68 hl (k := 1) rfl (by decide) (by decide) rfl (fun ls hl => ?_)
          refine lv_goto (tgt := 45) hx hb dX8_count_71 (by decide) ?_
          refine lv_iload_n hx hb dX8_count_45 rfl (lv_at hl 0 rfl) ?_
          refine lv_bipush (v := 16) hx hb dX8_count_46 (by decide) ?_
          refine lv_icmp_ge (tgt := 74) hx hb dX8_count_48 (by decide) (fun c_167 => ?_) (fun c_167 => absurd c_167 (by decide))
          refine lv_iload_n hx hb dX8_count_74 rfl (lv_at hl 1 rfl) ?_
          have hP9 := hP.sub (ws' := [(h0, .inr (8, [.int 0, .ref q1, v2, .ref q3, .ref q4, .ref q5, .ref q6, .ref q7, .ref q8, v9, v10, v11, v12, v13, v14, v15, v16]))]) [0] rfl
          have hD9 := hD.sub (ws' := [(h0, .inr (8, [.int 0, .ref q1, v2, .ref q3, .ref q4, .ref q5, .ref q6, .ref q7, .ref q8, v9, v10, v11, v12, v13, v14, v15, v16]))]) [0] (by decide) rfl
          have hK9 := hK.sub (tys' := []) [] rfl
          refine W.widen (k := 0) (n := 0) (Nat.le_of_ble_eq_true rfl) (Nat.le_of_ble_eq_true rfl) ?_
          exact W.iret (v := 0) hx hb hr (fun t ht hW => ⟨⟨0, 0, rfl, tx_at2 (P := ctIs p0) (n := 0) (m := 0) (by decide) (by decide) (by unfold ctIs; omega), by rw [ht]; exact hP9, va_K.moved hW.alike hK9, hD9⟩, hS.F ht⟩) hS.2.2 dX8_count_75
      ·
        have ic_113 : r_112.toInt = 0 := tx_eq rfl (by decide) c_113
        refine lv_aload_n hx hb dX8_count_26 rfl (lv_at hl 0 rfl) ?_
        refine lv_iconst (v := 1) hx hb dX8_count_27 (by decide) ?_
        have hPc := hP.sub (ws' := [(h0, .inr (8, [.int th, .ref q1, v2, .ref q3, .ref q4, .ref q5, .ref q6, .ref q7, .ref q8, v9, v10, v11, v12, v13, v14, v15, v16]))]) [0] rfl
        have hDc := hD.sub (ws' := [(h0, .inr (8, [.int th, .ref q1, v2, .ref q3, .ref q4, .ref q5, .ref q6, .ref q7, .ref q8, v9, v10, v11, v12, v13, v14, v15, v16]))]) [0] (by decide) rfl
        have hKc := hK.sub (tys' := []) [] rfl
        have hFc := va_free (wc := [(h0, .inr (8, [.int th, .ref q1, v2, .ref q3, .ref q4, .ref q5, .ref q6, .ref q7, .ref q8, v9, v10, v11, v12, v13, v14, v15, v16]))]) hD hS hA [0] rfl
        refine va_calli (va_runV (As := [.int 1]) (rest := []) ⟨hx, hb, hml, hown, hts⟩ (c_X8_refuse l  dC dI H.size h0 th 1 (.ref q1) v2 (.ref q3) (.ref q4) (.ref q5) (.ref q6) (.ref q7) (.ref q8) v9 v10 v11 v12 v13 v14 v15 v16) (cwV 1 hts gP_X8_count_refuse rfl rfl rfl (by decide +kernel) ⟨(Nat.le_of_ble_eq_true rfl), (Nat.le_of_ble_eq_true rfl)⟩) ⟨pk_blind, va_recv hKc hPc (ci := 8) (q0 := 0) rfl rfl, pk_call hPc hKc hDc⟩ rfl rfl hl.1 rfl (lv_room (Nat.le_of_ble_eq_true rfl)) dX8_count_28 ⟨(Nat.le_of_ble_eq_true rfl), (Nat.le_of_ble_eq_true rfl)⟩) hS (fun q _ h => hFc q h) hFc (fun r_168 ur_168 t H1 locs ht hvm hw hB hz1 hk1 hS => ?_)
        try dsimp only at hw
        have jr_168 := hw
        obtain ⟨hP1, hK1, hD1⟩ := hB
        rw [ht] at hP1
        have hK1 := va_K.moved hvm.symm hK1
        obtain ⟨hP, hD⟩ := va_join (wr := [(q1, .inl (c1, 16, .inl (fun _ => (0 : Int32)))), (q3, .inl (c3, 16, .inl (fun _ => (0 : Int32)))), (q4, .inl (c4, 16, .inl (fun _ => (0 : Int32)))), (q5, .inl (c5, 16, .inl (fun _ => (0 : Int32)))), (q6, .inl (c6, 16, .inl (fun _ => (0 : Int32)))), (q7, .inl (c7, 16, .inl (fun _ => (0 : Int32)))), (q8, .inl (c8, 16, .inl (fun _ => (0 : Int32))))]) (w1 := [(h0, .inr (8, [.int 1, .ref q1, v2, .ref q3, .ref q4, .ref q5, .ref q6, .ref q7, .ref q8, v9, v10, v11, v12, v13, v14, v15, v16]))]) hP hD [0] [1, 2, 3, 4, 5, 6, 7] rfl rfl (by decide) (by decide) hk1 hFc hP1 hD1
        clear hk1 hz1 ht hPc hDc hKc
        generalize H1 = H at hP hS ⊢
        have hP : va_P (dC, dI) vwCl [(q1, .inl (c1, 16, .inl (fun _ => (0 : Int32)))), (q3, .inl (c3, 16, .inl (fun _ => (0 : Int32)))), (q4, .inl (c4, 16, .inl (fun _ => (0 : Int32)))), (q5, .inl (c5, 16, .inl (fun _ => (0 : Int32)))), (q6, .inl (c6, 16, .inl (fun _ => (0 : Int32)))), (q7, .inl (c7, 16, .inl (fun _ => (0 : Int32)))), (q8, .inl (c8, 16, .inl (fun _ => (0 : Int32)))), (h0, .inr (8, [.int 1, .ref q1, v2, .ref q3, .ref q4, .ref q5, .ref q6, .ref q7, .ref q8, v9, v10, v11, v12, v13, v14, v15, v16]))] H := hP
        have hD : va_D A [(q1, .inl (c1, 16, .inl (fun _ => (0 : Int32)))), (q3, .inl (c3, 16, .inl (fun _ => (0 : Int32)))), (q4, .inl (c4, 16, .inl (fun _ => (0 : Int32)))), (q5, .inl (c5, 16, .inl (fun _ => (0 : Int32)))), (q6, .inl (c6, 16, .inl (fun _ => (0 : Int32)))), (q7, .inl (c7, 16, .inl (fun _ => (0 : Int32)))), (q8, .inl (c8, 16, .inl (fun _ => (0 : Int32)))), (h0, .inr (8, [.int 1, .ref q1, v2, .ref q3, .ref q4, .ref q5, .ref q6, .ref q7, .ref q8, v9, v10, v11, v12, v13, v14, v15, v16]))] := hD
        refine W.widen (k := 0) (n := 0) (Nat.le_of_ble_eq_true rfl) (Nat.le_of_ble_eq_true rfl) ?_
        refine W.eq (g2 := F0 m 31 ls [.int r_168]) rfl ?_
        have hP9 := hP.sub (ws' := [(h0, .inr (8, [.int 1, .ref q1, v2, .ref q3, .ref q4, .ref q5, .ref q6, .ref q7, .ref q8, v9, v10, v11, v12, v13, v14, v15, v16]))]) [7] rfl
        have hD9 := hD.sub (ws' := [(h0, .inr (8, [.int 1, .ref q1, v2, .ref q3, .ref q4, .ref q5, .ref q6, .ref q7, .ref q8, v9, v10, v11, v12, v13, v14, v15, v16]))]) [7] (by decide) rfl
        have hK9 := hK.sub (tys' := []) [] rfl
        refine W.widen (k := 0) (n := 0) (Nat.le_of_ble_eq_true rfl) (Nat.le_of_ble_eq_true rfl) ?_
        exact W.iret (v := r_168) hx hb hr (fun t ht hW => ⟨⟨r_168, 1, rfl, tx_at2 (P := ctIs p0) (n := 1) (m := 0) (by decide) (by rw [jr_168]; decide) (by unfold ctIs; omega), by rw [ht]; exact hP9, va_K.moved hW.alike hK9, hD9⟩, hS.F ht⟩) hS.2.2 dX8_count_31
