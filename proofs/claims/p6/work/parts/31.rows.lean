theorem dX5_size_0 : decode cX5_size 0 = .ok (.aload_n 0, 1) := by decide +kernel
theorem dX5_size_1 : decode cX5_size 1 = .ok (.getfield 18, 3) := by decide +kernel
theorem dX5_size_4 : decode cX5_size 4 = .ok (.ireturn, 1) := by decide +kernel
theorem dX5_changes_0 : decode cX5_changes 0 = .ok (.aload_n 0, 1) := by decide +kernel
theorem dX5_changes_1 : decode cX5_changes 1 = .ok (.getfield 22, 3) := by decide +kernel
theorem dX5_changes_4 : decode cX5_changes 4 = .ok (.ireturn, 1) := by decide +kernel
theorem dX5_key_0 : decode cX5_key 0 = .ok (.iload_n 1, 1) := by decide +kernel
theorem dX5_key_1 : decode cX5_key 1 = .ok (.ifCond .lt 20, 3) := by decide +kernel
theorem dX5_key_21 : decode cX5_key 21 = .ok (.iconst 0, 1) := by decide +kernel
theorem dX5_key_22 : decode cX5_key 22 = .ok (.ireturn, 1) := by decide +kernel
theorem dX5_key_4 : decode cX5_key 4 = .ok (.iload_n 1, 1) := by decide +kernel
theorem dX5_key_5 : decode cX5_key 5 = .ok (.aload_n 0, 1) := by decide +kernel
theorem dX5_key_6 : decode cX5_key 6 = .ok (.getfield 18, 3) := by decide +kernel
theorem dX5_key_9 : decode cX5_key 9 = .ok (.if_icmp .ge 12, 3) := by decide +kernel
theorem dX5_key_12 : decode cX5_key 12 = .ok (.aload_n 0, 1) := by decide +kernel
theorem dX5_key_13 : decode cX5_key 13 = .ok (.getfield 9, 3) := by decide +kernel
theorem dX5_key_16 : decode cX5_key 16 = .ok (.iload_n 1, 1) := by decide +kernel
theorem dX5_key_17 : decode cX5_key 17 = .ok (.iaload, 1) := by decide +kernel
theorem dX5_key_18 : decode cX5_key 18 = .ok (.goto 4, 3) := by decide +kernel
theorem dX5_value_0 : decode cX5_value 0 = .ok (.iload_n 1, 1) := by decide +kernel
theorem dX5_value_1 : decode cX5_value 1 = .ok (.ifCond .lt 20, 3) := by decide +kernel
theorem dX5_value_21 : decode cX5_value 21 = .ok (.iconst 0, 1) := by decide +kernel
theorem dX5_value_22 : decode cX5_value 22 = .ok (.ireturn, 1) := by decide +kernel
theorem dX5_value_4 : decode cX5_value 4 = .ok (.iload_n 1, 1) := by decide +kernel
theorem dX5_value_5 : decode cX5_value 5 = .ok (.aload_n 0, 1) := by decide +kernel
theorem dX5_value_6 : decode cX5_value 6 = .ok (.getfield 18, 3) := by decide +kernel
theorem dX5_value_9 : decode cX5_value 9 = .ok (.if_icmp .ge 12, 3) := by decide +kernel
theorem dX5_value_12 : decode cX5_value 12 = .ok (.aload_n 0, 1) := by decide +kernel
theorem dX5_value_13 : decode cX5_value 13 = .ok (.getfield 15, 3) := by decide +kernel
theorem dX5_value_16 : decode cX5_value 16 = .ok (.iload_n 1, 1) := by decide +kernel
theorem dX5_value_17 : decode cX5_value 17 = .ok (.iaload, 1) := by decide +kernel
theorem dX5_value_18 : decode cX5_value 18 = .ok (.goto 4, 3) := by decide +kernel
theorem dX5_setValue_0 : decode cX5_setValue 0 = .ok (.iload_n 1, 1) := by decide +kernel
theorem dX5_setValue_1 : decode cX5_setValue 1 = .ok (.ifCond .lt 18, 3) := by decide +kernel
theorem dX5_setValue_19 : decode cX5_setValue 19 = .ok (.return_, 1) := by decide +kernel
theorem dX5_setValue_4 : decode cX5_setValue 4 = .ok (.iload_n 1, 1) := by decide +kernel
theorem dX5_setValue_5 : decode cX5_setValue 5 = .ok (.aload_n 0, 1) := by decide +kernel
theorem dX5_setValue_6 : decode cX5_setValue 6 = .ok (.getfield 18, 3) := by decide +kernel
theorem dX5_setValue_9 : decode cX5_setValue 9 = .ok (.if_icmp .ge 10, 3) := by decide +kernel
theorem dX5_setValue_12 : decode cX5_setValue 12 = .ok (.aload_n 0, 1) := by decide +kernel
theorem dX5_setValue_13 : decode cX5_setValue 13 = .ok (.getfield 15, 3) := by decide +kernel
theorem dX5_setValue_16 : decode cX5_setValue 16 = .ok (.iload_n 1, 1) := by decide +kernel
theorem dX5_setValue_17 : decode cX5_setValue 17 = .ok (.iload_n 2, 1) := by decide +kernel
theorem dX5_setValue_18 : decode cX5_setValue 18 = .ok (.iastore, 1) := by decide +kernel
set_option maxHeartbeats 4000000 in
set_option maxRecDepth 100000 in
/-- Rows.size -/
theorem c_X5_size (l : Launch) (dC : Nat → ClassId) (dI : Nat → Nat → Nat) (sz : Nat) (x0 : Nat) (p0 : Int32) (v0 : Value) (v1 : Value) (v3 : Value) : Met l yX5_size wsX5_size ({ frames := 0, cells := 0, slots := 0, locals := 0 }) (va_Pc [.ref x0] (pk_PreR (dC, dI) [(x0, .inr (5, [v0, v1, .int p0, v3]))] [] sz)) (va_Qi (fun (r : Int32) (_ : Unit) => r = p0) (fun _ (t : State) => t.heap.size = sz) ro_A) 0 0 ro_A := by
  refine Met.ofW (cc := cX5_size) (maxL := 1) (ret := (some .int)) (by decide) rfl ?_
  intro p e s m args below meth c s₁ B hml hv
  obtain ⟨rfl, hsz, hP, hK⟩ := hv
  have hx := B.exec
  have hb := B.bytes
  have hr := B.returns
  have hts := atoms_spec (ws := wsX5_size) B.pre
  have hown : s.vm.findClass RX5 = some m.cls := findClass_of_methodNamed B.named
  have hlocks := B.notSynchronized
  subst hsz
  have hS : va_S ro_A s.heap s.heap [] := va_S.rf
  have hP : va_P (dC, dI) vwCl [(x0, .inr (5, [v0, v1, .int p0, v3]))] s.heap := hP
  have hl := lv_entry ([.ref x0]) (n := 1) (Nat.le_of_ble_eq_true rfl)
  rw [lg_entry_eq]
  generalize (lg_sl ([.ref x0]) ++ List.replicate (1 - (lg_sl ([.ref x0])).length) Slot.unset).toArray = ls at hl ⊢
  have hl : lv_has ls 1 [(0, .ref x0)] := hl
  have hw0_ := hts (.fieldLink RX5 18 "KeyAtlas$Rows" "size" "I") (List.mem_of_getElem? (l := wsX5_size) (i := 1) rfl)
  have hi0_ : ∀ w ∈ u_ws RX5 TX5 4, w ∈ wsX5_size := fun w h => List.mem_cons_of_mem _ (List.mem_append_right _ h)
  refine lv_aload_n hx hb dX5_size_0 rfl (lv_at hl 0 rfl) ?_
  refine va_get (D := (dC, dI)) (ci := 5) (v := .int p0) (C := RX5) (T := TX5) (N := 4) hx hb hts hi0_ hown hK hP 0 rfl rfl 2 (by decide) hw0_ (fun _ h9 => h9) rfl dX5_size_1 ?_
  refine W.widen (k := 0) (n := 0) (Nat.le_of_ble_eq_true rfl) (Nat.le_of_ble_eq_true rfl) ?_
  exact W.iret (v := p0) hx hb hr (fun t ht hW => ⟨⟨p0, (), rfl, rfl, congrArg Array.size ht⟩, hS.F ht⟩) hS.2.2 dX5_size_4
set_option maxHeartbeats 4000000 in
set_option maxRecDepth 100000 in
/-- Rows.changes -/
theorem c_X5_changes (l : Launch) (dC : Nat → ClassId) (dI : Nat → Nat → Nat) (sz : Nat) (x0 : Nat) (p0 : Int32) (v0 : Value) (v1 : Value) (v2 : Value) : Met l yX5_changes wsX5_changes ({ frames := 0, cells := 0, slots := 0, locals := 0 }) (va_Pc [.ref x0] (pk_PreR (dC, dI) [(x0, .inr (5, [v0, v1, v2, .int p0]))] [] sz)) (va_Qi (fun (r : Int32) (_ : Unit) => r = p0) (fun _ (t : State) => t.heap.size = sz) ro_A) 0 0 ro_A := by
  refine Met.ofW (cc := cX5_changes) (maxL := 1) (ret := (some .int)) (by decide) rfl ?_
  intro p e s m args below meth c s₁ B hml hv
  obtain ⟨rfl, hsz, hP, hK⟩ := hv
  have hx := B.exec
  have hb := B.bytes
  have hr := B.returns
  have hts := atoms_spec (ws := wsX5_changes) B.pre
  have hown : s.vm.findClass RX5 = some m.cls := findClass_of_methodNamed B.named
  have hlocks := B.notSynchronized
  subst hsz
  have hS : va_S ro_A s.heap s.heap [] := va_S.rf
  have hP : va_P (dC, dI) vwCl [(x0, .inr (5, [v0, v1, v2, .int p0]))] s.heap := hP
  have hl := lv_entry ([.ref x0]) (n := 1) (Nat.le_of_ble_eq_true rfl)
  rw [lg_entry_eq]
  generalize (lg_sl ([.ref x0]) ++ List.replicate (1 - (lg_sl ([.ref x0])).length) Slot.unset).toArray = ls at hl ⊢
  have hl : lv_has ls 1 [(0, .ref x0)] := hl
  have hw0_ := hts (.fieldLink RX5 22 "KeyAtlas$Rows" "changes" "I") (List.mem_of_getElem? (l := wsX5_changes) (i := 1) rfl)
  have hi0_ : ∀ w ∈ u_ws RX5 TX5 4, w ∈ wsX5_changes := fun w h => List.mem_cons_of_mem _ (List.mem_append_right _ h)
  refine lv_aload_n hx hb dX5_changes_0 rfl (lv_at hl 0 rfl) ?_
  refine va_get (D := (dC, dI)) (ci := 5) (v := .int p0) (C := RX5) (T := TX5) (N := 4) hx hb hts hi0_ hown hK hP 0 rfl rfl 3 (by decide) hw0_ (fun _ h9 => h9) rfl dX5_changes_1 ?_
  refine W.widen (k := 0) (n := 0) (Nat.le_of_ble_eq_true rfl) (Nat.le_of_ble_eq_true rfl) ?_
  exact W.iret (v := p0) hx hb hr (fun t ht hW => ⟨⟨p0, (), rfl, rfl, congrArg Array.size ht⟩, hS.F ht⟩) hS.2.2 dX5_changes_4
set_option maxHeartbeats 4000000 in
set_option maxRecDepth 100000 in
/-- Rows.key -/
theorem c_X5_key (l : Launch) (dC : Nat → ClassId) (dI : Nat → Nat → Nat) (sz : Nat) (x0 : Nat) (k0 : Nat) (w0 : Nat) (ck : ClassId) (cw : ClassId) (L : Nat) (f : Nat → Int32) (g : Nat → Int32) (nz : Nat) (ch : Int32) (p0 : Int32) (hR9 : rOK L nz) : Met l yX5_key wsX5_key ({ frames := 0, cells := 0, slots := 0, locals := 0 }) (va_Pc [.ref x0, .int p0] (pk_PreR (dC, dI) [(x0, .inr (5, [.ref k0, .ref w0, .int (nI nz), .int ch])), (k0, .inl (ck, L, .inl f)), (w0, .inl (cw, L, .inl g))] [(ck, .int), (cw, .int)] sz)) (va_Qi (fun (x : Int32) (u : Unit) => True) (fun _ (t : State) => t.heap.size = sz) ro_A) 0 0 ro_A := by
  refine Met.ofW (cc := cX5_key) (maxL := 2) (ret := (some .int)) (by decide) rfl ?_
  intro p e s m args below meth c s₁ B hml hv
  obtain ⟨rfl, hsz, hP, hK⟩ := hv
  have hx := B.exec
  have hb := B.bytes
  have hr := B.returns
  have hts := atoms_spec (ws := wsX5_key) B.pre
  have hown : s.vm.findClass RX5 = some m.cls := findClass_of_methodNamed B.named
  have hlocks := B.notSynchronized
  subst hsz
  have hS : va_S ro_A s.heap s.heap [] := va_S.rf
  have hP : va_P (dC, dI) vwCl [(x0, .inr (5, [.ref k0, .ref w0, .int (nI nz), .int ch])), (k0, .inl (ck, L, .inl f)), (w0, .inl (cw, L, .inl g))] s.heap := hP
  have hl := lv_entry ([.ref x0, .int p0]) (n := 2) (Nat.le_of_ble_eq_true rfl)
  rw [lg_entry_eq]
  generalize (lg_sl ([.ref x0, .int p0]) ++ List.replicate (2 - (lg_sl ([.ref x0, .int p0])).length) Slot.unset).toArray = ls at hl ⊢
  have hl : lv_has ls 2 [(0, .ref x0), (1, .int p0)] := hl
  have hw0_ := hts (.fieldLink RX5 18 "KeyAtlas$Rows" "size" "I") (List.mem_of_getElem? (l := wsX5_key) (i := 1) rfl)
  have hw1_ := hts (.fieldLink RX5 9 "KeyAtlas$Rows" "keys" "[I") (List.mem_of_getElem? (l := wsX5_key) (i := 2) rfl)
  have hi0_ : ∀ w ∈ u_ws RX5 TX5 4, w ∈ wsX5_key := fun w h => List.mem_cons_of_mem _ (List.mem_append_right _ h)
  obtain ⟨hL1, hL2, hz1, hz2⟩ := hR9
  refine lv_iload_n hx hb dX5_key_0 rfl (lv_at hl 1 rfl) ?_
  refine lv_if_lt (tgt := 21) hx hb dX5_key_1 (by decide) (fun c_1 => ?_) (fun c_1 => ?_)
  ·
    have ic_1 : p0.toInt < 0 := tx_lt rfl (by decide) c_1
    refine lv_iconst (v := 0) hx hb dX5_key_21 (by decide) ?_
    refine W.widen (k := 0) (n := 0) (Nat.le_of_ble_eq_true rfl) (Nat.le_of_ble_eq_true rfl) ?_
    exact W.iret (v := 0) hx hb hr (fun t ht hW => ⟨⟨0, (), rfl, trivial, congrArg Array.size ht⟩, hS.F ht⟩) hS.2.2 dX5_key_22
  ·
    have ic_1 : 0 ≤ p0.toInt := tx_nlt rfl (by decide) c_1
    refine lv_iload_n hx hb dX5_key_4 rfl (lv_at hl 1 rfl) ?_
    refine lv_aload_n hx hb dX5_key_5 rfl (lv_at hl 0 rfl) ?_
    refine va_get (D := (dC, dI)) (ci := 5) (v := .int (nI nz)) (C := RX5) (T := TX5) (N := 4) hx hb hts hi0_ hown hK hP 0 rfl rfl 2 (by decide) hw0_ (fun _ h9 => h9) rfl dX5_key_6 ?_
    refine lv_icmp_ge (tgt := 21) hx hb dX5_key_9 (by decide) (fun c_2 => ?_) (fun c_2 => ?_)
    ·
      have ic_2 : ((nz : Nat) : Int) ≤ p0.toInt := tx_le (nI_toInt (by omega)) rfl c_2
      refine lv_iconst (v := 0) hx hb dX5_key_21 (by decide) ?_
      refine W.widen (k := 0) (n := 0) (Nat.le_of_ble_eq_true rfl) (Nat.le_of_ble_eq_true rfl) ?_
      exact W.iret (v := 0) hx hb hr (fun t ht hW => ⟨⟨0, (), rfl, trivial, congrArg Array.size ht⟩, hS.F ht⟩) hS.2.2 dX5_key_22
    ·
      have ic_2 : p0.toInt < ((nz : Nat) : Int) := tx_nle (nI_toInt (by omega)) rfl c_2
      obtain ⟨i, hi, rfl⟩ := nI_nat (x := p0) (n := nz) (by omega) (by omega) (by omega)
      have hit : (nI i).toInt = (i : Int) := nI_toInt (by omega)
      refine lv_aload_n hx hb dX5_key_12 rfl (lv_at hl 0 rfl) ?_
      refine va_get (D := (dC, dI)) (ci := 5) (v := .ref k0) (C := RX5) (T := TX5) (N := 4) hx hb hts hi0_ hown hK hP 0 rfl rfl 0 (by decide) hw1_ (fun _ h9 => h9) rfl dX5_key_13 ?_
      refine lv_iload_n hx hb dX5_key_16 rfl (lv_at hl 1 rfl) ?_
      refine va_iald (i := nI i) hx hb hK hP 1 0 rfl rfl (vp_in_nI (by omega) (by omega)) dX5_key_17 ?_
      refine W.eq (g2 := F0 m 18 ls [.int (f i)]) (by rw [nI_clamp (by omega)]) ?_
      refine lv_goto (tgt := 22) hx hb dX5_key_18 (by decide) ?_
      refine W.widen (k := 0) (n := 0) (Nat.le_of_ble_eq_true rfl) (Nat.le_of_ble_eq_true rfl) ?_
      exact W.iret (v := f i) hx hb hr (fun t ht hW => ⟨⟨f i, (), rfl, trivial, congrArg Array.size ht⟩, hS.F ht⟩) hS.2.2 dX5_key_22
set_option maxHeartbeats 4000000 in
set_option maxRecDepth 100000 in
/-- Rows.value -/
theorem c_X5_value (l : Launch) (dC : Nat → ClassId) (dI : Nat → Nat → Nat) (sz : Nat) (x0 : Nat) (k0 : Nat) (w0 : Nat) (ck : ClassId) (cw : ClassId) (L : Nat) (f : Nat → Int32) (g : Nat → Int32) (nz : Nat) (ch : Int32) (p0 : Int32) (hR9 : rOK L nz) : Met l yX5_value wsX5_value ({ frames := 0, cells := 0, slots := 0, locals := 0 }) (va_Pc [.ref x0, .int p0] (pk_PreR (dC, dI) [(x0, .inr (5, [.ref k0, .ref w0, .int (nI nz), .int ch])), (k0, .inl (ck, L, .inl f)), (w0, .inl (cw, L, .inl g))] [(ck, .int), (cw, .int)] sz)) (va_Qi (fun (x : Int32) (u : Unit) => True) (fun _ (t : State) => t.heap.size = sz) ro_A) 0 0 ro_A := by
  refine Met.ofW (cc := cX5_value) (maxL := 2) (ret := (some .int)) (by decide) rfl ?_
  intro p e s m args below meth c s₁ B hml hv
  obtain ⟨rfl, hsz, hP, hK⟩ := hv
  have hx := B.exec
  have hb := B.bytes
  have hr := B.returns
  have hts := atoms_spec (ws := wsX5_value) B.pre
  have hown : s.vm.findClass RX5 = some m.cls := findClass_of_methodNamed B.named
  have hlocks := B.notSynchronized
  subst hsz
  have hS : va_S ro_A s.heap s.heap [] := va_S.rf
  have hP : va_P (dC, dI) vwCl [(x0, .inr (5, [.ref k0, .ref w0, .int (nI nz), .int ch])), (k0, .inl (ck, L, .inl f)), (w0, .inl (cw, L, .inl g))] s.heap := hP
  have hl := lv_entry ([.ref x0, .int p0]) (n := 2) (Nat.le_of_ble_eq_true rfl)
  rw [lg_entry_eq]
  generalize (lg_sl ([.ref x0, .int p0]) ++ List.replicate (2 - (lg_sl ([.ref x0, .int p0])).length) Slot.unset).toArray = ls at hl ⊢
  have hl : lv_has ls 2 [(0, .ref x0), (1, .int p0)] := hl
  have hw0_ := hts (.fieldLink RX5 18 "KeyAtlas$Rows" "size" "I") (List.mem_of_getElem? (l := wsX5_value) (i := 1) rfl)
  have hw1_ := hts (.fieldLink RX5 15 "KeyAtlas$Rows" "values" "[I") (List.mem_of_getElem? (l := wsX5_value) (i := 2) rfl)
  have hi0_ : ∀ w ∈ u_ws RX5 TX5 4, w ∈ wsX5_value := fun w h => List.mem_cons_of_mem _ (List.mem_append_right _ h)
  obtain ⟨hL1, hL2, hz1, hz2⟩ := hR9
  refine lv_iload_n hx hb dX5_value_0 rfl (lv_at hl 1 rfl) ?_
  refine lv_if_lt (tgt := 21) hx hb dX5_value_1 (by decide) (fun c_1 => ?_) (fun c_1 => ?_)
  ·
    have ic_1 : p0.toInt < 0 := tx_lt rfl (by decide) c_1
    refine lv_iconst (v := 0) hx hb dX5_value_21 (by decide) ?_
    refine W.widen (k := 0) (n := 0) (Nat.le_of_ble_eq_true rfl) (Nat.le_of_ble_eq_true rfl) ?_
    exact W.iret (v := 0) hx hb hr (fun t ht hW => ⟨⟨0, (), rfl, trivial, congrArg Array.size ht⟩, hS.F ht⟩) hS.2.2 dX5_value_22
  ·
    have ic_1 : 0 ≤ p0.toInt := tx_nlt rfl (by decide) c_1
    refine lv_iload_n hx hb dX5_value_4 rfl (lv_at hl 1 rfl) ?_
    refine lv_aload_n hx hb dX5_value_5 rfl (lv_at hl 0 rfl) ?_
    refine va_get (D := (dC, dI)) (ci := 5) (v := .int (nI nz)) (C := RX5) (T := TX5) (N := 4) hx hb hts hi0_ hown hK hP 0 rfl rfl 2 (by decide) hw0_ (fun _ h9 => h9) rfl dX5_value_6 ?_
    refine lv_icmp_ge (tgt := 21) hx hb dX5_value_9 (by decide) (fun c_2 => ?_) (fun c_2 => ?_)
    ·
      have ic_2 : ((nz : Nat) : Int) ≤ p0.toInt := tx_le (nI_toInt (by omega)) rfl c_2
      refine lv_iconst (v := 0) hx hb dX5_value_21 (by decide) ?_
      refine W.widen (k := 0) (n := 0) (Nat.le_of_ble_eq_true rfl) (Nat.le_of_ble_eq_true rfl) ?_
      exact W.iret (v := 0) hx hb hr (fun t ht hW => ⟨⟨0, (), rfl, trivial, congrArg Array.size ht⟩, hS.F ht⟩) hS.2.2 dX5_value_22
    ·
      have ic_2 : p0.toInt < ((nz : Nat) : Int) := tx_nle (nI_toInt (by omega)) rfl c_2
      obtain ⟨i, hi, rfl⟩ := nI_nat (x := p0) (n := nz) (by omega) (by omega) (by omega)
      have hit : (nI i).toInt = (i : Int) := nI_toInt (by omega)
      refine lv_aload_n hx hb dX5_value_12 rfl (lv_at hl 0 rfl) ?_
      refine va_get (D := (dC, dI)) (ci := 5) (v := .ref w0) (C := RX5) (T := TX5) (N := 4) hx hb hts hi0_ hown hK hP 0 rfl rfl 1 (by decide) hw1_ (fun _ h9 => h9) rfl dX5_value_13 ?_
      refine lv_iload_n hx hb dX5_value_16 rfl (lv_at hl 1 rfl) ?_
      refine va_iald (i := nI i) hx hb hK hP 2 1 rfl rfl (vp_in_nI (by omega) (by omega)) dX5_value_17 ?_
      refine W.eq (g2 := F0 m 18 ls [.int (g i)]) (by rw [nI_clamp (by omega)]) ?_
      refine lv_goto (tgt := 22) hx hb dX5_value_18 (by decide) ?_
      refine W.widen (k := 0) (n := 0) (Nat.le_of_ble_eq_true rfl) (Nat.le_of_ble_eq_true rfl) ?_
      exact W.iret (v := g i) hx hb hr (fun t ht hW => ⟨⟨g i, (), rfl, trivial, congrArg Array.size ht⟩, hS.F ht⟩) hS.2.2 dX5_value_22
set_option maxHeartbeats 4000000 in
set_option maxRecDepth 100000 in
/-- Rows.setValue -/
theorem c_X5_setValue (l : Launch) (dC : Nat → ClassId) (dI : Nat → Nat → Nat) (sz : Nat) (x0 : Nat) (k0 : Nat) (w0 : Nat) (ck : ClassId) (cw : ClassId) (L : Nat) (f : Nat → Int32) (g : Nat → Int32) (nz : Nat) (ch : Int32) (p0 : Int32) (p1 : Int32) (hR9 : rOK L nz) : Met l yX5_setValue wsX5_setValue ({ frames := 0, cells := 0, slots := 0, locals := 0 }) (va_Pc [.ref x0, .int p0, .int p1] (pk_Pre (dC, dI) [(x0, .inr (5, [.ref k0, .ref w0, .int (nI nz), .int ch])), (k0, .inl (ck, L, .inl f)), (w0, .inl (cw, L, .inl g))] [(ck, .int), (cw, .int)] sz)) (va_Qv (fun (u : (Nat → Int32)) => True) (fun (u : (Nat → Int32)) (t : State) => va_P (dC, dI) vwCl [(x0, .inr (5, [.ref k0, .ref w0, .int (nI nz), .int ch])), (k0, .inl (ck, L, .inl f)), (w0, .inl (cw, L, .inl u))] t.heap ∧ va_K (dC, dI) vwCl [(ck, .int), (cw, .int)] t ∧ va_D (va_A [(x0, .inr (5, [.ref k0, .ref w0, .int (nI nz), .int ch])), (k0, .inl (ck, L, .inl f)), (w0, .inl (cw, L, .inl g))] sz) [(x0, .inr (5, [.ref k0, .ref w0, .int (nI nz), .int ch])), (k0, .inl (ck, L, .inl f)), (w0, .inl (cw, L, .inl u))]) (va_A [(x0, .inr (5, [.ref k0, .ref w0, .int (nI nz), .int ch])), (k0, .inl (ck, L, .inl f)), (w0, .inl (cw, L, .inl g))] sz)) 0 0 (va_A [(x0, .inr (5, [.ref k0, .ref w0, .int (nI nz), .int ch])), (k0, .inl (ck, L, .inl f)), (w0, .inl (cw, L, .inl g))] sz) := by
  refine Met.ofW (cc := cX5_setValue) (maxL := 3) (ret := none) (by decide) rfl ?_
  intro p e s m args below meth c s₁ B hml hv
  obtain ⟨rfl, hsz, hP, hK, hD0⟩ := hv
  have hx := B.exec
  have hb := B.bytes
  have hr := B.returns
  have hts := atoms_spec (ws := wsX5_setValue) B.pre
  have hown : s.vm.findClass RX5 = some m.cls := findClass_of_methodNamed B.named
  have hlocks := B.notSynchronized
  subst hsz
  have hD := hD0.self (sz := s.heap.size)
  generalize hAe : va_A [(x0, .inr (5, [.ref k0, .ref w0, .int (nI nz), .int ch])), (k0, .inl (ck, L, .inl f)), (w0, .inl (cw, L, .inl g))] s.heap.size = A at hD ⊢
  have hA : ∀ q : Nat, s.heap.size ≤ q → A q := fun q h => by rw [← hAe]; exact Or.inr h
  have hS : va_S A s.heap s.heap [] := va_S.rf
  have hP : va_P (dC, dI) vwCl [(x0, .inr (5, [.ref k0, .ref w0, .int (nI nz), .int ch])), (k0, .inl (ck, L, .inl f)), (w0, .inl (cw, L, .inl g))] s.heap := hP
  have hl := lv_entry ([.ref x0, .int p0, .int p1]) (n := 3) (Nat.le_of_ble_eq_true rfl)
  rw [lg_entry_eq]
  generalize (lg_sl ([.ref x0, .int p0, .int p1]) ++ List.replicate (3 - (lg_sl ([.ref x0, .int p0, .int p1])).length) Slot.unset).toArray = ls at hl ⊢
  have hl : lv_has ls 3 [(0, .ref x0), (1, .int p0), (2, .int p1)] := hl
  have hw0_ := hts (.fieldLink RX5 18 "KeyAtlas$Rows" "size" "I") (List.mem_of_getElem? (l := wsX5_setValue) (i := 1) rfl)
  have hw1_ := hts (.fieldLink RX5 15 "KeyAtlas$Rows" "values" "[I") (List.mem_of_getElem? (l := wsX5_setValue) (i := 2) rfl)
  have hi0_ : ∀ w ∈ u_ws RX5 TX5 4, w ∈ wsX5_setValue := fun w h => List.mem_cons_of_mem _ (List.mem_append_right _ h)
  obtain ⟨hL1, hL2, hz1, hz2⟩ := hR9
  refine lv_iload_n hx hb dX5_setValue_0 rfl (lv_at hl 1 rfl) ?_
  refine lv_if_lt (tgt := 19) hx hb dX5_setValue_1 (by decide) (fun c_1 => ?_) (fun c_1 => ?_)
  ·
    have ic_1 : p0.toInt < 0 := tx_lt rfl (by decide) c_1
    have hP9 := hP.sub (ws' := [(x0, .inr (5, [.ref k0, .ref w0, .int (nI nz), .int ch])), (k0, .inl (ck, L, .inl f)), (w0, .inl (cw, L, .inl g))]) [0, 1, 2] rfl
    have hD9 := hD.sub (ws' := [(x0, .inr (5, [.ref k0, .ref w0, .int (nI nz), .int ch])), (k0, .inl (ck, L, .inl f)), (w0, .inl (cw, L, .inl g))]) [0, 1, 2] (by decide) rfl
    have hK9 := hK.sub (tys' := [(ck, .int), (cw, .int)]) [0, 1] rfl
    refine W.widen (k := 0) (n := 0) (Nat.le_of_ble_eq_true rfl) (Nat.le_of_ble_eq_true rfl) ?_
    exact W.vret hx hb hr (fun t ht hW => ⟨⟨(g), rfl, trivial, by rw [ht]; exact hP9, va_K.moved hW.alike hK9, hD9⟩, hS.F ht⟩) hS.2.2 dX5_setValue_19
  ·
    have ic_1 : 0 ≤ p0.toInt := tx_nlt rfl (by decide) c_1
    refine lv_iload_n hx hb dX5_setValue_4 rfl (lv_at hl 1 rfl) ?_
    refine lv_aload_n hx hb dX5_setValue_5 rfl (lv_at hl 0 rfl) ?_
    refine va_get (D := (dC, dI)) (ci := 5) (v := .int (nI nz)) (C := RX5) (T := TX5) (N := 4) hx hb hts hi0_ hown hK hP 0 rfl rfl 2 (by decide) hw0_ (fun _ h9 => h9) rfl dX5_setValue_6 ?_
    refine lv_icmp_ge (tgt := 19) hx hb dX5_setValue_9 (by decide) (fun c_2 => ?_) (fun c_2 => ?_)
    ·
      have ic_2 : ((nz : Nat) : Int) ≤ p0.toInt := tx_le (nI_toInt (by omega)) rfl c_2
      have hP9 := hP.sub (ws' := [(x0, .inr (5, [.ref k0, .ref w0, .int (nI nz), .int ch])), (k0, .inl (ck, L, .inl f)), (w0, .inl (cw, L, .inl g))]) [0, 1, 2] rfl
      have hD9 := hD.sub (ws' := [(x0, .inr (5, [.ref k0, .ref w0, .int (nI nz), .int ch])), (k0, .inl (ck, L, .inl f)), (w0, .inl (cw, L, .inl g))]) [0, 1, 2] (by decide) rfl
      have hK9 := hK.sub (tys' := [(ck, .int), (cw, .int)]) [0, 1] rfl
      refine W.widen (k := 0) (n := 0) (Nat.le_of_ble_eq_true rfl) (Nat.le_of_ble_eq_true rfl) ?_
      exact W.vret hx hb hr (fun t ht hW => ⟨⟨(g), rfl, trivial, by rw [ht]; exact hP9, va_K.moved hW.alike hK9, hD9⟩, hS.F ht⟩) hS.2.2 dX5_setValue_19
    ·
      have ic_2 : p0.toInt < ((nz : Nat) : Int) := tx_nle (nI_toInt (by omega)) rfl c_2
      obtain ⟨i, hi, rfl⟩ := nI_nat (x := p0) (n := nz) (by omega) (by omega) (by omega)
      have hit : (nI i).toInt = (i : Int) := nI_toInt (by omega)
      refine lv_aload_n hx hb dX5_setValue_12 rfl (lv_at hl 0 rfl) ?_
      refine va_get (D := (dC, dI)) (ci := 5) (v := .ref w0) (C := RX5) (T := TX5) (N := 4) hx hb hts hi0_ hown hK hP 0 rfl rfl 1 (by decide) hw1_ (fun _ h9 => h9) rfl dX5_setValue_13 ?_
      refine lv_iload_n hx hb dX5_setValue_16 rfl (lv_at hl 1 rfl) ?_
      refine lv_iload_n hx hb dX5_setValue_17 rfl (lv_at hl 2 rfl) ?_
      refine va_iast (i := nI i) hx hb hK hP hD hS 2 1 rfl rfl (vp_in_nI (by omega) (by omega)) dX5_setValue_18 (fun H locs hP hD hS => ?_)
      rw [nI_clamp (by omega)] at hP hD
      replace hP : va_P (dC, dI) vwCl [(x0, .inr (5, [.ref k0, .ref w0, .int (nI nz), .int ch])), (k0, .inl (ck, L, .inl f)), (w0, .inl (cw, L, .inl (upd g i p1)))] H := hP
      replace hD : va_D A [(x0, .inr (5, [.ref k0, .ref w0, .int (nI nz), .int ch])), (k0, .inl (ck, L, .inl f)), (w0, .inl (cw, L, .inl (upd g i p1)))] := hD
      have hP9 := hP.sub (ws' := [(x0, .inr (5, [.ref k0, .ref w0, .int (nI nz), .int ch])), (k0, .inl (ck, L, .inl f)), (w0, .inl (cw, L, .inl (upd g i p1)))]) [0, 1, 2] rfl
      have hD9 := hD.sub (ws' := [(x0, .inr (5, [.ref k0, .ref w0, .int (nI nz), .int ch])), (k0, .inl (ck, L, .inl f)), (w0, .inl (cw, L, .inl (upd g i p1)))]) [0, 1, 2] (by decide) rfl
      have hK9 := hK.sub (tys' := [(ck, .int), (cw, .int)]) [0, 1] rfl
      refine W.widen (k := 0) (n := 0) (Nat.le_of_ble_eq_true rfl) (Nat.le_of_ble_eq_true rfl) ?_
      exact W.vret hx hb hr (fun t ht hW => ⟨⟨((upd g i p1)), rfl, trivial, by rw [ht]; exact hP9, va_K.moved hW.alike hK9, hD9⟩, hS.F ht⟩) hS.2.2 dX5_setValue_19
