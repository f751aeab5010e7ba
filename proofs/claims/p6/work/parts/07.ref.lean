theorem dX8_root_0 : decode cX8_root 0 = .ok (.iload_n 1, 1) := by decide +kernel
theorem dX8_root_1 : decode cX8_root 1 = .ok (.istore_n 2, 1) := by decide +kernel
theorem dX8_root_2 : decode cX8_root 2 = .ok (.aload_n 0, 1) := by decide +kernel
theorem dX8_root_3 : decode cX8_root 3 = .ok (.getfield 7, 3) := by decide +kernel
theorem dX8_root_6 : decode cX8_root 6 = .ok (.iload_n 2, 1) := by decide +kernel
theorem dX8_root_7 : decode cX8_root 7 = .ok (.iaload, 1) := by decide +kernel
theorem dX8_root_8 : decode cX8_root 8 = .ok (.iconst 4, 1) := by decide +kernel
theorem dX8_root_9 : decode cX8_root 9 = .ok (.if_icmp .ne 13, 3) := by decide +kernel
theorem dX8_root_22 : decode cX8_root 22 = .ok (.iload_n 2, 1) := by decide +kernel
theorem dX8_root_23 : decode cX8_root 23 = .ok (.ireturn, 1) := by decide +kernel
theorem dX8_root_12 : decode cX8_root 12 = .ok (.aload_n 0, 1) := by decide +kernel
theorem dX8_root_13 : decode cX8_root 13 = .ok (.getfield 32, 3) := by decide +kernel
theorem dX8_root_16 : decode cX8_root 16 = .ok (.iload_n 2, 1) := by decide +kernel
theorem dX8_root_17 : decode cX8_root 17 = .ok (.iaload, 1) := by decide +kernel
theorem dX8_root_18 : decode cX8_root 18 = .ok (.istore_n 2, 1) := by decide +kernel
theorem dX8_root_19 : decode cX8_root 19 = .ok (.goto (-17), 3) := by decide +kernel
theorem dX8_isTurned_0 : decode cX8_isTurned 0 = .ok (.iconst 0, 1) := by decide +kernel
theorem dX8_isTurned_1 : decode cX8_isTurned 1 = .ok (.istore_n 2, 1) := by decide +kernel
theorem dX8_isTurned_2 : decode cX8_isTurned 2 = .ok (.iload_n 1, 1) := by decide +kernel
theorem dX8_isTurned_3 : decode cX8_isTurned 3 = .ok (.istore_n 3, 1) := by decide +kernel
theorem dX8_isTurned_4 : decode cX8_isTurned 4 = .ok (.aload_n 0, 1) := by decide +kernel
theorem dX8_isTurned_5 : decode cX8_isTurned 5 = .ok (.getfield 7, 3) := by decide +kernel
theorem dX8_isTurned_8 : decode cX8_isTurned 8 = .ok (.iload_n 3, 1) := by decide +kernel
theorem dX8_isTurned_9 : decode cX8_isTurned 9 = .ok (.iaload, 1) := by decide +kernel
theorem dX8_isTurned_10 : decode cX8_isTurned 10 = .ok (.iconst 4, 1) := by decide +kernel
theorem dX8_isTurned_11 : decode cX8_isTurned 11 = .ok (.if_icmp .ne 33, 3) := by decide +kernel
theorem dX8_isTurned_44 : decode cX8_isTurned 44 = .ok (.iload_n 2, 1) := by decide +kernel
theorem dX8_isTurned_45 : decode cX8_isTurned 45 = .ok (.ireturn, 1) := by decide +kernel
theorem dX8_isTurned_14 : decode cX8_isTurned 14 = .ok (.aload_n 0, 1) := by decide +kernel
theorem dX8_isTurned_15 : decode cX8_isTurned 15 = .ok (.getfield 41, 3) := by decide +kernel
theorem dX8_isTurned_18 : decode cX8_isTurned 18 = .ok (.iload_n 3, 1) := by decide +kernel
theorem dX8_isTurned_19 : decode cX8_isTurned 19 = .ok (.iaload, 1) := by decide +kernel
theorem dX8_isTurned_20 : decode cX8_isTurned 20 = .ok (.iconst 4, 1) := by decide +kernel
theorem dX8_isTurned_21 : decode cX8_isTurned 21 = .ok (.if_icmp .ne 13, 3) := by decide +kernel
theorem dX8_isTurned_34 : decode cX8_isTurned 34 = .ok (.aload_n 0, 1) := by decide +kernel
theorem dX8_isTurned_35 : decode cX8_isTurned 35 = .ok (.getfield 32, 3) := by decide +kernel
theorem dX8_isTurned_38 : decode cX8_isTurned 38 = .ok (.iload_n 3, 1) := by decide +kernel
theorem dX8_isTurned_39 : decode cX8_isTurned 39 = .ok (.iaload, 1) := by decide +kernel
theorem dX8_isTurned_40 : decode cX8_isTurned 40 = .ok (.istore_n 3, 1) := by decide +kernel
theorem dX8_isTurned_41 : decode cX8_isTurned 41 = .ok (.goto (-37), 3) := by decide +kernel
theorem dX8_isTurned_24 : decode cX8_isTurned 24 = .ok (.iload_n 2, 1) := by decide +kernel
theorem dX8_isTurned_25 : decode cX8_isTurned 25 = .ok (.ifCond .ne 7, 3) := by decide +kernel
theorem dX8_isTurned_32 : decode cX8_isTurned 32 = .ok (.iconst 0, 1) := by decide +kernel
theorem dX8_isTurned_33 : decode cX8_isTurned 33 = .ok (.istore_n 2, 1) := by decide +kernel
theorem dX8_isTurned_28 : decode cX8_isTurned 28 = .ok (.iconst 1, 1) := by decide +kernel
theorem dX8_isTurned_29 : decode cX8_isTurned 29 = .ok (.goto 4, 3) := by decide +kernel
theorem dX8_two_0 : decode cX8_two 0 = .ok (.lload_n 0, 1) := by decide +kernel
theorem dX8_two_1 : decode cX8_two 1 = .ok (.lload_n 2, 1) := by decide +kernel
theorem dX8_two_2 : decode cX8_two 2 = .ok (.lcmp, 1) := by decide +kernel
theorem dX8_two_3 : decode cX8_two 3 = .ok (.ifCond .ge 7, 3) := by decide +kernel
theorem dX8_two_10 : decode cX8_two 10 = .ok (.lload_n 0, 1) := by decide +kernel
theorem dX8_two_11 : decode cX8_two 11 = .ok (.lload_n 2, 1) := by decide +kernel
theorem dX8_two_12 : decode cX8_two 12 = .ok (.lcmp, 1) := by decide +kernel
theorem dX8_two_13 : decode cX8_two 13 = .ok (.ifCond .le 7, 3) := by decide +kernel
theorem dX8_two_20 : decode cX8_two 20 = .ok (.iconst 0, 1) := by decide +kernel
theorem dX8_two_21 : decode cX8_two 21 = .ok (.ireturn, 1) := by decide +kernel
theorem dX8_two_16 : decode cX8_two 16 = .ok (.iconst 1, 1) := by decide +kernel
theorem dX8_two_17 : decode cX8_two 17 = .ok (.goto 4, 3) := by decide +kernel
theorem dX8_two_6 : decode cX8_two 6 = .ok (.iconst (-1), 1) := by decide +kernel
theorem dX8_two_7 : decode cX8_two 7 = .ok (.goto 14, 3) := by decide +kernel
set_option maxHeartbeats 4000000 in
set_option maxRecDepth 100000 in
/-- root -/
theorem c_X8_root (l : Launch) (dC : Nat → ClassId) (dI : Nat → Nat → Nat) (sz : Nat) (h0 : Nat) (th : Int32) (q1 : Nat) (q8 : Nat) (c1 : ClassId) (c8 : ClassId) (a1 : Nat → Int32) (a8 : Nat → Int32) (v2 : Value) (v3 : Value) (v4 : Value) (v5 : Value) (v6 : Value) (v7 : Value) (v9 : Value) (v10 : Value) (v11 : Value) (v12 : Value) (v13 : Value) (v14 : Value) (v15 : Value) (v16 : Value) (o : Nat) (dep : Nat → Nat) (ho9 : o < 16) (hF9 : rF a1 a8 dep) (hd9 : dep o < 17) : Met l yX8_root wsX8_root ({ frames := 0, cells := 0, slots := 0, locals := 0 }) (va_Pc [.ref h0, .int (nI o)] (pk_Pre (dC, dI) [(h0, .inr (8, [.int th, .ref q1, v2, v3, v4, v5, v6, v7, .ref q8, v9, v10, v11, v12, v13, v14, v15, v16])), (q1, .inl (c1, 16, .inl a1)), (q8, .inl (c8, 16, .inl a8))] [(c1, .int), (c8, .int)] sz)) (va_Qi (fun (x : Int32) (_ : Unit) => x = nI (rtN a1 a8 17 o) ∧ rtN a1 a8 17 o < 16 ∧ ¬ (a1 (rtN a1 a8 17 o)).toInt = 4) (fun (_ : Unit) (t : State) => va_P (dC, dI) vwCl [(h0, .inr (8, [.int th, .ref q1, v2, v3, v4, v5, v6, v7, .ref q8, v9, v10, v11, v12, v13, v14, v15, v16])), (q1, .inl (c1, 16, .inl a1)), (q8, .inl (c8, 16, .inl a8))] t.heap ∧ va_K (dC, dI) vwCl [(c1, .int), (c8, .int)] t ∧ va_D (va_A [(h0, .inr (8, [.int th, .ref q1, v2, v3, v4, v5, v6, v7, .ref q8, v9, v10, v11, v12, v13, v14, v15, v16])), (q1, .inl (c1, 16, .inl a1)), (q8, .inl (c8, 16, .inl a8))] sz) [(h0, .inr (8, [.int th, .ref q1, v2, v3, v4, v5, v6, v7, .ref q8, v9, v10, v11, v12, v13, v14, v15, v16])), (q1, .inl (c1, 16, .inl a1)), (q8, .inl (c8, 16, .inl a8))]) (va_A [(h0, .inr (8, [.int th, .ref q1, v2, v3, v4, v5, v6, v7, .ref q8, v9, v10, v11, v12, v13, v14, v15, v16])), (q1, .inl (c1, 16, .inl a1)), (q8, .inl (c8, 16, .inl a8))] sz)) 0 0 (va_A [(h0, .inr (8, [.int th, .ref q1, v2, v3, v4, v5, v6, v7, .ref q8, v9, v10, v11, v12, v13, v14, v15, v16])), (q1, .inl (c1, 16, .inl a1)), (q8, .inl (c8, 16, .inl a8))] sz) := by
  refine Met.ofW (cc := cX8_root) (maxL := 3) (ret := (some .int)) (by decide) rfl ?_
  intro p e s m args below meth c s₁ B hml hv
  obtain ⟨rfl, hsz, hP, hK, hD0⟩ := hv
  have hx := B.exec
  have hb := B.bytes
  have hr := B.returns
  have hts := atoms_spec (ws := wsX8_root) B.pre
  have hown : s.vm.findClass RX8 = some m.cls := findClass_of_methodNamed B.named
  have hlocks := B.notSynchronized
  subst hsz
  have hD := hD0.self (sz := s.heap.size)
  generalize hAe : va_A [(h0, .inr (8, [.int th, .ref q1, v2, v3, v4, v5, v6, v7, .ref q8, v9, v10, v11, v12, v13, v14, v15, v16])), (q1, .inl (c1, 16, .inl a1)), (q8, .inl (c8, 16, .inl a8))] s.heap.size = A at hD ⊢
  have hA : ∀ q : Nat, s.heap.size ≤ q → A q := fun q h => by rw [← hAe]; exact Or.inr h
  have hS : va_S A s.heap s.heap [] := va_S.rf
  have hP : va_P (dC, dI) vwCl [(h0, .inr (8, [.int th, .ref q1, v2, v3, v4, v5, v6, v7, .ref q8, v9, v10, v11, v12, v13, v14, v15, v16])), (q1, .inl (c1, 16, .inl a1)), (q8, .inl (c8, 16, .inl a8))] s.heap := hP
  have hl := lv_entry ([.ref h0, .int (nI o)]) (n := 3) (Nat.le_of_ble_eq_true rfl)
  rw [lg_entry_eq]
  generalize (lg_sl ([.ref h0, .int (nI o)]) ++ List.replicate (3 - (lg_sl ([.ref h0, .int (nI o)])).length) Slot.unset).toArray = ls at hl ⊢
  have hl : lv_has ls 3 [(0, .ref h0), (1, .int (nI o))] := hl
  have hw0_ := hts (.fieldLink RX8 7 "KeyAtlasModel" "kind" "[I") (List.mem_of_getElem? (l := wsX8_root) (i := 1) rfl)
  have hw1_ := hts (.fieldLink RX8 32 "KeyAtlasModel" "parent" "[I") (List.mem_of_getElem? (l := wsX8_root) (i := 2) rfl)
  have hi0_ : ∀ w ∈ u_ws RX8 TX8 17, w ∈ wsX8_root := fun w h => List.mem_cons_of_mem _ (List.mem_append_right _ h)
  refine lv_iload_n hx hb dX8_root_0 rfl (lv_at hl 1 rfl) ?_
  refine lv_istore_n (lv' := [(2, .int (nI o)), (0, .ref h0), (1, .int (nI o))]) hx hb dX8_root_1 rfl hl (by decide) rfl (fun ls hl => ?_)
  obtain ⟨k, es_k⟩ : ∃ z : Nat, z = o := ⟨_, rfl⟩
  obtain ⟨x9, ex9⟩ : ∃ y : Int32, y = nI k := ⟨_, rfl⟩
  obtain ⟨n9, en9⟩ : ∃ n : Nat, n = 17 := ⟨_, rfl⟩
  replace hl : lv_has ls 3 [(2, .int x9), (0, .ref h0), (1, .int (nI o))] := by subst ex9; subst es_k; exact hl
  have hk9 : k < 16 := by subst ex9; subst es_k; subst en9; exact ho9
  have hn9 : dep k < n9 := by subst ex9; subst es_k; subst en9; exact hd9
  have hv9 : rtN a1 a8 n9 k = rtN a1 a8 17 o := by subst ex9; subst es_k; subst en9; exact rfl
  clear en9 es_k
  induction n9 generalizing k x9 ls with
  | zero => exact absurd hn9 (Nat.not_lt_zero _)
  | succ n9 ih =>
    subst ex9
    refine lv_aload_n hx hb dX8_root_2 rfl (lv_at hl 1 rfl) ?_
    refine va_get (D := (dC, dI)) (ci := 8) (v := .ref q1) (C := RX8) (T := TX8) (N := 17) hx hb hts hi0_ hown hK hP 0 rfl rfl 1 (by decide) hw0_ (fun _ h9 => h9) rfl dX8_root_3 ?_
    refine lv_iload_n hx hb dX8_root_6 rfl (lv_at hl 0 rfl) ?_
    refine va_iald (i := nI k) hx hb hK hP 1 0 rfl rfl (vp_in_nI (by omega) (by omega)) dX8_root_7 ?_
    refine W.eq (g2 := F0 m 8 ls [.int (a1 k)]) (by rw [nI_clamp (by omega)]) ?_
    refine lv_iconst (v := 4) hx hb dX8_root_8 (by decide) ?_
    refine lv_icmp_ne (tgt := 22) hx hb dX8_root_9 (by decide) (fun c_1 => ?_) (fun c_1 => ?_)
    ·
      have ic_1 : ¬ (a1 k).toInt = 4 := tx_ne rfl (by decide) c_1
      refine lv_iload_n hx hb dX8_root_22 rfl (lv_at hl 0 rfl) ?_
      have hr9 : k = rtN a1 a8 17 o := (rtN_top ic_1).symm.trans hv9
      have hP9 := hP.sub (ws' := [(h0, .inr (8, [.int th, .ref q1, v2, v3, v4, v5, v6, v7, .ref q8, v9, v10, v11, v12, v13, v14, v15, v16])), (q1, .inl (c1, 16, .inl a1)), (q8, .inl (c8, 16, .inl a8))]) [0, 1, 2] rfl
      have hD9 := hD.sub (ws' := [(h0, .inr (8, [.int th, .ref q1, v2, v3, v4, v5, v6, v7, .ref q8, v9, v10, v11, v12, v13, v14, v15, v16])), (q1, .inl (c1, 16, .inl a1)), (q8, .inl (c8, 16, .inl a8))]) [0, 1, 2] (by decide) rfl
      have hK9 := hK.sub (tys' := [(c1, .int), (c8, .int)]) [0, 1] rfl
      refine W.widen (k := 0) (n := 0) (Nat.le_of_ble_eq_true rfl) (Nat.le_of_ble_eq_true rfl) ?_
      exact W.iret (v := nI k) hx hb hr (fun t ht hW => ⟨⟨nI k, (), rfl, ⟨by rw [← hr9], by rw [← hr9]; exact hk9, by rw [← hr9]; exact ic_1⟩, by rw [ht]; exact hP9, va_K.moved hW.alike hK9, hD9⟩, hS.F ht⟩) hS.2.2 dX8_root_23
    ·
      have ic_1 : (a1 k).toInt = 4 := tx_eq rfl (by decide) c_1
      refine lv_aload_n hx hb dX8_root_12 rfl (lv_at hl 1 rfl) ?_
      refine va_get (D := (dC, dI)) (ci := 8) (v := .ref q8) (C := RX8) (T := TX8) (N := 17) hx hb hts hi0_ hown hK hP 0 rfl rfl 8 (by decide) hw1_ (fun _ h9 => h9) rfl dX8_root_13 ?_
      refine lv_iload_n hx hb dX8_root_16 rfl (lv_at hl 0 rfl) ?_
      refine va_iald (i := nI k) hx hb hK hP 2 1 rfl rfl (vp_in_nI (by omega) (by omega)) dX8_root_17 ?_
      refine W.eq (g2 := F0 m 18 ls [.int (a8 k)]) (by rw [nI_clamp (by omega)]) ?_
      refine lv_istore_n (lv' := [(2, .int (a8 k)), (0, .ref h0), (1, .int (nI o))]) hx hb dX8_root_18 rfl hl (by decide) rfl (fun ls hl => ?_)
      refine lv_goto (tgt := 2) hx hb dX8_root_19 (by decide) ?_
      obtain ⟨p9, hp9, ep9, hq9, -, -, -⟩ := hF9 k hk9 (Or.inl ic_1)
      rw [ep9] at hl
      exact ih (k := p9) (x9 := nI p9) (ex9 := rfl) (ls := ls) (hk9 := hp9) (hn9 := by omega) (hv9 := (rtN_up ic_1 ep9 hp9).symm.trans hv9) (hl := lv_sub hl [0, 1, 2] rfl)
set_option maxHeartbeats 4000000 in
set_option maxRecDepth 100000 in
/-- isTurned -/
theorem c_X8_isTurned (l : Launch) (dC : Nat → ClassId) (dI : Nat → Nat → Nat) (sz : Nat) (h0 : Nat) (th : Int32) (q1 : Nat) (q8 : Nat) (q11 : Nat) (c1 : ClassId) (c8 : ClassId) (c11 : ClassId) (a1 : Nat → Int32) (a8 : Nat → Int32) (a11 : Nat → Int32) (v2 : Value) (v3 : Value) (v4 : Value) (v5 : Value) (v6 : Value) (v7 : Value) (v9 : Value) (v10 : Value) (v12 : Value) (v13 : Value) (v14 : Value) (v15 : Value) (v16 : Value) (o : Nat) (dep : Nat → Nat) (ho9 : o < 16) (hF9 : rF a1 a8 dep) (hd9 : dep o < 17) : Met l yX8_isTurned wsX8_isTurned ({ frames := 0, cells := 0, slots := 0, locals := 0 }) (va_Pc [.ref h0, .int (nI o)] (pk_Pre (dC, dI) [(h0, .inr (8, [.int th, .ref q1, v2, v3, v4, v5, v6, v7, .ref q8, v9, v10, .ref q11, v12, v13, v14, v15, v16])), (q1, .inl (c1, 16, .inl a1)), (q8, .inl (c8, 16, .inl a8)), (q11, .inl (c11, 16, .inl a11))] [(c1, .int), (c8, .int), (c11, .int)] sz)) (va_Qi (fun (x : Int32) (_ : Unit) => x = tz (tnN a1 a8 a11 17 o false)) (fun (_ : Unit) (t : State) => va_P (dC, dI) vwCl [(h0, .inr (8, [.int th, .ref q1, v2, v3, v4, v5, v6, v7, .ref q8, v9, v10, .ref q11, v12, v13, v14, v15, v16])), (q1, .inl (c1, 16, .inl a1)), (q8, .inl (c8, 16, .inl a8)), (q11, .inl (c11, 16, .inl a11))] t.heap ∧ va_K (dC, dI) vwCl [(c1, .int), (c8, .int), (c11, .int)] t ∧ va_D (va_A [(h0, .inr (8, [.int th, .ref q1, v2, v3, v4, v5, v6, v7, .ref q8, v9, v10, .ref q11, v12, v13, v14, v15, v16])), (q1, .inl (c1, 16, .inl a1)), (q8, .inl (c8, 16, .inl a8)), (q11, .inl (c11, 16, .inl a11))] sz) [(h0, .inr (8, [.int th, .ref q1, v2, v3, v4, v5, v6, v7, .ref q8, v9, v10, .ref q11, v12, v13, v14, v15, v16])), (q1, .inl (c1, 16, .inl a1)), (q8, .inl (c8, 16, .inl a8)), (q11, .inl (c11, 16, .inl a11))]) (va_A [(h0, .inr (8, [.int th, .ref q1, v2, v3, v4, v5, v6, v7, .ref q8, v9, v10, .ref q11, v12, v13, v14, v15, v16])), (q1, .inl (c1, 16, .inl a1)), (q8, .inl (c8, 16, .inl a8)), (q11, .inl (c11, 16, .inl a11))] sz)) 0 0 (va_A [(h0, .inr (8, [.int th, .ref q1, v2, v3, v4, v5, v6, v7, .ref q8, v9, v10, .ref q11, v12, v13, v14, v15, v16])), (q1, .inl (c1, 16, .inl a1)), (q8, .inl (c8, 16, .inl a8)), (q11, .inl (c11, 16, .inl a11))] sz) := by
  refine Met.ofW (cc := cX8_isTurned) (maxL := 4) (ret := (some .boolean)) (by decide) rfl ?_
  intro p e s m args below meth c s₁ B hml hv
  obtain ⟨rfl, hsz, hP, hK, hD0⟩ := hv
  have hx := B.exec
  have hb := B.bytes
  have hr := B.returns
  have hts := atoms_spec (ws := wsX8_isTurned) B.pre
  have hown : s.vm.findClass RX8 = some m.cls := findClass_of_methodNamed B.named
  have hlocks := B.notSynchronized
  subst hsz
  have hD := hD0.self (sz := s.heap.size)
  generalize hAe : va_A [(h0, .inr (8, [.int th, .ref q1, v2, v3, v4, v5, v6, v7, .ref q8, v9, v10, .ref q11, v12, v13, v14, v15, v16])), (q1, .inl (c1, 16, .inl a1)), (q8, .inl (c8, 16, .inl a8)), (q11, .inl (c11, 16, .inl a11))] s.heap.size = A at hD ⊢
  have hA : ∀ q : Nat, s.heap.size ≤ q → A q := fun q h => by rw [← hAe]; exact Or.inr h
  have hS : va_S A s.heap s.heap [] := va_S.rf
  have hP : va_P (dC, dI) vwCl [(h0, .inr (8, [.int th, .ref q1, v2, v3, v4, v5, v6, v7, .ref q8, v9, v10, .ref q11, v12, v13, v14, v15, v16])), (q1, .inl (c1, 16, .inl a1)), (q8, .inl (c8, 16, .inl a8)), (q11, .inl (c11, 16, .inl a11))] s.heap := hP
  have hl := lv_entry ([.ref h0, .int (nI o)]) (n := 4) (Nat.le_of_ble_eq_true rfl)
  rw [lg_entry_eq]
  generalize (lg_sl ([.ref h0, .int (nI o)]) ++ List.replicate (4 - (lg_sl ([.ref h0, .int (nI o)])).length) Slot.unset).toArray = ls at hl ⊢
  have hl : lv_has ls 4 [(0, .ref h0), (1, .int (nI o))] := hl
  have hw0_ := hts (.fieldLink RX8 7 "KeyAtlasModel" "kind" "[I") (List.mem_of_getElem? (l := wsX8_isTurned) (i := 1) rfl)
  have hw1_ := hts (.fieldLink RX8 41 "KeyAtlasModel" "way" "[I") (List.mem_of_getElem? (l := wsX8_isTurned) (i := 2) rfl)
  have hw2_ := hts (.fieldLink RX8 32 "KeyAtlasModel" "parent" "[I") (List.mem_of_getElem? (l := wsX8_isTurned) (i := 3) rfl)
  have hi0_ : ∀ w ∈ u_ws RX8 TX8 17, w ∈ wsX8_isTurned := fun w h => List.mem_cons_of_mem _ (List.mem_append_right _ h)
  refine lv_iconst (v := 0) hx hb dX8_isTurned_0 (by decide) ?_
  refine lv_istore_n (lv' := [(2, .int 0), (0, .ref h0), (1, .int (nI o))]) hx hb dX8_isTurned_1 rfl hl (by decide) rfl (fun ls hl => ?_)
  refine lv_iload_n hx hb dX8_isTurned_2 rfl (lv_at hl 2 rfl) ?_
  refine lv_istore_n (lv' := [(3, .int (nI o)), (2, .int 0), (0, .ref h0), (1, .int (nI o))]) hx hb dX8_isTurned_3 rfl hl (by decide) rfl (fun ls hl => ?_)
  obtain ⟨k, es_k⟩ : ∃ z : Nat, z = o := ⟨_, rfl⟩
  obtain ⟨x9, ex9⟩ : ∃ y : Int32, y = nI k := ⟨_, rfl⟩
  obtain ⟨b9, es_b9⟩ : ∃ z : Bool, z = false := ⟨_, rfl⟩
  obtain ⟨y9, ey9⟩ : ∃ y : Int32, y = tz b9 := ⟨_, rfl⟩
  obtain ⟨n9, en9⟩ : ∃ n : Nat, n = 17 := ⟨_, rfl⟩
  replace hl : lv_has ls 4 [(3, .int x9), (2, .int y9), (0, .ref h0), (1, .int (nI o))] := by subst ex9; subst es_k; subst ey9; subst es_b9; exact hl
  have hk9 : k < 16 := by subst ex9; subst es_k; subst ey9; subst es_b9; subst en9; exact ho9
  have hn9 : dep k < n9 := by subst ex9; subst es_k; subst ey9; subst es_b9; subst en9; exact hd9
  have hv9 : tnN a1 a8 a11 n9 k b9 = tnN a1 a8 a11 17 o false := by subst ex9; subst es_k; subst ey9; subst es_b9; subst en9; exact rfl
  clear en9 es_k es_b9
  induction n9 generalizing k x9 b9 y9 ls with
  | zero => exact absurd hn9 (Nat.not_lt_zero _)
  | succ n9 ih =>
    subst ex9
    subst ey9
    refine lv_aload_n hx hb dX8_isTurned_4 rfl (lv_at hl 2 rfl) ?_
    refine va_get (D := (dC, dI)) (ci := 8) (v := .ref q1) (C := RX8) (T := TX8) (N := 17) hx hb hts hi0_ hown hK hP 0 rfl rfl 1 (by decide) hw0_ (fun _ h9 => h9) rfl dX8_isTurned_5 ?_
    refine lv_iload_n hx hb dX8_isTurned_8 rfl (lv_at hl 0 rfl) ?_
    refine va_iald (i := nI k) hx hb hK hP 1 0 rfl rfl (vp_in_nI (by omega) (by omega)) dX8_isTurned_9 ?_
    refine W.eq (g2 := F0 m 10 ls [.int (a1 k)]) (by rw [nI_clamp (by omega)]) ?_
    refine lv_iconst (v := 4) hx hb dX8_isTurned_10 (by decide) ?_
    refine lv_icmp_ne (tgt := 44) hx hb dX8_isTurned_11 (by decide) (fun c_1 => ?_) (fun c_1 => ?_)
    ·
      have ic_1 : ¬ (a1 k).toInt = 4 := tx_ne rfl (by decide) c_1
      refine lv_iload_n hx hb dX8_isTurned_44 rfl (lv_at hl 1 rfl) ?_
      have hr9 : b9 = tnN a1 a8 a11 17 o false := (tnN_top ic_1).symm.trans hv9
      have hP9 := hP.sub (ws' := [(h0, .inr (8, [.int th, .ref q1, v2, v3, v4, v5, v6, v7, .ref q8, v9, v10, .ref q11, v12, v13, v14, v15, v16])), (q1, .inl (c1, 16, .inl a1)), (q8, .inl (c8, 16, .inl a8)), (q11, .inl (c11, 16, .inl a11))]) [0, 1, 2, 3] rfl
      have hD9 := hD.sub (ws' := [(h0, .inr (8, [.int th, .ref q1, v2, v3, v4, v5, v6, v7, .ref q8, v9, v10, .ref q11, v12, v13, v14, v15, v16])), (q1, .inl (c1, 16, .inl a1)), (q8, .inl (c8, 16, .inl a8)), (q11, .inl (c11, 16, .inl a11))]) [0, 1, 2, 3] (by decide) rfl
      have hK9 := hK.sub (tys' := [(c1, .int), (c8, .int), (c11, .int)]) [0, 1, 2] rfl
      refine W.widen (k := 0) (n := 0) (Nat.le_of_ble_eq_true rfl) (Nat.le_of_ble_eq_true rfl) ?_
      exact W.zret (v := tz b9) hx hb hr (by cases b9 <;> rfl) (fun t ht hW => ⟨⟨tz b9, (), rfl, by rw [← hr9], by rw [ht]; exact hP9, va_K.moved hW.alike hK9, hD9⟩, hS.F ht⟩) hS.2.2 dX8_isTurned_45
    ·
      have ic_1 : (a1 k).toInt = 4 := tx_eq rfl (by decide) c_1
      refine lv_aload_n hx hb dX8_isTurned_14 rfl (lv_at hl 2 rfl) ?_
      refine va_get (D := (dC, dI)) (ci := 8) (v := .ref q11) (C := RX8) (T := TX8) (N := 17) hx hb hts hi0_ hown hK hP 0 rfl rfl 11 (by decide) hw1_ (fun _ h9 => h9) rfl dX8_isTurned_15 ?_
      refine lv_iload_n hx hb dX8_isTurned_18 rfl (lv_at hl 0 rfl) ?_
      refine va_iald (i := nI k) hx hb hK hP 3 2 rfl rfl (vp_in_nI (by omega) (by omega)) dX8_isTurned_19 ?_
      refine W.eq (g2 := F0 m 20 ls [.int (a11 k)]) (by rw [nI_clamp (by omega)]) ?_
      refine lv_iconst (v := 4) hx hb dX8_isTurned_20 (by decide) ?_
      refine lv_icmp_ne (tgt := 34) hx hb dX8_isTurned_21 (by decide) (fun c_2 => ?_) (fun c_2 => ?_)
      ·
        have ic_2 : ¬ (a11 k).toInt = 4 := tx_ne rfl (by decide) c_2
        refine lv_aload_n hx hb dX8_isTurned_34 rfl (lv_at hl 2 rfl) ?_
        refine va_get (D := (dC, dI)) (ci := 8) (v := .ref q8) (C := RX8) (T := TX8) (N := 17) hx hb hts hi0_ hown hK hP 0 rfl rfl 8 (by decide) hw2_ (fun _ h9 => h9) rfl dX8_isTurned_35 ?_
        refine lv_iload_n hx hb dX8_isTurned_38 rfl (lv_at hl 0 rfl) ?_
        refine va_iald (i := nI k) hx hb hK hP 2 1 rfl rfl (vp_in_nI (by omega) (by omega)) dX8_isTurned_39 ?_
        refine W.eq (g2 := F0 m 40 ls [.int (a8 k)]) (by rw [nI_clamp (by omega)]) ?_
        refine lv_istore_n (lv' := [(3, .int (a8 k)), (2, .int (tz b9)), (0, .ref h0), (1, .int (nI o))]) hx hb dX8_isTurned_40 rfl hl (by decide) rfl (fun ls hl => ?_)
        refine lv_goto (tgt := 4) hx hb dX8_isTurned_41 (by decide) ?_
        obtain ⟨p9, hp9, ep9, hq9, -, -, -⟩ := hF9 k hk9 (Or.inl ic_1)
        rw [ep9] at hl
        exact ih (k := p9) (x9 := nI p9) (ex9 := rfl) (b9 := b9) (y9 := tz b9) (ey9 := rfl) (ls := ls) (hk9 := hp9) (hn9 := by omega) (hv9 := (tnN_up ic_1 ep9 hp9 (if_neg ic_2)).symm.trans hv9) (hl := lv_sub hl [0, 1, 2, 3] rfl)
      ·
        have ic_2 : (a11 k).toInt = 4 := tx_eq rfl (by decide) c_2
        refine lv_iload_n hx hb dX8_isTurned_24 rfl (lv_at hl 1 rfl) ?_
        refine lv_if_ne (tgt := 32) hx hb dX8_isTurned_25 (by decide) (fun c_3 => ?_) (fun c_3 => ?_)
        ·
          have ic_3 : ¬ (tz b9).toInt = 0 := tx_ne rfl (by decide) c_3
          refine lv_iconst (v := 0) hx hb dX8_isTurned_32 (by decide) ?_
          refine lv_istore_n (lv' := [(2, .int 0), (3, .int (nI k)), (0, .ref h0), (1, .int (nI o))]) hx hb dX8_isTurned_33 rfl hl (by decide) rfl (fun ls hl => ?_)
          refine lv_aload_n hx hb dX8_isTurned_34 rfl (lv_at hl 2 rfl) ?_
          refine va_get (D := (dC, dI)) (ci := 8) (v := .ref q8) (C := RX8) (T := TX8) (N := 17) hx hb hts hi0_ hown hK hP 0 rfl rfl 8 (by decide) hw2_ (fun _ h9 => h9) rfl dX8_isTurned_35 ?_
          refine lv_iload_n hx hb dX8_isTurned_38 rfl (lv_at hl 1 rfl) ?_
          refine va_iald (i := nI k) hx hb hK hP 2 1 rfl rfl (vp_in_nI (by omega) (by omega)) dX8_isTurned_39 ?_
          refine W.eq (g2 := F0 m 40 ls [.int (a8 k)]) (by rw [nI_clamp (by omega)]) ?_
          refine lv_istore_n (lv' := [(3, .int (a8 k)), (2, .int 0), (0, .ref h0), (1, .int (nI o))]) hx hb dX8_isTurned_40 rfl hl (by decide) rfl (fun ls hl => ?_)
          refine lv_goto (tgt := 4) hx hb dX8_isTurned_41 (by decide) ?_
          obtain ⟨p9, hp9, ep9, hq9, -, -, -⟩ := hF9 k hk9 (Or.inl ic_1)
          rw [ep9] at hl
          exact ih (k := p9) (x9 := nI p9) (ex9 := rfl) (b9 := false) (y9 := tz false) (ey9 := rfl) (ls := ls) (hk9 := hp9) (hn9 := by omega) (hv9 := (tnN_up ic_1 ep9 hp9 ((if_pos ic_2).trans (by rw [tz_1 ic_3]; rfl))).symm.trans hv9) (hl := lv_sub hl [0, 1, 2, 3] rfl)
        ·
          have ic_3 : (tz b9).toInt = 0 := tx_eq rfl (by decide) c_3
          refine lv_iconst (v := 1) hx hb dX8_isTurned_28 (by decide) ?_
          refine lv_goto (tgt := 33) hx hb dX8_isTurned_29 (by decide) ?_
          refine lv_istore_n (lv' := [(2, .int 1), (3, .int (nI k)), (0, .ref h0), (1, .int (nI o))]) hx hb dX8_isTurned_33 rfl hl (by decide) rfl (fun ls hl => ?_)
          refine lv_aload_n hx hb dX8_isTurned_34 rfl (lv_at hl 2 rfl) ?_
          refine va_get (D := (dC, dI)) (ci := 8) (v := .ref q8) (C := RX8) (T := TX8) (N := 17) hx hb hts hi0_ hown hK hP 0 rfl rfl 8 (by decide) hw2_ (fun _ h9 => h9) rfl dX8_isTurned_35 ?_
          refine lv_iload_n hx hb dX8_isTurned_38 rfl (lv_at hl 1 rfl) ?_
          refine va_iald (i := nI k) hx hb hK hP 2 1 rfl rfl (vp_in_nI (by omega) (by omega)) dX8_isTurned_39 ?_
          refine W.eq (g2 := F0 m 40 ls [.int (a8 k)]) (by rw [nI_clamp (by omega)]) ?_
          refine lv_istore_n (lv' := [(3, .int (a8 k)), (2, .int 1), (0, .ref h0), (1, .int (nI o))]) hx hb dX8_isTurned_40 rfl hl (by decide) rfl (fun ls hl => ?_)
          refine lv_goto (tgt := 4) hx hb dX8_isTurned_41 (by decide) ?_
          obtain ⟨p9, hp9, ep9, hq9, -, -, -⟩ := hF9 k hk9 (Or.inl ic_1)
          rw [ep9] at hl
          exact ih (k := p9) (x9 := nI p9) (ex9 := rfl) (b9 := true) (y9 := tz true) (ey9 := rfl) (ls := ls) (hk9 := hp9) (hn9 := by omega) (hv9 := (tnN_up ic_1 ep9 hp9 ((if_pos ic_2).trans (by rw [tz_0 ic_3]; rfl))).symm.trans hv9) (hl := lv_sub hl [0, 1, 2, 3] rfl)
set_option maxHeartbeats 4000000 in
set_option maxRecDepth 100000 in
/-- the sign of a comparison -/
theorem c_X8_two (l : Launch) (dC : Nat → ClassId) (dI : Nat → Nat → Nat) (sz : Nat) (p0 : Int64) (p1 : Int64) : Met l yX8_two wsX8_two ({ frames := 0, cells := 0, slots := 0, locals := 0 }) (va_Pc [.long p0, .long p1] (pk_Pre (dC, dI) [] [] sz)) (va_Qi (fun (r : Int32) (_ : Unit) => sg3 r.toInt p0.toInt p1.toInt) (fun (_ : Unit) (_ : State) => True) (va_A [] sz)) 0 0 (va_A [] sz) := by
  refine Met.ofW (cc := cX8_two) (maxL := 4) (ret := (some .int)) (by decide) rfl ?_
  intro p e s m args below meth c s₁ B hml hv
  obtain ⟨rfl, hsz, hP, hK, hD0⟩ := hv
  have hx := B.exec
  have hb := B.bytes
  have hr := B.returns
  have hts := atoms_spec (ws := wsX8_two) B.pre
  have hown : s.vm.findClass RX8 = some m.cls := findClass_of_methodNamed B.named
  have hlocks := B.notSynchronized
  subst hsz
  have hD := hD0.self (sz := s.heap.size)
  generalize hAe : va_A [] s.heap.size = A at hD ⊢
  have hA : ∀ q : Nat, s.heap.size ≤ q → A q := fun q h => by rw [← hAe]; exact Or.inr h
  have hS : va_S A s.heap s.heap [] := va_S.rf
  have hP : va_P (dC, dI) vwCl [] s.heap := hP
  have hl := lv_entry ([.long p0, .long p1]) (n := 4) (Nat.le_of_ble_eq_true rfl)
  rw [lg_entry_eq]
  generalize (lg_sl ([.long p0, .long p1]) ++ List.replicate (4 - (lg_sl ([.long p0, .long p1])).length) Slot.unset).toArray = ls at hl ⊢
  have hl : lv_has ls 4 [(0, .long p0), (2, .long p1)] := hl

  refine lv_lload_n hx hb dX8_two_0 rfl (lv_at hl 0 rfl) ?_
  refine lv_lload_n hx hb dX8_two_1 rfl (lv_at hl 1 rfl) ?_
  refine W.lcmp hx hb dX8_two_2 ?_
  refine lv_if_ge (tgt := 10) hx hb dX8_two_3 (by decide) (fun c_1 => ?_) (fun c_1 => ?_)
  ·
    have ic_1 := lgc_ge c_1
    refine lv_lload_n hx hb dX8_two_10 rfl (lv_at hl 0 rfl) ?_
    refine lv_lload_n hx hb dX8_two_11 rfl (lv_at hl 1 rfl) ?_
    refine W.lcmp hx hb dX8_two_12 ?_
    refine lv_if_le (tgt := 20) hx hb dX8_two_13 (by decide) (fun c_2 => ?_) (fun c_2 => ?_)
    ·
      have ic_2 := lgc_le c_2
      refine lv_iconst (v := 0) hx hb dX8_two_20 (by decide) ?_
      refine W.widen (k := 0) (n := 0) (Nat.le_of_ble_eq_true rfl) (Nat.le_of_ble_eq_true rfl) ?_
      exact W.iret (v := 0) hx hb hr (fun t ht hW => ⟨⟨0, (), rfl, tx_at (P := fun z => sg3 z p0.toInt p1.toInt) (n := 0) (by decide) (by unfold sg3; omega), trivial⟩, hS.F ht⟩) hS.2.2 dX8_two_21
    ·
      have ic_2 := lgc_nle c_2
      refine lv_iconst (v := 1) hx hb dX8_two_16 (by decide) ?_
      refine lv_goto (tgt := 21) hx hb dX8_two_17 (by decide) ?_
      refine W.widen (k := 0) (n := 0) (Nat.le_of_ble_eq_true rfl) (Nat.le_of_ble_eq_true rfl) ?_
      exact W.iret (v := 1) hx hb hr (fun t ht hW => ⟨⟨1, (), rfl, tx_at (P := fun z => sg3 z p0.toInt p1.toInt) (n := 1) (by decide) (by unfold sg3; omega), trivial⟩, hS.F ht⟩) hS.2.2 dX8_two_21
  ·
    have ic_1 := lgc_nge c_1
    refine lv_iconst (v := (-1)) hx hb dX8_two_6 (by decide) ?_
    refine lv_goto (tgt := 21) hx hb dX8_two_7 (by decide) ?_
    refine W.widen (k := 0) (n := 0) (Nat.le_of_ble_eq_true rfl) (Nat.le_of_ble_eq_true rfl) ?_
    exact W.iret (v := -1) hx hb hr (fun t ht hW => ⟨⟨-1, (), rfl, tx_at (P := fun z => sg3 z p0.toInt p1.toInt) (n := -1) (by decide) (by unfold sg3; omega), trivial⟩, hS.F ht⟩) hS.2.2 dX8_two_21
