theorem dX8_free_0 : decode cX8_free 0 = .ok (.iconst 0, 1) := by decide +kernel
theorem dX8_free_1 : decode cX8_free 1 = .ok (.istore_n 1, 1) := by decide +kernel
theorem dX8_free_2 : decode cX8_free 2 = .ok (.iload_n 1, 1) := by decide +kernel
theorem dX8_free_3 : decode cX8_free 3 = .ok (.bipush 16, 2) := by decide +kernel
theorem dX8_free_5 : decode cX8_free 5 = .ok (.if_icmp .ge 20, 3) := by decide +kernel
theorem dX8_free_25 : decode cX8_free 25 = .ok (.iconst (-1), 1) := by decide +kernel
theorem dX8_free_26 : decode cX8_free 26 = .ok (.ireturn, 1) := by decide +kernel
theorem dX8_free_8 : decode cX8_free 8 = .ok (.aload_n 0, 1) := by decide +kernel
theorem dX8_free_9 : decode cX8_free 9 = .ok (.getfield 7, 3) := by decide +kernel
theorem dX8_free_12 : decode cX8_free 12 = .ok (.iload_n 1, 1) := by decide +kernel
theorem dX8_free_13 : decode cX8_free 13 = .ok (.iaload, 1) := by decide +kernel
theorem dX8_free_14 : decode cX8_free 14 = .ok (.ifCond .ne 5, 3) := by decide +kernel
theorem dX8_free_19 : decode cX8_free 19 = .ok (.iinc 1 1, 3) := by decide +kernel
theorem dX8_free_22 : decode cX8_free 22 = .ok (.goto (-20), 3) := by decide +kernel
theorem dX8_free_17 : decode cX8_free 17 = .ok (.iload_n 1, 1) := by decide +kernel
theorem dX8_free_18 : decode cX8_free 18 = .ok (.ireturn, 1) := by decide +kernel
set_option maxHeartbeats 4000000 in
set_option maxRecDepth 100000 in
/-- free -/
theorem c_X8_free (l : Launch) (dC : Nat → ClassId) (dI : Nat → Nat → Nat) (sz : Nat) (h0 : Nat) (th : Int32) (q1 : Nat) (c1 : ClassId) (a1 : Nat → Int32) (v2 : Value) (v3 : Value) (v4 : Value) (v5 : Value) (v6 : Value) (v7 : Value) (v8 : Value) (v9 : Value) (v10 : Value) (v11 : Value) (v12 : Value) (v13 : Value) (v14 : Value) (v15 : Value) (v16 : Value) : Met l yX8_free wsX8_free ({ frames := 0, cells := 0, slots := 0, locals := 0 }) (va_Pc [.ref h0] (pk_Pre (dC, dI) [(h0, .inr (8, [.int th, .ref q1, v2, v3, v4, v5, v6, v7, v8, v9, v10, v11, v12, v13, v14, v15, v16])), (q1, .inl (c1, 16, .inl a1))] [(c1, .int)] sz)) (va_Qi (fun (x : Int32) (_ : Unit) => (x = -1 ∧ ∀ j : Nat, j < 16 → ¬ (a1 j).toInt = 0) ∨ (∃ o : Nat, o < 16 ∧ x = nI o ∧ (a1 o).toInt = 0 ∧ ∀ j : Nat, j < o → ¬ (a1 j).toInt = 0)) (fun (_ : Unit) (t : State) => va_P (dC, dI) vwCl [(h0, .inr (8, [.int th, .ref q1, v2, v3, v4, v5, v6, v7, v8, v9, v10, v11, v12, v13, v14, v15, v16])), (q1, .inl (c1, 16, .inl a1))] t.heap ∧ va_K (dC, dI) vwCl [(c1, .int)] t ∧ va_D (va_A [(h0, .inr (8, [.int th, .ref q1, v2, v3, v4, v5, v6, v7, v8, v9, v10, v11, v12, v13, v14, v15, v16])), (q1, .inl (c1, 16, .inl a1))] sz) [(h0, .inr (8, [.int th, .ref q1, v2, v3, v4, v5, v6, v7, v8, v9, v10, v11, v12, v13, v14, v15, v16])), (q1, .inl (c1, 16, .inl a1))]) (va_A [(h0, .inr (8, [.int th, .ref q1, v2, v3, v4, v5, v6, v7, v8, v9, v10, v11, v12, v13, v14, v15, v16])), (q1, .inl (c1, 16, .inl a1))] sz)) 0 0 (va_A [(h0, .inr (8, [.int th, .ref q1, v2, v3, v4, v5, v6, v7, v8, v9, v10, v11, v12, v13, v14, v15, v16])), (q1, .inl (c1, 16, .inl a1))] sz) := by
  refine Met.ofW (cc := cX8_free) (maxL := 2) (ret := (some .int)) (by decide) rfl ?_
  intro p e s m args below meth c s₁ B hml hv
  obtain ⟨rfl, hsz, hP, hK, hD0⟩ := hv
  have hx := B.exec
  have hb := B.bytes
  have hr := B.returns
  have hts := atoms_spec (ws := wsX8_free) B.pre
  have hown : s.vm.findClass RX8 = some m.cls := findClass_of_methodNamed B.named
  have hlocks := B.notSynchronized
  subst hsz
  have hD := hD0.self (sz := s.heap.size)
  generalize hAe : va_A [(h0, .inr (8, [.int th, .ref q1, v2, v3, v4, v5, v6, v7, v8, v9, v10, v11, v12, v13, v14, v15, v16])), (q1, .inl (c1, 16, .inl a1))] s.heap.size = A at hD ⊢
  have hA : ∀ q : Nat, s.heap.size ≤ q → A q := fun q h => by rw [← hAe]; exact Or.inr h
  have hS : va_S A s.heap s.heap [] := va_S.rf
  have hP : va_P (dC, dI) vwCl [(h0, .inr (8, [.int th, .ref q1, v2, v3, v4, v5, v6, v7, v8, v9, v10, v11, v12, v13, v14, v15, v16])), (q1, .inl (c1, 16, .inl a1))] s.heap := hP
  have hl := lv_entry ([.ref h0]) (n := 2) (Nat.le_of_ble_eq_true rfl)
  rw [lg_entry_eq]
  generalize (lg_sl ([.ref h0]) ++ List.replicate (2 - (lg_sl ([.ref h0])).length) Slot.unset).toArray = ls at hl ⊢
  have hl : lv_has ls 2 [(0, .ref h0)] := hl
  have hw0_ := hts (.fieldLink RX8 7 "KeyAtlasModel" "kind" "[I") (List.mem_of_getElem? (l := wsX8_free) (i := 1) rfl)
  have hi0_ : ∀ w ∈ u_ws RX8 TX8 17, w ∈ wsX8_free := fun w h => List.mem_cons_of_mem _ (List.mem_append_right _ h)
  refine lv_iconst (v := 0) hx hb dX8_free_0 (by decide) ?_
  refine lv_istore_n (lv' := [(1, .int 0), (0, .ref h0)]) hx hb dX8_free_1 rfl hl (by decide) rfl (fun ls hl => ?_)
  obtain ⟨i, ei9⟩ : ∃ i : Nat, i = 0 := ⟨_, rfl⟩
  obtain ⟨x9, ex9⟩ : ∃ y : Int32, y = nI i := ⟨_, rfl⟩
  replace hl : lv_has ls 2 [(1, .int x9), (0, .ref h0)] := by rw [ex9, ei9]; exact hl
  have hv9 : ∀ j : Nat, j < i → ¬ (a1 j).toInt = 0 := by rw [ei9]; exact fun j h => absurd h (Nat.not_lt_zero j)
  have hi9 : i ≤ 16 := by omega
  obtain ⟨n9, hn9⟩ : ∃ n : Nat, 16 + 1 ≤ i + n := ⟨16 + 1, by omega⟩
  clear ei9
  induction n9 generalizing i x9 ls with
  | zero => exact absurd hn9 (by omega)
  | succ n9 ih =>
    subst ex9
    refine lv_iload_n hx hb dX8_free_2 rfl (lv_at hl 0 rfl) ?_
    refine lv_bipush (v := 16) hx hb dX8_free_3 (by decide) ?_
    refine lv_icmp_ge (tgt := 25) hx hb dX8_free_5 (by decide) (fun c_1 => ?_) (fun c_1 => ?_)
    ·
      have ic_1 : 16 ≤ ((i : Nat) : Int) := tx_le (by decide) (nI_toInt (by omega)) c_1
      refine lv_iconst (v := (-1)) hx hb dX8_free_25 (by decide) ?_
      have hP9 := hP.sub (ws' := [(h0, .inr (8, [.int th, .ref q1, v2, v3, v4, v5, v6, v7, v8, v9, v10, v11, v12, v13, v14, v15, v16])), (q1, .inl (c1, 16, .inl a1))]) [0, 1] rfl
      have hD9 := hD.sub (ws' := [(h0, .inr (8, [.int th, .ref q1, v2, v3, v4, v5, v6, v7, v8, v9, v10, v11, v12, v13, v14, v15, v16])), (q1, .inl (c1, 16, .inl a1))]) [0, 1] (by decide) rfl
      have hK9 := hK.sub (tys' := [(c1, .int)]) [0] rfl
      refine W.widen (k := 0) (n := 0) (Nat.le_of_ble_eq_true rfl) (Nat.le_of_ble_eq_true rfl) ?_
      exact W.iret (v := -1) hx hb hr (fun t ht hW => ⟨⟨-1, (), rfl, Or.inl ⟨rfl, fun j h => hv9 j (by omega)⟩, by rw [ht]; exact hP9, va_K.moved hW.alike hK9, hD9⟩, hS.F ht⟩) hS.2.2 dX8_free_26
    ·
      have ic_1 : ((i : Nat) : Int) < 16 := tx_nle (by decide) (nI_toInt (by omega)) c_1
      refine lv_aload_n hx hb dX8_free_8 rfl (lv_at hl 1 rfl) ?_
      refine va_get (D := (dC, dI)) (ci := 8) (v := .ref q1) (C := RX8) (T := TX8) (N := 17) hx hb hts hi0_ hown hK hP 0 rfl rfl 1 (by decide) hw0_ (fun _ h9 => h9) rfl dX8_free_9 ?_
      refine lv_iload_n hx hb dX8_free_12 rfl (lv_at hl 0 rfl) ?_
      refine va_iald (i := nI i) hx hb hK hP 1 0 rfl rfl (vp_in_nI (by omega) (by omega)) dX8_free_13 ?_
      refine W.eq (g2 := F0 m 14 ls [.int (a1 i)]) (by rw [nI_clamp (by omega)]) ?_
      refine lv_if_ne (tgt := 19) hx hb dX8_free_14 (by decide) (fun c_2 => ?_) (fun c_2 => ?_)
      ·
        have ic_2 : ¬ (a1 i).toInt = 0 := tx_ne rfl (by decide) c_2
        refine lv_iinc (v := nI (i + 1)) (lv' := [(1, .int (nI (i + 1))), (0, .ref h0)]) hx hb dX8_free_19 hl (k := 0) rfl (by rw [show Int32.ofInt 1 = nI 1 from rfl, nI_add]) (by decide) rfl (fun ls hl => ?_)
        refine lv_goto (tgt := 2) hx hb dX8_free_22 (by decide) ?_
        exact ih (i := i + 1) (x9 := nI (i + 1)) (ls := ls) (hn9 := by omega) (hi9 := by omega) (ex9 := rfl) (hv9 := fun j h => by rcases (show j < i ∨ j = i by omega) with h1 | h1; exact hv9 j h1; rw [h1]; assumption) (hl := lv_sub hl [0, 1] rfl)
      ·
        have ic_2 : (a1 i).toInt = 0 := tx_eq rfl (by decide) c_2
        refine lv_iload_n hx hb dX8_free_17 rfl (lv_at hl 0 rfl) ?_
        have hP9 := hP.sub (ws' := [(h0, .inr (8, [.int th, .ref q1, v2, v3, v4, v5, v6, v7, v8, v9, v10, v11, v12, v13, v14, v15, v16])), (q1, .inl (c1, 16, .inl a1))]) [0, 1] rfl
        have hD9 := hD.sub (ws' := [(h0, .inr (8, [.int th, .ref q1, v2, v3, v4, v5, v6, v7, v8, v9, v10, v11, v12, v13, v14, v15, v16])), (q1, .inl (c1, 16, .inl a1))]) [0, 1] (by decide) rfl
        have hK9 := hK.sub (tys' := [(c1, .int)]) [0] rfl
        refine W.widen (k := 0) (n := 0) (Nat.le_of_ble_eq_true rfl) (Nat.le_of_ble_eq_true rfl) ?_
        exact W.iret (v := nI i) hx hb hr (fun t ht hW => ⟨⟨nI i, (), rfl, Or.inr ⟨i, by omega, rfl, by assumption, hv9⟩, by rw [ht]; exact hP9, va_K.moved hW.alike hK9, hD9⟩, hS.F ht⟩) hS.2.2 dX8_free_18
