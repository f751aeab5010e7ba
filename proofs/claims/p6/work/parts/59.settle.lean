theorem dX7_settle_0 : decode cX7_settle 0 = .ok (.iconst 0, 1) := by decide +kernel
theorem dX7_settle_1 : decode cX7_settle 1 = .ok (.istore_n 2, 1) := by decide +kernel
theorem dX7_settle_2 : decode cX7_settle 2 = .ok (.iload_n 2, 1) := by decide +kernel
theorem dX7_settle_3 : decode cX7_settle 3 = .ok (.aload_n 0, 1) := by decide +kernel
theorem dX7_settle_4 : decode cX7_settle 4 = .ok (.getfield 11, 3) := by decide +kernel
theorem dX7_settle_7 : decode cX7_settle 7 = .ok (.arraylength, 1) := by decide +kernel
theorem dX7_settle_8 : decode cX7_settle 8 = .ok (.if_icmp .ge 27, 3) := by decide +kernel
theorem dX7_settle_35 : decode cX7_settle 35 = .ok (.new 170, 3) := by decide +kernel
theorem dX7_settle_38 : decode cX7_settle 38 = .ok (.dup, 1) := by decide +kernel
theorem dX7_settle_39 : decode cX7_settle 39 = .ok (.ldc 253, 2) := by decide +kernel
theorem dX7_settle_41 : decode cX7_settle 41 = .ok (.invokespecial 174, 3) := by decide +kernel
theorem dX7_settle_44 : decode cX7_settle 44 = .ok (.athrow, 1) := by decide +kernel
theorem dX7_settle_11 : decode cX7_settle 11 = .ok (.aload_n 0, 1) := by decide +kernel
theorem dX7_settle_12 : decode cX7_settle 12 = .ok (.getfield 11, 3) := by decide +kernel
theorem dX7_settle_15 : decode cX7_settle 15 = .ok (.iload_n 2, 1) := by decide +kernel
theorem dX7_settle_16 : decode cX7_settle 16 = .ok (.aaload, 1) := by decide +kernel
theorem dX7_settle_17 : decode cX7_settle 17 = .ok (.ifnonnull 12, 3) := by decide +kernel
theorem dX7_settle_20 : decode cX7_settle 20 = .ok (.aload_n 0, 1) := by decide +kernel
theorem dX7_settle_21 : decode cX7_settle 21 = .ok (.getfield 11, 3) := by decide +kernel
theorem dX7_settle_24 : decode cX7_settle 24 = .ok (.iload_n 2, 1) := by decide +kernel
theorem dX7_settle_25 : decode cX7_settle 25 = .ok (.aload_n 1, 1) := by decide +kernel
theorem dX7_settle_26 : decode cX7_settle 26 = .ok (.aastore, 1) := by decide +kernel
theorem dX7_settle_27 : decode cX7_settle 27 = .ok (.iload_n 2, 1) := by decide +kernel
theorem dX7_settle_28 : decode cX7_settle 28 = .ok (.ireturn, 1) := by decide +kernel
theorem dX7_settle_29 : decode cX7_settle 29 = .ok (.iinc 2 1, 3) := by decide +kernel
theorem dX7_settle_32 : decode cX7_settle 32 = .ok (.goto (-30), 3) := by decide +kernel
theorem ng_RX7_174 : ∀ w ∈ (vx_atS RX7 174 "java/lang/IllegalStateException" ["java/lang/RuntimeException", "java/lang/Exception"]).filter (fun w => !goodWord w), w ∈ p_xw := by decide +kernel
theorem og_RX7_174 : ∀ w ∈ Cond.classLink RX7 170 "java/lang/IllegalStateException" :: Cond.initialized "java/lang/IllegalStateException" :: vx_atS RX7 174 "java/lang/IllegalStateException" ["java/lang/RuntimeException", "java/lang/Exception"], vx_ot w = true := by decide +kernel
theorem at_X7_settle_35 : ∀ w ∈ (vx_atS RX7 174 "java/lang/IllegalStateException" ["java/lang/RuntimeException", "java/lang/Exception"]).filter goodWord, w ∈ wsX7_settle := fun w h => by
  unfold wsX7_settle
  exact List.mem_cons_of_mem _ (List.mem_append_right _ h)
set_option maxHeartbeats 4000000 in
set_option maxRecDepth 100000 in
/-- settle of H -/
theorem c_X7_settle_H (l : Launch) (hlt : l.stackTraces = false) (dC : Nat → ClassId) (dI : Nat → Nat → Nat) (sz : Nat) (a0 : Nat) (qb : Nat) (cq : ClassId) (bq : Nat → Option Nat) (y0 : Nat) (fs : List Value) : vx_Met l yX7_settle wsX7_settle ({ frames := 6, cells := 1, slots := 6, locals := 100 }) (va_Pc [.ref a0, .ref y0] (pk_PreX (dC, dI) [(a0, .inr (7, [.ref qb])), (qb, .inl (cq, 16, .inr (.inr (.inr (.inr bq))))), (y0, .inr (3, fs))] [(cq, .object "KeyAtlas$Body")] sz)) (va_Qi (fun (r : Int32) (u : Nat) => r = nI u ∧ u < 16 ∧ bq u = none ∧ ∀ j : Nat, j < u → ¬ bq j = none) (fun (u : Nat) (t : State) => va_P (dC, dI) vwCl [(a0, .inr (7, [.ref qb])), (qb, .inl (cq, 16, .inr (.inr (.inr (.inr (va_up bq u (some y0))))))), (y0, .inr (3, fs))] t.heap ∧ va_K (dC, dI) vwCl [(cq, .object "KeyAtlas$Body")] t ∧ va_D (va_A [(a0, .inr (7, [.ref qb])), (qb, .inl (cq, 16, .inr (.inr (.inr (.inr bq))))), (y0, .inr (3, fs))] sz) [(a0, .inr (7, [.ref qb])), (qb, .inl (cq, 16, .inr (.inr (.inr (.inr (va_up bq u (some y0))))))), (y0, .inr (3, fs))]) (va_A [(a0, .inr (7, [.ref qb])), (qb, .inl (cq, 16, .inr (.inr (.inr (.inr bq))))), (y0, .inr (3, fs))] sz)) (vx_X (fun _ : Unit => True) (fun (E : String) (_ : Unit) (t : State) => (E = "java/lang/IllegalStateException" ∧ ∀ j : Nat, j < 16 → ¬ bq j = none) ∧ va_P (dC, dI) vwCl [(a0, .inr (7, [.ref qb])), (qb, .inl (cq, 16, .inr (.inr (.inr (.inr bq))))), (y0, .inr (3, fs))] t.heap ∧ va_K (dC, dI) vwCl [(cq, .object "KeyAtlas$Body")] t ∧ va_D (va_A [(a0, .inr (7, [.ref qb])), (qb, .inl (cq, 16, .inr (.inr (.inr (.inr bq))))), (y0, .inr (3, fs))] sz) [(a0, .inr (7, [.ref qb])), (qb, .inl (cq, 16, .inr (.inr (.inr (.inr bq))))), (y0, .inr (3, fs))]) (va_A [(a0, .inr (7, [.ref qb])), (qb, .inl (cq, 16, .inr (.inr (.inr (.inr bq))))), (y0, .inr (3, fs))] sz)) 1 6 (va_A [(a0, .inr (7, [.ref qb])), (qb, .inl (cq, 16, .inr (.inr (.inr (.inr bq))))), (y0, .inr (3, fs))] sz) := by
  refine vx_ofW (cc := cX7_settle) (maxL := 3) (ret := (some .int)) (by decide) rfl ?_
  intro p e s m args below meth c s₁ B hml htab hv
  obtain ⟨rfl, hsz, hP, hK, hD0, hN, hZ⟩ := hv
  have hx := B.exec
  have hb := B.bytes
  have hr := B.returns
  have hts := atoms_spec (ws := wsX7_settle) B.pre
  have hown : s.vm.findClass RX7 = some m.cls := findClass_of_methodNamed B.named
  have hlocks := B.notSynchronized
  subst hsz
  have hD := hD0.self (sz := s.heap.size)
  generalize hAe : va_A [(a0, .inr (7, [.ref qb])), (qb, .inl (cq, 16, .inr (.inr (.inr (.inr bq))))), (y0, .inr (3, fs))] s.heap.size = A at hZ hD ⊢
  have hA : ∀ q : Nat, s.heap.size ≤ q → A q := fun q h => by rw [← hAe]; exact Or.inr h
  have hS : va_S A s.heap s.heap [] := va_S.rf
  have hP : va_P (dC, dI) vwCl [(a0, .inr (7, [.ref qb])), (qb, .inl (cq, 16, .inr (.inr (.inr (.inr bq))))), (y0, .inr (3, fs))] s.heap := hP
  have hl := lv_entry ([.ref a0, .ref y0]) (n := 3) (Nat.le_of_ble_eq_true rfl)
  rw [lg_entry_eq]
  generalize (lg_sl ([.ref a0, .ref y0]) ++ List.replicate (3 - (lg_sl ([.ref a0, .ref y0])).length) Slot.unset).toArray = ls at hl ⊢
  have hl : lv_has ls 3 [(0, .ref a0), (1, .ref y0)] := hl
  have hw0_ := hts (.fieldLink RX7 11 "KeyAtlas" "bodies" "[LKeyAtlas$Body;") (List.mem_of_getElem? (l := wsX7_settle) (i := 3) rfl)
  have hw1_ := hts (.classLink RX7 170 "java/lang/IllegalStateException") (List.mem_of_getElem? (l := wsX7_settle) (i := 1) rfl)
  have hw2_ := hts (.initialized "java/lang/IllegalStateException") (List.mem_of_getElem? (l := wsX7_settle) (i := 2) rfl)
  have hi0_ : ∀ w ∈ u_ws RX7 TX7 1, w ∈ wsX7_settle := fun w h => List.mem_cons_of_mem _ (List.mem_append_left _ (List.mem_append_right _ h))
  refine lv_iconst (v := 0) hx hb dX7_settle_0 (by decide) ?_
  refine lv_istore_n (lv' := [(2, .int 0), (0, .ref a0), (1, .ref y0)]) hx hb dX7_settle_1 rfl hl (by decide) rfl (fun ls hl => ?_)
  obtain ⟨H, hH9⟩ : ∃ H : Heap, H = s.heap := ⟨_, rfl⟩
  obtain ⟨locs, hlo9⟩ : ∃ z : List Loc, z = [] := ⟨_, rfl⟩
  refine tx_hv hH9 hlo9 ?_
  have hP : va_P (dC, dI) vwCl [(a0, .inr (7, [.ref qb])), (qb, .inl (cq, 16, .inr (.inr (.inr (.inr bq))))), (y0, .inr (3, fs))] H := by rw [hH9]; exact hP
  have hS : va_S A s.heap H locs := by rw [hH9, hlo9]; exact hS
  clear hH9 hlo9
  obtain ⟨i, es_i⟩ : ∃ z : Nat, z = 0 := ⟨_, rfl⟩
  obtain ⟨x9, ex9⟩ : ∃ y : Int32, y = nI i := ⟨_, rfl⟩
  obtain ⟨n9, en9⟩ : ∃ n : Nat, n = 17 := ⟨_, rfl⟩
  replace hl : lv_has ls 3 [(2, .int x9), (0, .ref a0), (1, .ref y0)] := by subst ex9; subst es_i; exact hl
  have hi9 : i ≤ 16 := by subst ex9; subst es_i; subst en9; exact by omega
  have hn9 : 17 ≤ i + n9 := by subst ex9; subst es_i; subst en9; exact by omega
  have hv9 : ∀ j : Nat, j < i → ¬ bq j = none := by subst ex9; subst es_i; subst en9; exact fun j h => absurd h (Nat.not_lt_zero j)
  clear en9 es_i
  induction n9 generalizing i x9 ls H locs with
  | zero => exact absurd hn9 (by omega)
  | succ n9 ih =>
    subst ex9
    refine lv_iload_n hx hb dX7_settle_2 rfl (lv_at hl 0 rfl) ?_
    refine lv_aload_n hx hb dX7_settle_3 rfl (lv_at hl 1 rfl) ?_
    refine va_get (D := (dC, dI)) (ci := 7) (v := .ref qb) (C := RX7) (T := TX7) (N := 1) hx hb hts hi0_ hown hK hP 0 rfl rfl 0 (by decide) hw0_ (fun _ h9 => h9) rfl dX7_settle_4 ?_
    refine va_alen (v := 16) hx hb hK hP 1 0 rfl rfl rfl dX7_settle_7 ?_
    refine lv_icmp_ge (tgt := 35) hx hb dX7_settle_8 (by decide) (fun c_1 => ?_) (fun c_1 => ?_)
    ·
      have ic_1 : 16 ≤ ((i : Nat) : Int) := tx_le (by decide) (nI_toInt (by omega)) c_1
      have hP9 := hP.sub (ws' := [(a0, .inr (7, [.ref qb])), (qb, .inl (cq, 16, .inr (.inr (.inr (.inr bq))))), (y0, .inr (3, fs))]) [0, 1, 2] rfl
      have hD9 := hD.sub (ws' := [(a0, .inr (7, [.ref qb])), (qb, .inl (cq, 16, .inr (.inr (.inr (.inr bq))))), (y0, .inr (3, fs))]) [0, 1, 2] (by decide) rfl
      have hK9 := hK.sub (tys' := [(cq, .object "KeyAtlas$Body")]) [0] rfl
      obtain ⟨sa, hsa⟩ := hN.stX7_253
      exact vx_throwS hx hb hlt (own := RX7) (cls := "java/lang/IllegalStateException") (text := "full") (names := ["java/lang/RuntimeException", "java/lang/Exception"]) hown (by decide +kernel) (by decide +kernel) hw1_ hw2_ hsa (tx_hat hN.xw (fun w h => hts w (at_X7_settle_35 w h)) ng_RX7_174) og_RX7_174 hZ.1 hZ.2 hS (by rw [hml]; exact hl.1) dX7_settle_35 dX7_settle_38 dX7_settle_39 dX7_settle_41 dX7_settle_44 (fun x hx9 => (htab x hx9).elim) (Nat.le_of_ble_eq_true rfl) (Nat.le_of_ble_eq_true rfl) (Nat.le_of_ble_eq_true rfl) (Nat.le_of_ble_eq_true rfl) hlocks (fun t hvm hz hq => ⟨(), trivial, ⟨⟨rfl, fun j hj => hv9 j (by omega)⟩, hP9.kept (fun k x hx => hq x.1 (hP9 k x hx).lt), va_K.moved hvm hK9, hD9⟩, ⟨Nat.le_trans hS.1 hz, fun q h1 h2 => (hq q (Nat.lt_of_lt_of_le h1 hS.1)).trans (hS.2.1 q h1 h2)⟩⟩) hS.2.2 (Nat.le_of_ble_eq_true rfl) (Nat.le_of_ble_eq_true rfl)
    ·
      have ic_1 : ((i : Nat) : Int) < 16 := tx_nle (by decide) (nI_toInt (by omega)) c_1
      refine lv_aload_n hx hb dX7_settle_11 rfl (lv_at hl 1 rfl) ?_
      refine va_get (D := (dC, dI)) (ci := 7) (v := .ref qb) (C := RX7) (T := TX7) (N := 1) hx hb hts hi0_ hown hK hP 0 rfl rfl 0 (by decide) hw0_ (fun _ h9 => h9) rfl dX7_settle_12 ?_
      refine lv_iload_n hx hb dX7_settle_15 rfl (lv_at hl 0 rfl) ?_
      refine va_aldq (i := nI i) hx hb hK hP 1 0 rfl rfl (vp_in_nI (by omega) (by omega)) dX7_settle_16 ?_
      refine W.eq (g2 := F0 m 17 ls [va_rf (bq i)]) (by rw [nI_clamp (by omega)]) ?_
      rcases hb_3 : bq i with _ | yb_2
      ·
        refine W.eq (g2 := F0 m 17 ls [.null]) rfl ?_
        refine lv_ifnonnullN hx hb dX7_settle_17 ?_
        refine lv_aload_n hx hb dX7_settle_20 rfl (lv_at hl 1 rfl) ?_
        refine va_get (D := (dC, dI)) (ci := 7) (v := .ref qb) (C := RX7) (T := TX7) (N := 1) hx hb hts hi0_ hown hK hP 0 rfl rfl 0 (by decide) hw0_ (fun _ h9 => h9) rfl dX7_settle_21 ?_
        refine lv_iload_n hx hb dX7_settle_24 rfl (lv_at hl 0 rfl) ?_
        refine lv_aload_n hx hb dX7_settle_25 rfl (lv_at hl 2 rfl) ?_
        refine va_astqO (i := nI i) hx hb hK hP hD hS 1 0 2 3 rfl rfl (r := (RX2, TX2, 7)) (hN.xw _ (List.mem_of_getElem? (l := p_xw) (i := 13) rfl)) rfl rfl (vp_in_nI (by omega) (by omega)) dX7_settle_26 (fun H locs hP hD hS => ?_)
        rw [nI_clamp (by omega)] at hP hD
        replace hP : va_P (dC, dI) vwCl [(a0, .inr (7, [.ref qb])), (qb, .inl (cq, 16, .inr (.inr (.inr (.inr (va_up bq i (some y0))))))), (y0, .inr (3, fs))] H := hP
        replace hD : va_D A [(a0, .inr (7, [.ref qb])), (qb, .inl (cq, 16, .inr (.inr (.inr (.inr (va_up bq i (some y0))))))), (y0, .inr (3, fs))] := hD
        refine lv_iload_n hx hb dX7_settle_27 rfl (lv_at hl 0 rfl) ?_
        have hP9 := hP.sub (ws' := [(a0, .inr (7, [.ref qb])), (qb, .inl (cq, 16, .inr (.inr (.inr (.inr (va_up bq i (some y0))))))), (y0, .inr (3, fs))]) [0, 1, 2] rfl
        have hD9 := hD.sub (ws' := [(a0, .inr (7, [.ref qb])), (qb, .inl (cq, 16, .inr (.inr (.inr (.inr (va_up bq i (some y0))))))), (y0, .inr (3, fs))]) [0, 1, 2] (by decide) rfl
        have hK9 := hK.sub (tys' := [(cq, .object "KeyAtlas$Body")]) [0] rfl
        refine W.widen (k := 1) (n := 6) (Nat.le_of_ble_eq_true rfl) (Nat.le_of_ble_eq_true rfl) ?_
        refine vx_ret ?_
        exact W.iret (v := nI i) hx hb hr (fun t ht hW => ⟨⟨nI i, i, rfl, ⟨rfl, by omega, hb_3, hv9⟩, by rw [ht]; exact hP9, va_K.moved hW.alike hK9, hD9⟩, hS.F ht⟩) hS.2.2 dX7_settle_28
      ·
        refine W.eq (g2 := F0 m 17 ls [.ref yb_2]) rfl ?_
        refine lv_ifnonnull (tgt := 29) hx hb dX7_settle_17 (by decide) ?_
        refine lv_iinc (v := nI (i + 1)) (lv' := [(2, .int (nI (i + 1))), (0, .ref a0), (1, .ref y0)]) hx hb dX7_settle_29 hl (k := 0) rfl (by rw [show Int32.ofInt 1 = nI 1 from rfl, nI_add]) (by decide) rfl (fun ls hl => ?_)
        refine lv_goto (tgt := 2) hx hb dX7_settle_32 (by decide) ?_
        exact ih (i := i + 1) (x9 := nI (i + 1)) (ex9 := rfl) (ls := ls) (H := H) (locs := locs) (hP := hP.sub (ws' := [(a0, .inr (7, [.ref qb])), (qb, .inl (cq, 16, .inr (.inr (.inr (.inr bq))))), (y0, .inr (3, fs))]) [0, 1, 2] rfl) (hS := hS) (hi9 := by omega) (hn9 := by omega) (hv9 := fun j h => by rcases (show j < i ∨ j = i by omega) with h1 | h1; exact hv9 j h1; rw [h1, hb_3]; exact fun z => by cases z) (hl := lv_sub hl [0, 1, 2] rfl)
set_option maxHeartbeats 4000000 in
set_option maxRecDepth 100000 in
/-- settle of L -/
theorem c_X7_settle_L (l : Launch) (hlt : l.stackTraces = false) (dC : Nat → ClassId) (dI : Nat → Nat → Nat) (sz : Nat) (a0 : Nat) (qb : Nat) (cq : ClassId) (bq : Nat → Option Nat) (y0 : Nat) (fs : List Value) : vx_Met l yX7_settle wsX7_settle ({ frames := 6, cells := 1, slots := 6, locals := 100 }) (va_Pc [.ref a0, .ref y0] (pk_PreX (dC, dI) [(a0, .inr (7, [.ref qb])), (qb, .inl (cq, 16, .inr (.inr (.inr (.inr bq))))), (y0, .inr (4, fs))] [(cq, .object "KeyAtlas$Body")] sz)) (va_Qi (fun (r : Int32) (u : Nat) => r = nI u ∧ u < 16 ∧ bq u = none ∧ ∀ j : Nat, j < u → ¬ bq j = none) (fun (u : Nat) (t : State) => va_P (dC, dI) vwCl [(a0, .inr (7, [.ref qb])), (qb, .inl (cq, 16, .inr (.inr (.inr (.inr (va_up bq u (some y0))))))), (y0, .inr (4, fs))] t.heap ∧ va_K (dC, dI) vwCl [(cq, .object "KeyAtlas$Body")] t ∧ va_D (va_A [(a0, .inr (7, [.ref qb])), (qb, .inl (cq, 16, .inr (.inr (.inr (.inr bq))))), (y0, .inr (4, fs))] sz) [(a0, .inr (7, [.ref qb])), (qb, .inl (cq, 16, .inr (.inr (.inr (.inr (va_up bq u (some y0))))))), (y0, .inr (4, fs))]) (va_A [(a0, .inr (7, [.ref qb])), (qb, .inl (cq, 16, .inr (.inr (.inr (.inr bq))))), (y0, .inr (4, fs))] sz)) (vx_X (fun _ : Unit => True) (fun (E : String) (_ : Unit) (t : State) => (E = "java/lang/IllegalStateException" ∧ ∀ j : Nat, j < 16 → ¬ bq j = none) ∧ va_P (dC, dI) vwCl [(a0, .inr (7, [.ref qb])), (qb, .inl (cq, 16, .inr (.inr (.inr (.inr bq))))), (y0, .inr (4, fs))] t.heap ∧ va_K (dC, dI) vwCl [(cq, .object "KeyAtlas$Body")] t ∧ va_D (va_A [(a0, .inr (7, [.ref qb])), (qb, .inl (cq, 16, .inr (.inr (.inr (.inr bq))))), (y0, .inr (4, fs))] sz) [(a0, .inr (7, [.ref qb])), (qb, .inl (cq, 16, .inr (.inr (.inr (.inr bq))))), (y0, .inr (4, fs))]) (va_A [(a0, .inr (7, [.ref qb])), (qb, .inl (cq, 16, .inr (.inr (.inr (.inr bq))))), (y0, .inr (4, fs))] sz)) 1 6 (va_A [(a0, .inr (7, [.ref qb])), (qb, .inl (cq, 16, .inr (.inr (.inr (.inr bq))))), (y0, .inr (4, fs))] sz) := by
  refine vx_ofW (cc := cX7_settle) (maxL := 3) (ret := (some .int)) (by decide) rfl ?_
  intro p e s m args below meth c s₁ B hml htab hv
  obtain ⟨rfl, hsz, hP, hK, hD0, hN, hZ⟩ := hv
  have hx := B.exec
  have hb := B.bytes
  have hr := B.returns
  have hts := atoms_spec (ws := wsX7_settle) B.pre
  have hown : s.vm.findClass RX7 = some m.cls := findClass_of_methodNamed B.named
  have hlocks := B.notSynchronized
  subst hsz
  have hD := hD0.self (sz := s.heap.size)
  generalize hAe : va_A [(a0, .inr (7, [.ref qb])), (qb, .inl (cq, 16, .inr (.inr (.inr (.inr bq))))), (y0, .inr (4, fs))] s.heap.size = A at hZ hD ⊢
  have hA : ∀ q : Nat, s.heap.size ≤ q → A q := fun q h => by rw [← hAe]; exact Or.inr h
  have hS : va_S A s.heap s.heap [] := va_S.rf
  have hP : va_P (dC, dI) vwCl [(a0, .inr (7, [.ref qb])), (qb, .inl (cq, 16, .inr (.inr (.inr (.inr bq))))), (y0, .inr (4, fs))] s.heap := hP
  have hl := lv_entry ([.ref a0, .ref y0]) (n := 3) (Nat.le_of_ble_eq_true rfl)
  rw [lg_entry_eq]
  generalize (lg_sl ([.ref a0, .ref y0]) ++ List.replicate (3 - (lg_sl ([.ref a0, .ref y0])).length) Slot.unset).toArray = ls at hl ⊢
  have hl : lv_has ls 3 [(0, .ref a0), (1, .ref y0)] := hl
  have hw0_ := hts (.fieldLink RX7 11 "KeyAtlas" "bodies" "[LKeyAtlas$Body;") (List.mem_of_getElem? (l := wsX7_settle) (i := 3) rfl)
  have hw1_ := hts (.classLink RX7 170 "java/lang/IllegalStateException") (List.mem_of_getElem? (l := wsX7_settle) (i := 1) rfl)
  have hw2_ := hts (.initialized "java/lang/IllegalStateException") (List.mem_of_getElem? (l := wsX7_settle) (i := 2) rfl)
  have hi0_ : ∀ w ∈ u_ws RX7 TX7 1, w ∈ wsX7_settle := fun w h => List.mem_cons_of_mem _ (List.mem_append_left _ (List.mem_append_right _ h))
  refine lv_iconst (v := 0) hx hb dX7_settle_0 (by decide) ?_
  refine lv_istore_n (lv' := [(2, .int 0), (0, .ref a0), (1, .ref y0)]) hx hb dX7_settle_1 rfl hl (by decide) rfl (fun ls hl => ?_)
  obtain ⟨H, hH9⟩ : ∃ H : Heap, H = s.heap := ⟨_, rfl⟩
  obtain ⟨locs, hlo9⟩ : ∃ z : List Loc, z = [] := ⟨_, rfl⟩
  refine tx_hv hH9 hlo9 ?_
  have hP : va_P (dC, dI) vwCl [(a0, .inr (7, [.ref qb])), (qb, .inl (cq, 16, .inr (.inr (.inr (.inr bq))))), (y0, .inr (4, fs))] H := by rw [hH9]; exact hP
  have hS : va_S A s.heap H locs := by rw [hH9, hlo9]; exact hS
  clear hH9 hlo9
  obtain ⟨i, es_i⟩ : ∃ z : Nat, z = 0 := ⟨_, rfl⟩
  obtain ⟨x9, ex9⟩ : ∃ y : Int32, y = nI i := ⟨_, rfl⟩
  obtain ⟨n9, en9⟩ : ∃ n : Nat, n = 17 := ⟨_, rfl⟩
  replace hl : lv_has ls 3 [(2, .int x9), (0, .ref a0), (1, .ref y0)] := by subst ex9; subst es_i; exact hl
  have hi9 : i ≤ 16 := by subst ex9; subst es_i; subst en9; exact by omega
  have hn9 : 17 ≤ i + n9 := by subst ex9; subst es_i; subst en9; exact by omega
  have hv9 : ∀ j : Nat, j < i → ¬ bq j = none := by subst ex9; subst es_i; subst en9; exact fun j h => absurd h (Nat.not_lt_zero j)
  clear en9 es_i
  induction n9 generalizing i x9 ls H locs with
  | zero => exact absurd hn9 (by omega)
  | succ n9 ih =>
    subst ex9
    refine lv_iload_n hx hb dX7_settle_2 rfl (lv_at hl 0 rfl) ?_
    refine lv_aload_n hx hb dX7_settle_3 rfl (lv_at hl 1 rfl) ?_
    refine va_get (D := (dC, dI)) (ci := 7) (v := .ref qb) (C := RX7) (T := TX7) (N := 1) hx hb hts hi0_ hown hK hP 0 rfl rfl 0 (by decide) hw0_ (fun _ h9 => h9) rfl dX7_settle_4 ?_
    refine va_alen (v := 16) hx hb hK hP 1 0 rfl rfl rfl dX7_settle_7 ?_
    refine lv_icmp_ge (tgt := 35) hx hb dX7_settle_8 (by decide) (fun c_1 => ?_) (fun c_1 => ?_)
    ·
      have ic_1 : 16 ≤ ((i : Nat) : Int) := tx_le (by decide) (nI_toInt (by omega)) c_1
      have hP9 := hP.sub (ws' := [(a0, .inr (7, [.ref qb])), (qb, .inl (cq, 16, .inr (.inr (.inr (.inr bq))))), (y0, .inr (4, fs))]) [0, 1, 2] rfl
      have hD9 := hD.sub (ws' := [(a0, .inr (7, [.ref qb])), (qb, .inl (cq, 16, .inr (.inr (.inr (.inr bq))))), (y0, .inr (4, fs))]) [0, 1, 2] (by decide) rfl
      have hK9 := hK.sub (tys' := [(cq, .object "KeyAtlas$Body")]) [0] rfl
      obtain ⟨sa, hsa⟩ := hN.stX7_253
      exact vx_throwS hx hb hlt (own := RX7) (cls := "java/lang/IllegalStateException") (text := "full") (names := ["java/lang/RuntimeException", "java/lang/Exception"]) hown (by decide +kernel) (by decide +kernel) hw1_ hw2_ hsa (tx_hat hN.xw (fun w h => hts w (at_X7_settle_35 w h)) ng_RX7_174) og_RX7_174 hZ.1 hZ.2 hS (by rw [hml]; exact hl.1) dX7_settle_35 dX7_settle_38 dX7_settle_39 dX7_settle_41 dX7_settle_44 (fun x hx9 => (htab x hx9).elim) (Nat.le_of_ble_eq_true rfl) (Nat.le_of_ble_eq_true rfl) (Nat.le_of_ble_eq_true rfl) (Nat.le_of_ble_eq_true rfl) hlocks (fun t hvm hz hq => ⟨(), trivial, ⟨⟨rfl, fun j hj => hv9 j (by omega)⟩, hP9.kept (fun k x hx => hq x.1 (hP9 k x hx).lt), va_K.moved hvm hK9, hD9⟩, ⟨Nat.le_trans hS.1 hz, fun q h1 h2 => (hq q (Nat.lt_of_lt_of_le h1 hS.1)).trans (hS.2.1 q h1 h2)⟩⟩) hS.2.2 (Nat.le_of_ble_eq_true rfl) (Nat.le_of_ble_eq_true rfl)
    ·
      have ic_1 : ((i : Nat) : Int) < 16 := tx_nle (by decide) (nI_toInt (by omega)) c_1
      refine lv_aload_n hx hb dX7_settle_11 rfl (lv_at hl 1 rfl) ?_
      refine va_get (D := (dC, dI)) (ci := 7) (v := .ref qb) (C := RX7) (T := TX7) (N := 1) hx hb hts hi0_ hown hK hP 0 rfl rfl 0 (by decide) hw0_ (fun _ h9 => h9) rfl dX7_settle_12 ?_
      refine lv_iload_n hx hb dX7_settle_15 rfl (lv_at hl 0 rfl) ?_
      refine va_aldq (i := nI i) hx hb hK hP 1 0 rfl rfl (vp_in_nI (by omega) (by omega)) dX7_settle_16 ?_
      refine W.eq (g2 := F0 m 17 ls [va_rf (bq i)]) (by rw [nI_clamp (by omega)]) ?_
      rcases hb_3 : bq i with _ | yb_2
      ·
        refine W.eq (g2 := F0 m 17 ls [.null]) rfl ?_
        refine lv_ifnonnullN hx hb dX7_settle_17 ?_
        refine lv_aload_n hx hb dX7_settle_20 rfl (lv_at hl 1 rfl) ?_
        refine va_get (D := (dC, dI)) (ci := 7) (v := .ref qb) (C := RX7) (T := TX7) (N := 1) hx hb hts hi0_ hown hK hP 0 rfl rfl 0 (by decide) hw0_ (fun _ h9 => h9) rfl dX7_settle_21 ?_
        refine lv_iload_n hx hb dX7_settle_24 rfl (lv_at hl 0 rfl) ?_
        refine lv_aload_n hx hb dX7_settle_25 rfl (lv_at hl 2 rfl) ?_
        refine va_astqO (i := nI i) hx hb hK hP hD hS 1 0 2 4 rfl rfl (r := (RX4, TX4, 5)) (hN.xw _ (List.mem_of_getElem? (l := p_xw) (i := 14) rfl)) rfl rfl (vp_in_nI (by omega) (by omega)) dX7_settle_26 (fun H locs hP hD hS => ?_)
        rw [nI_clamp (by omega)] at hP hD
        replace hP : va_P (dC, dI) vwCl [(a0, .inr (7, [.ref qb])), (qb, .inl (cq, 16, .inr (.inr (.inr (.inr (va_up bq i (some y0))))))), (y0, .inr (4, fs))] H := hP
        replace hD : va_D A [(a0, .inr (7, [.ref qb])), (qb, .inl (cq, 16, .inr (.inr (.inr (.inr (va_up bq i (some y0))))))), (y0, .inr (4, fs))] := hD
        refine lv_iload_n hx hb dX7_settle_27 rfl (lv_at hl 0 rfl) ?_
        have hP9 := hP.sub (ws' := [(a0, .inr (7, [.ref qb])), (qb, .inl (cq, 16, .inr (.inr (.inr (.inr (va_up bq i (some y0))))))), (y0, .inr (4, fs))]) [0, 1, 2] rfl
        have hD9 := hD.sub (ws' := [(a0, .inr (7, [.ref qb])), (qb, .inl (cq, 16, .inr (.inr (.inr (.inr (va_up bq i (some y0))))))), (y0, .inr (4, fs))]) [0, 1, 2] (by decide) rfl
        have hK9 := hK.sub (tys' := [(cq, .object "KeyAtlas$Body")]) [0] rfl
        refine W.widen (k := 1) (n := 6) (Nat.le_of_ble_eq_true rfl) (Nat.le_of_ble_eq_true rfl) ?_
        refine vx_ret ?_
        exact W.iret (v := nI i) hx hb hr (fun t ht hW => ⟨⟨nI i, i, rfl, ⟨rfl, by omega, hb_3, hv9⟩, by rw [ht]; exact hP9, va_K.moved hW.alike hK9, hD9⟩, hS.F ht⟩) hS.2.2 dX7_settle_28
      ·
        refine W.eq (g2 := F0 m 17 ls [.ref yb_2]) rfl ?_
        refine lv_ifnonnull (tgt := 29) hx hb dX7_settle_17 (by decide) ?_
        refine lv_iinc (v := nI (i + 1)) (lv' := [(2, .int (nI (i + 1))), (0, .ref a0), (1, .ref y0)]) hx hb dX7_settle_29 hl (k := 0) rfl (by rw [show Int32.ofInt 1 = nI 1 from rfl, nI_add]) (by decide) rfl (fun ls hl => ?_)
        refine lv_goto (tgt := 2) hx hb dX7_settle_32 (by decide) ?_
        exact ih (i := i + 1) (x9 := nI (i + 1)) (ex9 := rfl) (ls := ls) (H := H) (locs := locs) (hP := hP.sub (ws' := [(a0, .inr (7, [.ref qb])), (qb, .inl (cq, 16, .inr (.inr (.inr (.inr bq))))), (y0, .inr (4, fs))]) [0, 1, 2] rfl) (hS := hS) (hi9 := by omega) (hn9 := by omega) (hv9 := fun j h => by rcases (show j < i ∨ j = i by omega) with h1 | h1; exact hv9 j h1; rw [h1, hb_3]; exact fun z => by cases z) (hl := lv_sub hl [0, 1, 2] rfl)
set_option maxHeartbeats 4000000 in
set_option maxRecDepth 100000 in
/-- settle of S -/
theorem c_X7_settle_S (l : Launch) (hlt : l.stackTraces = false) (dC : Nat → ClassId) (dI : Nat → Nat → Nat) (sz : Nat) (a0 : Nat) (qb : Nat) (cq : ClassId) (bq : Nat → Option Nat) (y0 : Nat) (fs : List Value) : vx_Met l yX7_settle wsX7_settle ({ frames := 6, cells := 1, slots := 6, locals := 100 }) (va_Pc [.ref a0, .ref y0] (pk_PreX (dC, dI) [(a0, .inr (7, [.ref qb])), (qb, .inl (cq, 16, .inr (.inr (.inr (.inr bq))))), (y0, .inr (6, fs))] [(cq, .object "KeyAtlas$Body")] sz)) (va_Qi (fun (r : Int32) (u : Nat) => r = nI u ∧ u < 16 ∧ bq u = none ∧ ∀ j : Nat, j < u → ¬ bq j = none) (fun (u : Nat) (t : State) => va_P (dC, dI) vwCl [(a0, .inr (7, [.ref qb])), (qb, .inl (cq, 16, .inr (.inr (.inr (.inr (va_up bq u (some y0))))))), (y0, .inr (6, fs))] t.heap ∧ va_K (dC, dI) vwCl [(cq, .object "KeyAtlas$Body")] t ∧ va_D (va_A [(a0, .inr (7, [.ref qb])), (qb, .inl (cq, 16, .inr (.inr (.inr (.inr bq))))), (y0, .inr (6, fs))] sz) [(a0, .inr (7, [.ref qb])), (qb, .inl (cq, 16, .inr (.inr (.inr (.inr (va_up bq u (some y0))))))), (y0, .inr (6, fs))]) (va_A [(a0, .inr (7, [.ref qb])), (qb, .inl (cq, 16, .inr (.inr (.inr (.inr bq))))), (y0, .inr (6, fs))] sz)) (vx_X (fun _ : Unit => True) (fun (E : String) (_ : Unit) (t : State) => (E = "java/lang/IllegalStateException" ∧ ∀ j : Nat, j < 16 → ¬ bq j = none) ∧ va_P (dC, dI) vwCl [(a0, .inr (7, [.ref qb])), (qb, .inl (cq, 16, .inr (.inr (.inr (.inr bq))))), (y0, .inr (6, fs))] t.heap ∧ va_K (dC, dI) vwCl [(cq, .object "KeyAtlas$Body")] t ∧ va_D (va_A [(a0, .inr (7, [.ref qb])), (qb, .inl (cq, 16, .inr (.inr (.inr (.inr bq))))), (y0, .inr (6, fs))] sz) [(a0, .inr (7, [.ref qb])), (qb, .inl (cq, 16, .inr (.inr (.inr (.inr bq))))), (y0, .inr (6, fs))]) (va_A [(a0, .inr (7, [.ref qb])), (qb, .inl (cq, 16, .inr (.inr (.inr (.inr bq))))), (y0, .inr (6, fs))] sz)) 1 6 (va_A [(a0, .inr (7, [.ref qb])), (qb, .inl (cq, 16, .inr (.inr (.inr (.inr bq))))), (y0, .inr (6, fs))] sz) := by
  refine vx_ofW (cc := cX7_settle) (maxL := 3) (ret := (some .int)) (by decide) rfl ?_
  intro p e s m args below meth c s₁ B hml htab hv
  obtain ⟨rfl, hsz, hP, hK, hD0, hN, hZ⟩ := hv
  have hx := B.exec
  have hb := B.bytes
  have hr := B.returns
  have hts := atoms_spec (ws := wsX7_settle) B.pre
  have hown : s.vm.findClass RX7 = some m.cls := findClass_of_methodNamed B.named
  have hlocks := B.notSynchronized
  subst hsz
  have hD := hD0.self (sz := s.heap.size)
  generalize hAe : va_A [(a0, .inr (7, [.ref qb])), (qb, .inl (cq, 16, .inr (.inr (.inr (.inr bq))))), (y0, .inr (6, fs))] s.heap.size = A at hZ hD ⊢
  have hA : ∀ q : Nat, s.heap.size ≤ q → A q := fun q h => by rw [← hAe]; exact Or.inr h
  have hS : va_S A s.heap s.heap [] := va_S.rf
  have hP : va_P (dC, dI) vwCl [(a0, .inr (7, [.ref qb])), (qb, .inl (cq, 16, .inr (.inr (.inr (.inr bq))))), (y0, .inr (6, fs))] s.heap := hP
  have hl := lv_entry ([.ref a0, .ref y0]) (n := 3) (Nat.le_of_ble_eq_true rfl)
  rw [lg_entry_eq]
  generalize (lg_sl ([.ref a0, .ref y0]) ++ List.replicate (3 - (lg_sl ([.ref a0, .ref y0])).length) Slot.unset).toArray = ls at hl ⊢
  have hl : lv_has ls 3 [(0, .ref a0), (1, .ref y0)] := hl
  have hw0_ := hts (.fieldLink RX7 11 "KeyAtlas" "bodies" "[LKeyAtlas$Body;") (List.mem_of_getElem? (l := wsX7_settle) (i := 3) rfl)
  have hw1_ := hts (.classLink RX7 170 "java/lang/IllegalStateException") (List.mem_of_getElem? (l := wsX7_settle) (i := 1) rfl)
  have hw2_ := hts (.initialized "java/lang/IllegalStateException") (List.mem_of_getElem? (l := wsX7_settle) (i := 2) rfl)
  have hi0_ : ∀ w ∈ u_ws RX7 TX7 1, w ∈ wsX7_settle := fun w h => List.mem_cons_of_mem _ (List.mem_append_left _ (List.mem_append_right _ h))
  refine lv_iconst (v := 0) hx hb dX7_settle_0 (by decide) ?_
  refine lv_istore_n (lv' := [(2, .int 0), (0, .ref a0), (1, .ref y0)]) hx hb dX7_settle_1 rfl hl (by decide) rfl (fun ls hl => ?_)
  obtain ⟨H, hH9⟩ : ∃ H : Heap, H = s.heap := ⟨_, rfl⟩
  obtain ⟨locs, hlo9⟩ : ∃ z : List Loc, z = [] := ⟨_, rfl⟩
  refine tx_hv hH9 hlo9 ?_
  have hP : va_P (dC, dI) vwCl [(a0, .inr (7, [.ref qb])), (qb, .inl (cq, 16, .inr (.inr (.inr (.inr bq))))), (y0, .inr (6, fs))] H := by rw [hH9]; exact hP
  have hS : va_S A s.heap H locs := by rw [hH9, hlo9]; exact hS
  clear hH9 hlo9
  obtain ⟨i, es_i⟩ : ∃ z : Nat, z = 0 := ⟨_, rfl⟩
  obtain ⟨x9, ex9⟩ : ∃ y : Int32, y = nI i := ⟨_, rfl⟩
  obtain ⟨n9, en9⟩ : ∃ n : Nat, n = 17 := ⟨_, rfl⟩
  replace hl : lv_has ls 3 [(2, .int x9), (0, .ref a0), (1, .ref y0)] := by subst ex9; subst es_i; exact hl
  have hi9 : i ≤ 16 := by subst ex9; subst es_i; subst en9; exact by omega
  have hn9 : 17 ≤ i + n9 := by subst ex9; subst es_i; subst en9; exact by omega
  have hv9 : ∀ j : Nat, j < i → ¬ bq j = none := by subst ex9; subst es_i; subst en9; exact fun j h => absurd h (Nat.not_lt_zero j)
  clear en9 es_i
  induction n9 generalizing i x9 ls H locs with
  | zero => exact absurd hn9 (by omega)
  | succ n9 ih =>
    subst ex9
    refine lv_iload_n hx hb dX7_settle_2 rfl (lv_at hl 0 rfl) ?_
    refine lv_aload_n hx hb dX7_settle_3 rfl (lv_at hl 1 rfl) ?_
    refine va_get (D := (dC, dI)) (ci := 7) (v := .ref qb) (C := RX7) (T := TX7) (N := 1) hx hb hts hi0_ hown hK hP 0 rfl rfl 0 (by decide) hw0_ (fun _ h9 => h9) rfl dX7_settle_4 ?_
    refine va_alen (v := 16) hx hb hK hP 1 0 rfl rfl rfl dX7_settle_7 ?_
    refine lv_icmp_ge (tgt := 35) hx hb dX7_settle_8 (by decide) (fun c_1 => ?_) (fun c_1 => ?_)
    ·
      have ic_1 : 16 ≤ ((i : Nat) : Int) := tx_le (by decide) (nI_toInt (by omega)) c_1
      have hP9 := hP.sub (ws' := [(a0, .inr (7, [.ref qb])), (qb, .inl (cq, 16, .inr (.inr (.inr (.inr bq))))), (y0, .inr (6, fs))]) [0, 1, 2] rfl
      have hD9 := hD.sub (ws' := [(a0, .inr (7, [.ref qb])), (qb, .inl (cq, 16, .inr (.inr (.inr (.inr bq))))), (y0, .inr (6, fs))]) [0, 1, 2] (by decide) rfl
      have hK9 := hK.sub (tys' := [(cq, .object "KeyAtlas$Body")]) [0] rfl
      obtain ⟨sa, hsa⟩ := hN.stX7_253
      exact vx_throwS hx hb hlt (own := RX7) (cls := "java/lang/IllegalStateException") (text := "full") (names := ["java/lang/RuntimeException", "java/lang/Exception"]) hown (by decide +kernel) (by decide +kernel) hw1_ hw2_ hsa (tx_hat hN.xw (fun w h => hts w (at_X7_settle_35 w h)) ng_RX7_174) og_RX7_174 hZ.1 hZ.2 hS (by rw [hml]; exact hl.1) dX7_settle_35 dX7_settle_38 dX7_settle_39 dX7_settle_41 dX7_settle_44 (fun x hx9 => (htab x hx9).elim) (Nat.le_of_ble_eq_true rfl) (Nat.le_of_ble_eq_true rfl) (Nat.le_of_ble_eq_true rfl) (Nat.le_of_ble_eq_true rfl) hlocks (fun t hvm hz hq => ⟨(), trivial, ⟨⟨rfl, fun j hj => hv9 j (by omega)⟩, hP9.kept (fun k x hx => hq x.1 (hP9 k x hx).lt), va_K.moved hvm hK9, hD9⟩, ⟨Nat.le_trans hS.1 hz, fun q h1 h2 => (hq q (Nat.lt_of_lt_of_le h1 hS.1)).trans (hS.2.1 q h1 h2)⟩⟩) hS.2.2 (Nat.le_of_ble_eq_true rfl) (Nat.le_of_ble_eq_true rfl)
    ·
      have ic_1 : ((i : Nat) : Int) < 16 := tx_nle (by decide) (nI_toInt (by omega)) c_1
      refine lv_aload_n hx hb dX7_settle_11 rfl (lv_at hl 1 rfl) ?_
      refine va_get (D := (dC, dI)) (ci := 7) (v := .ref qb) (C := RX7) (T := TX7) (N := 1) hx hb hts hi0_ hown hK hP 0 rfl rfl 0 (by decide) hw0_ (fun _ h9 => h9) rfl dX7_settle_12 ?_
      refine lv_iload_n hx hb dX7_settle_15 rfl (lv_at hl 0 rfl) ?_
      refine va_aldq (i := nI i) hx hb hK hP 1 0 rfl rfl (vp_in_nI (by omega) (by omega)) dX7_settle_16 ?_
      refine W.eq (g2 := F0 m 17 ls [va_rf (bq i)]) (by rw [nI_clamp (by omega)]) ?_
      rcases hb_3 : bq i with _ | yb_2
      ·
        refine W.eq (g2 := F0 m 17 ls [.null]) rfl ?_
        refine lv_ifnonnullN hx hb dX7_settle_17 ?_
        refine lv_aload_n hx hb dX7_settle_20 rfl (lv_at hl 1 rfl) ?_
        refine va_get (D := (dC, dI)) (ci := 7) (v := .ref qb) (C := RX7) (T := TX7) (N := 1) hx hb hts hi0_ hown hK hP 0 rfl rfl 0 (by decide) hw0_ (fun _ h9 => h9) rfl dX7_settle_21 ?_
        refine lv_iload_n hx hb dX7_settle_24 rfl (lv_at hl 0 rfl) ?_
        refine lv_aload_n hx hb dX7_settle_25 rfl (lv_at hl 2 rfl) ?_
        refine va_astqO (i := nI i) hx hb hK hP hD hS 1 0 2 6 rfl rfl (r := (RX6, TX6, 7)) (hN.xw _ (List.mem_of_getElem? (l := p_xw) (i := 15) rfl)) rfl rfl (vp_in_nI (by omega) (by omega)) dX7_settle_26 (fun H locs hP hD hS => ?_)
        rw [nI_clamp (by omega)] at hP hD
        replace hP : va_P (dC, dI) vwCl [(a0, .inr (7, [.ref qb])), (qb, .inl (cq, 16, .inr (.inr (.inr (.inr (va_up bq i (some y0))))))), (y0, .inr (6, fs))] H := hP
        replace hD : va_D A [(a0, .inr (7, [.ref qb])), (qb, .inl (cq, 16, .inr (.inr (.inr (.inr (va_up bq i (some y0))))))), (y0, .inr (6, fs))] := hD
        refine lv_iload_n hx hb dX7_settle_27 rfl (lv_at hl 0 rfl) ?_
        have hP9 := hP.sub (ws' := [(a0, .inr (7, [.ref qb])), (qb, .inl (cq, 16, .inr (.inr (.inr (.inr (va_up bq i (some y0))))))), (y0, .inr (6, fs))]) [0, 1, 2] rfl
        have hD9 := hD.sub (ws' := [(a0, .inr (7, [.ref qb])), (qb, .inl (cq, 16, .inr (.inr (.inr (.inr (va_up bq i (some y0))))))), (y0, .inr (6, fs))]) [0, 1, 2] (by decide) rfl
        have hK9 := hK.sub (tys' := [(cq, .object "KeyAtlas$Body")]) [0] rfl
        refine W.widen (k := 1) (n := 6) (Nat.le_of_ble_eq_true rfl) (Nat.le_of_ble_eq_true rfl) ?_
        refine vx_ret ?_
        exact W.iret (v := nI i) hx hb hr (fun t ht hW => ⟨⟨nI i, i, rfl, ⟨rfl, by omega, hb_3, hv9⟩, by rw [ht]; exact hP9, va_K.moved hW.alike hK9, hD9⟩, hS.F ht⟩) hS.2.2 dX7_settle_28
      ·
        refine W.eq (g2 := F0 m 17 ls [.ref yb_2]) rfl ?_
        refine lv_ifnonnull (tgt := 29) hx hb dX7_settle_17 (by decide) ?_
        refine lv_iinc (v := nI (i + 1)) (lv' := [(2, .int (nI (i + 1))), (0, .ref a0), (1, .ref y0)]) hx hb dX7_settle_29 hl (k := 0) rfl (by rw [show Int32.ofInt 1 = nI 1 from rfl, nI_add]) (by decide) rfl (fun ls hl => ?_)
        refine lv_goto (tgt := 2) hx hb dX7_settle_32 (by decide) ?_
        exact ih (i := i + 1) (x9 := nI (i + 1)) (ex9 := rfl) (ls := ls) (H := H) (locs := locs) (hP := hP.sub (ws' := [(a0, .inr (7, [.ref qb])), (qb, .inl (cq, 16, .inr (.inr (.inr (.inr bq))))), (y0, .inr (6, fs))]) [0, 1, 2] rfl) (hS := hS) (hi9 := by omega) (hn9 := by omega) (hv9 := fun j h => by rcases (show j < i ∨ j = i by omega) with h1 | h1; exact hv9 j h1; rw [h1, hb_3]; exact fun z => by cases z) (hl := lv_sub hl [0, 1, 2] rfl)
set_option maxHeartbeats 4000000 in
set_option maxRecDepth 100000 in
/-- settle of C -/
theorem c_X7_settle_C (l : Launch) (hlt : l.stackTraces = false) (dC : Nat → ClassId) (dI : Nat → Nat → Nat) (sz : Nat) (a0 : Nat) (qb : Nat) (cq : ClassId) (bq : Nat → Option Nat) (y0 : Nat) (fs : List Value) : vx_Met l yX7_settle wsX7_settle ({ frames := 6, cells := 1, slots := 6, locals := 100 }) (va_Pc [.ref a0, .ref y0] (pk_PreX (dC, dI) [(a0, .inr (7, [.ref qb])), (qb, .inl (cq, 16, .inr (.inr (.inr (.inr bq))))), (y0, .inr (2, fs))] [(cq, .object "KeyAtlas$Body")] sz)) (va_Qi (fun (r : Int32) (u : Nat) => r = nI u ∧ u < 16 ∧ bq u = none ∧ ∀ j : Nat, j < u → ¬ bq j = none) (fun (u : Nat) (t : State) => va_P (dC, dI) vwCl [(a0, .inr (7, [.ref qb])), (qb, .inl (cq, 16, .inr (.inr (.inr (.inr (va_up bq u (some y0))))))), (y0, .inr (2, fs))] t.heap ∧ va_K (dC, dI) vwCl [(cq, .object "KeyAtlas$Body")] t ∧ va_D (va_A [(a0, .inr (7, [.ref qb])), (qb, .inl (cq, 16, .inr (.inr (.inr (.inr bq))))), (y0, .inr (2, fs))] sz) [(a0, .inr (7, [.ref qb])), (qb, .inl (cq, 16, .inr (.inr (.inr (.inr (va_up bq u (some y0))))))), (y0, .inr (2, fs))]) (va_A [(a0, .inr (7, [.ref qb])), (qb, .inl (cq, 16, .inr (.inr (.inr (.inr bq))))), (y0, .inr (2, fs))] sz)) (vx_X (fun _ : Unit => True) (fun (E : String) (_ : Unit) (t : State) => (E = "java/lang/IllegalStateException" ∧ ∀ j : Nat, j < 16 → ¬ bq j = none) ∧ va_P (dC, dI) vwCl [(a0, .inr (7, [.ref qb])), (qb, .inl (cq, 16, .inr (.inr (.inr (.inr bq))))), (y0, .inr (2, fs))] t.heap ∧ va_K (dC, dI) vwCl [(cq, .object "KeyAtlas$Body")] t ∧ va_D (va_A [(a0, .inr (7, [.ref qb])), (qb, .inl (cq, 16, .inr (.inr (.inr (.inr bq))))), (y0, .inr (2, fs))] sz) [(a0, .inr (7, [.ref qb])), (qb, .inl (cq, 16, .inr (.inr (.inr (.inr bq))))), (y0, .inr (2, fs))]) (va_A [(a0, .inr (7, [.ref qb])), (qb, .inl (cq, 16, .inr (.inr (.inr (.inr bq))))), (y0, .inr (2, fs))] sz)) 1 6 (va_A [(a0, .inr (7, [.ref qb])), (qb, .inl (cq, 16, .inr (.inr (.inr (.inr bq))))), (y0, .inr (2, fs))] sz) := by
  refine vx_ofW (cc := cX7_settle) (maxL := 3) (ret := (some .int)) (by decide) rfl ?_
  intro p e s m args below meth c s₁ B hml htab hv
  obtain ⟨rfl, hsz, hP, hK, hD0, hN, hZ⟩ := hv
  have hx := B.exec
  have hb := B.bytes
  have hr := B.returns
  have hts := atoms_spec (ws := wsX7_settle) B.pre
  have hown : s.vm.findClass RX7 = some m.cls := findClass_of_methodNamed B.named
  have hlocks := B.notSynchronized
  subst hsz
  have hD := hD0.self (sz := s.heap.size)
  generalize hAe : va_A [(a0, .inr (7, [.ref qb])), (qb, .inl (cq, 16, .inr (.inr (.inr (.inr bq))))), (y0, .inr (2, fs))] s.heap.size = A at hZ hD ⊢
  have hA : ∀ q : Nat, s.heap.size ≤ q → A q := fun q h => by rw [← hAe]; exact Or.inr h
  have hS : va_S A s.heap s.heap [] := va_S.rf
  have hP : va_P (dC, dI) vwCl [(a0, .inr (7, [.ref qb])), (qb, .inl (cq, 16, .inr (.inr (.inr (.inr bq))))), (y0, .inr (2, fs))] s.heap := hP
  have hl := lv_entry ([.ref a0, .ref y0]) (n := 3) (Nat.le_of_ble_eq_true rfl)
  rw [lg_entry_eq]
  generalize (lg_sl ([.ref a0, .ref y0]) ++ List.replicate (3 - (lg_sl ([.ref a0, .ref y0])).length) Slot.unset).toArray = ls at hl ⊢
  have hl : lv_has ls 3 [(0, .ref a0), (1, .ref y0)] := hl
  have hw0_ := hts (.fieldLink RX7 11 "KeyAtlas" "bodies" "[LKeyAtlas$Body;") (List.mem_of_getElem? (l := wsX7_settle) (i := 3) rfl)
  have hw1_ := hts (.classLink RX7 170 "java/lang/IllegalStateException") (List.mem_of_getElem? (l := wsX7_settle) (i := 1) rfl)
  have hw2_ := hts (.initialized "java/lang/IllegalStateException") (List.mem_of_getElem? (l := wsX7_settle) (i := 2) rfl)
  have hi0_ : ∀ w ∈ u_ws RX7 TX7 1, w ∈ wsX7_settle := fun w h => List.mem_cons_of_mem _ (List.mem_append_left _ (List.mem_append_right _ h))
  refine lv_iconst (v := 0) hx hb dX7_settle_0 (by decide) ?_
  refine lv_istore_n (lv' := [(2, .int 0), (0, .ref a0), (1, .ref y0)]) hx hb dX7_settle_1 rfl hl (by decide) rfl (fun ls hl => ?_)
  obtain ⟨H, hH9⟩ : ∃ H : Heap, H = s.heap := ⟨_, rfl⟩
  obtain ⟨locs, hlo9⟩ : ∃ z : List Loc, z = [] := ⟨_, rfl⟩
  refine tx_hv hH9 hlo9 ?_
  have hP : va_P (dC, dI) vwCl [(a0, .inr (7, [.ref qb])), (qb, .inl (cq, 16, .inr (.inr (.inr (.inr bq))))), (y0, .inr (2, fs))] H := by rw [hH9]; exact hP
  have hS : va_S A s.heap H locs := by rw [hH9, hlo9]; exact hS
  clear hH9 hlo9
  obtain ⟨i, es_i⟩ : ∃ z : Nat, z = 0 := ⟨_, rfl⟩
  obtain ⟨x9, ex9⟩ : ∃ y : Int32, y = nI i := ⟨_, rfl⟩
  obtain ⟨n9, en9⟩ : ∃ n : Nat, n = 17 := ⟨_, rfl⟩
  replace hl : lv_has ls 3 [(2, .int x9), (0, .ref a0), (1, .ref y0)] := by subst ex9; subst es_i; exact hl
  have hi9 : i ≤ 16 := by subst ex9; subst es_i; subst en9; exact by omega
  have hn9 : 17 ≤ i + n9 := by subst ex9; subst es_i; subst en9; exact by omega
  have hv9 : ∀ j : Nat, j < i → ¬ bq j = none := by subst ex9; subst es_i; subst en9; exact fun j h => absurd h (Nat.not_lt_zero j)
  clear en9 es_i
  induction n9 generalizing i x9 ls H locs with
  | zero => exact absurd hn9 (by omega)
  | succ n9 ih =>
    subst ex9
    refine lv_iload_n hx hb dX7_settle_2 rfl (lv_at hl 0 rfl) ?_
    refine lv_aload_n hx hb dX7_settle_3 rfl (lv_at hl 1 rfl) ?_
    refine va_get (D := (dC, dI)) (ci := 7) (v := .ref qb) (C := RX7) (T := TX7) (N := 1) hx hb hts hi0_ hown hK hP 0 rfl rfl 0 (by decide) hw0_ (fun _ h9 => h9) rfl dX7_settle_4 ?_
    refine va_alen (v := 16) hx hb hK hP 1 0 rfl rfl rfl dX7_settle_7 ?_
    refine lv_icmp_ge (tgt := 35) hx hb dX7_settle_8 (by decide) (fun c_1 => ?_) (fun c_1 => ?_)
    ·
      have ic_1 : 16 ≤ ((i : Nat) : Int) := tx_le (by decide) (nI_toInt (by omega)) c_1
      have hP9 := hP.sub (ws' := [(a0, .inr (7, [.ref qb])), (qb, .inl (cq, 16, .inr (.inr (.inr (.inr bq))))), (y0, .inr (2, fs))]) [0, 1, 2] rfl
      have hD9 := hD.sub (ws' := [(a0, .inr (7, [.ref qb])), (qb, .inl (cq, 16, .inr (.inr (.inr (.inr bq))))), (y0, .inr (2, fs))]) [0, 1, 2] (by decide) rfl
      have hK9 := hK.sub (tys' := [(cq, .object "KeyAtlas$Body")]) [0] rfl
      obtain ⟨sa, hsa⟩ := hN.stX7_253
      exact vx_throwS hx hb hlt (own := RX7) (cls := "java/lang/IllegalStateException") (text := "full") (names := ["java/lang/RuntimeException", "java/lang/Exception"]) hown (by decide +kernel) (by decide +kernel) hw1_ hw2_ hsa (tx_hat hN.xw (fun w h => hts w (at_X7_settle_35 w h)) ng_RX7_174) og_RX7_174 hZ.1 hZ.2 hS (by rw [hml]; exact hl.1) dX7_settle_35 dX7_settle_38 dX7_settle_39 dX7_settle_41 dX7_settle_44 (fun x hx9 => (htab x hx9).elim) (Nat.le_of_ble_eq_true rfl) (Nat.le_of_ble_eq_true rfl) (Nat.le_of_ble_eq_true rfl) (Nat.le_of_ble_eq_true rfl) hlocks (fun t hvm hz hq => ⟨(), trivial, ⟨⟨rfl, fun j hj => hv9 j (by omega)⟩, hP9.kept (fun k x hx => hq x.1 (hP9 k x hx).lt), va_K.moved hvm hK9, hD9⟩, ⟨Nat.le_trans hS.1 hz, fun q h1 h2 => (hq q (Nat.lt_of_lt_of_le h1 hS.1)).trans (hS.2.1 q h1 h2)⟩⟩) hS.2.2 (Nat.le_of_ble_eq_true rfl) (Nat.le_of_ble_eq_true rfl)
    ·
      have ic_1 : ((i : Nat) : Int) < 16 := tx_nle (by decide) (nI_toInt (by omega)) c_1
      refine lv_aload_n hx hb dX7_settle_11 rfl (lv_at hl 1 rfl) ?_
      refine va_get (D := (dC, dI)) (ci := 7) (v := .ref qb) (C := RX7) (T := TX7) (N := 1) hx hb hts hi0_ hown hK hP 0 rfl rfl 0 (by decide) hw0_ (fun _ h9 => h9) rfl dX7_settle_12 ?_
      refine lv_iload_n hx hb dX7_settle_15 rfl (lv_at hl 0 rfl) ?_
      refine va_aldq (i := nI i) hx hb hK hP 1 0 rfl rfl (vp_in_nI (by omega) (by omega)) dX7_settle_16 ?_
      refine W.eq (g2 := F0 m 17 ls [va_rf (bq i)]) (by rw [nI_clamp (by omega)]) ?_
      rcases hb_3 : bq i with _ | yb_2
      ·
        refine W.eq (g2 := F0 m 17 ls [.null]) rfl ?_
        refine lv_ifnonnullN hx hb dX7_settle_17 ?_
        refine lv_aload_n hx hb dX7_settle_20 rfl (lv_at hl 1 rfl) ?_
        refine va_get (D := (dC, dI)) (ci := 7) (v := .ref qb) (C := RX7) (T := TX7) (N := 1) hx hb hts hi0_ hown hK hP 0 rfl rfl 0 (by decide) hw0_ (fun _ h9 => h9) rfl dX7_settle_21 ?_
        refine lv_iload_n hx hb dX7_settle_24 rfl (lv_at hl 0 rfl) ?_
        refine lv_aload_n hx hb dX7_settle_25 rfl (lv_at hl 2 rfl) ?_
        refine va_astqO (i := nI i) hx hb hK hP hD hS 1 0 2 2 rfl rfl (r := (RX1, TX1, 6)) (hN.xw _ (List.mem_of_getElem? (l := p_xw) (i := 12) rfl)) rfl rfl (vp_in_nI (by omega) (by omega)) dX7_settle_26 (fun H locs hP hD hS => ?_)
        rw [nI_clamp (by omega)] at hP hD
        replace hP : va_P (dC, dI) vwCl [(a0, .inr (7, [.ref qb])), (qb, .inl (cq, 16, .inr (.inr (.inr (.inr (va_up bq i (some y0))))))), (y0, .inr (2, fs))] H := hP
        replace hD : va_D A [(a0, .inr (7, [.ref qb])), (qb, .inl (cq, 16, .inr (.inr (.inr (.inr (va_up bq i (some y0))))))), (y0, .inr (2, fs))] := hD
        refine lv_iload_n hx hb dX7_settle_27 rfl (lv_at hl 0 rfl) ?_
        have hP9 := hP.sub (ws' := [(a0, .inr (7, [.ref qb])), (qb, .inl (cq, 16, .inr (.inr (.inr (.inr (va_up bq i (some y0))))))), (y0, .inr (2, fs))]) [0, 1, 2] rfl
        have hD9 := hD.sub (ws' := [(a0, .inr (7, [.ref qb])), (qb, .inl (cq, 16, .inr (.inr (.inr (.inr (va_up bq i (some y0))))))), (y0, .inr (2, fs))]) [0, 1, 2] (by decide) rfl
        have hK9 := hK.sub (tys' := [(cq, .object "KeyAtlas$Body")]) [0] rfl
        refine W.widen (k := 1) (n := 6) (Nat.le_of_ble_eq_true rfl) (Nat.le_of_ble_eq_true rfl) ?_
        refine vx_ret ?_
        exact W.iret (v := nI i) hx hb hr (fun t ht hW => ⟨⟨nI i, i, rfl, ⟨rfl, by omega, hb_3, hv9⟩, by rw [ht]; exact hP9, va_K.moved hW.alike hK9, hD9⟩, hS.F ht⟩) hS.2.2 dX7_settle_28
      ·
        refine W.eq (g2 := F0 m 17 ls [.ref yb_2]) rfl ?_
        refine lv_ifnonnull (tgt := 29) hx hb dX7_settle_17 (by decide) ?_
        refine lv_iinc (v := nI (i + 1)) (lv' := [(2, .int (nI (i + 1))), (0, .ref a0), (1, .ref y0)]) hx hb dX7_settle_29 hl (k := 0) rfl (by rw [show Int32.ofInt 1 = nI 1 from rfl, nI_add]) (by decide) rfl (fun ls hl => ?_)
        refine lv_goto (tgt := 2) hx hb dX7_settle_32 (by decide) ?_
        exact ih (i := i + 1) (x9 := nI (i + 1)) (ex9 := rfl) (ls := ls) (H := H) (locs := locs) (hP := hP.sub (ws' := [(a0, .inr (7, [.ref qb])), (qb, .inl (cq, 16, .inr (.inr (.inr (.inr bq))))), (y0, .inr (2, fs))]) [0, 1, 2] rfl) (hS := hS) (hi9 := by omega) (hn9 := by omega) (hv9 := fun j h => by rcases (show j < i ∨ j = i by omega) with h1 | h1; exact hv9 j h1; rw [h1, hb_3]; exact fun z => by cases z) (hl := lv_sub hl [0, 1, 2] rfl)
