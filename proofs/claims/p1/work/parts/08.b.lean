set_option maxHeartbeats 4000000 in
set_option maxRecDepth 100000 in
/-- make, fresh -/
theorem c_X7_make (l : Launch) (hlt : l.stackTraces = false) (dC : Nat → ClassId) (dI : Nat → Nat → Nat) (sz : Nat) (h0 : Nat) (qb : Nat) (cb : ClassId) (p0 : Int32) (p1 : Int32) (p2 : Int32) : vx_Met l yX7_make wsN_make ({ frames := 6, cells := 6, slots := 49, locals := 130 }) (va_Pc [.ref h0, .int p0, .int p1, .int p2] (pk_PreX (dC, dI) [(h0, .inr (7, [.ref qb])), (qb, .inl (cb, 16, .inr (.inr (.inr (.inr (fun _ => none))))))] [(cb, .object "KeyAtlas$Body")] sz)) (va_Qi (fun (r : Int32) (_ : Unit) => r = 0 ∧ mkIs p0 p1 p2 0) (fun (_ : Unit) (_ : State) => True) (va_A [(h0, .inr (7, [.ref qb])), (qb, .inl (cb, 16, .inr (.inr (.inr (.inr (fun _ => none))))))] sz)) (vx_X (fun _ : Unit => True) (fun (E : String) (_ : Unit) (_ : State) => (E = "java/lang/IllegalArgumentException" ∧ mkIs p0 p1 p2 1) ∨ (E = "java/lang/NegativeArraySizeException" ∧ mkIs p0 p1 p2 3)) (va_A [(h0, .inr (7, [.ref qb])), (qb, .inl (cb, 16, .inr (.inr (.inr (.inr (fun _ => none))))))] sz)) 6 49 (va_A [(h0, .inr (7, [.ref qb])), (qb, .inl (cb, 16, .inr (.inr (.inr (.inr (fun _ => none))))))] sz) := by
  refine vx_ofW (cc := cX7_make) (maxL := 4) (ret := (some .int)) (by decide) rfl ?_
  intro p e s m args below meth c s₁ B hml htab hv
  obtain ⟨rfl, hsz, hP, hK, hD0, hN, hZ⟩ := hv
  have hx := B.exec
  have hb := B.bytes
  have hr := B.returns
  have hts := atoms_spec (ws := wsN_make) B.pre
  have hown : s.vm.findClass RX7 = some m.cls := findClass_of_methodNamed B.named
  have hlocks := B.notSynchronized
  subst hsz
  have hD := hD0.self (sz := s.heap.size)
  generalize hAe : va_A [(h0, .inr (7, [.ref qb])), (qb, .inl (cb, 16, .inr (.inr (.inr (.inr (fun _ => none))))))] s.heap.size = A at hZ hD ⊢
  have hA : ∀ q : Nat, s.heap.size ≤ q → A q := fun q h => by rw [← hAe]; exact Or.inr h
  have hS : va_S A s.heap s.heap [] := va_S.rf
  have hP : va_P (dC, dI) vwCl [(h0, .inr (7, [.ref qb])), (qb, .inl (cb, 16, .inr (.inr (.inr (.inr (fun _ => none))))))] s.heap := hP
  have hl := lv_entry ([.ref h0, .int p0, .int p1, .int p2]) (n := 4) (Nat.le_of_ble_eq_true rfl)
  rw [lg_entry_eq]
  generalize (lg_sl ([.ref h0, .int p0, .int p1, .int p2]) ++ List.replicate (4 - (lg_sl ([.ref h0, .int p0, .int p1, .int p2])).length) Slot.unset).toArray = ls at hl ⊢
  have hl : lv_has ls 4 [(0, .ref h0), (1, .int p0), (2, .int p1), (3, .int p2)] := hl
  have hw0_ := hts (.classLink RX7 15 "java/lang/IllegalArgumentException") (by decide +kernel)
  have hw1_ := hts (.initialized "java/lang/IllegalArgumentException") (by decide +kernel)
  have hw2_ := hts (.classLink RX7 22 "java/lang/NegativeArraySizeException") (by decide +kernel)
  have hw3_ := hts (.initialized "java/lang/NegativeArraySizeException") (by decide +kernel)
  refine lv_iload_n hx hb dX7_make_0 rfl (lv_at hl 1 rfl) ?_
  refine lv_if_lt (tgt := 9) hx hb dX7_make_1 (by decide) (fun c_1 => ?_) (fun c_1 => ?_)
  ·
    have ic_1 : p0.toInt < 0 := tx_lt rfl (by decide) c_1
    obtain ⟨sa, hsa⟩ := hN.stX7_17
    exact vx_throwS hx hb hlt (own := RX7) (cls := "java/lang/IllegalArgumentException") (text := "no such kind") (names := ["java/lang/RuntimeException", "java/lang/Exception"]) hown (by decide +kernel) (by decide +kernel) hw0_ hw1_ hsa (tx_hat hN.xw (fun w h => hts w (at_X7_make_9 w h)) ng_RX7_19) og_RX7_19 hZ.1 hZ.2 hS (by rw [hml]; exact hl.1) dX7_make_9 dX7_make_12 dX7_make_13 dX7_make_15 dX7_make_18 (fun x hx9 => (htab x hx9).elim) (by decide) (by decide) (Nat.le_of_ble_eq_true rfl) (Nat.le_of_ble_eq_true rfl) hlocks (fun t hvm hz hq => ⟨(), trivial, Or.inl ⟨rfl, mk_a (by omega)⟩, ⟨Nat.le_trans hS.1 hz, fun q h1 h2 => (hq q (Nat.lt_of_lt_of_le h1 hS.1)).trans (hS.2.1 q h1 h2)⟩⟩) hS.2.2 (Nat.le_of_ble_eq_true rfl) (Nat.le_of_ble_eq_true rfl)
  ·
    have ic_1 : 0 ≤ p0.toInt := tx_nlt rfl (by decide) c_1
    refine lv_iload_n hx hb dX7_make_4 rfl (lv_at hl 1 rfl) ?_
    refine lv_iconst (v := 2) hx hb dX7_make_5 (by decide) ?_
    refine lv_icmp_le (tgt := 19) hx hb dX7_make_6 (by decide) (fun c_2 => ?_) (fun c_2 => ?_)
    ·
      have ic_2 : p0.toInt ≤ 2 := tx_le rfl (by decide) c_2
      refine lv_iload_n hx hb dX7_make_19 rfl (lv_at hl 1 rfl) ?_
      refine lv_if_ne (tgt := 37) hx hb dX7_make_20 (by decide) (fun c_3 => ?_) (fun c_3 => ?_)
      ·
        have ic_3 : ¬ p0.toInt = 0 := tx_ne rfl (by decide) c_3
        refine lv_iload_n hx hb dX7_make_37 rfl (lv_at hl 1 rfl) ?_
        refine lv_iload_n hx hb dX7_make_38 rfl (lv_at hl 2 rfl) ?_
        refine lv_iload_n hx hb dX7_make_39 rfl (lv_at hl 3 rfl) ?_
        have hPc := hP.sub (ws' := []) [] rfl
        have hDc := hD.sub (ws' := []) [] (by decide) rfl
        have hKc := hK.sub (tys' := []) [] rfl
        have hFc := va_free (wc := []) hD hS hA [] rfl
        refine va_calli (va_runS (As := [.int p0, .int p1, .int p2]) (rest := []) ⟨hx, hb, hml, hown, hts⟩ (c_X7_areInRange l  dC dI s.heap.size p0 p1 p2) (va_cwS 3 hts gN_make_areInRange rfl rfl rfl (by decide +kernel) ⟨(Nat.le_of_ble_eq_true rfl), (Nat.le_of_ble_eq_true rfl)⟩) ⟨pk_blind, pk_call hPc hKc hDc⟩ rfl rfl hl.1 rfl (lv_room (Nat.le_of_ble_eq_true rfl)) dX7_make_40 ⟨(Nat.le_of_ble_eq_true rfl), (Nat.le_of_ble_eq_true rfl)⟩) hS (fun q _ h => hFc q h) hFc (fun r_4 ur_4 t H1 locs ht hvm hw hB hz1 hk1 hS => ?_)
        try dsimp only at hw
        have jr_4 := hw
        obtain ⟨hP, hD⟩ := va_join (wr := [(h0, .inr (7, [.ref qb])), (qb, .inl (cb, 16, .inr (.inr (.inr (.inr (fun _ => none))))))]) (w1 := []) hP hD [] [0, 1] rfl rfl (by decide) (by decide) hk1 hFc tx_P0 tx_D0
        clear hk1 hz1 ht hPc hDc hKc
        generalize H1 = H at hP hS ⊢
        have hP : va_P (dC, dI) vwCl [(h0, .inr (7, [.ref qb])), (qb, .inl (cb, 16, .inr (.inr (.inr (.inr (fun _ => none))))))] H := hP
        have hD : va_D A [(h0, .inr (7, [.ref qb])), (qb, .inl (cb, 16, .inr (.inr (.inr (.inr (fun _ => none))))))] := hD
        refine W.widen (k := 0) (n := 0) (Nat.le_of_ble_eq_true rfl) (Nat.le_of_ble_eq_true rfl) ?_
        refine W.eq (g2 := F0 m 43 ls [.int r_4]) rfl ?_
        refine lv_if_ne (tgt := 56) hx hb dX7_make_43 (by decide) (fun c_5 => ?_) (fun c_5 => ?_)
        ·
          have ic_5 : ¬ r_4.toInt = 0 := tx_ne rfl (by decide) c_5
          refine lv_aload_n hx hb dX7_make_56 rfl (lv_at hl 0 rfl) ?_
          refine lv_iload_n hx hb dX7_make_57 rfl (lv_at hl 1 rfl) ?_
          refine lv_iload_n hx hb dX7_make_58 rfl (lv_at hl 2 rfl) ?_
          refine lv_iload_n hx hb dX7_make_59 rfl (lv_at hl 3 rfl) ?_
          have hPc := hP.sub (ws' := []) [] rfl
          have hDc := hD.sub (ws' := []) [] (by decide) rfl
          have hKc := hK.sub (tys' := []) [] rfl
          have hFc := va_free (wc := []) hD hS hA [] rfl
          have hZc := (hZ.kept hS.2.1).narrow hFc
          refine va_callr (va_runS (As := [.int p0, .int p1, .int p2]) (rest := [.ref h0]) ⟨hx, hb, hml, hown, hts⟩ (c_X7_newMap l hlt dC dI H.size p0 p1 p2) (va_cwS 3 hts gN_make_newMap rfl rfl rfl (by decide +kernel) ⟨(Nat.le_of_ble_eq_true rfl), (Nat.le_of_ble_eq_true rfl)⟩) ⟨pk_blindX, pk_callX hPc hKc hDc hN hZc⟩ rfl rfl hl.1 rfl (lv_room (Nat.le_of_ble_eq_true rfl)) dX7_make_60 ⟨(Nat.le_of_ble_eq_true rfl), (Nat.le_of_ble_eq_true rfl)⟩) hS (fun q _ h => hFc q h) hFc (fun ur_6 r_6 t H1 locs ht hvm hw hB hz1 hk1 hS => ?_)
          try dsimp only at hw
          have jr_6 := hw
          have jur_6 := hw
          obtain ⟨hP1, hK1, hD1⟩ := hB
          rw [ht] at hP1
          have hK1 := va_K.moved hvm.symm hK1
          obtain ⟨hP, hD⟩ := va_join (wr := [(h0, .inr (7, [.ref qb])), (qb, .inl (cb, 16, .inr (.inr (.inr (.inr (fun _ => none))))))]) (w1 := [(r_6, .inr (ur_6.1, ur_6.2))]) hP hD [] [0, 1] rfl rfl (by decide) (by decide) hk1 hFc hP1 hD1
          clear hk1 hz1 ht hPc hDc hKc
          generalize H1 = H at hP hS ⊢
          have hP : va_P (dC, dI) vwCl [(h0, .inr (7, [.ref qb])), (qb, .inl (cb, 16, .inr (.inr (.inr (.inr (fun _ => none)))))), (r_6, .inr (ur_6.1, ur_6.2))] H := hP
          have hD : va_D A [(h0, .inr (7, [.ref qb])), (qb, .inl (cb, 16, .inr (.inr (.inr (.inr (fun _ => none)))))), (r_6, .inr (ur_6.1, ur_6.2))] := hD
          refine W.widen (k := 5) (n := 43) (Nat.le_of_ble_eq_true rfl) (Nat.le_of_ble_eq_true rfl) ?_
          refine W.eq (g2 := F0 m 63 ls [.ref r_6, .ref h0]) rfl ?_
          rcases jur_6 with er_6 | er_6 | er_6
          ·
            rw [er_6] at hP hD
            have hP : va_P (dC, dI) vwCl [(h0, .inr (7, [.ref qb])), (qb, .inl (cb, 16, .inr (.inr (.inr (.inr (fun _ => none)))))), (r_6, .inr (3, ur_6.2))] H := hP
            have hD : va_D A [(h0, .inr (7, [.ref qb])), (qb, .inl (cb, 16, .inr (.inr (.inr (.inr (fun _ => none)))))), (r_6, .inr (3, ur_6.2))] := hD
            have hPc := hP.sub (ws' := [(h0, .inr (7, [.ref qb])), (qb, .inl (cb, 16, .inr (.inr (.inr (.inr (fun _ => none)))))), (r_6, .inr (3, ur_6.2))]) [0, 1, 2] rfl
            have hDc := hD.sub (ws' := [(h0, .inr (7, [.ref qb])), (qb, .inl (cb, 16, .inr (.inr (.inr (.inr (fun _ => none)))))), (r_6, .inr (3, ur_6.2))]) [0, 1, 2] (by decide) rfl
            have hKc := hK.sub (tys' := [(cb, .object "KeyAtlas$Body")]) [0] rfl
            have hFc := va_free (wc := [(h0, .inr (7, [.ref qb])), (qb, .inl (cb, 16, .inr (.inr (.inr (.inr (fun _ => none)))))), (r_6, .inr (3, ur_6.2))]) hD hS hA [0, 1, 2] rfl
            have hZc := (hZ.kept hS.2.1).narrow hFc
            refine va_calli (va_runV (As := [.ref r_6]) (rest := []) ⟨hx, hb, hml, hown, hts⟩ (c_X7_settle_X2 l hlt dC dI H.size h0 qb cb r_6 ur_6.2) (cwV 1 hts gN_make_settle rfl rfl rfl (by decide +kernel) ⟨(Nat.le_of_ble_eq_true rfl), (Nat.le_of_ble_eq_true rfl)⟩) ⟨pk_blindX, va_recv hKc hPc (ci := 7) (q0 := 0) rfl rfl, pk_callX hPc hKc hDc hN hZc⟩ rfl rfl hl.1 rfl (lv_room (Nat.le_of_ble_eq_true rfl)) dX7_make_63 ⟨(Nat.le_of_ble_eq_true rfl), (Nat.le_of_ble_eq_true rfl)⟩) hS (fun q _ h => hFc q h) hFc (fun r_7 ur_7 t H1 locs ht hvm hw hB hz1 hk1 hS => ?_)
            try dsimp only at hw
            have jr_7 := hw
            obtain ⟨hP, hD⟩ := va_join (wr := []) (w1 := []) hP hD [0, 1, 2] [] rfl rfl (by decide) (by decide) hk1 hFc tx_P0 tx_D0
            clear hk1 hz1 ht hPc hDc hKc
            generalize H1 = H at hP hS ⊢
            have hP : va_P (dC, dI) vwCl [] H := hP
            have hD : va_D A [] := hD
            refine W.widen (k := 5) (n := 43) (Nat.le_of_ble_eq_true rfl) (Nat.le_of_ble_eq_true rfl) ?_
            refine W.eq (g2 := F0 m 66 ls [.int r_7]) rfl ?_
            refine W.widen (k := 6) (n := 49) (Nat.le_of_ble_eq_true rfl) (Nat.le_of_ble_eq_true rfl) ?_
            refine vx_ret ?_
            exact W.iret (v := r_7) hx hb hr (fun t ht hW => ⟨⟨r_7, (), rfl, ⟨jr_7, mk_yes (by omega) (by omega) (by omega) (mk_ry jr_4 (by assumption))⟩, trivial⟩, hS.F ht⟩) hS.2.2 dX7_make_66
          ·
            rw [er_6] at hP hD
            have hP : va_P (dC, dI) vwCl [(h0, .inr (7, [.ref qb])), (qb, .inl (cb, 16, .inr (.inr (.inr (.inr (fun _ => none)))))), (r_6, .inr (4, ur_6.2))] H := hP
            have hD : va_D A [(h0, .inr (7, [.ref qb])), (qb, .inl (cb, 16, .inr (.inr (.inr (.inr (fun _ => none)))))), (r_6, .inr (4, ur_6.2))] := hD
            have hPc := hP.sub (ws' := [(h0, .inr (7, [.ref qb])), (qb, .inl (cb, 16, .inr (.inr (.inr (.inr (fun _ => none)))))), (r_6, .inr (4, ur_6.2))]) [0, 1, 2] rfl
            have hDc := hD.sub (ws' := [(h0, .inr (7, [.ref qb])), (qb, .inl (cb, 16, .inr (.inr (.inr (.inr (fun _ => none)))))), (r_6, .inr (4, ur_6.2))]) [0, 1, 2] (by decide) rfl
            have hKc := hK.sub (tys' := [(cb, .object "KeyAtlas$Body")]) [0] rfl
            have hFc := va_free (wc := [(h0, .inr (7, [.ref qb])), (qb, .inl (cb, 16, .inr (.inr (.inr (.inr (fun _ => none)))))), (r_6, .inr (4, ur_6.2))]) hD hS hA [0, 1, 2] rfl
            have hZc := (hZ.kept hS.2.1).narrow hFc
            refine va_calli (va_runV (As := [.ref r_6]) (rest := []) ⟨hx, hb, hml, hown, hts⟩ (c_X7_settle_X4 l hlt dC dI H.size h0 qb cb r_6 ur_6.2) (cwV 1 hts gN_make_settle rfl rfl rfl (by decide +kernel) ⟨(Nat.le_of_ble_eq_true rfl), (Nat.le_of_ble_eq_true rfl)⟩) ⟨pk_blindX, va_recv hKc hPc (ci := 7) (q0 := 0) rfl rfl, pk_callX hPc hKc hDc hN hZc⟩ rfl rfl hl.1 rfl (lv_room (Nat.le_of_ble_eq_true rfl)) dX7_make_63 ⟨(Nat.le_of_ble_eq_true rfl), (Nat.le_of_ble_eq_true rfl)⟩) hS (fun q _ h => hFc q h) hFc (fun r_8 ur_8 t H1 locs ht hvm hw hB hz1 hk1 hS => ?_)
            try dsimp only at hw
            have jr_8 := hw
            obtain ⟨hP, hD⟩ := va_join (wr := []) (w1 := []) hP hD [0, 1, 2] [] rfl rfl (by decide) (by decide) hk1 hFc tx_P0 tx_D0
            clear hk1 hz1 ht hPc hDc hKc
            generalize H1 = H at hP hS ⊢
            have hP : va_P (dC, dI) vwCl [] H := hP
            have hD : va_D A [] := hD
            refine W.widen (k := 5) (n := 43) (Nat.le_of_ble_eq_true rfl) (Nat.le_of_ble_eq_true rfl) ?_
            refine W.eq (g2 := F0 m 66 ls [.int r_8]) rfl ?_
            refine W.widen (k := 6) (n := 49) (Nat.le_of_ble_eq_true rfl) (Nat.le_of_ble_eq_true rfl) ?_
            refine vx_ret ?_
            exact W.iret (v := r_8) hx hb hr (fun t ht hW => ⟨⟨r_8, (), rfl, ⟨jr_8, mk_yes (by omega) (by omega) (by omega) (mk_ry jr_4 (by assumption))⟩, trivial⟩, hS.F ht⟩) hS.2.2 dX7_make_66
          ·
            rw [er_6] at hP hD
            have hP : va_P (dC, dI) vwCl [(h0, .inr (7, [.ref qb])), (qb, .inl (cb, 16, .inr (.inr (.inr (.inr (fun _ => none)))))), (r_6, .inr (6, ur_6.2))] H := hP
            have hD : va_D A [(h0, .inr (7, [.ref qb])), (qb, .inl (cb, 16, .inr (.inr (.inr (.inr (fun _ => none)))))), (r_6, .inr (6, ur_6.2))] := hD
            have hPc := hP.sub (ws' := [(h0, .inr (7, [.ref qb])), (qb, .inl (cb, 16, .inr (.inr (.inr (.inr (fun _ => none)))))), (r_6, .inr (6, ur_6.2))]) [0, 1, 2] rfl
            have hDc := hD.sub (ws' := [(h0, .inr (7, [.ref qb])), (qb, .inl (cb, 16, .inr (.inr (.inr (.inr (fun _ => none)))))), (r_6, .inr (6, ur_6.2))]) [0, 1, 2] (by decide) rfl
            have hKc := hK.sub (tys' := [(cb, .object "KeyAtlas$Body")]) [0] rfl
            have hFc := va_free (wc := [(h0, .inr (7, [.ref qb])), (qb, .inl (cb, 16, .inr (.inr (.inr (.inr (fun _ => none)))))), (r_6, .inr (6, ur_6.2))]) hD hS hA [0, 1, 2] rfl
            have hZc := (hZ.kept hS.2.1).narrow hFc
            refine va_calli (va_runV (As := [.ref r_6]) (rest := []) ⟨hx, hb, hml, hown, hts⟩ (c_X7_settle_X6 l hlt dC dI H.size h0 qb cb r_6 ur_6.2) (cwV 1 hts gN_make_settle rfl rfl rfl (by decide +kernel) ⟨(Nat.le_of_ble_eq_true rfl), (Nat.le_of_ble_eq_true rfl)⟩) ⟨pk_blindX, va_recv hKc hPc (ci := 7) (q0 := 0) rfl rfl, pk_callX hPc hKc hDc hN hZc⟩ rfl rfl hl.1 rfl (lv_room (Nat.le_of_ble_eq_true rfl)) dX7_make_63 ⟨(Nat.le_of_ble_eq_true rfl), (Nat.le_of_ble_eq_true rfl)⟩) hS (fun q _ h => hFc q h) hFc (fun r_9 ur_9 t H1 locs ht hvm hw hB hz1 hk1 hS => ?_)
            try dsimp only at hw
            have jr_9 := hw
            obtain ⟨hP, hD⟩ := va_join (wr := []) (w1 := []) hP hD [0, 1, 2] [] rfl rfl (by decide) (by decide) hk1 hFc tx_P0 tx_D0
            clear hk1 hz1 ht hPc hDc hKc
            generalize H1 = H at hP hS ⊢
            have hP : va_P (dC, dI) vwCl [] H := hP
            have hD : va_D A [] := hD
            refine W.widen (k := 5) (n := 43) (Nat.le_of_ble_eq_true rfl) (Nat.le_of_ble_eq_true rfl) ?_
            refine W.eq (g2 := F0 m 66 ls [.int r_9]) rfl ?_
            refine W.widen (k := 6) (n := 49) (Nat.le_of_ble_eq_true rfl) (Nat.le_of_ble_eq_true rfl) ?_
            refine vx_ret ?_
            exact W.iret (v := r_9) hx hb hr (fun t ht hW => ⟨⟨r_9, (), rfl, ⟨jr_9, mk_yes (by omega) (by omega) (by omega) (mk_ry jr_4 (by assumption))⟩, trivial⟩, hS.F ht⟩) hS.2.2 dX7_make_66
        ·
          have ic_5 : r_4.toInt = 0 := tx_eq rfl (by decide) c_5
          obtain ⟨sa, hsa⟩ := hN.stX7_31
          exact vx_throwS hx hb hlt (own := RX7) (cls := "java/lang/IllegalArgumentException") (text := "a or b out of range") (names := ["java/lang/RuntimeException", "java/lang/Exception"]) hown (by decide +kernel) (by decide +kernel) hw0_ hw1_ hsa (tx_hat hN.xw (fun w h => hts w (at_X7_make_46 w h)) ng_RX7_19) og_RX7_19 hZ.1 hZ.2 hS (by rw [hml]; exact hl.1) dX7_make_46 dX7_make_49 dX7_make_50 dX7_make_52 dX7_make_55 (fun x hx9 => (htab x hx9).elim) (by decide) (by decide) (Nat.le_of_ble_eq_true rfl) (Nat.le_of_ble_eq_true rfl) hlocks (fun t hvm hz hq => ⟨(), trivial, Or.inl ⟨rfl, mk_no (by omega) (by omega) (by omega) (mk_rn jr_4 (by assumption))⟩, ⟨Nat.le_trans hS.1 hz, fun q h1 h2 => (hq q (Nat.lt_of_lt_of_le h1 hS.1)).trans (hS.2.1 q h1 h2)⟩⟩) hS.2.2 (Nat.le_of_ble_eq_true rfl) (Nat.le_of_ble_eq_true rfl)
      ·
        have ic_3 : p0.toInt = 0 := tx_eq rfl (by decide) c_3
        refine lv_iload_n hx hb dX7_make_23 rfl (lv_at hl 2 rfl) ?_
        refine lv_if_ge (tgt := 37) hx hb dX7_make_24 (by decide) (fun c_10 => ?_) (fun c_10 => ?_)
        ·
          have ic_10 : 0 ≤ p1.toInt := tx_le (by decide) rfl c_10
          refine lv_iload_n hx hb dX7_make_37 rfl (lv_at hl 1 rfl) ?_
          refine lv_iload_n hx hb dX7_make_38 rfl (lv_at hl 2 rfl) ?_
          refine lv_iload_n hx hb dX7_make_39 rfl (lv_at hl 3 rfl) ?_
          have hPc := hP.sub (ws' := []) [] rfl
          have hDc := hD.sub (ws' := []) [] (by decide) rfl
          have hKc := hK.sub (tys' := []) [] rfl
          have hFc := va_free (wc := []) hD hS hA [] rfl
          refine va_calli (va_runS (As := [.int p0, .int p1, .int p2]) (rest := []) ⟨hx, hb, hml, hown, hts⟩ (c_X7_areInRange l  dC dI s.heap.size p0 p1 p2) (va_cwS 3 hts gN_make_areInRange rfl rfl rfl (by decide +kernel) ⟨(Nat.le_of_ble_eq_true rfl), (Nat.le_of_ble_eq_true rfl)⟩) ⟨pk_blind, pk_call hPc hKc hDc⟩ rfl rfl hl.1 rfl (lv_room (Nat.le_of_ble_eq_true rfl)) dX7_make_40 ⟨(Nat.le_of_ble_eq_true rfl), (Nat.le_of_ble_eq_true rfl)⟩) hS (fun q _ h => hFc q h) hFc (fun r_11 ur_11 t H1 locs ht hvm hw hB hz1 hk1 hS => ?_)
          try dsimp only at hw
          have jr_11 := hw
          obtain ⟨hP, hD⟩ := va_join (wr := [(h0, .inr (7, [.ref qb])), (qb, .inl (cb, 16, .inr (.inr (.inr (.inr (fun _ => none))))))]) (w1 := []) hP hD [] [0, 1] rfl rfl (by decide) (by decide) hk1 hFc tx_P0 tx_D0
          clear hk1 hz1 ht hPc hDc hKc
          generalize H1 = H at hP hS ⊢
          have hP : va_P (dC, dI) vwCl [(h0, .inr (7, [.ref qb])), (qb, .inl (cb, 16, .inr (.inr (.inr (.inr (fun _ => none))))))] H := hP
          have hD : va_D A [(h0, .inr (7, [.ref qb])), (qb, .inl (cb, 16, .inr (.inr (.inr (.inr (fun _ => none))))))] := hD
          refine W.widen (k := 0) (n := 0) (Nat.le_of_ble_eq_true rfl) (Nat.le_of_ble_eq_true rfl) ?_
          refine W.eq (g2 := F0 m 43 ls [.int r_11]) rfl ?_
          refine lv_if_ne (tgt := 56) hx hb dX7_make_43 (by decide) (fun c_12 => ?_) (fun c_12 => ?_)
          ·
            have ic_12 : ¬ r_11.toInt = 0 := tx_ne rfl (by decide) c_12
            refine lv_aload_n hx hb dX7_make_56 rfl (lv_at hl 0 rfl) ?_
            refine lv_iload_n hx hb dX7_make_57 rfl (lv_at hl 1 rfl) ?_
            refine lv_iload_n hx hb dX7_make_58 rfl (lv_at hl 2 rfl) ?_
            refine lv_iload_n hx hb dX7_make_59 rfl (lv_at hl 3 rfl) ?_
            have hPc := hP.sub (ws' := []) [] rfl
            have hDc := hD.sub (ws' := []) [] (by decide) rfl
            have hKc := hK.sub (tys' := []) [] rfl
            have hFc := va_free (wc := []) hD hS hA [] rfl
            have hZc := (hZ.kept hS.2.1).narrow hFc
            refine va_callr (va_runS (As := [.int p0, .int p1, .int p2]) (rest := [.ref h0]) ⟨hx, hb, hml, hown, hts⟩ (c_X7_newMap l hlt dC dI H.size p0 p1 p2) (va_cwS 3 hts gN_make_newMap rfl rfl rfl (by decide +kernel) ⟨(Nat.le_of_ble_eq_true rfl), (Nat.le_of_ble_eq_true rfl)⟩) ⟨pk_blindX, pk_callX hPc hKc hDc hN hZc⟩ rfl rfl hl.1 rfl (lv_room (Nat.le_of_ble_eq_true rfl)) dX7_make_60 ⟨(Nat.le_of_ble_eq_true rfl), (Nat.le_of_ble_eq_true rfl)⟩) hS (fun q _ h => hFc q h) hFc (fun ur_13 r_13 t H1 locs ht hvm hw hB hz1 hk1 hS => ?_)
            try dsimp only at hw
            have jr_13 := hw
            have jur_13 := hw
            obtain ⟨hP1, hK1, hD1⟩ := hB
            rw [ht] at hP1
            have hK1 := va_K.moved hvm.symm hK1
            obtain ⟨hP, hD⟩ := va_join (wr := [(h0, .inr (7, [.ref qb])), (qb, .inl (cb, 16, .inr (.inr (.inr (.inr (fun _ => none))))))]) (w1 := [(r_13, .inr (ur_13.1, ur_13.2))]) hP hD [] [0, 1] rfl rfl (by decide) (by decide) hk1 hFc hP1 hD1
            clear hk1 hz1 ht hPc hDc hKc
            generalize H1 = H at hP hS ⊢
            have hP : va_P (dC, dI) vwCl [(h0, .inr (7, [.ref qb])), (qb, .inl (cb, 16, .inr (.inr (.inr (.inr (fun _ => none)))))), (r_13, .inr (ur_13.1, ur_13.2))] H := hP
            have hD : va_D A [(h0, .inr (7, [.ref qb])), (qb, .inl (cb, 16, .inr (.inr (.inr (.inr (fun _ => none)))))), (r_13, .inr (ur_13.1, ur_13.2))] := hD
            refine W.widen (k := 5) (n := 43) (Nat.le_of_ble_eq_true rfl) (Nat.le_of_ble_eq_true rfl) ?_
            refine W.eq (g2 := F0 m 63 ls [.ref r_13, .ref h0]) rfl ?_
            rcases jur_13 with er_13 | er_13 | er_13
            ·
              rw [er_13] at hP hD
              have hP : va_P (dC, dI) vwCl [(h0, .inr (7, [.ref qb])), (qb, .inl (cb, 16, .inr (.inr (.inr (.inr (fun _ => none)))))), (r_13, .inr (3, ur_13.2))] H := hP
              have hD : va_D A [(h0, .inr (7, [.ref qb])), (qb, .inl (cb, 16, .inr (.inr (.inr (.inr (fun _ => none)))))), (r_13, .inr (3, ur_13.2))] := hD
              have hPc := hP.sub (ws' := [(h0, .inr (7, [.ref qb])), (qb, .inl (cb, 16, .inr (.inr (.inr (.inr (fun _ => none)))))), (r_13, .inr (3, ur_13.2))]) [0, 1, 2] rfl
              have hDc := hD.sub (ws' := [(h0, .inr (7, [.ref qb])), (qb, .inl (cb, 16, .inr (.inr (.inr (.inr (fun _ => none)))))), (r_13, .inr (3, ur_13.2))]) [0, 1, 2] (by decide) rfl
              have hKc := hK.sub (tys' := [(cb, .object "KeyAtlas$Body")]) [0] rfl
              have hFc := va_free (wc := [(h0, .inr (7, [.ref qb])), (qb, .inl (cb, 16, .inr (.inr (.inr (.inr (fun _ => none)))))), (r_13, .inr (3, ur_13.2))]) hD hS hA [0, 1, 2] rfl
              have hZc := (hZ.kept hS.2.1).narrow hFc
              refine va_calli (va_runV (As := [.ref r_13]) (rest := []) ⟨hx, hb, hml, hown, hts⟩ (c_X7_settle_X2 l hlt dC dI H.size h0 qb cb r_13 ur_13.2) (cwV 1 hts gN_make_settle rfl rfl rfl (by decide +kernel) ⟨(Nat.le_of_ble_eq_true rfl), (Nat.le_of_ble_eq_true rfl)⟩) ⟨pk_blindX, va_recv hKc hPc (ci := 7) (q0 := 0) rfl rfl, pk_callX hPc hKc hDc hN hZc⟩ rfl rfl hl.1 rfl (lv_room (Nat.le_of_ble_eq_true rfl)) dX7_make_63 ⟨(Nat.le_of_ble_eq_true rfl), (Nat.le_of_ble_eq_true rfl)⟩) hS (fun q _ h => hFc q h) hFc (fun r_14 ur_14 t H1 locs ht hvm hw hB hz1 hk1 hS => ?_)
              try dsimp only at hw
              have jr_14 := hw
              obtain ⟨hP, hD⟩ := va_join (wr := []) (w1 := []) hP hD [0, 1, 2] [] rfl rfl (by decide) (by decide) hk1 hFc tx_P0 tx_D0
              clear hk1 hz1 ht hPc hDc hKc
              generalize H1 = H at hP hS ⊢
              have hP : va_P (dC, dI) vwCl [] H := hP
              have hD : va_D A [] := hD
              refine W.widen (k := 5) (n := 43) (Nat.le_of_ble_eq_true rfl) (Nat.le_of_ble_eq_true rfl) ?_
              refine W.eq (g2 := F0 m 66 ls [.int r_14]) rfl ?_
              refine W.widen (k := 6) (n := 49) (Nat.le_of_ble_eq_true rfl) (Nat.le_of_ble_eq_true rfl) ?_
              refine vx_ret ?_
              exact W.iret (v := r_14) hx hb hr (fun t ht hW => ⟨⟨r_14, (), rfl, ⟨jr_14, mk_yes (by omega) (by omega) (by omega) (mk_ry jr_11 (by assumption))⟩, trivial⟩, hS.F ht⟩) hS.2.2 dX7_make_66
            ·
              rw [er_13] at hP hD
              have hP : va_P (dC, dI) vwCl [(h0, .inr (7, [.ref qb])), (qb, .inl (cb, 16, .inr (.inr (.inr (.inr (fun _ => none)))))), (r_13, .inr (4, ur_13.2))] H := hP
              have hD : va_D A [(h0, .inr (7, [.ref qb])), (qb, .inl (cb, 16, .inr (.inr (.inr (.inr (fun _ => none)))))), (r_13, .inr (4, ur_13.2))] := hD
              have hPc := hP.sub (ws' := [(h0, .inr (7, [.ref qb])), (qb, .inl (cb, 16, .inr (.inr (.inr (.inr (fun _ => none)))))), (r_13, .inr (4, ur_13.2))]) [0, 1, 2] rfl
              have hDc := hD.sub (ws' := [(h0, .inr (7, [.ref qb])), (qb, .inl (cb, 16, .inr (.inr (.inr (.inr (fun _ => none)))))), (r_13, .inr (4, ur_13.2))]) [0, 1, 2] (by decide) rfl
              have hKc := hK.sub (tys' := [(cb, .object "KeyAtlas$Body")]) [0] rfl
              have hFc := va_free (wc := [(h0, .inr (7, [.ref qb])), (qb, .inl (cb, 16, .inr (.inr (.inr (.inr (fun _ => none)))))), (r_13, .inr (4, ur_13.2))]) hD hS hA [0, 1, 2] rfl
              have hZc := (hZ.kept hS.2.1).narrow hFc
              refine va_calli (va_runV (As := [.ref r_13]) (rest := []) ⟨hx, hb, hml, hown, hts⟩ (c_X7_settle_X4 l hlt dC dI H.size h0 qb cb r_13 ur_13.2) (cwV 1 hts gN_make_settle rfl rfl rfl (by decide +kernel) ⟨(Nat.le_of_ble_eq_true rfl), (Nat.le_of_ble_eq_true rfl)⟩) ⟨pk_blindX, va_recv hKc hPc (ci := 7) (q0 := 0) rfl rfl, pk_callX hPc hKc hDc hN hZc⟩ rfl rfl hl.1 rfl (lv_room (Nat.le_of_ble_eq_true rfl)) dX7_make_63 ⟨(Nat.le_of_ble_eq_true rfl), (Nat.le_of_ble_eq_true rfl)⟩) hS (fun q _ h => hFc q h) hFc (fun r_15 ur_15 t H1 locs ht hvm hw hB hz1 hk1 hS => ?_)
              try dsimp only at hw
              have jr_15 := hw
              obtain ⟨hP, hD⟩ := va_join (wr := []) (w1 := []) hP hD [0, 1, 2] [] rfl rfl (by decide) (by decide) hk1 hFc tx_P0 tx_D0
              clear hk1 hz1 ht hPc hDc hKc
              generalize H1 = H at hP hS ⊢
              have hP : va_P (dC, dI) vwCl [] H := hP
              have hD : va_D A [] := hD
              refine W.widen (k := 5) (n := 43) (Nat.le_of_ble_eq_true rfl) (Nat.le_of_ble_eq_true rfl) ?_
              refine W.eq (g2 := F0 m 66 ls [.int r_15]) rfl ?_
              refine W.widen (k := 6) (n := 49) (Nat.le_of_ble_eq_true rfl) (Nat.le_of_ble_eq_true rfl) ?_
              refine vx_ret ?_
              exact W.iret (v := r_15) hx hb hr (fun t ht hW => ⟨⟨r_15, (), rfl, ⟨jr_15, mk_yes (by omega) (by omega) (by omega) (mk_ry jr_11 (by assumption))⟩, trivial⟩, hS.F ht⟩) hS.2.2 dX7_make_66
            ·
              rw [er_13] at hP hD
              have hP : va_P (dC, dI) vwCl [(h0, .inr (7, [.ref qb])), (qb, .inl (cb, 16, .inr (.inr (.inr (.inr (fun _ => none)))))), (r_13, .inr (6, ur_13.2))] H := hP
              have hD : va_D A [(h0, .inr (7, [.ref qb])), (qb, .inl (cb, 16, .inr (.inr (.inr (.inr (fun _ => none)))))), (r_13, .inr (6, ur_13.2))] := hD
              have hPc := hP.sub (ws' := [(h0, .inr (7, [.ref qb])), (qb, .inl (cb, 16, .inr (.inr (.inr (.inr (fun _ => none)))))), (r_13, .inr (6, ur_13.2))]) [0, 1, 2] rfl
              have hDc := hD.sub (ws' := [(h0, .inr (7, [.ref qb])), (qb, .inl (cb, 16, .inr (.inr (.inr (.inr (fun _ => none)))))), (r_13, .inr (6, ur_13.2))]) [0, 1, 2] (by decide) rfl
              have hKc := hK.sub (tys' := [(cb, .object "KeyAtlas$Body")]) [0] rfl
              have hFc := va_free (wc := [(h0, .inr (7, [.ref qb])), (qb, .inl (cb, 16, .inr (.inr (.inr (.inr (fun _ => none)))))), (r_13, .inr (6, ur_13.2))]) hD hS hA [0, 1, 2] rfl
              have hZc := (hZ.kept hS.2.1).narrow hFc
              refine va_calli (va_runV (As := [.ref r_13]) (rest := []) ⟨hx, hb, hml, hown, hts⟩ (c_X7_settle_X6 l hlt dC dI H.size h0 qb cb r_13 ur_13.2) (cwV 1 hts gN_make_settle rfl rfl rfl (by decide +kernel) ⟨(Nat.le_of_ble_eq_true rfl), (Nat.le_of_ble_eq_true rfl)⟩) ⟨pk_blindX, va_recv hKc hPc (ci := 7) (q0 := 0) rfl rfl, pk_callX hPc hKc hDc hN hZc⟩ rfl rfl hl.1 rfl (lv_room (Nat.le_of_ble_eq_true rfl)) dX7_make_63 ⟨(Nat.le_of_ble_eq_true rfl), (Nat.le_of_ble_eq_true rfl)⟩) hS (fun q _ h => hFc q h) hFc (fun r_16 ur_16 t H1 locs ht hvm hw hB hz1 hk1 hS => ?_)
              try dsimp only at hw
              have jr_16 := hw
              obtain ⟨hP, hD⟩ := va_join (wr := []) (w1 := []) hP hD [0, 1, 2] [] rfl rfl (by decide) (by decide) hk1 hFc tx_P0 tx_D0
              clear hk1 hz1 ht hPc hDc hKc
              generalize H1 = H at hP hS ⊢
              have hP : va_P (dC, dI) vwCl [] H := hP
              have hD : va_D A [] := hD
              refine W.widen (k := 5) (n := 43) (Nat.le_of_ble_eq_true rfl) (Nat.le_of_ble_eq_true rfl) ?_
              refine W.eq (g2 := F0 m 66 ls [.int r_16]) rfl ?_
              refine W.widen (k := 6) (n := 49) (Nat.le_of_ble_eq_true rfl) (Nat.le_of_ble_eq_true rfl) ?_
              refine vx_ret ?_
              exact W.iret (v := r_16) hx hb hr (fun t ht hW => ⟨⟨r_16, (), rfl, ⟨jr_16, mk_yes (by omega) (by omega) (by omega) (mk_ry jr_11 (by assumption))⟩, trivial⟩, hS.F ht⟩) hS.2.2 dX7_make_66
          ·
            have ic_12 : r_11.toInt = 0 := tx_eq rfl (by decide) c_12
            obtain ⟨sa, hsa⟩ := hN.stX7_31
            exact vx_throwS hx hb hlt (own := RX7) (cls := "java/lang/IllegalArgumentException") (text := "a or b out of range") (names := ["java/lang/RuntimeException", "java/lang/Exception"]) hown (by decide +kernel) (by decide +kernel) hw0_ hw1_ hsa (tx_hat hN.xw (fun w h => hts w (at_X7_make_46 w h)) ng_RX7_19) og_RX7_19 hZ.1 hZ.2 hS (by rw [hml]; exact hl.1) dX7_make_46 dX7_make_49 dX7_make_50 dX7_make_52 dX7_make_55 (fun x hx9 => (htab x hx9).elim) (by decide) (by decide) (Nat.le_of_ble_eq_true rfl) (Nat.le_of_ble_eq_true rfl) hlocks (fun t hvm hz hq => ⟨(), trivial, Or.inl ⟨rfl, mk_no (by omega) (by omega) (by omega) (mk_rn jr_11 (by assumption))⟩, ⟨Nat.le_trans hS.1 hz, fun q h1 h2 => (hq q (Nat.lt_of_lt_of_le h1 hS.1)).trans (hS.2.1 q h1 h2)⟩⟩) hS.2.2 (Nat.le_of_ble_eq_true rfl) (Nat.le_of_ble_eq_true rfl)
        ·
          have ic_10 : p1.toInt < 0 := tx_nle (by decide) rfl c_10
          obtain ⟨sa, hsa⟩ := hN.stX7_24
          exact vx_throwS hx hb hlt (own := RX7) (cls := "java/lang/NegativeArraySizeException") (text := "capacity below 0") (names := ["java/lang/RuntimeException", "java/lang/Exception"]) hown (by decide +kernel) (by decide +kernel) hw2_ hw3_ hsa (tx_hat hN.xw (fun w h => hts w (at_X7_make_27 w h)) ng_RX7_26) og_RX7_26 hZ.1 hZ.2 hS (by rw [hml]; exact hl.1) dX7_make_27 dX7_make_30 dX7_make_31 dX7_make_33 dX7_make_36 (fun x hx9 => (htab x hx9).elim) (by decide) (by decide) (Nat.le_of_ble_eq_true rfl) (Nat.le_of_ble_eq_true rfl) hlocks (fun t hvm hz hq => ⟨(), trivial, Or.inr ⟨rfl, mk_b (by omega) (by omega)⟩, ⟨Nat.le_trans hS.1 hz, fun q h1 h2 => (hq q (Nat.lt_of_lt_of_le h1 hS.1)).trans (hS.2.1 q h1 h2)⟩⟩) hS.2.2 (Nat.le_of_ble_eq_true rfl) (Nat.le_of_ble_eq_true rfl)
    ·
      have ic_2 : 2 < p0.toInt := tx_nle rfl (by decide) c_2
      obtain ⟨sa, hsa⟩ := hN.stX7_17
      exact vx_throwS hx hb hlt (own := RX7) (cls := "java/lang/IllegalArgumentException") (text := "no such kind") (names := ["java/lang/RuntimeException", "java/lang/Exception"]) hown (by decide +kernel) (by decide +kernel) hw0_ hw1_ hsa (tx_hat hN.xw (fun w h => hts w (at_X7_make_9 w h)) ng_RX7_19) og_RX7_19 hZ.1 hZ.2 hS (by rw [hml]; exact hl.1) dX7_make_9 dX7_make_12 dX7_make_13 dX7_make_15 dX7_make_18 (fun x hx9 => (htab x hx9).elim) (by decide) (by decide) (Nat.le_of_ble_eq_true rfl) (Nat.le_of_ble_eq_true rfl) hlocks (fun t hvm hz hq => ⟨(), trivial, Or.inl ⟨rfl, mk_a (by omega)⟩, ⟨Nat.le_trans hS.1 hz, fun q h1 h2 => (hq q (Nat.lt_of_lt_of_le h1 hS.1)).trans (hS.2.1 q h1 h2)⟩⟩) hS.2.2 (Nat.le_of_ble_eq_true rfl) (Nat.le_of_ble_eq_true rfl)
