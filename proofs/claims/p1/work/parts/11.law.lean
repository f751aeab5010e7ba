set_option maxHeartbeats 8000000 in
set_option maxRecDepth 100000 in
/-- the law, from its entry -/
theorem whole_start {p : Program} {e : Env} {s : State} {m : MethodId} {below : List Frame} {meth : Method} {c : Code} (l : Launch) (hlt : l.stackTraces = false) {b L : Nat} {xs : Nat → Int32} (hL : L ≤ 5) (C0 : lw_At p s m meth c b L xs) : W p l e room_1 s m #[Value.ref b] below meth c s.heap [] 0 0 (lw_Z below #[Value.ref b] s) (entryFrame m ([Value.ref b] : List Value).toArray 8) := by
  obtain ⟨hx, hb, hr, hml, hown, hts, hX, hbl, hlocks, hgv⟩ := id C0
  have hown : s.vm.findClass RL = some m.cls := hown
  have hgf := flat_of_before _ hgv
  obtain ⟨dC, dI, hKc0⟩ := p1_known hts
  have hN : p_N s := p1_N hts hgf
  have hZ : p_Z (fun q : Nat => s.heap.size ≤ q) s s.heap := p1_Z hts hgf
  obtain ⟨A, hAe⟩ : ∃ A : Nat → Prop, A = (fun q : Nat => s.heap.size ≤ q) := ⟨_, rfl⟩
  rw [← hAe] at hZ
  have hA : ∀ q : Nat, s.heap.size ≤ q → A q := fun q h => by rw [hAe]; exact h
  have hbA : ¬ A b := by rw [hAe]; exact Nat.not_le.mpr hbl
  have hS : va_S A s.heap s.heap [] := va_S.rf
  have hK : va_K (dC, dI) vwCl [] s := ⟨hKc0, fun k q h => by simp at h⟩
  have hP : va_P (dC, dI) vwCl [] s.heap := tx_P0
  have hD : va_D A [] := tx_D0
  have hl := lv_entry ([.ref b]) (n := 8) (Nat.le_of_ble_eq_true rfl)
  rw [lg_entry_eq]
  generalize (lg_sl ([.ref b]) ++ List.replicate (8 - (lg_sl ([.ref b])).length) Slot.unset).toArray = ls at hl ⊢
  have hl : lv_has ls 8 [(0, .ref b)] := hl
  have hw0_ := hts (.classLink RL 8 RX7) (by decide +kernel)
  have hw1_ := hts (.instantiable RX7 1) (by decide +kernel)
  have hw2_ := hts (.initialized RX7) (by decide +kernel)
  have hw3_ := hts (.methodLink RL 52 yX7_init) (by decide +kernel)
  have hw4_ := hts (.instanceMethod yX7_init) (by decide +kernel)
  have hw5_ := hts (.classLink RL 53 RX8) (by decide +kernel)
  have hw6_ := hts (.instantiable RX8 17) (by decide +kernel)
  have hw7_ := hts (.initialized RX8) (by decide +kernel)
  have hw8_ := hts (.methodLink RL 55 yX8_init) (by decide +kernel)
  have hw9_ := hts (.instanceMethod yX8_init) (by decide +kernel)
  have hw10_ := hts (.arrayClass .long) (by decide +kernel)
  have hi0_ : ∀ w ∈ u_ws RX7 TX7 1, w ∈ lw_tbl := by decide +kernel
  have hi1_ : ∀ w ∈ u_ws RX8 TX8 17, w ∈ lw_tbl := by decide +kernel
  refine va_new (ci := 7) (fs := [.null]) (C := RX7) (T := TX7) (N := 1) hx hb hts hi0_ tyX7 tyX7_ok hown hw0_ hw1_ hw2_ hK hP hD hS hA rfl (by decide +kernel) (Nat.le_of_ble_eq_true rfl) (Nat.le_of_ble_eq_true rfl) dL_law_0 (fun q_1 H hP hD hS => ?_)
  have hP : va_P (dC, dI) vwCl [(q_1, .inr (7, [.null]))] H := hP
  have hD : va_D A [(q_1, .inr (7, [.null]))] := hD
  refine W.widen (k := 1) (n := 1) (Nat.le_of_ble_eq_true rfl) (Nat.le_of_ble_eq_true rfl) ?_
  refine lv_dup hx hb dL_law_3 rfl ?_
  have hPc := hP.sub (ws' := [(q_1, .inr (7, [.null]))]) [0] rfl
  have hDc := hD.sub (ws' := [(q_1, .inr (7, [.null]))]) [0] (by decide) rfl
  have hKc := hK.sub (tys' := []) [] rfl
  have hFc := va_free (wc := [(q_1, .inr (7, [.null]))]) hD hS hA [0] rfl
  have hZc := (hZ.kept hS.2.1).narrow hFc
  refine va_callv (va_runI (As := []) (rest := [.ref q_1]) ⟨hx, hb, hml, hown, hts⟩ (c_X7_init l hlt dC dI H.size q_1) (cwI 0 hts gP_law_X7_init rfl rfl rfl hw2_ hw3_ hw4_ rfl (by decide +kernel) ⟨(Nat.le_of_ble_eq_true rfl), (Nat.le_of_ble_eq_true rfl)⟩) ⟨pk_blindX, pk_callX hPc hKc hDc hN hZc⟩ rfl rfl hl.1 rfl (lv_room (Nat.le_of_ble_eq_true rfl)) dL_law_4 ⟨(Nat.le_of_ble_eq_true rfl), (Nat.le_of_ble_eq_true rfl)⟩) hS (fun q _ h => hFc q h) hFc (fun ur_2 t H1 locs ht hvm hw hB hz1 hk1 hS => ?_)
  try dsimp only at hw
  have jr_2 := hw
  obtain ⟨qb, cb, hP1, hK1, hD1⟩ := hB
  rw [ht] at hP1
  have hK1 := va_K.moved hvm.symm hK1
  obtain ⟨hP, hD⟩ := va_join (wr := []) (w1 := [(q_1, .inr (7, [.ref qb])), (qb, .inl (cb, 16, .inr (.inr (.inr (.inr (fun _ => none))))))]) hP hD [0] [] rfl rfl (by decide) (by decide) hk1 hFc hP1 hD1
  have hK := hK.app hK1
  have hK : va_K (dC, dI) vwCl [(cb, .object "KeyAtlas$Body")] s := hK
  clear hk1 hz1 ht hPc hDc hKc
  generalize H1 = H at hP hS ⊢
  have hP : va_P (dC, dI) vwCl [(q_1, .inr (7, [.ref qb])), (qb, .inl (cb, 16, .inr (.inr (.inr (.inr (fun _ => none))))))] H := hP
  have hD : va_D A [(q_1, .inr (7, [.ref qb])), (qb, .inl (cb, 16, .inr (.inr (.inr (.inr (fun _ => none))))))] := hD
  refine W.widen (k := 2) (n := 17) (Nat.le_of_ble_eq_true rfl) (Nat.le_of_ble_eq_true rfl) ?_
  refine W.eq (g2 := F0 m 7 ls [.ref q_1]) rfl ?_
  refine lv_astore_n (lv' := [(1, .ref q_1), (0, .ref b)]) hx hb dL_law_7 rfl hl (by decide) rfl (fun ls hl => ?_)
  refine va_new (ci := 8) (fs := [.int 0, .null, .null, .null, .null, .null, .null, .null, .null, .null, .null, .null, .null, .null, .null, .null, .null]) (C := RX8) (T := TX8) (N := 17) hx hb hts hi1_ tyX8 tyX8_ok hown hw5_ hw6_ hw7_ hK hP hD hS hA rfl (by decide +kernel) (Nat.le_of_ble_eq_true rfl) (Nat.le_of_ble_eq_true rfl) dL_law_8 (fun q_3 H hP hD hS => ?_)
  have hP : va_P (dC, dI) vwCl [(q_1, .inr (7, [.ref qb])), (qb, .inl (cb, 16, .inr (.inr (.inr (.inr (fun _ => none)))))), (q_3, .inr (8, [.int 0, .null, .null, .null, .null, .null, .null, .null, .null, .null, .null, .null, .null, .null, .null, .null, .null]))] H := hP
  have hD : va_D A [(q_1, .inr (7, [.ref qb])), (qb, .inl (cb, 16, .inr (.inr (.inr (.inr (fun _ => none)))))), (q_3, .inr (8, [.int 0, .null, .null, .null, .null, .null, .null, .null, .null, .null, .null, .null, .null, .null, .null, .null, .null]))] := hD
  refine W.widen (k := 3) (n := 34) (Nat.le_of_ble_eq_true rfl) (Nat.le_of_ble_eq_true rfl) ?_
  refine lv_dup hx hb dL_law_11 rfl ?_
  have hPc := hP.sub (ws' := [(q_3, .inr (8, [.int 0, .null, .null, .null, .null, .null, .null, .null, .null, .null, .null, .null, .null, .null, .null, .null, .null]))]) [2] rfl
  have hDc := hD.sub (ws' := [(q_3, .inr (8, [.int 0, .null, .null, .null, .null, .null, .null, .null, .null, .null, .null, .null, .null, .null, .null, .null, .null]))]) [2] (by decide) rfl
  have hKc := hK.sub (tys' := []) [] rfl
  have hFc := va_free (wc := [(q_3, .inr (8, [.int 0, .null, .null, .null, .null, .null, .null, .null, .null, .null, .null, .null, .null, .null, .null, .null, .null]))]) hD hS hA [2] rfl
  refine va_callv (va_runI (As := []) (rest := [.ref q_3]) ⟨hx, hb, hml, hown, hts⟩ (c_X8_init l  dC dI H.size q_3) (cwI 0 hts gP_law_X8_init rfl rfl rfl hw7_ hw8_ hw9_ rfl (by decide +kernel) ⟨(Nat.le_of_ble_eq_true rfl), (Nat.le_of_ble_eq_true rfl)⟩) ⟨pk_blind, pk_call hPc hKc hDc⟩ rfl rfl hl.1 rfl (lv_room (Nat.le_of_ble_eq_true rfl)) dL_law_12 ⟨(Nat.le_of_ble_eq_true rfl), (Nat.le_of_ble_eq_true rfl)⟩) hS (fun q _ h => hFc q h) hFc (fun ur_4 t H1 locs ht hvm hw hB hz1 hk1 hS => ?_)
  try dsimp only at hw
  have jr_4 := hw
  obtain ⟨q1, c1, q3, c3, q4, c4, q5, c5, q6, c6, q7, c7, q8, c8, v2, v9, v10, v11, v12, v13, v14, v15, v16, hP1, hK1, hD1⟩ := hB
  rw [ht] at hP1
  have hK1 := va_K.moved hvm.symm hK1
  obtain ⟨hP, hD⟩ := va_join (wr := [(q_1, .inr (7, [.ref qb])), (qb, .inl (cb, 16, .inr (.inr (.inr (.inr (fun _ => none))))))]) (w1 := [(q_3, .inr (8, [.int 0, .ref q1, v2, .ref q3, .ref q4, .ref q5, .ref q6, .ref q7, .ref q8, v9, v10, v11, v12, v13, v14, v15, v16])), (q1, .inl (c1, 16, .inl (fun _ => (0 : Int32)))), (q3, .inl (c3, 16, .inl (fun _ => (0 : Int32)))), (q4, .inl (c4, 16, .inl (fun _ => (0 : Int32)))), (q5, .inl (c5, 16, .inl (fun _ => (0 : Int32)))), (q6, .inl (c6, 16, .inl (fun _ => (0 : Int32)))), (q7, .inl (c7, 16, .inl (fun _ => (0 : Int32)))), (q8, .inl (c8, 16, .inl (fun _ => (0 : Int32))))]) hP hD [2] [0, 1] rfl rfl (by decide) (by decide) hk1 hFc hP1 hD1
  have hK := hK.app hK1
  have hK : va_K (dC, dI) vwCl [(cb, .object "KeyAtlas$Body"), (c1, .int), (c3, .int), (c4, .int), (c5, .int), (c6, .int), (c7, .int), (c8, .int)] s := hK
  clear hk1 hz1 ht hPc hDc hKc
  generalize H1 = H at hP hS ⊢
  have hP : va_P (dC, dI) vwCl [(q_1, .inr (7, [.ref qb])), (qb, .inl (cb, 16, .inr (.inr (.inr (.inr (fun _ => none)))))), (q_3, .inr (8, [.int 0, .ref q1, v2, .ref q3, .ref q4, .ref q5, .ref q6, .ref q7, .ref q8, v9, v10, v11, v12, v13, v14, v15, v16])), (q1, .inl (c1, 16, .inl (fun _ => (0 : Int32)))), (q3, .inl (c3, 16, .inl (fun _ => (0 : Int32)))), (q4, .inl (c4, 16, .inl (fun _ => (0 : Int32)))), (q5, .inl (c5, 16, .inl (fun _ => (0 : Int32)))), (q6, .inl (c6, 16, .inl (fun _ => (0 : Int32)))), (q7, .inl (c7, 16, .inl (fun _ => (0 : Int32)))), (q8, .inl (c8, 16, .inl (fun _ => (0 : Int32))))] H := hP
  have hD : va_D A [(q_1, .inr (7, [.ref qb])), (qb, .inl (cb, 16, .inr (.inr (.inr (.inr (fun _ => none)))))), (q_3, .inr (8, [.int 0, .ref q1, v2, .ref q3, .ref q4, .ref q5, .ref q6, .ref q7, .ref q8, v9, v10, v11, v12, v13, v14, v15, v16])), (q1, .inl (c1, 16, .inl (fun _ => (0 : Int32)))), (q3, .inl (c3, 16, .inl (fun _ => (0 : Int32)))), (q4, .inl (c4, 16, .inl (fun _ => (0 : Int32)))), (q5, .inl (c5, 16, .inl (fun _ => (0 : Int32)))), (q6, .inl (c6, 16, .inl (fun _ => (0 : Int32)))), (q7, .inl (c7, 16, .inl (fun _ => (0 : Int32)))), (q8, .inl (c8, 16, .inl (fun _ => (0 : Int32))))] := hD
  refine W.widen (k := 19) (n := 73522) (Nat.le_of_ble_eq_true rfl) (Nat.le_of_ble_eq_true rfl) ?_
  refine W.eq (g2 := F0 m 15 ls [.ref q_3]) rfl ?_
  refine lv_astore_n (lv' := [(2, .ref q_3), (1, .ref q_1), (0, .ref b)]) hx hb dL_law_15 rfl hl (by decide) rfl (fun ls hl => ?_)
  refine lv_iconst (v := 1) hx hb dL_law_16 (by decide) ?_
  refine va_newa (atype := .long) (ty := .long) (n := 1) (N' := 1) (a0 := (1, .inr (.inl (fun _ => (0 : Int64))))) hx hb hw10_ rfl hK hP hD hS hA (fun _ => rfl) (by decide) (by decide) (by decide) (Nat.le_of_ble_eq_true rfl) (Nat.le_of_ble_eq_true rfl) dL_law_17 (fun q_5 cA_6 H hK hP hD hS => ?_)
  have hK : va_K (dC, dI) vwCl [(cb, .object "KeyAtlas$Body"), (c1, .int), (c3, .int), (c4, .int), (c5, .int), (c6, .int), (c7, .int), (c8, .int), (cA_6, .long)] s := hK
  have hP : va_P (dC, dI) vwCl [(q_1, .inr (7, [.ref qb])), (qb, .inl (cb, 16, .inr (.inr (.inr (.inr (fun _ => none)))))), (q_3, .inr (8, [.int 0, .ref q1, v2, .ref q3, .ref q4, .ref q5, .ref q6, .ref q7, .ref q8, v9, v10, v11, v12, v13, v14, v15, v16])), (q1, .inl (c1, 16, .inl (fun _ => (0 : Int32)))), (q3, .inl (c3, 16, .inl (fun _ => (0 : Int32)))), (q4, .inl (c4, 16, .inl (fun _ => (0 : Int32)))), (q5, .inl (c5, 16, .inl (fun _ => (0 : Int32)))), (q6, .inl (c6, 16, .inl (fun _ => (0 : Int32)))), (q7, .inl (c7, 16, .inl (fun _ => (0 : Int32)))), (q8, .inl (c8, 16, .inl (fun _ => (0 : Int32)))), (q_5, .inl (cA_6, 1, .inr (.inl (fun _ => (0 : Int64)))))] H := hP
  have hD : va_D A [(q_1, .inr (7, [.ref qb])), (qb, .inl (cb, 16, .inr (.inr (.inr (.inr (fun _ => none)))))), (q_3, .inr (8, [.int 0, .ref q1, v2, .ref q3, .ref q4, .ref q5, .ref q6, .ref q7, .ref q8, v9, v10, v11, v12, v13, v14, v15, v16])), (q1, .inl (c1, 16, .inl (fun _ => (0 : Int32)))), (q3, .inl (c3, 16, .inl (fun _ => (0 : Int32)))), (q4, .inl (c4, 16, .inl (fun _ => (0 : Int32)))), (q5, .inl (c5, 16, .inl (fun _ => (0 : Int32)))), (q6, .inl (c6, 16, .inl (fun _ => (0 : Int32)))), (q7, .inl (c7, 16, .inl (fun _ => (0 : Int32)))), (q8, .inl (c8, 16, .inl (fun _ => (0 : Int32)))), (q_5, .inl (cA_6, 1, .inr (.inl (fun _ => (0 : Int64)))))] := hD
  refine W.widen (k := 20) (n := 73523) (Nat.le_of_ble_eq_true rfl) (Nat.le_of_ble_eq_true rfl) ?_
  refine lv_astore_n (lv' := [(3, .ref q_5), (2, .ref q_3), (1, .ref q_1), (0, .ref b)]) hx hb dL_law_19 rfl hl (by decide) rfl (fun ls hl => ?_)
  refine lv_iconst (v := 0) hx hb dL_law_20 (by decide) ?_
  refine lv_istore (lv' := [(4, .int 0), (3, .ref q_5), (2, .ref q_3), (1, .ref q_1), (0, .ref b)]) hx hb dL_law_21 hl (by decide) rfl (fun ls hl => ?_)
  rcases (show L < 5 ∨ L = 5 by omega) with hL5 | hL5
  ·
    refine lv_iload hx hb dL_law_23 (lv_at hl 0 rfl) ?_
    refine lv_aload_n hx hb dL_law_25 rfl (lv_at hl 4 rfl) ?_
    refine va_slen hx hb hX hbl hbA hS dL_law_26 ?_
    refine lv_iconst (v := 5) hx hb dL_law_27 (by decide) ?_
    refine lv_isub hx hb dL_law_28 ?_
    refine lv_icmp_gt (tgt := 679) hx hb dL_law_29 (by decide) (fun c_7 => ?_) (fun c_7 => absurd (by rcases (show L = 0 ∨ L = 1 ∨ L = 2 ∨ L = 3 ∨ L = 4 by omega) with rfl | rfl | rfl | rfl | rfl <;> decide) c_7)
    refine lv_iconst (v := 1) hx hb dL_law_679 (by decide) ?_
    refine va_forget (fun q hq => by have h9 := hS.2.2 q hq; rw [hAe] at h9; exact h9) ?_
    refine W.widen (k := 600002) (n := 7302232) (Nat.le_of_ble_eq_true rfl) (Nat.le_of_ble_eq_true rfl) ?_
    exact lw_ret hx hb hr hlocks dL_law_680
  ·
    subst hL5
    refine lv_iload hx hb dL_law_23 (lv_at hl 0 rfl) ?_
    refine lv_aload_n hx hb dL_law_25 rfl (lv_at hl 4 rfl) ?_
    refine va_slen hx hb hX hbl hbA hS dL_law_26 ?_
    refine W.eq (g2 := F0 m 27 ls [.int 5, .int 0]) rfl ?_
    refine lv_iconst (v := 5) hx hb dL_law_27 (by decide) ?_
    refine lv_isub hx hb dL_law_28 ?_
    refine lv_topi (fun z_8 ez_8 => ?_)
    obtain rfl : z_8 = (0 : Int32) := ez_8.trans (by decide)
    refine lv_icmp_gt (tgt := 679) hx hb dL_law_29 (by decide) (fun c_9 => absurd c_9 (by decide)) (fun c_9 => ?_)
    refine lv_aload_n hx hb dL_law_32 rfl (lv_at hl 4 rfl) ?_
    refine lv_iload hx hb dL_law_33 (lv_at hl 0 rfl) ?_
    refine va_sld (i := 0) hx hb hX hbl hbA hS (by unfold vp_in; decide) dL_law_35 ?_
    refine W.eq (g2 := F0 m 36 ls [.int (xs 0)]) rfl ?_
    refine lv_bipush (v := 7) hx hb dL_law_36 (by decide) ?_
    refine lv_iand hx hb dL_law_38 ?_
    obtain ⟨j9, hj9, ej9⟩ := pk_andE (xs 0) (m := 7) 3 (by decide)
    rcases (show j9 = 0 ∨ j9 = 1 ∨ j9 = 2 ∨ j9 = 3 ∨ j9 = 4 ∨ j9 = 5 ∨ j9 = 6 ∨ j9 = 7 by omega) with rfl | rfl | rfl | rfl | rfl | rfl | rfl | rfl
    ·
      refine W.eq (g2 := F0 m 39 ls [.int 0]) (by rw [ej9]; rfl) ?_
      refine lv_tableIn (x := 0) (off := 45) (tgt := 84) hx hb dL_law_39 (by decide) (by decide) (by decide) (by decide) ?_
      refine lv_aload_n hx hb dL_law_84 rfl (lv_at hl 3 rfl) ?_
      refine lv_aload_n hx hb dL_law_85 rfl (lv_at hl 4 rfl) ?_
      refine lv_iload hx hb dL_law_86 (lv_at hl 0 rfl) ?_
      refine lv_iconst (v := 1) hx hb dL_law_88 (by decide) ?_
      refine lv_iadd hx hb dL_law_89 ?_
      refine lv_topi (fun z_10 ez_10 => ?_)
      obtain rfl : z_10 = (1 : Int32) := ez_10.trans (by decide)
      refine va_sld (i := 1) hx hb hX hbl hbA hS (by unfold vp_in; decide) dL_law_90 ?_
      refine W.eq (g2 := F0 m 91 ls [.int (xs 1), .ref q_1]) rfl ?_
      refine lv_aload_n hx hb dL_law_91 rfl (lv_at hl 4 rfl) ?_
      refine lv_iload hx hb dL_law_92 (lv_at hl 0 rfl) ?_
      refine lv_iconst (v := 2) hx hb dL_law_94 (by decide) ?_
      refine lv_iadd hx hb dL_law_95 ?_
      refine lv_topi (fun z_11 ez_11 => ?_)
      obtain rfl : z_11 = (2 : Int32) := ez_11.trans (by decide)
      refine va_sld (i := 2) hx hb hX hbl hbA hS (by unfold vp_in; decide) dL_law_96 ?_
      refine W.eq (g2 := F0 m 97 ls [.int (xs 2), .int (xs 1), .ref q_1]) rfl ?_
      refine lv_aload_n hx hb dL_law_97 rfl (lv_at hl 4 rfl) ?_
      refine lv_iload hx hb dL_law_98 (lv_at hl 0 rfl) ?_
      refine lv_iconst (v := 3) hx hb dL_law_100 (by decide) ?_
      refine lv_iadd hx hb dL_law_101 ?_
      refine lv_topi (fun z_12 ez_12 => ?_)
      obtain rfl : z_12 = (3 : Int32) := ez_12.trans (by decide)
      refine va_sld (i := 3) hx hb hX hbl hbA hS (by unfold vp_in; decide) dL_law_102 ?_
      refine W.eq (g2 := F0 m 103 ls [.int (xs 3), .int (xs 2), .int (xs 1), .ref q_1]) rfl ?_
      refine lv_aload_n hx hb dL_law_103 rfl (lv_at hl 1 rfl) ?_
      have hPc := hP.sub (ws' := [(q_1, .inr (7, [.ref qb])), (qb, .inl (cb, 16, .inr (.inr (.inr (.inr (fun _ => none)))))), (q_5, .inl (cA_6, 1, .inr (.inl (fun _ => (0 : Int64)))))]) [0, 1, 10] rfl
      have hDc := hD.sub (ws' := [(q_1, .inr (7, [.ref qb])), (qb, .inl (cb, 16, .inr (.inr (.inr (.inr (fun _ => none)))))), (q_5, .inl (cA_6, 1, .inr (.inl (fun _ => (0 : Int64)))))]) [0, 1, 10] (by decide) rfl
      have hKc := hK.sub (tys' := [(cb, .object "KeyAtlas$Body"), (cA_6, .long)]) [0, 8] rfl
      have hFc := va_free (wc := [(q_1, .inr (7, [.ref qb])), (qb, .inl (cb, 16, .inr (.inr (.inr (.inr (fun _ => none)))))), (q_5, .inl (cA_6, 1, .inr (.inl (fun _ => (0 : Int64)))))]) hD hS hA [0, 1, 10] rfl
      have hZc := (hZ.kept hS.2.1).narrow hFc
      refine va_calli (vx_runSW (As := [.ref q_1, .int (xs 1), .int (xs 2), .int (xs 3), .ref q_5]) (rest := []) ⟨hx, hb, hml, hown, hts⟩ (c_L_make l hlt dC dI H.size q_1 qb cb q_5 cA_6 (fun _ => (0 : Int64)) (xs 1) (xs 2) (xs 3)) (vx_cwSW 5 hts gP_law_L_make rfl rfl rfl (by decide +kernel) ⟨(Nat.le_of_ble_eq_true rfl), (Nat.le_of_ble_eq_true rfl)⟩) ⟨pk_blindX, pk_callX hPc hKc hDc hN hZc⟩ rfl rfl hl.1 rfl (lv_room (Nat.le_of_ble_eq_true rfl)) dL_law_104 ⟨(Nat.le_of_ble_eq_true rfl), (Nat.le_of_ble_eq_true rfl)⟩) hS (fun q _ h => hFc q h) hFc (fun r_13 ur_13 t H1 locs ht hvm hw hB hz1 hk1 hS => ?_)
      try dsimp only at hw
      have jr_13 := hw
      obtain ⟨hP1, hK1, hD1⟩ := hB
      rw [ht] at hP1
      have hK1 := va_K.moved hvm.symm hK1
      obtain ⟨hP, hD⟩ := va_join (wr := [(q_3, .inr (8, [.int 0, .ref q1, v2, .ref q3, .ref q4, .ref q5, .ref q6, .ref q7, .ref q8, v9, v10, v11, v12, v13, v14, v15, v16])), (q1, .inl (c1, 16, .inl (fun _ => (0 : Int32)))), (q3, .inl (c3, 16, .inl (fun _ => (0 : Int32)))), (q4, .inl (c4, 16, .inl (fun _ => (0 : Int32)))), (q5, .inl (c5, 16, .inl (fun _ => (0 : Int32)))), (q6, .inl (c6, 16, .inl (fun _ => (0 : Int32)))), (q7, .inl (c7, 16, .inl (fun _ => (0 : Int32)))), (q8, .inl (c8, 16, .inl (fun _ => (0 : Int32))))]) (w1 := [(q_5, .inl (cA_6, 1, .inr (.inl ur_13)))]) hP hD [0, 1, 10] [2, 3, 4, 5, 6, 7, 8, 9] rfl rfl (by decide) (by decide) hk1 hFc hP1 hD1
      clear hk1 hz1 ht hPc hDc hKc
      generalize H1 = H at hP hS ⊢
      have hP : va_P (dC, dI) vwCl [(q_3, .inr (8, [.int 0, .ref q1, v2, .ref q3, .ref q4, .ref q5, .ref q6, .ref q7, .ref q8, v9, v10, v11, v12, v13, v14, v15, v16])), (q1, .inl (c1, 16, .inl (fun _ => (0 : Int32)))), (q3, .inl (c3, 16, .inl (fun _ => (0 : Int32)))), (q4, .inl (c4, 16, .inl (fun _ => (0 : Int32)))), (q5, .inl (c5, 16, .inl (fun _ => (0 : Int32)))), (q6, .inl (c6, 16, .inl (fun _ => (0 : Int32)))), (q7, .inl (c7, 16, .inl (fun _ => (0 : Int32)))), (q8, .inl (c8, 16, .inl (fun _ => (0 : Int32)))), (q_5, .inl (cA_6, 1, .inr (.inl ur_13)))] H := hP
      have hD : va_D A [(q_3, .inr (8, [.int 0, .ref q1, v2, .ref q3, .ref q4, .ref q5, .ref q6, .ref q7, .ref q8, v9, v10, v11, v12, v13, v14, v15, v16])), (q1, .inl (c1, 16, .inl (fun _ => (0 : Int32)))), (q3, .inl (c3, 16, .inl (fun _ => (0 : Int32)))), (q4, .inl (c4, 16, .inl (fun _ => (0 : Int32)))), (q5, .inl (c5, 16, .inl (fun _ => (0 : Int32)))), (q6, .inl (c6, 16, .inl (fun _ => (0 : Int32)))), (q7, .inl (c7, 16, .inl (fun _ => (0 : Int32)))), (q8, .inl (c8, 16, .inl (fun _ => (0 : Int32)))), (q_5, .inl (cA_6, 1, .inr (.inl ur_13)))] := hD
      refine W.widen (k := 26) (n := 73572) (Nat.le_of_ble_eq_true rfl) (Nat.le_of_ble_eq_true rfl) ?_
      refine W.eq (g2 := F0 m 107 ls [.int r_13]) rfl ?_
      refine lv_istore (lv' := [(5, .int r_13), (4, .int 0), (3, .ref q_5), (2, .ref q_3), (1, .ref q_1), (0, .ref b)]) hx hb dL_law_107 hl (by decide) rfl (fun ls hl => ?_)
      refine lv_aload_n hx hb dL_law_109 rfl (lv_at hl 3 rfl) ?_
      refine lv_aload_n hx hb dL_law_110 rfl (lv_at hl 5 rfl) ?_
      refine lv_iload hx hb dL_law_111 (lv_at hl 1 rfl) ?_
      refine lv_iconst (v := 1) hx hb dL_law_113 (by decide) ?_
      refine lv_iadd hx hb dL_law_114 ?_
      refine lv_topi (fun z_14 ez_14 => ?_)
      obtain rfl : z_14 = (1 : Int32) := ez_14.trans (by decide)
      refine va_sld (i := 1) hx hb hX hbl hbA hS (by unfold vp_in; decide) dL_law_115 ?_
      refine W.eq (g2 := F0 m 116 ls [.int (xs 1), .ref q_3]) rfl ?_
      refine lv_aload_n hx hb dL_law_116 rfl (lv_at hl 5 rfl) ?_
      refine lv_iload hx hb dL_law_117 (lv_at hl 1 rfl) ?_
      refine lv_iconst (v := 2) hx hb dL_law_119 (by decide) ?_
      refine lv_iadd hx hb dL_law_120 ?_
      refine lv_topi (fun z_15 ez_15 => ?_)
      obtain rfl : z_15 = (2 : Int32) := ez_15.trans (by decide)
      refine va_sld (i := 2) hx hb hX hbl hbA hS (by unfold vp_in; decide) dL_law_121 ?_
      refine W.eq (g2 := F0 m 122 ls [.int (xs 2), .int (xs 1), .ref q_3]) rfl ?_
      refine lv_aload_n hx hb dL_law_122 rfl (lv_at hl 5 rfl) ?_
      refine lv_iload hx hb dL_law_123 (lv_at hl 1 rfl) ?_
      refine lv_iconst (v := 3) hx hb dL_law_125 (by decide) ?_
      refine lv_iadd hx hb dL_law_126 ?_
      refine lv_topi (fun z_16 ez_16 => ?_)
      obtain rfl : z_16 = (3 : Int32) := ez_16.trans (by decide)
      refine va_sld (i := 3) hx hb hX hbl hbA hS (by unfold vp_in; decide) dL_law_127 ?_
      refine W.eq (g2 := F0 m 128 ls [.int (xs 3), .int (xs 2), .int (xs 1), .ref q_3]) rfl ?_
      have hPc := hP.sub (ws' := [(q_3, .inr (8, [.int 0, .ref q1, v2, .ref q3, .ref q4, .ref q5, .ref q6, .ref q7, .ref q8, v9, v10, v11, v12, v13, v14, v15, v16])), (q1, .inl (c1, 16, .inl (fun _ => (0 : Int32)))), (q3, .inl (c3, 16, .inl (fun _ => (0 : Int32)))), (q4, .inl (c4, 16, .inl (fun _ => (0 : Int32)))), (q5, .inl (c5, 16, .inl (fun _ => (0 : Int32)))), (q6, .inl (c6, 16, .inl (fun _ => (0 : Int32)))), (q7, .inl (c7, 16, .inl (fun _ => (0 : Int32)))), (q8, .inl (c8, 16, .inl (fun _ => (0 : Int32))))]) [0, 1, 2, 3, 4, 5, 6, 7] rfl
      have hDc := hD.sub (ws' := [(q_3, .inr (8, [.int 0, .ref q1, v2, .ref q3, .ref q4, .ref q5, .ref q6, .ref q7, .ref q8, v9, v10, v11, v12, v13, v14, v15, v16])), (q1, .inl (c1, 16, .inl (fun _ => (0 : Int32)))), (q3, .inl (c3, 16, .inl (fun _ => (0 : Int32)))), (q4, .inl (c4, 16, .inl (fun _ => (0 : Int32)))), (q5, .inl (c5, 16, .inl (fun _ => (0 : Int32)))), (q6, .inl (c6, 16, .inl (fun _ => (0 : Int32)))), (q7, .inl (c7, 16, .inl (fun _ => (0 : Int32)))), (q8, .inl (c8, 16, .inl (fun _ => (0 : Int32))))]) [0, 1, 2, 3, 4, 5, 6, 7] (by decide) rfl
      have hKc := hK.sub (tys' := [(c1, .int), (c3, .int), (c4, .int), (c5, .int), (c6, .int), (c7, .int), (c8, .int)]) [1, 2, 3, 4, 5, 6, 7] rfl
      have hFc := va_free (wc := [(q_3, .inr (8, [.int 0, .ref q1, v2, .ref q3, .ref q4, .ref q5, .ref q6, .ref q7, .ref q8, v9, v10, v11, v12, v13, v14, v15, v16])), (q1, .inl (c1, 16, .inl (fun _ => (0 : Int32)))), (q3, .inl (c3, 16, .inl (fun _ => (0 : Int32)))), (q4, .inl (c4, 16, .inl (fun _ => (0 : Int32)))), (q5, .inl (c5, 16, .inl (fun _ => (0 : Int32)))), (q6, .inl (c6, 16, .inl (fun _ => (0 : Int32)))), (q7, .inl (c7, 16, .inl (fun _ => (0 : Int32)))), (q8, .inl (c8, 16, .inl (fun _ => (0 : Int32))))]) hD hS hA [0, 1, 2, 3, 4, 5, 6, 7] rfl
      refine va_calli (va_runV (As := [.int (xs 1), .int (xs 2), .int (xs 3)]) (rest := []) ⟨hx, hb, hml, hown, hts⟩ (c_X8_make l  dC dI H.size q_3 0 q1 q3 q4 q5 q6 q7 q8 c1 c3 c4 c5 c6 c7 c8 v2 v9 v10 v11 v12 v13 v14 v15 v16 (xs 1) (xs 2) (xs 3)) (cwV 3 hts gP_law_X8_make rfl rfl rfl (by decide +kernel) ⟨(Nat.le_of_ble_eq_true rfl), (Nat.le_of_ble_eq_true rfl)⟩) ⟨pk_blind, va_recv hKc hPc (ci := 8) (q0 := 0) rfl rfl, pk_call hPc hKc hDc⟩ rfl rfl hl.1 rfl (lv_room (Nat.le_of_ble_eq_true rfl)) dL_law_128 ⟨(Nat.le_of_ble_eq_true rfl), (Nat.le_of_ble_eq_true rfl)⟩) hS (fun q _ h => hFc q h) hFc (fun r_17 ur_17 t H1 locs ht hvm hw hB hz1 hk1 hS => ?_)
      try dsimp only at hw
      have jr_17 := hw
      obtain ⟨hP1, hK1, hD1⟩ := hB
      rw [ht] at hP1
      have hK1 := va_K.moved hvm.symm hK1
      obtain ⟨hP, hD⟩ := va_join (wr := [(q_5, .inl (cA_6, 1, .inr (.inl ur_13)))]) (w1 := [(q_3, .inr (8, [.int ur_17, .ref q1, v2, .ref q3, .ref q4, .ref q5, .ref q6, .ref q7, .ref q8, v9, v10, v11, v12, v13, v14, v15, v16]))]) hP hD [0, 1, 2, 3, 4, 5, 6, 7] [8] rfl rfl (by decide) (by decide) hk1 hFc hP1 hD1
      clear hk1 hz1 ht hPc hDc hKc
      generalize H1 = H at hP hS ⊢
      have hP : va_P (dC, dI) vwCl [(q_5, .inl (cA_6, 1, .inr (.inl ur_13))), (q_3, .inr (8, [.int ur_17, .ref q1, v2, .ref q3, .ref q4, .ref q5, .ref q6, .ref q7, .ref q8, v9, v10, v11, v12, v13, v14, v15, v16]))] H := hP
      have hD : va_D A [(q_5, .inl (cA_6, 1, .inr (.inl ur_13))), (q_3, .inr (8, [.int ur_17, .ref q1, v2, .ref q3, .ref q4, .ref q5, .ref q6, .ref q7, .ref q8, v9, v10, v11, v12, v13, v14, v15, v16]))] := hD
      refine W.widen (k := 26) (n := 73572) (Nat.le_of_ble_eq_true rfl) (Nat.le_of_ble_eq_true rfl) ?_
      refine W.eq (g2 := F0 m 131 ls [.int r_17]) rfl ?_
      refine lv_istore (lv' := [(6, .int r_17), (5, .int r_13), (4, .int 0), (3, .ref q_5), (2, .ref q_3), (1, .ref q_1), (0, .ref b)]) hx hb dL_law_131 hl (by decide) rfl (fun ls hl => ?_)
      refine lv_aload_n hx hb dL_law_133 rfl (lv_at hl 4 rfl) ?_
      have hPc := hP.sub (ws' := [(q_3, .inr (8, [.int ur_17, .ref q1, v2, .ref q3, .ref q4, .ref q5, .ref q6, .ref q7, .ref q8, v9, v10, v11, v12, v13, v14, v15, v16]))]) [1] rfl
      have hDc := hD.sub (ws' := [(q_3, .inr (8, [.int ur_17, .ref q1, v2, .ref q3, .ref q4, .ref q5, .ref q6, .ref q7, .ref q8, v9, v10, v11, v12, v13, v14, v15, v16]))]) [1] (by decide) rfl
      have hKc := hK.sub (tys' := []) [] rfl
      have hFc := va_free (wc := [(q_3, .inr (8, [.int ur_17, .ref q1, v2, .ref q3, .ref q4, .ref q5, .ref q6, .ref q7, .ref q8, v9, v10, v11, v12, v13, v14, v15, v16]))]) hD hS hA [1] rfl
      refine va_calli (va_runV (As := []) (rest := []) ⟨hx, hb, hml, hown, hts⟩ (c_X8_thrown l  dC dI H.size q_3 ur_17 (.ref q1) v2 (.ref q3) (.ref q4) (.ref q5) (.ref q6) (.ref q7) (.ref q8) v9 v10 v11 v12 v13 v14 v15 v16) (cwV 0 hts gP_law_X8_thrown rfl rfl rfl (by decide +kernel) ⟨(Nat.le_of_ble_eq_true rfl), (Nat.le_of_ble_eq_true rfl)⟩) ⟨pk_blind, va_recv hKc hPc (ci := 8) (q0 := 0) rfl rfl, pk_call hPc hKc hDc⟩ rfl rfl hl.1 rfl (lv_room (Nat.le_of_ble_eq_true rfl)) dL_law_134 ⟨(Nat.le_of_ble_eq_true rfl), (Nat.le_of_ble_eq_true rfl)⟩) hS (fun q _ h => hFc q h) hFc (fun r_18 ur_18 t H1 locs ht hvm hw hB hz1 hk1 hS => ?_)
      try dsimp only at hw
      have jr_18 := hw
      obtain ⟨hP1, hK1, hD1⟩ := hB
      rw [ht] at hP1
      have hK1 := va_K.moved hvm.symm hK1
      obtain ⟨hP, hD⟩ := va_join (wr := [(q_5, .inl (cA_6, 1, .inr (.inl ur_13)))]) (w1 := [(q_3, .inr (8, [.int ur_17, .ref q1, v2, .ref q3, .ref q4, .ref q5, .ref q6, .ref q7, .ref q8, v9, v10, v11, v12, v13, v14, v15, v16]))]) hP hD [1] [0] rfl rfl (by decide) (by decide) hk1 hFc hP1 hD1
      clear hk1 hz1 ht hPc hDc hKc
      generalize H1 = H at hP hS ⊢
      have hP : va_P (dC, dI) vwCl [(q_5, .inl (cA_6, 1, .inr (.inl ur_13))), (q_3, .inr (8, [.int ur_17, .ref q1, v2, .ref q3, .ref q4, .ref q5, .ref q6, .ref q7, .ref q8, v9, v10, v11, v12, v13, v14, v15, v16]))] H := hP
      have hD : va_D A [(q_5, .inl (cA_6, 1, .inr (.inl ur_13))), (q_3, .inr (8, [.int ur_17, .ref q1, v2, .ref q3, .ref q4, .ref q5, .ref q6, .ref q7, .ref q8, v9, v10, v11, v12, v13, v14, v15, v16]))] := hD
      refine W.widen (k := 26) (n := 73572) (Nat.le_of_ble_eq_true rfl) (Nat.le_of_ble_eq_true rfl) ?_
      refine W.eq (g2 := F0 m 137 ls [.int r_18]) rfl ?_
      refine lv_iload hx hb dL_law_137 (lv_at hl 1 rfl) ?_
      refine lv_icmp_eq (tgt := 144) hx hb dL_law_139 (by decide) (fun c_19 => ?_) (fun c_19 => absurd (jr_18.trans (Int32.toInt_inj.mp (mkIs_one jr_17.1 jr_13.1))) c_19)
      refine lv_iload hx hb dL_law_144 (lv_at hl 1 rfl) ?_
      refine lv_if_ne (tgt := 161) hx hb dL_law_146 (by decide) (fun c_20 => ?_) (fun c_20 => ?_)
      ·
        have ic_20 : ¬ r_13.toInt = 0 := tx_ne rfl (by decide) c_20
        refine lv_goto (tgt := 673) hx hb dL_law_161 (by decide) ?_
        refine lv_iinc (v := 5) (lv' := [(4, .int 5), (6, .int r_17), (5, .int r_13), (3, .ref q_5), (2, .ref q_3), (1, .ref q_1), (0, .ref b)]) hx hb dL_law_673 hl (k := 2) rfl (by decide) (by decide) rfl (fun ls hl => ?_)
        refine lv_goto (tgt := 23) hx hb dL_law_676 (by decide) ?_
        refine lv_iload hx hb dL_law_23 (lv_at hl 0 rfl) ?_
        refine lv_aload_n hx hb dL_law_25 rfl (lv_at hl 6 rfl) ?_
        refine va_slen hx hb hX hbl hbA hS dL_law_26 ?_
        refine W.eq (g2 := F0 m 27 ls [.int 5, .int 5]) rfl ?_
        refine lv_iconst (v := 5) hx hb dL_law_27 (by decide) ?_
        refine lv_isub hx hb dL_law_28 ?_
        refine lv_topi (fun z_21 ez_21 => ?_)
        obtain rfl : z_21 = (0 : Int32) := ez_21.trans (by decide)
        refine lv_icmp_gt (tgt := 679) hx hb dL_law_29 (by decide) (fun c_22 => ?_) (fun c_22 => absurd c_22 (by decide))
        refine lv_iconst (v := 1) hx hb dL_law_679 (by decide) ?_
        refine va_forget (fun q hq => by have h9 := hS.2.2 q hq; rw [hAe] at h9; exact h9) ?_
        refine W.widen (k := 600002) (n := 7302232) (Nat.le_of_ble_eq_true rfl) (Nat.le_of_ble_eq_true rfl) ?_
        exact lw_ret hx hb hr hlocks dL_law_680
      ·
        have ic_20 : r_13.toInt = 0 := tx_eq rfl (by decide) c_20
        refine lv_aload_n hx hb dL_law_149 rfl (lv_at hl 3 rfl) ?_
        refine lv_iconst (v := 0) hx hb dL_law_150 (by decide) ?_
        refine va_lald (i := 0) hx hb hK hP 0 8 rfl rfl (by unfold vp_in; decide) dL_law_151 ?_
        refine W.eq (g2 := F0 m 152 ls [.long (ur_13 0)]) rfl ?_
        refine lv_iload hx hb dL_law_152 (lv_at hl 0 rfl) ?_
        refine lv_i2l (v := r_17.toInt64) hx hb dL_law_154 rfl ?_
        refine W.lcmp hx hb dL_law_155 ?_
        refine lv_if_eq (tgt := 161) hx hb dL_law_156 (by decide) (fun c_23 => ?_) (fun c_23 => absurd (by rw [jr_13.2 ic_20, jr_17.2 (by rw [mkIs_one jr_17.1 jr_13.1]; exact ic_20)]; decide) c_23)
        refine lv_goto (tgt := 673) hx hb dL_law_161 (by decide) ?_
        refine lv_iinc (v := 5) (lv' := [(4, .int 5), (6, .int r_17), (5, .int r_13), (3, .ref q_5), (2, .ref q_3), (1, .ref q_1), (0, .ref b)]) hx hb dL_law_673 hl (k := 2) rfl (by decide) (by decide) rfl (fun ls hl => ?_)
        refine lv_goto (tgt := 23) hx hb dL_law_676 (by decide) ?_
        refine lv_iload hx hb dL_law_23 (lv_at hl 0 rfl) ?_
        refine lv_aload_n hx hb dL_law_25 rfl (lv_at hl 6 rfl) ?_
        refine va_slen hx hb hX hbl hbA hS dL_law_26 ?_
        refine W.eq (g2 := F0 m 27 ls [.int 5, .int 5]) rfl ?_
        refine lv_iconst (v := 5) hx hb dL_law_27 (by decide) ?_
        refine lv_isub hx hb dL_law_28 ?_
        refine lv_topi (fun z_24 ez_24 => ?_)
        obtain rfl : z_24 = (0 : Int32) := ez_24.trans (by decide)
        refine lv_icmp_gt (tgt := 679) hx hb dL_law_29 (by decide) (fun c_25 => ?_) (fun c_25 => absurd c_25 (by decide))
        refine lv_iconst (v := 1) hx hb dL_law_679 (by decide) ?_
        refine va_forget (fun q hq => by have h9 := hS.2.2 q hq; rw [hAe] at h9; exact h9) ?_
        refine W.widen (k := 600002) (n := 7302232) (Nat.le_of_ble_eq_true rfl) (Nat.le_of_ble_eq_true rfl) ?_
        exact lw_ret hx hb hr hlocks dL_law_680
    ·
      refine W.eq (g2 := F0 m 39 ls [.int 1]) (by rw [ej9]; rfl) ?_
      refine lv_tableIn (x := 1) (off := 125) (tgt := 164) hx hb dL_law_39 (by decide) (by decide) (by decide) (by decide) ?_
      refine lv_aload_n hx hb dL_law_164 rfl (lv_at hl 3 rfl) ?_
      refine lv_aload_n hx hb dL_law_165 rfl (lv_at hl 4 rfl) ?_
      refine lv_iload hx hb dL_law_166 (lv_at hl 0 rfl) ?_
      refine lv_iconst (v := 1) hx hb dL_law_168 (by decide) ?_
      refine lv_iadd hx hb dL_law_169 ?_
      refine lv_topi (fun z_26 ez_26 => ?_)
      obtain rfl : z_26 = (1 : Int32) := ez_26.trans (by decide)
      refine va_sld (i := 1) hx hb hX hbl hbA hS (by unfold vp_in; decide) dL_law_170 ?_
      refine W.eq (g2 := F0 m 171 ls [.int (xs 1), .ref q_1]) rfl ?_
      refine lv_aload_n hx hb dL_law_171 rfl (lv_at hl 1 rfl) ?_
      have hPc := hP.sub (ws' := [(q_1, .inr (7, [.ref qb])), (qb, .inl (cb, 16, .inr (.inr (.inr (.inr (fun _ => none)))))), (q_5, .inl (cA_6, 1, .inr (.inl (fun _ => (0 : Int64)))))]) [0, 1, 10] rfl
      have hDc := hD.sub (ws' := [(q_1, .inr (7, [.ref qb])), (qb, .inl (cb, 16, .inr (.inr (.inr (.inr (fun _ => none)))))), (q_5, .inl (cA_6, 1, .inr (.inl (fun _ => (0 : Int64)))))]) [0, 1, 10] (by decide) rfl
      have hKc := hK.sub (tys' := [(cb, .object "KeyAtlas$Body"), (cA_6, .long)]) [0, 8] rfl
      have hFc := va_free (wc := [(q_1, .inr (7, [.ref qb])), (qb, .inl (cb, 16, .inr (.inr (.inr (.inr (fun _ => none)))))), (q_5, .inl (cA_6, 1, .inr (.inl (fun _ => (0 : Int64)))))]) hD hS hA [0, 1, 10] rfl
      have hZc := (hZ.kept hS.2.1).narrow hFc
      refine va_calli (vx_runSW (As := [.ref q_1, .int (xs 1), .ref q_5]) (rest := []) ⟨hx, hb, hml, hown, hts⟩ (c_L_drop l hlt dC dI H.size q_1 qb cb q_5 cA_6 (fun _ => (0 : Int64)) (xs 1)) (vx_cwSW 3 hts gP_law_L_drop rfl rfl rfl (by decide +kernel) ⟨(Nat.le_of_ble_eq_true rfl), (Nat.le_of_ble_eq_true rfl)⟩) ⟨pk_blindX, pk_callX hPc hKc hDc hN hZc⟩ rfl rfl hl.1 rfl (lv_room (Nat.le_of_ble_eq_true rfl)) dL_law_172 ⟨(Nat.le_of_ble_eq_true rfl), (Nat.le_of_ble_eq_true rfl)⟩) hS (fun q _ h => hFc q h) hFc (fun r_27 ur_27 t H1 locs ht hvm hw hB hz1 hk1 hS => ?_)
      try dsimp only at hw
      have jr_27 := hw
      obtain ⟨hP1, hK1, hD1⟩ := hB
      rw [ht] at hP1
      have hK1 := va_K.moved hvm.symm hK1
      obtain ⟨hP, hD⟩ := va_join (wr := [(q_3, .inr (8, [.int 0, .ref q1, v2, .ref q3, .ref q4, .ref q5, .ref q6, .ref q7, .ref q8, v9, v10, v11, v12, v13, v14, v15, v16])), (q1, .inl (c1, 16, .inl (fun _ => (0 : Int32)))), (q3, .inl (c3, 16, .inl (fun _ => (0 : Int32)))), (q4, .inl (c4, 16, .inl (fun _ => (0 : Int32)))), (q5, .inl (c5, 16, .inl (fun _ => (0 : Int32)))), (q6, .inl (c6, 16, .inl (fun _ => (0 : Int32)))), (q7, .inl (c7, 16, .inl (fun _ => (0 : Int32)))), (q8, .inl (c8, 16, .inl (fun _ => (0 : Int32))))]) (w1 := [(q_5, .inl (cA_6, 1, .inr (.inl ur_27)))]) hP hD [0, 1, 10] [2, 3, 4, 5, 6, 7, 8, 9] rfl rfl (by decide) (by decide) hk1 hFc hP1 hD1
      clear hk1 hz1 ht hPc hDc hKc
      generalize H1 = H at hP hS ⊢
      have hP : va_P (dC, dI) vwCl [(q_3, .inr (8, [.int 0, .ref q1, v2, .ref q3, .ref q4, .ref q5, .ref q6, .ref q7, .ref q8, v9, v10, v11, v12, v13, v14, v15, v16])), (q1, .inl (c1, 16, .inl (fun _ => (0 : Int32)))), (q3, .inl (c3, 16, .inl (fun _ => (0 : Int32)))), (q4, .inl (c4, 16, .inl (fun _ => (0 : Int32)))), (q5, .inl (c5, 16, .inl (fun _ => (0 : Int32)))), (q6, .inl (c6, 16, .inl (fun _ => (0 : Int32)))), (q7, .inl (c7, 16, .inl (fun _ => (0 : Int32)))), (q8, .inl (c8, 16, .inl (fun _ => (0 : Int32)))), (q_5, .inl (cA_6, 1, .inr (.inl ur_27)))] H := hP
      have hD : va_D A [(q_3, .inr (8, [.int 0, .ref q1, v2, .ref q3, .ref q4, .ref q5, .ref q6, .ref q7, .ref q8, v9, v10, v11, v12, v13, v14, v15, v16])), (q1, .inl (c1, 16, .inl (fun _ => (0 : Int32)))), (q3, .inl (c3, 16, .inl (fun _ => (0 : Int32)))), (q4, .inl (c4, 16, .inl (fun _ => (0 : Int32)))), (q5, .inl (c5, 16, .inl (fun _ => (0 : Int32)))), (q6, .inl (c6, 16, .inl (fun _ => (0 : Int32)))), (q7, .inl (c7, 16, .inl (fun _ => (0 : Int32)))), (q8, .inl (c8, 16, .inl (fun _ => (0 : Int32)))), (q_5, .inl (cA_6, 1, .inr (.inl ur_27)))] := hD
      refine W.widen (k := 22) (n := 73535) (Nat.le_of_ble_eq_true rfl) (Nat.le_of_ble_eq_true rfl) ?_
      refine W.eq (g2 := F0 m 175 ls [.int r_27]) rfl ?_
      refine lv_istore (lv' := [(5, .int r_27), (4, .int 0), (3, .ref q_5), (2, .ref q_3), (1, .ref q_1), (0, .ref b)]) hx hb dL_law_175 hl (by decide) rfl (fun ls hl => ?_)
      refine lv_aload_n hx hb dL_law_177 rfl (lv_at hl 3 rfl) ?_
      refine lv_aload_n hx hb dL_law_178 rfl (lv_at hl 5 rfl) ?_
      refine lv_iload hx hb dL_law_179 (lv_at hl 1 rfl) ?_
      refine lv_iconst (v := 1) hx hb dL_law_181 (by decide) ?_
      refine lv_iadd hx hb dL_law_182 ?_
      refine lv_topi (fun z_28 ez_28 => ?_)
      obtain rfl : z_28 = (1 : Int32) := ez_28.trans (by decide)
      refine va_sld (i := 1) hx hb hX hbl hbA hS (by unfold vp_in; decide) dL_law_183 ?_
      refine W.eq (g2 := F0 m 184 ls [.int (xs 1), .ref q_3]) rfl ?_
      have hPc := hP.sub (ws' := [(q_3, .inr (8, [.int 0, .ref q1, v2, .ref q3, .ref q4, .ref q5, .ref q6, .ref q7, .ref q8, v9, v10, v11, v12, v13, v14, v15, v16])), (q1, .inl (c1, 16, .inl (fun _ => (0 : Int32)))), (q3, .inl (c3, 16, .inl (fun _ => (0 : Int32)))), (q4, .inl (c4, 16, .inl (fun _ => (0 : Int32)))), (q5, .inl (c5, 16, .inl (fun _ => (0 : Int32)))), (q6, .inl (c6, 16, .inl (fun _ => (0 : Int32)))), (q7, .inl (c7, 16, .inl (fun _ => (0 : Int32)))), (q8, .inl (c8, 16, .inl (fun _ => (0 : Int32))))]) [0, 1, 2, 3, 4, 5, 6, 7] rfl
      have hDc := hD.sub (ws' := [(q_3, .inr (8, [.int 0, .ref q1, v2, .ref q3, .ref q4, .ref q5, .ref q6, .ref q7, .ref q8, v9, v10, v11, v12, v13, v14, v15, v16])), (q1, .inl (c1, 16, .inl (fun _ => (0 : Int32)))), (q3, .inl (c3, 16, .inl (fun _ => (0 : Int32)))), (q4, .inl (c4, 16, .inl (fun _ => (0 : Int32)))), (q5, .inl (c5, 16, .inl (fun _ => (0 : Int32)))), (q6, .inl (c6, 16, .inl (fun _ => (0 : Int32)))), (q7, .inl (c7, 16, .inl (fun _ => (0 : Int32)))), (q8, .inl (c8, 16, .inl (fun _ => (0 : Int32))))]) [0, 1, 2, 3, 4, 5, 6, 7] (by decide) rfl
      have hKc := hK.sub (tys' := [(c1, .int), (c3, .int), (c4, .int), (c5, .int), (c6, .int), (c7, .int), (c8, .int)]) [1, 2, 3, 4, 5, 6, 7] rfl
      have hFc := va_free (wc := [(q_3, .inr (8, [.int 0, .ref q1, v2, .ref q3, .ref q4, .ref q5, .ref q6, .ref q7, .ref q8, v9, v10, v11, v12, v13, v14, v15, v16])), (q1, .inl (c1, 16, .inl (fun _ => (0 : Int32)))), (q3, .inl (c3, 16, .inl (fun _ => (0 : Int32)))), (q4, .inl (c4, 16, .inl (fun _ => (0 : Int32)))), (q5, .inl (c5, 16, .inl (fun _ => (0 : Int32)))), (q6, .inl (c6, 16, .inl (fun _ => (0 : Int32)))), (q7, .inl (c7, 16, .inl (fun _ => (0 : Int32)))), (q8, .inl (c8, 16, .inl (fun _ => (0 : Int32))))]) hD hS hA [0, 1, 2, 3, 4, 5, 6, 7] rfl
      refine va_calli (va_runV (As := [.int (xs 1)]) (rest := []) ⟨hx, hb, hml, hown, hts⟩ (c_X8_drop l  dC dI H.size q_3 0 q1 q3 q4 q5 q6 q7 q8 c1 c3 c4 c5 c6 c7 c8 v2 v9 v10 v11 v12 v13 v14 v15 v16 (xs 1)) (cwV 1 hts gP_law_X8_drop rfl rfl rfl (by decide +kernel) ⟨(Nat.le_of_ble_eq_true rfl), (Nat.le_of_ble_eq_true rfl)⟩) ⟨pk_blind, va_recv hKc hPc (ci := 8) (q0 := 0) rfl rfl, pk_call hPc hKc hDc⟩ rfl rfl hl.1 rfl (lv_room (Nat.le_of_ble_eq_true rfl)) dL_law_184 ⟨(Nat.le_of_ble_eq_true rfl), (Nat.le_of_ble_eq_true rfl)⟩) hS (fun q _ h => hFc q h) hFc (fun r_29 ur_29 t H1 locs ht hvm hw hB hz1 hk1 hS => ?_)
      try dsimp only at hw
      have jr_29 := hw
      obtain ⟨hP1, hK1, hD1⟩ := hB
      rw [ht] at hP1
      have hK1 := va_K.moved hvm.symm hK1
      obtain ⟨hP, hD⟩ := va_join (wr := [(q_5, .inl (cA_6, 1, .inr (.inl ur_27)))]) (w1 := [(q_3, .inr (8, [.int 1, .ref q1, v2, .ref q3, .ref q4, .ref q5, .ref q6, .ref q7, .ref q8, v9, v10, v11, v12, v13, v14, v15, v16]))]) hP hD [0, 1, 2, 3, 4, 5, 6, 7] [8] rfl rfl (by decide) (by decide) hk1 hFc hP1 hD1
      clear hk1 hz1 ht hPc hDc hKc
      generalize H1 = H at hP hS ⊢
      have hP : va_P (dC, dI) vwCl [(q_5, .inl (cA_6, 1, .inr (.inl ur_27))), (q_3, .inr (8, [.int 1, .ref q1, v2, .ref q3, .ref q4, .ref q5, .ref q6, .ref q7, .ref q8, v9, v10, v11, v12, v13, v14, v15, v16]))] H := hP
      have hD : va_D A [(q_5, .inl (cA_6, 1, .inr (.inl ur_27))), (q_3, .inr (8, [.int 1, .ref q1, v2, .ref q3, .ref q4, .ref q5, .ref q6, .ref q7, .ref q8, v9, v10, v11, v12, v13, v14, v15, v16]))] := hD
      refine W.widen (k := 22) (n := 73535) (Nat.le_of_ble_eq_true rfl) (Nat.le_of_ble_eq_true rfl) ?_
      refine W.eq (g2 := F0 m 187 ls [.int r_29]) rfl ?_
      refine lv_istore (lv' := [(6, .int r_29), (5, .int r_27), (4, .int 0), (3, .ref q_5), (2, .ref q_3), (1, .ref q_1), (0, .ref b)]) hx hb dL_law_187 hl (by decide) rfl (fun ls hl => ?_)
      refine lv_aload_n hx hb dL_law_189 rfl (lv_at hl 4 rfl) ?_
      have hPc := hP.sub (ws' := [(q_3, .inr (8, [.int 1, .ref q1, v2, .ref q3, .ref q4, .ref q5, .ref q6, .ref q7, .ref q8, v9, v10, v11, v12, v13, v14, v15, v16]))]) [1] rfl
      have hDc := hD.sub (ws' := [(q_3, .inr (8, [.int 1, .ref q1, v2, .ref q3, .ref q4, .ref q5, .ref q6, .ref q7, .ref q8, v9, v10, v11, v12, v13, v14, v15, v16]))]) [1] (by decide) rfl
      have hKc := hK.sub (tys' := []) [] rfl
      have hFc := va_free (wc := [(q_3, .inr (8, [.int 1, .ref q1, v2, .ref q3, .ref q4, .ref q5, .ref q6, .ref q7, .ref q8, v9, v10, v11, v12, v13, v14, v15, v16]))]) hD hS hA [1] rfl
      refine va_calli (va_runV (As := []) (rest := []) ⟨hx, hb, hml, hown, hts⟩ (c_X8_thrown l  dC dI H.size q_3 1 (.ref q1) v2 (.ref q3) (.ref q4) (.ref q5) (.ref q6) (.ref q7) (.ref q8) v9 v10 v11 v12 v13 v14 v15 v16) (cwV 0 hts gP_law_X8_thrown rfl rfl rfl (by decide +kernel) ⟨(Nat.le_of_ble_eq_true rfl), (Nat.le_of_ble_eq_true rfl)⟩) ⟨pk_blind, va_recv hKc hPc (ci := 8) (q0 := 0) rfl rfl, pk_call hPc hKc hDc⟩ rfl rfl hl.1 rfl (lv_room (Nat.le_of_ble_eq_true rfl)) dL_law_190 ⟨(Nat.le_of_ble_eq_true rfl), (Nat.le_of_ble_eq_true rfl)⟩) hS (fun q _ h => hFc q h) hFc (fun r_30 ur_30 t H1 locs ht hvm hw hB hz1 hk1 hS => ?_)
      try dsimp only at hw
      obtain ⟨hP1, hK1, hD1⟩ := hB
      rw [ht] at hP1
      have hK1 := va_K.moved hvm.symm hK1
      obtain ⟨hP, hD⟩ := va_join (wr := [(q_5, .inl (cA_6, 1, .inr (.inl ur_27)))]) (w1 := [(q_3, .inr (8, [.int 1, .ref q1, v2, .ref q3, .ref q4, .ref q5, .ref q6, .ref q7, .ref q8, v9, v10, v11, v12, v13, v14, v15, v16]))]) hP hD [1] [0] rfl rfl (by decide) (by decide) hk1 hFc hP1 hD1
      clear hk1 hz1 ht hPc hDc hKc
      generalize H1 = H at hP hS ⊢
      have hP : va_P (dC, dI) vwCl [(q_5, .inl (cA_6, 1, .inr (.inl ur_27))), (q_3, .inr (8, [.int 1, .ref q1, v2, .ref q3, .ref q4, .ref q5, .ref q6, .ref q7, .ref q8, v9, v10, v11, v12, v13, v14, v15, v16]))] H := hP
      have hD : va_D A [(q_5, .inl (cA_6, 1, .inr (.inl ur_27))), (q_3, .inr (8, [.int 1, .ref q1, v2, .ref q3, .ref q4, .ref q5, .ref q6, .ref q7, .ref q8, v9, v10, v11, v12, v13, v14, v15, v16]))] := hD
      refine W.widen (k := 22) (n := 73535) (Nat.le_of_ble_eq_true rfl) (Nat.le_of_ble_eq_true rfl) ?_
      obtain rfl : r_30 = 1 := hw
      refine W.eq (g2 := F0 m 193 ls [.int 1]) rfl ?_
      refine lv_iload hx hb dL_law_193 (lv_at hl 1 rfl) ?_
      refine lv_icmp_eq (tgt := 200) hx hb dL_law_195 (by decide) (fun c_31 => ?_) (fun c_31 => absurd (jr_27.symm) c_31)
      refine lv_iload hx hb dL_law_200 (lv_at hl 1 rfl) ?_
      refine lv_if_ne (tgt := 217) hx hb dL_law_202 (by decide) (fun c_32 => ?_) (fun c_32 => ?_)
      ·
        have ic_32 : ¬ r_27.toInt = 0 := tx_ne rfl (by decide) c_32
        refine lv_goto (tgt := 673) hx hb dL_law_217 (by decide) ?_
        refine lv_iinc (v := 5) (lv' := [(4, .int 5), (6, .int r_29), (5, .int r_27), (3, .ref q_5), (2, .ref q_3), (1, .ref q_1), (0, .ref b)]) hx hb dL_law_673 hl (k := 2) rfl (by decide) (by decide) rfl (fun ls hl => ?_)
        refine lv_goto (tgt := 23) hx hb dL_law_676 (by decide) ?_
        refine lv_iload hx hb dL_law_23 (lv_at hl 0 rfl) ?_
        refine lv_aload_n hx hb dL_law_25 rfl (lv_at hl 6 rfl) ?_
        refine va_slen hx hb hX hbl hbA hS dL_law_26 ?_
        refine W.eq (g2 := F0 m 27 ls [.int 5, .int 5]) rfl ?_
        refine lv_iconst (v := 5) hx hb dL_law_27 (by decide) ?_
        refine lv_isub hx hb dL_law_28 ?_
        refine lv_topi (fun z_33 ez_33 => ?_)
        obtain rfl : z_33 = (0 : Int32) := ez_33.trans (by decide)
        refine lv_icmp_gt (tgt := 679) hx hb dL_law_29 (by decide) (fun c_34 => ?_) (fun c_34 => absurd c_34 (by decide))
        refine lv_iconst (v := 1) hx hb dL_law_679 (by decide) ?_
        refine va_forget (fun q hq => by have h9 := hS.2.2 q hq; rw [hAe] at h9; exact h9) ?_
        refine W.widen (k := 600002) (n := 7302232) (Nat.le_of_ble_eq_true rfl) (Nat.le_of_ble_eq_true rfl) ?_
        exact lw_ret hx hb hr hlocks dL_law_680
      ·
        have ic_32 : r_27.toInt = 0 := tx_eq rfl (by decide) c_32
        refine lv_aload_n hx hb dL_law_205 rfl (lv_at hl 3 rfl) ?_
        refine lv_iconst (v := 0) hx hb dL_law_206 (by decide) ?_
        refine va_lald (i := 0) hx hb hK hP 0 8 rfl rfl (by unfold vp_in; decide) dL_law_207 ?_
        refine W.eq (g2 := F0 m 208 ls [.long (ur_27 0)]) rfl ?_
        refine lv_iload hx hb dL_law_208 (lv_at hl 0 rfl) ?_
        refine lv_i2l (v := r_29.toInt64) hx hb dL_law_210 rfl ?_
        refine W.lcmp hx hb dL_law_211 ?_
        refine lv_if_eq (tgt := 217) hx hb dL_law_212 (by decide) (fun c_35 => ?_) (fun c_35 => absurd (absurd ic_32 (by rw [jr_27]; decide)) c_35)
        refine lv_goto (tgt := 673) hx hb dL_law_217 (by decide) ?_
        refine lv_iinc (v := 5) (lv' := [(4, .int 5), (6, .int r_29), (5, .int r_27), (3, .ref q_5), (2, .ref q_3), (1, .ref q_1), (0, .ref b)]) hx hb dL_law_673 hl (k := 2) rfl (by decide) (by decide) rfl (fun ls hl => ?_)
        refine lv_goto (tgt := 23) hx hb dL_law_676 (by decide) ?_
        refine lv_iload hx hb dL_law_23 (lv_at hl 0 rfl) ?_
        refine lv_aload_n hx hb dL_law_25 rfl (lv_at hl 6 rfl) ?_
        refine va_slen hx hb hX hbl hbA hS dL_law_26 ?_
        refine W.eq (g2 := F0 m 27 ls [.int 5, .int 5]) rfl ?_
        refine lv_iconst (v := 5) hx hb dL_law_27 (by decide) ?_
        refine lv_isub hx hb dL_law_28 ?_
        refine lv_topi (fun z_36 ez_36 => ?_)
        obtain rfl : z_36 = (0 : Int32) := ez_36.trans (by decide)
        refine lv_icmp_gt (tgt := 679) hx hb dL_law_29 (by decide) (fun c_37 => ?_) (fun c_37 => absurd c_37 (by decide))
        refine lv_iconst (v := 1) hx hb dL_law_679 (by decide) ?_
        refine va_forget (fun q hq => by have h9 := hS.2.2 q hq; rw [hAe] at h9; exact h9) ?_
        refine W.widen (k := 600002) (n := 7302232) (Nat.le_of_ble_eq_true rfl) (Nat.le_of_ble_eq_true rfl) ?_
        exact lw_ret hx hb hr hlocks dL_law_680
    ·
      refine W.eq (g2 := F0 m 39 ls [.int 2]) (by rw [ej9]; rfl) ?_
      refine lv_tableIn (x := 2) (off := 181) (tgt := 220) hx hb dL_law_39 (by decide) (by decide) (by decide) (by decide) ?_
      refine lv_aload_n hx hb dL_law_220 rfl (lv_at hl 3 rfl) ?_
      refine lv_aload_n hx hb dL_law_221 rfl (lv_at hl 4 rfl) ?_
      refine lv_iload hx hb dL_law_222 (lv_at hl 0 rfl) ?_
      refine lv_iconst (v := 1) hx hb dL_law_224 (by decide) ?_
      refine lv_iadd hx hb dL_law_225 ?_
      refine lv_topi (fun z_38 ez_38 => ?_)
      obtain rfl : z_38 = (1 : Int32) := ez_38.trans (by decide)
      refine va_sld (i := 1) hx hb hX hbl hbA hS (by unfold vp_in; decide) dL_law_226 ?_
      refine W.eq (g2 := F0 m 227 ls [.int (xs 1), .ref q_1]) rfl ?_
      refine lv_aload_n hx hb dL_law_227 rfl (lv_at hl 4 rfl) ?_
      refine lv_iload hx hb dL_law_228 (lv_at hl 0 rfl) ?_
      refine lv_iconst (v := 2) hx hb dL_law_230 (by decide) ?_
      refine lv_iadd hx hb dL_law_231 ?_
      refine lv_topi (fun z_39 ez_39 => ?_)
      obtain rfl : z_39 = (2 : Int32) := ez_39.trans (by decide)
      refine va_sld (i := 2) hx hb hX hbl hbA hS (by unfold vp_in; decide) dL_law_232 ?_
      refine W.eq (g2 := F0 m 233 ls [.int (xs 2), .int (xs 1), .ref q_1]) rfl ?_
      refine lv_aload_n hx hb dL_law_233 rfl (lv_at hl 4 rfl) ?_
      refine lv_iload hx hb dL_law_234 (lv_at hl 0 rfl) ?_
      refine lv_iconst (v := 3) hx hb dL_law_236 (by decide) ?_
      refine lv_iadd hx hb dL_law_237 ?_
      refine lv_topi (fun z_40 ez_40 => ?_)
      obtain rfl : z_40 = (3 : Int32) := ez_40.trans (by decide)
      refine va_sld (i := 3) hx hb hX hbl hbA hS (by unfold vp_in; decide) dL_law_238 ?_
      refine W.eq (g2 := F0 m 239 ls [.int (xs 3), .int (xs 2), .int (xs 1), .ref q_1]) rfl ?_
      refine lv_aload_n hx hb dL_law_239 rfl (lv_at hl 4 rfl) ?_
      refine lv_iload hx hb dL_law_240 (lv_at hl 0 rfl) ?_
      refine lv_iconst (v := 4) hx hb dL_law_242 (by decide) ?_
      refine lv_iadd hx hb dL_law_243 ?_
      refine lv_topi (fun z_41 ez_41 => ?_)
      obtain rfl : z_41 = (4 : Int32) := ez_41.trans (by decide)
      refine va_sld (i := 4) hx hb hX hbl hbA hS (by unfold vp_in; decide) dL_law_244 ?_
      refine W.eq (g2 := F0 m 245 ls [.int (xs 4), .int (xs 3), .int (xs 2), .int (xs 1), .ref q_1]) rfl ?_
      refine lv_aload_n hx hb dL_law_245 rfl (lv_at hl 1 rfl) ?_
      have hPc := hP.sub (ws' := [(q_1, .inr (7, [.ref qb])), (qb, .inl (cb, 16, .inr (.inr (.inr (.inr (fun _ => none)))))), (q_5, .inl (cA_6, 1, .inr (.inl (fun _ => (0 : Int64)))))]) [0, 1, 10] rfl
      have hDc := hD.sub (ws' := [(q_1, .inr (7, [.ref qb])), (qb, .inl (cb, 16, .inr (.inr (.inr (.inr (fun _ => none)))))), (q_5, .inl (cA_6, 1, .inr (.inl (fun _ => (0 : Int64)))))]) [0, 1, 10] (by decide) rfl
      have hKc := hK.sub (tys' := [(cb, .object "KeyAtlas$Body"), (cA_6, .long)]) [0, 8] rfl
      have hFc := va_free (wc := [(q_1, .inr (7, [.ref qb])), (qb, .inl (cb, 16, .inr (.inr (.inr (.inr (fun _ => none)))))), (q_5, .inl (cA_6, 1, .inr (.inl (fun _ => (0 : Int64)))))]) hD hS hA [0, 1, 10] rfl
      have hZc := (hZ.kept hS.2.1).narrow hFc
      refine va_calli (vx_runSW (As := [.ref q_1, .int (xs 1), .int (xs 2), .int (xs 3), .int (xs 4), .ref q_5]) (rest := []) ⟨hx, hb, hml, hown, hts⟩ (c_L_map l hlt dC dI H.size q_1 qb cb q_5 cA_6 (fun _ => (0 : Int64)) (xs 1) (xs 2) (xs 3) (xs 4)) (vx_cwSW 6 hts gP_law_L_map rfl rfl rfl (by decide +kernel) ⟨(Nat.le_of_ble_eq_true rfl), (Nat.le_of_ble_eq_true rfl)⟩) ⟨pk_blindX, pk_callX hPc hKc hDc hN hZc⟩ rfl rfl hl.1 rfl (lv_room (Nat.le_of_ble_eq_true rfl)) dL_law_246 ⟨(Nat.le_of_ble_eq_true rfl), (Nat.le_of_ble_eq_true rfl)⟩) hS (fun q _ h => hFc q h) hFc (fun r_42 ur_42 t H1 locs ht hvm hw hB hz1 hk1 hS => ?_)
      try dsimp only at hw
      have jr_42 := hw
      obtain ⟨hP1, hK1, hD1⟩ := hB
      rw [ht] at hP1
      have hK1 := va_K.moved hvm.symm hK1
      obtain ⟨hP, hD⟩ := va_join (wr := [(q_3, .inr (8, [.int 0, .ref q1, v2, .ref q3, .ref q4, .ref q5, .ref q6, .ref q7, .ref q8, v9, v10, v11, v12, v13, v14, v15, v16])), (q1, .inl (c1, 16, .inl (fun _ => (0 : Int32)))), (q3, .inl (c3, 16, .inl (fun _ => (0 : Int32)))), (q4, .inl (c4, 16, .inl (fun _ => (0 : Int32)))), (q5, .inl (c5, 16, .inl (fun _ => (0 : Int32)))), (q6, .inl (c6, 16, .inl (fun _ => (0 : Int32)))), (q7, .inl (c7, 16, .inl (fun _ => (0 : Int32)))), (q8, .inl (c8, 16, .inl (fun _ => (0 : Int32))))]) (w1 := [(q_5, .inl (cA_6, 1, .inr (.inl ur_42)))]) hP hD [0, 1, 10] [2, 3, 4, 5, 6, 7, 8, 9] rfl rfl (by decide) (by decide) hk1 hFc hP1 hD1
      clear hk1 hz1 ht hPc hDc hKc
      generalize H1 = H at hP hS ⊢
      have hP : va_P (dC, dI) vwCl [(q_3, .inr (8, [.int 0, .ref q1, v2, .ref q3, .ref q4, .ref q5, .ref q6, .ref q7, .ref q8, v9, v10, v11, v12, v13, v14, v15, v16])), (q1, .inl (c1, 16, .inl (fun _ => (0 : Int32)))), (q3, .inl (c3, 16, .inl (fun _ => (0 : Int32)))), (q4, .inl (c4, 16, .inl (fun _ => (0 : Int32)))), (q5, .inl (c5, 16, .inl (fun _ => (0 : Int32)))), (q6, .inl (c6, 16, .inl (fun _ => (0 : Int32)))), (q7, .inl (c7, 16, .inl (fun _ => (0 : Int32)))), (q8, .inl (c8, 16, .inl (fun _ => (0 : Int32)))), (q_5, .inl (cA_6, 1, .inr (.inl ur_42)))] H := hP
      have hD : va_D A [(q_3, .inr (8, [.int 0, .ref q1, v2, .ref q3, .ref q4, .ref q5, .ref q6, .ref q7, .ref q8, v9, v10, v11, v12, v13, v14, v15, v16])), (q1, .inl (c1, 16, .inl (fun _ => (0 : Int32)))), (q3, .inl (c3, 16, .inl (fun _ => (0 : Int32)))), (q4, .inl (c4, 16, .inl (fun _ => (0 : Int32)))), (q5, .inl (c5, 16, .inl (fun _ => (0 : Int32)))), (q6, .inl (c6, 16, .inl (fun _ => (0 : Int32)))), (q7, .inl (c7, 16, .inl (fun _ => (0 : Int32)))), (q8, .inl (c8, 16, .inl (fun _ => (0 : Int32)))), (q_5, .inl (cA_6, 1, .inr (.inl ur_42)))] := hD
      refine W.widen (k := 22) (n := 73535) (Nat.le_of_ble_eq_true rfl) (Nat.le_of_ble_eq_true rfl) ?_
      refine W.eq (g2 := F0 m 249 ls [.int r_42]) rfl ?_
      refine lv_istore (lv' := [(5, .int r_42), (4, .int 0), (3, .ref q_5), (2, .ref q_3), (1, .ref q_1), (0, .ref b)]) hx hb dL_law_249 hl (by decide) rfl (fun ls hl => ?_)
      refine lv_aload_n hx hb dL_law_251 rfl (lv_at hl 3 rfl) ?_
      refine lv_aload_n hx hb dL_law_252 rfl (lv_at hl 5 rfl) ?_
      refine lv_iload hx hb dL_law_253 (lv_at hl 1 rfl) ?_
      refine lv_iconst (v := 1) hx hb dL_law_255 (by decide) ?_
      refine lv_iadd hx hb dL_law_256 ?_
      refine lv_topi (fun z_43 ez_43 => ?_)
      obtain rfl : z_43 = (1 : Int32) := ez_43.trans (by decide)
      refine va_sld (i := 1) hx hb hX hbl hbA hS (by unfold vp_in; decide) dL_law_257 ?_
      refine W.eq (g2 := F0 m 258 ls [.int (xs 1), .ref q_3]) rfl ?_
      refine lv_aload_n hx hb dL_law_258 rfl (lv_at hl 5 rfl) ?_
      refine lv_iload hx hb dL_law_259 (lv_at hl 1 rfl) ?_
      refine lv_iconst (v := 2) hx hb dL_law_261 (by decide) ?_
      refine lv_iadd hx hb dL_law_262 ?_
      refine lv_topi (fun z_44 ez_44 => ?_)
      obtain rfl : z_44 = (2 : Int32) := ez_44.trans (by decide)
      refine va_sld (i := 2) hx hb hX hbl hbA hS (by unfold vp_in; decide) dL_law_263 ?_
      refine W.eq (g2 := F0 m 264 ls [.int (xs 2), .int (xs 1), .ref q_3]) rfl ?_
      refine lv_aload_n hx hb dL_law_264 rfl (lv_at hl 5 rfl) ?_
      refine lv_iload hx hb dL_law_265 (lv_at hl 1 rfl) ?_
      refine lv_iconst (v := 3) hx hb dL_law_267 (by decide) ?_
      refine lv_iadd hx hb dL_law_268 ?_
      refine lv_topi (fun z_45 ez_45 => ?_)
      obtain rfl : z_45 = (3 : Int32) := ez_45.trans (by decide)
      refine va_sld (i := 3) hx hb hX hbl hbA hS (by unfold vp_in; decide) dL_law_269 ?_
      refine W.eq (g2 := F0 m 270 ls [.int (xs 3), .int (xs 2), .int (xs 1), .ref q_3]) rfl ?_
      refine lv_aload_n hx hb dL_law_270 rfl (lv_at hl 5 rfl) ?_
      refine lv_iload hx hb dL_law_271 (lv_at hl 1 rfl) ?_
      refine lv_iconst (v := 4) hx hb dL_law_273 (by decide) ?_
      refine lv_iadd hx hb dL_law_274 ?_
      refine lv_topi (fun z_46 ez_46 => ?_)
      obtain rfl : z_46 = (4 : Int32) := ez_46.trans (by decide)
      refine va_sld (i := 4) hx hb hX hbl hbA hS (by unfold vp_in; decide) dL_law_275 ?_
      refine W.eq (g2 := F0 m 276 ls [.int (xs 4), .int (xs 3), .int (xs 2), .int (xs 1), .ref q_3]) rfl ?_
      have hPc := hP.sub (ws' := [(q_3, .inr (8, [.int 0, .ref q1, v2, .ref q3, .ref q4, .ref q5, .ref q6, .ref q7, .ref q8, v9, v10, v11, v12, v13, v14, v15, v16])), (q1, .inl (c1, 16, .inl (fun _ => (0 : Int32)))), (q3, .inl (c3, 16, .inl (fun _ => (0 : Int32)))), (q4, .inl (c4, 16, .inl (fun _ => (0 : Int32)))), (q5, .inl (c5, 16, .inl (fun _ => (0 : Int32)))), (q6, .inl (c6, 16, .inl (fun _ => (0 : Int32)))), (q7, .inl (c7, 16, .inl (fun _ => (0 : Int32)))), (q8, .inl (c8, 16, .inl (fun _ => (0 : Int32))))]) [0, 1, 2, 3, 4, 5, 6, 7] rfl
      have hDc := hD.sub (ws' := [(q_3, .inr (8, [.int 0, .ref q1, v2, .ref q3, .ref q4, .ref q5, .ref q6, .ref q7, .ref q8, v9, v10, v11, v12, v13, v14, v15, v16])), (q1, .inl (c1, 16, .inl (fun _ => (0 : Int32)))), (q3, .inl (c3, 16, .inl (fun _ => (0 : Int32)))), (q4, .inl (c4, 16, .inl (fun _ => (0 : Int32)))), (q5, .inl (c5, 16, .inl (fun _ => (0 : Int32)))), (q6, .inl (c6, 16, .inl (fun _ => (0 : Int32)))), (q7, .inl (c7, 16, .inl (fun _ => (0 : Int32)))), (q8, .inl (c8, 16, .inl (fun _ => (0 : Int32))))]) [0, 1, 2, 3, 4, 5, 6, 7] (by decide) rfl
      have hKc := hK.sub (tys' := [(c1, .int), (c3, .int), (c4, .int), (c5, .int), (c6, .int), (c7, .int), (c8, .int)]) [1, 2, 3, 4, 5, 6, 7] rfl
      have hFc := va_free (wc := [(q_3, .inr (8, [.int 0, .ref q1, v2, .ref q3, .ref q4, .ref q5, .ref q6, .ref q7, .ref q8, v9, v10, v11, v12, v13, v14, v15, v16])), (q1, .inl (c1, 16, .inl (fun _ => (0 : Int32)))), (q3, .inl (c3, 16, .inl (fun _ => (0 : Int32)))), (q4, .inl (c4, 16, .inl (fun _ => (0 : Int32)))), (q5, .inl (c5, 16, .inl (fun _ => (0 : Int32)))), (q6, .inl (c6, 16, .inl (fun _ => (0 : Int32)))), (q7, .inl (c7, 16, .inl (fun _ => (0 : Int32)))), (q8, .inl (c8, 16, .inl (fun _ => (0 : Int32))))]) hD hS hA [0, 1, 2, 3, 4, 5, 6, 7] rfl
      refine va_calll (va_runV (As := [.int (xs 1), .int (xs 2), .int (xs 3), .int (xs 4)]) (rest := []) ⟨hx, hb, hml, hown, hts⟩ (c_X8_map l  dC dI H.size q_3 0 q1 q3 q4 q5 q6 q7 q8 c1 c3 c4 c5 c6 c7 c8 v2 v9 v10 v11 v12 v13 v14 v15 v16 (xs 1) (xs 2) (xs 3) (xs 4)) (cwV 4 hts gP_law_X8_map rfl rfl rfl (by decide +kernel) ⟨(Nat.le_of_ble_eq_true rfl), (Nat.le_of_ble_eq_true rfl)⟩) ⟨pk_blind, va_recv hKc hPc (ci := 8) (q0 := 0) rfl rfl, pk_call hPc hKc hDc⟩ rfl rfl hl.1 rfl (lv_room (Nat.le_of_ble_eq_true rfl)) dL_law_276 ⟨(Nat.le_of_ble_eq_true rfl), (Nat.le_of_ble_eq_true rfl)⟩) hS (fun q _ h => hFc q h) hFc (fun r_47 ur_47 t H1 locs ht hvm hw hB hz1 hk1 hS => ?_)
      try dsimp only at hw
      have jr_47 := hw
      obtain ⟨hP1, hK1, hD1⟩ := hB
      rw [ht] at hP1
      have hK1 := va_K.moved hvm.symm hK1
      obtain ⟨hP, hD⟩ := va_join (wr := [(q_5, .inl (cA_6, 1, .inr (.inl ur_42)))]) (w1 := [(q_3, .inr (8, [.int 1, .ref q1, v2, .ref q3, .ref q4, .ref q5, .ref q6, .ref q7, .ref q8, v9, v10, v11, v12, v13, v14, v15, v16]))]) hP hD [0, 1, 2, 3, 4, 5, 6, 7] [8] rfl rfl (by decide) (by decide) hk1 hFc hP1 hD1
      clear hk1 hz1 ht hPc hDc hKc
      generalize H1 = H at hP hS ⊢
      have hP : va_P (dC, dI) vwCl [(q_5, .inl (cA_6, 1, .inr (.inl ur_42))), (q_3, .inr (8, [.int 1, .ref q1, v2, .ref q3, .ref q4, .ref q5, .ref q6, .ref q7, .ref q8, v9, v10, v11, v12, v13, v14, v15, v16]))] H := hP
      have hD : va_D A [(q_5, .inl (cA_6, 1, .inr (.inl ur_42))), (q_3, .inr (8, [.int 1, .ref q1, v2, .ref q3, .ref q4, .ref q5, .ref q6, .ref q7, .ref q8, v9, v10, v11, v12, v13, v14, v15, v16]))] := hD
      refine W.widen (k := 22) (n := 73535) (Nat.le_of_ble_eq_true rfl) (Nat.le_of_ble_eq_true rfl) ?_
      refine W.eq (g2 := F0 m 279 ls [.long r_47]) rfl ?_
      refine lv_lstore (lv' := [(6, .long r_47), (5, .int r_42), (4, .int 0), (3, .ref q_5), (2, .ref q_3), (1, .ref q_1), (0, .ref b)]) hx hb dL_law_279 hl (by decide) rfl (fun ls hl => ?_)
      refine lv_aload_n hx hb dL_law_281 rfl (lv_at hl 4 rfl) ?_
      have hPc := hP.sub (ws' := [(q_3, .inr (8, [.int 1, .ref q1, v2, .ref q3, .ref q4, .ref q5, .ref q6, .ref q7, .ref q8, v9, v10, v11, v12, v13, v14, v15, v16]))]) [1] rfl
      have hDc := hD.sub (ws' := [(q_3, .inr (8, [.int 1, .ref q1, v2, .ref q3, .ref q4, .ref q5, .ref q6, .ref q7, .ref q8, v9, v10, v11, v12, v13, v14, v15, v16]))]) [1] (by decide) rfl
      have hKc := hK.sub (tys' := []) [] rfl
      have hFc := va_free (wc := [(q_3, .inr (8, [.int 1, .ref q1, v2, .ref q3, .ref q4, .ref q5, .ref q6, .ref q7, .ref q8, v9, v10, v11, v12, v13, v14, v15, v16]))]) hD hS hA [1] rfl
      refine va_calli (va_runV (As := []) (rest := []) ⟨hx, hb, hml, hown, hts⟩ (c_X8_thrown l  dC dI H.size q_3 1 (.ref q1) v2 (.ref q3) (.ref q4) (.ref q5) (.ref q6) (.ref q7) (.ref q8) v9 v10 v11 v12 v13 v14 v15 v16) (cwV 0 hts gP_law_X8_thrown rfl rfl rfl (by decide +kernel) ⟨(Nat.le_of_ble_eq_true rfl), (Nat.le_of_ble_eq_true rfl)⟩) ⟨pk_blind, va_recv hKc hPc (ci := 8) (q0 := 0) rfl rfl, pk_call hPc hKc hDc⟩ rfl rfl hl.1 rfl (lv_room (Nat.le_of_ble_eq_true rfl)) dL_law_282 ⟨(Nat.le_of_ble_eq_true rfl), (Nat.le_of_ble_eq_true rfl)⟩) hS (fun q _ h => hFc q h) hFc (fun r_48 ur_48 t H1 locs ht hvm hw hB hz1 hk1 hS => ?_)
      try dsimp only at hw
      obtain ⟨hP1, hK1, hD1⟩ := hB
      rw [ht] at hP1
      have hK1 := va_K.moved hvm.symm hK1
      obtain ⟨hP, hD⟩ := va_join (wr := [(q_5, .inl (cA_6, 1, .inr (.inl ur_42)))]) (w1 := [(q_3, .inr (8, [.int 1, .ref q1, v2, .ref q3, .ref q4, .ref q5, .ref q6, .ref q7, .ref q8, v9, v10, v11, v12, v13, v14, v15, v16]))]) hP hD [1] [0] rfl rfl (by decide) (by decide) hk1 hFc hP1 hD1
      clear hk1 hz1 ht hPc hDc hKc
      generalize H1 = H at hP hS ⊢
      have hP : va_P (dC, dI) vwCl [(q_5, .inl (cA_6, 1, .inr (.inl ur_42))), (q_3, .inr (8, [.int 1, .ref q1, v2, .ref q3, .ref q4, .ref q5, .ref q6, .ref q7, .ref q8, v9, v10, v11, v12, v13, v14, v15, v16]))] H := hP
      have hD : va_D A [(q_5, .inl (cA_6, 1, .inr (.inl ur_42))), (q_3, .inr (8, [.int 1, .ref q1, v2, .ref q3, .ref q4, .ref q5, .ref q6, .ref q7, .ref q8, v9, v10, v11, v12, v13, v14, v15, v16]))] := hD
      refine W.widen (k := 22) (n := 73535) (Nat.le_of_ble_eq_true rfl) (Nat.le_of_ble_eq_true rfl) ?_
      obtain rfl : r_48 = 1 := hw
      refine W.eq (g2 := F0 m 285 ls [.int 1]) rfl ?_
      refine lv_iload hx hb dL_law_285 (lv_at hl 1 rfl) ?_
      refine lv_icmp_eq (tgt := 292) hx hb dL_law_287 (by decide) (fun c_49 => ?_) (fun c_49 => absurd (jr_42.symm) c_49)
      refine lv_iload hx hb dL_law_292 (lv_at hl 1 rfl) ?_
      refine lv_if_ne (tgt := 308) hx hb dL_law_294 (by decide) (fun c_50 => ?_) (fun c_50 => ?_)
      ·
        have ic_50 : ¬ r_42.toInt = 0 := tx_ne rfl (by decide) c_50
        refine lv_goto (tgt := 673) hx hb dL_law_308 (by decide) ?_
        refine lv_iinc (v := 5) (lv' := [(4, .int 5), (6, .long r_47), (5, .int r_42), (3, .ref q_5), (2, .ref q_3), (1, .ref q_1), (0, .ref b)]) hx hb dL_law_673 hl (k := 2) rfl (by decide) (by decide) rfl (fun ls hl => ?_)
        refine lv_goto (tgt := 23) hx hb dL_law_676 (by decide) ?_
        refine lv_iload hx hb dL_law_23 (lv_at hl 0 rfl) ?_
        refine lv_aload_n hx hb dL_law_25 rfl (lv_at hl 6 rfl) ?_
        refine va_slen hx hb hX hbl hbA hS dL_law_26 ?_
        refine W.eq (g2 := F0 m 27 ls [.int 5, .int 5]) rfl ?_
        refine lv_iconst (v := 5) hx hb dL_law_27 (by decide) ?_
        refine lv_isub hx hb dL_law_28 ?_
        refine lv_topi (fun z_51 ez_51 => ?_)
        obtain rfl : z_51 = (0 : Int32) := ez_51.trans (by decide)
        refine lv_icmp_gt (tgt := 679) hx hb dL_law_29 (by decide) (fun c_52 => ?_) (fun c_52 => absurd c_52 (by decide))
        refine lv_iconst (v := 1) hx hb dL_law_679 (by decide) ?_
        refine va_forget (fun q hq => by have h9 := hS.2.2 q hq; rw [hAe] at h9; exact h9) ?_
        refine W.widen (k := 600002) (n := 7302232) (Nat.le_of_ble_eq_true rfl) (Nat.le_of_ble_eq_true rfl) ?_
        exact lw_ret hx hb hr hlocks dL_law_680
      ·
        have ic_50 : r_42.toInt = 0 := tx_eq rfl (by decide) c_50
        refine lv_aload_n hx hb dL_law_297 rfl (lv_at hl 3 rfl) ?_
        refine lv_iconst (v := 0) hx hb dL_law_298 (by decide) ?_
        refine va_lald (i := 0) hx hb hK hP 0 8 rfl rfl (by unfold vp_in; decide) dL_law_299 ?_
        refine W.eq (g2 := F0 m 300 ls [.long (ur_42 0)]) rfl ?_
        refine lv_lload hx hb dL_law_300 (lv_at hl 0 rfl) ?_
        refine W.lcmp hx hb dL_law_302 ?_
        refine lv_if_eq (tgt := 308) hx hb dL_law_303 (by decide) (fun c_53 => ?_) (fun c_53 => absurd (absurd ic_50 (by rw [jr_42]; decide)) c_53)
        refine lv_goto (tgt := 673) hx hb dL_law_308 (by decide) ?_
        refine lv_iinc (v := 5) (lv' := [(4, .int 5), (6, .long r_47), (5, .int r_42), (3, .ref q_5), (2, .ref q_3), (1, .ref q_1), (0, .ref b)]) hx hb dL_law_673 hl (k := 2) rfl (by decide) (by decide) rfl (fun ls hl => ?_)
        refine lv_goto (tgt := 23) hx hb dL_law_676 (by decide) ?_
        refine lv_iload hx hb dL_law_23 (lv_at hl 0 rfl) ?_
        refine lv_aload_n hx hb dL_law_25 rfl (lv_at hl 6 rfl) ?_
        refine va_slen hx hb hX hbl hbA hS dL_law_26 ?_
        refine W.eq (g2 := F0 m 27 ls [.int 5, .int 5]) rfl ?_
        refine lv_iconst (v := 5) hx hb dL_law_27 (by decide) ?_
        refine lv_isub hx hb dL_law_28 ?_
        refine lv_topi (fun z_54 ez_54 => ?_)
        obtain rfl : z_54 = (0 : Int32) := ez_54.trans (by decide)
        refine lv_icmp_gt (tgt := 679) hx hb dL_law_29 (by decide) (fun c_55 => ?_) (fun c_55 => absurd c_55 (by decide))
        refine lv_iconst (v := 1) hx hb dL_law_679 (by decide) ?_
        refine va_forget (fun q hq => by have h9 := hS.2.2 q hq; rw [hAe] at h9; exact h9) ?_
        refine W.widen (k := 600002) (n := 7302232) (Nat.le_of_ble_eq_true rfl) (Nat.le_of_ble_eq_true rfl) ?_
        exact lw_ret hx hb hr hlocks dL_law_680
    ·
      refine W.eq (g2 := F0 m 39 ls [.int 3]) (by rw [ej9]; rfl) ?_
      refine lv_tableIn (x := 3) (off := 272) (tgt := 311) hx hb dL_law_39 (by decide) (by decide) (by decide) (by decide) ?_
      refine lv_aload_n hx hb dL_law_311 rfl (lv_at hl 3 rfl) ?_
      refine lv_aload_n hx hb dL_law_312 rfl (lv_at hl 4 rfl) ?_
      refine lv_iload hx hb dL_law_313 (lv_at hl 0 rfl) ?_
      refine lv_iconst (v := 1) hx hb dL_law_315 (by decide) ?_
      refine lv_iadd hx hb dL_law_316 ?_
      refine lv_topi (fun z_56 ez_56 => ?_)
      obtain rfl : z_56 = (1 : Int32) := ez_56.trans (by decide)
      refine va_sld (i := 1) hx hb hX hbl hbA hS (by unfold vp_in; decide) dL_law_317 ?_
      refine W.eq (g2 := F0 m 318 ls [.int (xs 1), .ref q_1]) rfl ?_
      refine lv_aload_n hx hb dL_law_318 rfl (lv_at hl 4 rfl) ?_
      refine lv_iload hx hb dL_law_319 (lv_at hl 0 rfl) ?_
      refine lv_iconst (v := 2) hx hb dL_law_321 (by decide) ?_
      refine lv_iadd hx hb dL_law_322 ?_
      refine lv_topi (fun z_57 ez_57 => ?_)
      obtain rfl : z_57 = (2 : Int32) := ez_57.trans (by decide)
      refine va_sld (i := 2) hx hb hX hbl hbA hS (by unfold vp_in; decide) dL_law_323 ?_
      refine W.eq (g2 := F0 m 324 ls [.int (xs 2), .int (xs 1), .ref q_1]) rfl ?_
      refine lv_aload_n hx hb dL_law_324 rfl (lv_at hl 4 rfl) ?_
      refine lv_iload hx hb dL_law_325 (lv_at hl 0 rfl) ?_
      refine lv_iconst (v := 3) hx hb dL_law_327 (by decide) ?_
      refine lv_iadd hx hb dL_law_328 ?_
      refine lv_topi (fun z_58 ez_58 => ?_)
      obtain rfl : z_58 = (3 : Int32) := ez_58.trans (by decide)
      refine va_sld (i := 3) hx hb hX hbl hbA hS (by unfold vp_in; decide) dL_law_329 ?_
      refine W.eq (g2 := F0 m 330 ls [.int (xs 3), .int (xs 2), .int (xs 1), .ref q_1]) rfl ?_
      refine lv_aload_n hx hb dL_law_330 rfl (lv_at hl 4 rfl) ?_
      refine lv_iload hx hb dL_law_331 (lv_at hl 0 rfl) ?_
      refine lv_iconst (v := 4) hx hb dL_law_333 (by decide) ?_
      refine lv_iadd hx hb dL_law_334 ?_
      refine lv_topi (fun z_59 ez_59 => ?_)
      obtain rfl : z_59 = (4 : Int32) := ez_59.trans (by decide)
      refine va_sld (i := 4) hx hb hX hbl hbA hS (by unfold vp_in; decide) dL_law_335 ?_
      refine W.eq (g2 := F0 m 336 ls [.int (xs 4), .int (xs 3), .int (xs 2), .int (xs 1), .ref q_1]) rfl ?_
      refine lv_aload_n hx hb dL_law_336 rfl (lv_at hl 1 rfl) ?_
      have hPc := hP.sub (ws' := [(q_1, .inr (7, [.ref qb])), (qb, .inl (cb, 16, .inr (.inr (.inr (.inr (fun _ => none)))))), (q_5, .inl (cA_6, 1, .inr (.inl (fun _ => (0 : Int64)))))]) [0, 1, 10] rfl
      have hDc := hD.sub (ws' := [(q_1, .inr (7, [.ref qb])), (qb, .inl (cb, 16, .inr (.inr (.inr (.inr (fun _ => none)))))), (q_5, .inl (cA_6, 1, .inr (.inl (fun _ => (0 : Int64)))))]) [0, 1, 10] (by decide) rfl
      have hKc := hK.sub (tys' := [(cb, .object "KeyAtlas$Body"), (cA_6, .long)]) [0, 8] rfl
      have hFc := va_free (wc := [(q_1, .inr (7, [.ref qb])), (qb, .inl (cb, 16, .inr (.inr (.inr (.inr (fun _ => none)))))), (q_5, .inl (cA_6, 1, .inr (.inl (fun _ => (0 : Int64)))))]) hD hS hA [0, 1, 10] rfl
      have hZc := (hZ.kept hS.2.1).narrow hFc
      refine va_calli (vx_runSW (As := [.ref q_1, .int (xs 1), .int (xs 2), .int (xs 3), .int (xs 4), .ref q_5]) (rest := []) ⟨hx, hb, hml, hown, hts⟩ (c_L_view l hlt dC dI H.size q_1 qb cb q_5 cA_6 (fun _ => (0 : Int64)) (xs 1) (xs 2) (xs 3) (xs 4)) (vx_cwSW 6 hts gP_law_L_view rfl rfl rfl (by decide +kernel) ⟨(Nat.le_of_ble_eq_true rfl), (Nat.le_of_ble_eq_true rfl)⟩) ⟨pk_blindX, pk_callX hPc hKc hDc hN hZc⟩ rfl rfl hl.1 rfl (lv_room (Nat.le_of_ble_eq_true rfl)) dL_law_337 ⟨(Nat.le_of_ble_eq_true rfl), (Nat.le_of_ble_eq_true rfl)⟩) hS (fun q _ h => hFc q h) hFc (fun r_60 ur_60 t H1 locs ht hvm hw hB hz1 hk1 hS => ?_)
      try dsimp only at hw
      have jr_60 := hw
      obtain ⟨hP1, hK1, hD1⟩ := hB
      rw [ht] at hP1
      have hK1 := va_K.moved hvm.symm hK1
      obtain ⟨hP, hD⟩ := va_join (wr := [(q_3, .inr (8, [.int 0, .ref q1, v2, .ref q3, .ref q4, .ref q5, .ref q6, .ref q7, .ref q8, v9, v10, v11, v12, v13, v14, v15, v16])), (q1, .inl (c1, 16, .inl (fun _ => (0 : Int32)))), (q3, .inl (c3, 16, .inl (fun _ => (0 : Int32)))), (q4, .inl (c4, 16, .inl (fun _ => (0 : Int32)))), (q5, .inl (c5, 16, .inl (fun _ => (0 : Int32)))), (q6, .inl (c6, 16, .inl (fun _ => (0 : Int32)))), (q7, .inl (c7, 16, .inl (fun _ => (0 : Int32)))), (q8, .inl (c8, 16, .inl (fun _ => (0 : Int32))))]) (w1 := [(q_5, .inl (cA_6, 1, .inr (.inl ur_60)))]) hP hD [0, 1, 10] [2, 3, 4, 5, 6, 7, 8, 9] rfl rfl (by decide) (by decide) hk1 hFc hP1 hD1
      clear hk1 hz1 ht hPc hDc hKc
      generalize H1 = H at hP hS ⊢
      have hP : va_P (dC, dI) vwCl [(q_3, .inr (8, [.int 0, .ref q1, v2, .ref q3, .ref q4, .ref q5, .ref q6, .ref q7, .ref q8, v9, v10, v11, v12, v13, v14, v15, v16])), (q1, .inl (c1, 16, .inl (fun _ => (0 : Int32)))), (q3, .inl (c3, 16, .inl (fun _ => (0 : Int32)))), (q4, .inl (c4, 16, .inl (fun _ => (0 : Int32)))), (q5, .inl (c5, 16, .inl (fun _ => (0 : Int32)))), (q6, .inl (c6, 16, .inl (fun _ => (0 : Int32)))), (q7, .inl (c7, 16, .inl (fun _ => (0 : Int32)))), (q8, .inl (c8, 16, .inl (fun _ => (0 : Int32)))), (q_5, .inl (cA_6, 1, .inr (.inl ur_60)))] H := hP
      have hD : va_D A [(q_3, .inr (8, [.int 0, .ref q1, v2, .ref q3, .ref q4, .ref q5, .ref q6, .ref q7, .ref q8, v9, v10, v11, v12, v13, v14, v15, v16])), (q1, .inl (c1, 16, .inl (fun _ => (0 : Int32)))), (q3, .inl (c3, 16, .inl (fun _ => (0 : Int32)))), (q4, .inl (c4, 16, .inl (fun _ => (0 : Int32)))), (q5, .inl (c5, 16, .inl (fun _ => (0 : Int32)))), (q6, .inl (c6, 16, .inl (fun _ => (0 : Int32)))), (q7, .inl (c7, 16, .inl (fun _ => (0 : Int32)))), (q8, .inl (c8, 16, .inl (fun _ => (0 : Int32)))), (q_5, .inl (cA_6, 1, .inr (.inl ur_60)))] := hD
      refine W.widen (k := 22) (n := 73535) (Nat.le_of_ble_eq_true rfl) (Nat.le_of_ble_eq_true rfl) ?_
      refine W.eq (g2 := F0 m 340 ls [.int r_60]) rfl ?_
      refine lv_istore (lv' := [(5, .int r_60), (4, .int 0), (3, .ref q_5), (2, .ref q_3), (1, .ref q_1), (0, .ref b)]) hx hb dL_law_340 hl (by decide) rfl (fun ls hl => ?_)
      refine lv_aload_n hx hb dL_law_342 rfl (lv_at hl 3 rfl) ?_
      refine lv_aload_n hx hb dL_law_343 rfl (lv_at hl 5 rfl) ?_
      refine lv_iload hx hb dL_law_344 (lv_at hl 1 rfl) ?_
      refine lv_iconst (v := 1) hx hb dL_law_346 (by decide) ?_
      refine lv_iadd hx hb dL_law_347 ?_
      refine lv_topi (fun z_61 ez_61 => ?_)
      obtain rfl : z_61 = (1 : Int32) := ez_61.trans (by decide)
      refine va_sld (i := 1) hx hb hX hbl hbA hS (by unfold vp_in; decide) dL_law_348 ?_
      refine W.eq (g2 := F0 m 349 ls [.int (xs 1), .ref q_3]) rfl ?_
      refine lv_aload_n hx hb dL_law_349 rfl (lv_at hl 5 rfl) ?_
      refine lv_iload hx hb dL_law_350 (lv_at hl 1 rfl) ?_
      refine lv_iconst (v := 2) hx hb dL_law_352 (by decide) ?_
      refine lv_iadd hx hb dL_law_353 ?_
      refine lv_topi (fun z_62 ez_62 => ?_)
      obtain rfl : z_62 = (2 : Int32) := ez_62.trans (by decide)
      refine va_sld (i := 2) hx hb hX hbl hbA hS (by unfold vp_in; decide) dL_law_354 ?_
      refine W.eq (g2 := F0 m 355 ls [.int (xs 2), .int (xs 1), .ref q_3]) rfl ?_
      refine lv_aload_n hx hb dL_law_355 rfl (lv_at hl 5 rfl) ?_
      refine lv_iload hx hb dL_law_356 (lv_at hl 1 rfl) ?_
      refine lv_iconst (v := 3) hx hb dL_law_358 (by decide) ?_
      refine lv_iadd hx hb dL_law_359 ?_
      refine lv_topi (fun z_63 ez_63 => ?_)
      obtain rfl : z_63 = (3 : Int32) := ez_63.trans (by decide)
      refine va_sld (i := 3) hx hb hX hbl hbA hS (by unfold vp_in; decide) dL_law_360 ?_
      refine W.eq (g2 := F0 m 361 ls [.int (xs 3), .int (xs 2), .int (xs 1), .ref q_3]) rfl ?_
      refine lv_aload_n hx hb dL_law_361 rfl (lv_at hl 5 rfl) ?_
      refine lv_iload hx hb dL_law_362 (lv_at hl 1 rfl) ?_
      refine lv_iconst (v := 4) hx hb dL_law_364 (by decide) ?_
      refine lv_iadd hx hb dL_law_365 ?_
      refine lv_topi (fun z_64 ez_64 => ?_)
      obtain rfl : z_64 = (4 : Int32) := ez_64.trans (by decide)
      refine va_sld (i := 4) hx hb hX hbl hbA hS (by unfold vp_in; decide) dL_law_366 ?_
      refine W.eq (g2 := F0 m 367 ls [.int (xs 4), .int (xs 3), .int (xs 2), .int (xs 1), .ref q_3]) rfl ?_
      have hPc := hP.sub (ws' := [(q_3, .inr (8, [.int 0, .ref q1, v2, .ref q3, .ref q4, .ref q5, .ref q6, .ref q7, .ref q8, v9, v10, v11, v12, v13, v14, v15, v16])), (q1, .inl (c1, 16, .inl (fun _ => (0 : Int32)))), (q3, .inl (c3, 16, .inl (fun _ => (0 : Int32)))), (q4, .inl (c4, 16, .inl (fun _ => (0 : Int32)))), (q5, .inl (c5, 16, .inl (fun _ => (0 : Int32)))), (q6, .inl (c6, 16, .inl (fun _ => (0 : Int32)))), (q7, .inl (c7, 16, .inl (fun _ => (0 : Int32)))), (q8, .inl (c8, 16, .inl (fun _ => (0 : Int32))))]) [0, 1, 2, 3, 4, 5, 6, 7] rfl
      have hDc := hD.sub (ws' := [(q_3, .inr (8, [.int 0, .ref q1, v2, .ref q3, .ref q4, .ref q5, .ref q6, .ref q7, .ref q8, v9, v10, v11, v12, v13, v14, v15, v16])), (q1, .inl (c1, 16, .inl (fun _ => (0 : Int32)))), (q3, .inl (c3, 16, .inl (fun _ => (0 : Int32)))), (q4, .inl (c4, 16, .inl (fun _ => (0 : Int32)))), (q5, .inl (c5, 16, .inl (fun _ => (0 : Int32)))), (q6, .inl (c6, 16, .inl (fun _ => (0 : Int32)))), (q7, .inl (c7, 16, .inl (fun _ => (0 : Int32)))), (q8, .inl (c8, 16, .inl (fun _ => (0 : Int32))))]) [0, 1, 2, 3, 4, 5, 6, 7] (by decide) rfl
      have hKc := hK.sub (tys' := [(c1, .int), (c3, .int), (c4, .int), (c5, .int), (c6, .int), (c7, .int), (c8, .int)]) [1, 2, 3, 4, 5, 6, 7] rfl
      have hFc := va_free (wc := [(q_3, .inr (8, [.int 0, .ref q1, v2, .ref q3, .ref q4, .ref q5, .ref q6, .ref q7, .ref q8, v9, v10, v11, v12, v13, v14, v15, v16])), (q1, .inl (c1, 16, .inl (fun _ => (0 : Int32)))), (q3, .inl (c3, 16, .inl (fun _ => (0 : Int32)))), (q4, .inl (c4, 16, .inl (fun _ => (0 : Int32)))), (q5, .inl (c5, 16, .inl (fun _ => (0 : Int32)))), (q6, .inl (c6, 16, .inl (fun _ => (0 : Int32)))), (q7, .inl (c7, 16, .inl (fun _ => (0 : Int32)))), (q8, .inl (c8, 16, .inl (fun _ => (0 : Int32))))]) hD hS hA [0, 1, 2, 3, 4, 5, 6, 7] rfl
      refine va_calli (va_runV (As := [.int (xs 1), .int (xs 2), .int (xs 3), .int (xs 4)]) (rest := []) ⟨hx, hb, hml, hown, hts⟩ (c_X8_view l  dC dI H.size q_3 0 q1 q3 q4 q5 q6 q7 q8 c1 c3 c4 c5 c6 c7 c8 v2 v9 v10 v11 v12 v13 v14 v15 v16 (xs 1) (xs 2) (xs 3) (xs 4)) (cwV 4 hts gP_law_X8_view rfl rfl rfl (by decide +kernel) ⟨(Nat.le_of_ble_eq_true rfl), (Nat.le_of_ble_eq_true rfl)⟩) ⟨pk_blind, va_recv hKc hPc (ci := 8) (q0 := 0) rfl rfl, pk_call hPc hKc hDc⟩ rfl rfl hl.1 rfl (lv_room (Nat.le_of_ble_eq_true rfl)) dL_law_367 ⟨(Nat.le_of_ble_eq_true rfl), (Nat.le_of_ble_eq_true rfl)⟩) hS (fun q _ h => hFc q h) hFc (fun r_65 ur_65 t H1 locs ht hvm hw hB hz1 hk1 hS => ?_)
      try dsimp only at hw
      have jr_65 := hw
      obtain ⟨hP1, hK1, hD1⟩ := hB
      rw [ht] at hP1
      have hK1 := va_K.moved hvm.symm hK1
      obtain ⟨hP, hD⟩ := va_join (wr := [(q_5, .inl (cA_6, 1, .inr (.inl ur_60)))]) (w1 := [(q_3, .inr (8, [.int 1, .ref q1, v2, .ref q3, .ref q4, .ref q5, .ref q6, .ref q7, .ref q8, v9, v10, v11, v12, v13, v14, v15, v16]))]) hP hD [0, 1, 2, 3, 4, 5, 6, 7] [8] rfl rfl (by decide) (by decide) hk1 hFc hP1 hD1
      clear hk1 hz1 ht hPc hDc hKc
      generalize H1 = H at hP hS ⊢
      have hP : va_P (dC, dI) vwCl [(q_5, .inl (cA_6, 1, .inr (.inl ur_60))), (q_3, .inr (8, [.int 1, .ref q1, v2, .ref q3, .ref q4, .ref q5, .ref q6, .ref q7, .ref q8, v9, v10, v11, v12, v13, v14, v15, v16]))] H := hP
      have hD : va_D A [(q_5, .inl (cA_6, 1, .inr (.inl ur_60))), (q_3, .inr (8, [.int 1, .ref q1, v2, .ref q3, .ref q4, .ref q5, .ref q6, .ref q7, .ref q8, v9, v10, v11, v12, v13, v14, v15, v16]))] := hD
      refine W.widen (k := 22) (n := 73535) (Nat.le_of_ble_eq_true rfl) (Nat.le_of_ble_eq_true rfl) ?_
      refine W.eq (g2 := F0 m 370 ls [.int r_65]) rfl ?_
      refine lv_istore (lv' := [(6, .int r_65), (5, .int r_60), (4, .int 0), (3, .ref q_5), (2, .ref q_3), (1, .ref q_1), (0, .ref b)]) hx hb dL_law_370 hl (by decide) rfl (fun ls hl => ?_)
      refine lv_aload_n hx hb dL_law_372 rfl (lv_at hl 4 rfl) ?_
      have hPc := hP.sub (ws' := [(q_3, .inr (8, [.int 1, .ref q1, v2, .ref q3, .ref q4, .ref q5, .ref q6, .ref q7, .ref q8, v9, v10, v11, v12, v13, v14, v15, v16]))]) [1] rfl
      have hDc := hD.sub (ws' := [(q_3, .inr (8, [.int 1, .ref q1, v2, .ref q3, .ref q4, .ref q5, .ref q6, .ref q7, .ref q8, v9, v10, v11, v12, v13, v14, v15, v16]))]) [1] (by decide) rfl
      have hKc := hK.sub (tys' := []) [] rfl
      have hFc := va_free (wc := [(q_3, .inr (8, [.int 1, .ref q1, v2, .ref q3, .ref q4, .ref q5, .ref q6, .ref q7, .ref q8, v9, v10, v11, v12, v13, v14, v15, v16]))]) hD hS hA [1] rfl
      refine va_calli (va_runV (As := []) (rest := []) ⟨hx, hb, hml, hown, hts⟩ (c_X8_thrown l  dC dI H.size q_3 1 (.ref q1) v2 (.ref q3) (.ref q4) (.ref q5) (.ref q6) (.ref q7) (.ref q8) v9 v10 v11 v12 v13 v14 v15 v16) (cwV 0 hts gP_law_X8_thrown rfl rfl rfl (by decide +kernel) ⟨(Nat.le_of_ble_eq_true rfl), (Nat.le_of_ble_eq_true rfl)⟩) ⟨pk_blind, va_recv hKc hPc (ci := 8) (q0 := 0) rfl rfl, pk_call hPc hKc hDc⟩ rfl rfl hl.1 rfl (lv_room (Nat.le_of_ble_eq_true rfl)) dL_law_373 ⟨(Nat.le_of_ble_eq_true rfl), (Nat.le_of_ble_eq_true rfl)⟩) hS (fun q _ h => hFc q h) hFc (fun r_66 ur_66 t H1 locs ht hvm hw hB hz1 hk1 hS => ?_)
      try dsimp only at hw
      obtain ⟨hP1, hK1, hD1⟩ := hB
      rw [ht] at hP1
      have hK1 := va_K.moved hvm.symm hK1
      obtain ⟨hP, hD⟩ := va_join (wr := [(q_5, .inl (cA_6, 1, .inr (.inl ur_60)))]) (w1 := [(q_3, .inr (8, [.int 1, .ref q1, v2, .ref q3, .ref q4, .ref q5, .ref q6, .ref q7, .ref q8, v9, v10, v11, v12, v13, v14, v15, v16]))]) hP hD [1] [0] rfl rfl (by decide) (by decide) hk1 hFc hP1 hD1
      clear hk1 hz1 ht hPc hDc hKc
      generalize H1 = H at hP hS ⊢
      have hP : va_P (dC, dI) vwCl [(q_5, .inl (cA_6, 1, .inr (.inl ur_60))), (q_3, .inr (8, [.int 1, .ref q1, v2, .ref q3, .ref q4, .ref q5, .ref q6, .ref q7, .ref q8, v9, v10, v11, v12, v13, v14, v15, v16]))] H := hP
      have hD : va_D A [(q_5, .inl (cA_6, 1, .inr (.inl ur_60))), (q_3, .inr (8, [.int 1, .ref q1, v2, .ref q3, .ref q4, .ref q5, .ref q6, .ref q7, .ref q8, v9, v10, v11, v12, v13, v14, v15, v16]))] := hD
      refine W.widen (k := 22) (n := 73535) (Nat.le_of_ble_eq_true rfl) (Nat.le_of_ble_eq_true rfl) ?_
      obtain rfl : r_66 = 1 := hw
      refine W.eq (g2 := F0 m 376 ls [.int 1]) rfl ?_
      refine lv_iload hx hb dL_law_376 (lv_at hl 1 rfl) ?_
      refine lv_icmp_eq (tgt := 383) hx hb dL_law_378 (by decide) (fun c_67 => ?_) (fun c_67 => absurd (jr_60.symm) c_67)
      refine lv_iload hx hb dL_law_383 (lv_at hl 1 rfl) ?_
      refine lv_if_ne (tgt := 400) hx hb dL_law_385 (by decide) (fun c_68 => ?_) (fun c_68 => ?_)
      ·
        have ic_68 : ¬ r_60.toInt = 0 := tx_ne rfl (by decide) c_68
        refine lv_goto (tgt := 673) hx hb dL_law_400 (by decide) ?_
        refine lv_iinc (v := 5) (lv' := [(4, .int 5), (6, .int r_65), (5, .int r_60), (3, .ref q_5), (2, .ref q_3), (1, .ref q_1), (0, .ref b)]) hx hb dL_law_673 hl (k := 2) rfl (by decide) (by decide) rfl (fun ls hl => ?_)
        refine lv_goto (tgt := 23) hx hb dL_law_676 (by decide) ?_
        refine lv_iload hx hb dL_law_23 (lv_at hl 0 rfl) ?_
        refine lv_aload_n hx hb dL_law_25 rfl (lv_at hl 6 rfl) ?_
        refine va_slen hx hb hX hbl hbA hS dL_law_26 ?_
        refine W.eq (g2 := F0 m 27 ls [.int 5, .int 5]) rfl ?_
        refine lv_iconst (v := 5) hx hb dL_law_27 (by decide) ?_
        refine lv_isub hx hb dL_law_28 ?_
        refine lv_topi (fun z_69 ez_69 => ?_)
        obtain rfl : z_69 = (0 : Int32) := ez_69.trans (by decide)
        refine lv_icmp_gt (tgt := 679) hx hb dL_law_29 (by decide) (fun c_70 => ?_) (fun c_70 => absurd c_70 (by decide))
        refine lv_iconst (v := 1) hx hb dL_law_679 (by decide) ?_
        refine va_forget (fun q hq => by have h9 := hS.2.2 q hq; rw [hAe] at h9; exact h9) ?_
        refine W.widen (k := 600002) (n := 7302232) (Nat.le_of_ble_eq_true rfl) (Nat.le_of_ble_eq_true rfl) ?_
        exact lw_ret hx hb hr hlocks dL_law_680
      ·
        have ic_68 : r_60.toInt = 0 := tx_eq rfl (by decide) c_68
        refine lv_aload_n hx hb dL_law_388 rfl (lv_at hl 3 rfl) ?_
        refine lv_iconst (v := 0) hx hb dL_law_389 (by decide) ?_
        refine va_lald (i := 0) hx hb hK hP 0 8 rfl rfl (by unfold vp_in; decide) dL_law_390 ?_
        refine W.eq (g2 := F0 m 391 ls [.long (ur_60 0)]) rfl ?_
        refine lv_iload hx hb dL_law_391 (lv_at hl 0 rfl) ?_
        refine lv_i2l (v := r_65.toInt64) hx hb dL_law_393 rfl ?_
        refine W.lcmp hx hb dL_law_394 ?_
        refine lv_if_eq (tgt := 400) hx hb dL_law_395 (by decide) (fun c_71 => ?_) (fun c_71 => absurd (absurd ic_68 (by rw [jr_60]; decide)) c_71)
        refine lv_goto (tgt := 673) hx hb dL_law_400 (by decide) ?_
        refine lv_iinc (v := 5) (lv' := [(4, .int 5), (6, .int r_65), (5, .int r_60), (3, .ref q_5), (2, .ref q_3), (1, .ref q_1), (0, .ref b)]) hx hb dL_law_673 hl (k := 2) rfl (by decide) (by decide) rfl (fun ls hl => ?_)
        refine lv_goto (tgt := 23) hx hb dL_law_676 (by decide) ?_
        refine lv_iload hx hb dL_law_23 (lv_at hl 0 rfl) ?_
        refine lv_aload_n hx hb dL_law_25 rfl (lv_at hl 6 rfl) ?_
        refine va_slen hx hb hX hbl hbA hS dL_law_26 ?_
        refine W.eq (g2 := F0 m 27 ls [.int 5, .int 5]) rfl ?_
        refine lv_iconst (v := 5) hx hb dL_law_27 (by decide) ?_
        refine lv_isub hx hb dL_law_28 ?_
        refine lv_topi (fun z_72 ez_72 => ?_)
        obtain rfl : z_72 = (0 : Int32) := ez_72.trans (by decide)
        refine lv_icmp_gt (tgt := 679) hx hb dL_law_29 (by decide) (fun c_73 => ?_) (fun c_73 => absurd c_73 (by decide))
        refine lv_iconst (v := 1) hx hb dL_law_679 (by decide) ?_
        refine va_forget (fun q hq => by have h9 := hS.2.2 q hq; rw [hAe] at h9; exact h9) ?_
        refine W.widen (k := 600002) (n := 7302232) (Nat.le_of_ble_eq_true rfl) (Nat.le_of_ble_eq_true rfl) ?_
        exact lw_ret hx hb hr hlocks dL_law_680
    ·
      refine W.eq (g2 := F0 m 39 ls [.int 4]) (by rw [ej9]; rfl) ?_
      refine lv_tableIn (x := 4) (off := 364) (tgt := 403) hx hb dL_law_39 (by decide) (by decide) (by decide) (by decide) ?_
      refine lv_aload_n hx hb dL_law_403 rfl (lv_at hl 3 rfl) ?_
      refine lv_aload_n hx hb dL_law_404 rfl (lv_at hl 4 rfl) ?_
      refine lv_iload hx hb dL_law_405 (lv_at hl 0 rfl) ?_
      refine lv_iconst (v := 1) hx hb dL_law_407 (by decide) ?_
      refine lv_iadd hx hb dL_law_408 ?_
      refine lv_topi (fun z_74 ez_74 => ?_)
      obtain rfl : z_74 = (1 : Int32) := ez_74.trans (by decide)
      refine va_sld (i := 1) hx hb hX hbl hbA hS (by unfold vp_in; decide) dL_law_409 ?_
      refine W.eq (g2 := F0 m 410 ls [.int (xs 1), .ref q_1]) rfl ?_
      refine lv_aload_n hx hb dL_law_410 rfl (lv_at hl 1 rfl) ?_
      have hPc := hP.sub (ws' := [(q_1, .inr (7, [.ref qb])), (qb, .inl (cb, 16, .inr (.inr (.inr (.inr (fun _ => none)))))), (q_5, .inl (cA_6, 1, .inr (.inl (fun _ => (0 : Int64)))))]) [0, 1, 10] rfl
      have hDc := hD.sub (ws' := [(q_1, .inr (7, [.ref qb])), (qb, .inl (cb, 16, .inr (.inr (.inr (.inr (fun _ => none)))))), (q_5, .inl (cA_6, 1, .inr (.inl (fun _ => (0 : Int64)))))]) [0, 1, 10] (by decide) rfl
      have hKc := hK.sub (tys' := [(cb, .object "KeyAtlas$Body"), (cA_6, .long)]) [0, 8] rfl
      have hFc := va_free (wc := [(q_1, .inr (7, [.ref qb])), (qb, .inl (cb, 16, .inr (.inr (.inr (.inr (fun _ => none)))))), (q_5, .inl (cA_6, 1, .inr (.inl (fun _ => (0 : Int64)))))]) hD hS hA [0, 1, 10] rfl
      have hZc := (hZ.kept hS.2.1).narrow hFc
      refine va_calli (vx_runSW (As := [.ref q_1, .int (xs 1), .ref q_5]) (rest := []) ⟨hx, hb, hml, hown, hts⟩ (c_L_cursor l hlt dC dI H.size q_1 qb cb q_5 cA_6 (fun _ => (0 : Int64)) (xs 1)) (vx_cwSW 3 hts gP_law_L_cursor rfl rfl rfl (by decide +kernel) ⟨(Nat.le_of_ble_eq_true rfl), (Nat.le_of_ble_eq_true rfl)⟩) ⟨pk_blindX, pk_callX hPc hKc hDc hN hZc⟩ rfl rfl hl.1 rfl (lv_room (Nat.le_of_ble_eq_true rfl)) dL_law_411 ⟨(Nat.le_of_ble_eq_true rfl), (Nat.le_of_ble_eq_true rfl)⟩) hS (fun q _ h => hFc q h) hFc (fun r_75 ur_75 t H1 locs ht hvm hw hB hz1 hk1 hS => ?_)
      try dsimp only at hw
      have jr_75 := hw
      obtain ⟨hP1, hK1, hD1⟩ := hB
      rw [ht] at hP1
      have hK1 := va_K.moved hvm.symm hK1
      obtain ⟨hP, hD⟩ := va_join (wr := [(q_3, .inr (8, [.int 0, .ref q1, v2, .ref q3, .ref q4, .ref q5, .ref q6, .ref q7, .ref q8, v9, v10, v11, v12, v13, v14, v15, v16])), (q1, .inl (c1, 16, .inl (fun _ => (0 : Int32)))), (q3, .inl (c3, 16, .inl (fun _ => (0 : Int32)))), (q4, .inl (c4, 16, .inl (fun _ => (0 : Int32)))), (q5, .inl (c5, 16, .inl (fun _ => (0 : Int32)))), (q6, .inl (c6, 16, .inl (fun _ => (0 : Int32)))), (q7, .inl (c7, 16, .inl (fun _ => (0 : Int32)))), (q8, .inl (c8, 16, .inl (fun _ => (0 : Int32))))]) (w1 := [(q_5, .inl (cA_6, 1, .inr (.inl ur_75)))]) hP hD [0, 1, 10] [2, 3, 4, 5, 6, 7, 8, 9] rfl rfl (by decide) (by decide) hk1 hFc hP1 hD1
      clear hk1 hz1 ht hPc hDc hKc
      generalize H1 = H at hP hS ⊢
      have hP : va_P (dC, dI) vwCl [(q_3, .inr (8, [.int 0, .ref q1, v2, .ref q3, .ref q4, .ref q5, .ref q6, .ref q7, .ref q8, v9, v10, v11, v12, v13, v14, v15, v16])), (q1, .inl (c1, 16, .inl (fun _ => (0 : Int32)))), (q3, .inl (c3, 16, .inl (fun _ => (0 : Int32)))), (q4, .inl (c4, 16, .inl (fun _ => (0 : Int32)))), (q5, .inl (c5, 16, .inl (fun _ => (0 : Int32)))), (q6, .inl (c6, 16, .inl (fun _ => (0 : Int32)))), (q7, .inl (c7, 16, .inl (fun _ => (0 : Int32)))), (q8, .inl (c8, 16, .inl (fun _ => (0 : Int32)))), (q_5, .inl (cA_6, 1, .inr (.inl ur_75)))] H := hP
      have hD : va_D A [(q_3, .inr (8, [.int 0, .ref q1, v2, .ref q3, .ref q4, .ref q5, .ref q6, .ref q7, .ref q8, v9, v10, v11, v12, v13, v14, v15, v16])), (q1, .inl (c1, 16, .inl (fun _ => (0 : Int32)))), (q3, .inl (c3, 16, .inl (fun _ => (0 : Int32)))), (q4, .inl (c4, 16, .inl (fun _ => (0 : Int32)))), (q5, .inl (c5, 16, .inl (fun _ => (0 : Int32)))), (q6, .inl (c6, 16, .inl (fun _ => (0 : Int32)))), (q7, .inl (c7, 16, .inl (fun _ => (0 : Int32)))), (q8, .inl (c8, 16, .inl (fun _ => (0 : Int32)))), (q_5, .inl (cA_6, 1, .inr (.inl ur_75)))] := hD
      refine W.widen (k := 22) (n := 73535) (Nat.le_of_ble_eq_true rfl) (Nat.le_of_ble_eq_true rfl) ?_
      refine W.eq (g2 := F0 m 414 ls [.int r_75]) rfl ?_
      refine lv_istore (lv' := [(5, .int r_75), (4, .int 0), (3, .ref q_5), (2, .ref q_3), (1, .ref q_1), (0, .ref b)]) hx hb dL_law_414 hl (by decide) rfl (fun ls hl => ?_)
      refine lv_aload_n hx hb dL_law_416 rfl (lv_at hl 3 rfl) ?_
      refine lv_aload_n hx hb dL_law_417 rfl (lv_at hl 5 rfl) ?_
      refine lv_iload hx hb dL_law_418 (lv_at hl 1 rfl) ?_
      refine lv_iconst (v := 1) hx hb dL_law_420 (by decide) ?_
      refine lv_iadd hx hb dL_law_421 ?_
      refine lv_topi (fun z_76 ez_76 => ?_)
      obtain rfl : z_76 = (1 : Int32) := ez_76.trans (by decide)
      refine va_sld (i := 1) hx hb hX hbl hbA hS (by unfold vp_in; decide) dL_law_422 ?_
      refine W.eq (g2 := F0 m 423 ls [.int (xs 1), .ref q_3]) rfl ?_
      have hPc := hP.sub (ws' := [(q_3, .inr (8, [.int 0, .ref q1, v2, .ref q3, .ref q4, .ref q5, .ref q6, .ref q7, .ref q8, v9, v10, v11, v12, v13, v14, v15, v16])), (q1, .inl (c1, 16, .inl (fun _ => (0 : Int32)))), (q3, .inl (c3, 16, .inl (fun _ => (0 : Int32)))), (q4, .inl (c4, 16, .inl (fun _ => (0 : Int32)))), (q5, .inl (c5, 16, .inl (fun _ => (0 : Int32)))), (q6, .inl (c6, 16, .inl (fun _ => (0 : Int32)))), (q7, .inl (c7, 16, .inl (fun _ => (0 : Int32)))), (q8, .inl (c8, 16, .inl (fun _ => (0 : Int32))))]) [0, 1, 2, 3, 4, 5, 6, 7] rfl
      have hDc := hD.sub (ws' := [(q_3, .inr (8, [.int 0, .ref q1, v2, .ref q3, .ref q4, .ref q5, .ref q6, .ref q7, .ref q8, v9, v10, v11, v12, v13, v14, v15, v16])), (q1, .inl (c1, 16, .inl (fun _ => (0 : Int32)))), (q3, .inl (c3, 16, .inl (fun _ => (0 : Int32)))), (q4, .inl (c4, 16, .inl (fun _ => (0 : Int32)))), (q5, .inl (c5, 16, .inl (fun _ => (0 : Int32)))), (q6, .inl (c6, 16, .inl (fun _ => (0 : Int32)))), (q7, .inl (c7, 16, .inl (fun _ => (0 : Int32)))), (q8, .inl (c8, 16, .inl (fun _ => (0 : Int32))))]) [0, 1, 2, 3, 4, 5, 6, 7] (by decide) rfl
      have hKc := hK.sub (tys' := [(c1, .int), (c3, .int), (c4, .int), (c5, .int), (c6, .int), (c7, .int), (c8, .int)]) [1, 2, 3, 4, 5, 6, 7] rfl
      have hFc := va_free (wc := [(q_3, .inr (8, [.int 0, .ref q1, v2, .ref q3, .ref q4, .ref q5, .ref q6, .ref q7, .ref q8, v9, v10, v11, v12, v13, v14, v15, v16])), (q1, .inl (c1, 16, .inl (fun _ => (0 : Int32)))), (q3, .inl (c3, 16, .inl (fun _ => (0 : Int32)))), (q4, .inl (c4, 16, .inl (fun _ => (0 : Int32)))), (q5, .inl (c5, 16, .inl (fun _ => (0 : Int32)))), (q6, .inl (c6, 16, .inl (fun _ => (0 : Int32)))), (q7, .inl (c7, 16, .inl (fun _ => (0 : Int32)))), (q8, .inl (c8, 16, .inl (fun _ => (0 : Int32))))]) hD hS hA [0, 1, 2, 3, 4, 5, 6, 7] rfl
      refine va_calli (va_runV (As := [.int (xs 1)]) (rest := []) ⟨hx, hb, hml, hown, hts⟩ (c_X8_cursor l  dC dI H.size q_3 0 q1 q3 q4 q5 q6 q7 q8 c1 c3 c4 c5 c6 c7 c8 v2 v9 v10 v11 v12 v13 v14 v15 v16 (xs 1)) (cwV 1 hts gP_law_X8_cursor rfl rfl rfl (by decide +kernel) ⟨(Nat.le_of_ble_eq_true rfl), (Nat.le_of_ble_eq_true rfl)⟩) ⟨pk_blind, va_recv hKc hPc (ci := 8) (q0 := 0) rfl rfl, pk_call hPc hKc hDc⟩ rfl rfl hl.1 rfl (lv_room (Nat.le_of_ble_eq_true rfl)) dL_law_423 ⟨(Nat.le_of_ble_eq_true rfl), (Nat.le_of_ble_eq_true rfl)⟩) hS (fun q _ h => hFc q h) hFc (fun r_77 ur_77 t H1 locs ht hvm hw hB hz1 hk1 hS => ?_)
      try dsimp only at hw
      have jr_77 := hw
      obtain ⟨hP1, hK1, hD1⟩ := hB
      rw [ht] at hP1
      have hK1 := va_K.moved hvm.symm hK1
      obtain ⟨hP, hD⟩ := va_join (wr := [(q_5, .inl (cA_6, 1, .inr (.inl ur_75)))]) (w1 := [(q_3, .inr (8, [.int 1, .ref q1, v2, .ref q3, .ref q4, .ref q5, .ref q6, .ref q7, .ref q8, v9, v10, v11, v12, v13, v14, v15, v16]))]) hP hD [0, 1, 2, 3, 4, 5, 6, 7] [8] rfl rfl (by decide) (by decide) hk1 hFc hP1 hD1
      clear hk1 hz1 ht hPc hDc hKc
      generalize H1 = H at hP hS ⊢
      have hP : va_P (dC, dI) vwCl [(q_5, .inl (cA_6, 1, .inr (.inl ur_75))), (q_3, .inr (8, [.int 1, .ref q1, v2, .ref q3, .ref q4, .ref q5, .ref q6, .ref q7, .ref q8, v9, v10, v11, v12, v13, v14, v15, v16]))] H := hP
      have hD : va_D A [(q_5, .inl (cA_6, 1, .inr (.inl ur_75))), (q_3, .inr (8, [.int 1, .ref q1, v2, .ref q3, .ref q4, .ref q5, .ref q6, .ref q7, .ref q8, v9, v10, v11, v12, v13, v14, v15, v16]))] := hD
      refine W.widen (k := 22) (n := 73535) (Nat.le_of_ble_eq_true rfl) (Nat.le_of_ble_eq_true rfl) ?_
      refine W.eq (g2 := F0 m 426 ls [.int r_77]) rfl ?_
      refine lv_istore (lv' := [(6, .int r_77), (5, .int r_75), (4, .int 0), (3, .ref q_5), (2, .ref q_3), (1, .ref q_1), (0, .ref b)]) hx hb dL_law_426 hl (by decide) rfl (fun ls hl => ?_)
      refine lv_aload_n hx hb dL_law_428 rfl (lv_at hl 4 rfl) ?_
      have hPc := hP.sub (ws' := [(q_3, .inr (8, [.int 1, .ref q1, v2, .ref q3, .ref q4, .ref q5, .ref q6, .ref q7, .ref q8, v9, v10, v11, v12, v13, v14, v15, v16]))]) [1] rfl
      have hDc := hD.sub (ws' := [(q_3, .inr (8, [.int 1, .ref q1, v2, .ref q3, .ref q4, .ref q5, .ref q6, .ref q7, .ref q8, v9, v10, v11, v12, v13, v14, v15, v16]))]) [1] (by decide) rfl
      have hKc := hK.sub (tys' := []) [] rfl
      have hFc := va_free (wc := [(q_3, .inr (8, [.int 1, .ref q1, v2, .ref q3, .ref q4, .ref q5, .ref q6, .ref q7, .ref q8, v9, v10, v11, v12, v13, v14, v15, v16]))]) hD hS hA [1] rfl
      refine va_calli (va_runV (As := []) (rest := []) ⟨hx, hb, hml, hown, hts⟩ (c_X8_thrown l  dC dI H.size q_3 1 (.ref q1) v2 (.ref q3) (.ref q4) (.ref q5) (.ref q6) (.ref q7) (.ref q8) v9 v10 v11 v12 v13 v14 v15 v16) (cwV 0 hts gP_law_X8_thrown rfl rfl rfl (by decide +kernel) ⟨(Nat.le_of_ble_eq_true rfl), (Nat.le_of_ble_eq_true rfl)⟩) ⟨pk_blind, va_recv hKc hPc (ci := 8) (q0 := 0) rfl rfl, pk_call hPc hKc hDc⟩ rfl rfl hl.1 rfl (lv_room (Nat.le_of_ble_eq_true rfl)) dL_law_429 ⟨(Nat.le_of_ble_eq_true rfl), (Nat.le_of_ble_eq_true rfl)⟩) hS (fun q _ h => hFc q h) hFc (fun r_78 ur_78 t H1 locs ht hvm hw hB hz1 hk1 hS => ?_)
      try dsimp only at hw
      obtain ⟨hP1, hK1, hD1⟩ := hB
      rw [ht] at hP1
      have hK1 := va_K.moved hvm.symm hK1
      obtain ⟨hP, hD⟩ := va_join (wr := [(q_5, .inl (cA_6, 1, .inr (.inl ur_75)))]) (w1 := [(q_3, .inr (8, [.int 1, .ref q1, v2, .ref q3, .ref q4, .ref q5, .ref q6, .ref q7, .ref q8, v9, v10, v11, v12, v13, v14, v15, v16]))]) hP hD [1] [0] rfl rfl (by decide) (by decide) hk1 hFc hP1 hD1
      clear hk1 hz1 ht hPc hDc hKc
      generalize H1 = H at hP hS ⊢
      have hP : va_P (dC, dI) vwCl [(q_5, .inl (cA_6, 1, .inr (.inl ur_75))), (q_3, .inr (8, [.int 1, .ref q1, v2, .ref q3, .ref q4, .ref q5, .ref q6, .ref q7, .ref q8, v9, v10, v11, v12, v13, v14, v15, v16]))] H := hP
      have hD : va_D A [(q_5, .inl (cA_6, 1, .inr (.inl ur_75))), (q_3, .inr (8, [.int 1, .ref q1, v2, .ref q3, .ref q4, .ref q5, .ref q6, .ref q7, .ref q8, v9, v10, v11, v12, v13, v14, v15, v16]))] := hD
      refine W.widen (k := 22) (n := 73535) (Nat.le_of_ble_eq_true rfl) (Nat.le_of_ble_eq_true rfl) ?_
      obtain rfl : r_78 = 1 := hw
      refine W.eq (g2 := F0 m 432 ls [.int 1]) rfl ?_
      refine lv_iload hx hb dL_law_432 (lv_at hl 1 rfl) ?_
      refine lv_icmp_eq (tgt := 439) hx hb dL_law_434 (by decide) (fun c_79 => ?_) (fun c_79 => absurd (jr_75.symm) c_79)
      refine lv_iload hx hb dL_law_439 (lv_at hl 1 rfl) ?_
      refine lv_if_ne (tgt := 456) hx hb dL_law_441 (by decide) (fun c_80 => ?_) (fun c_80 => ?_)
      ·
        have ic_80 : ¬ r_75.toInt = 0 := tx_ne rfl (by decide) c_80
        refine lv_goto (tgt := 673) hx hb dL_law_456 (by decide) ?_
        refine lv_iinc (v := 5) (lv' := [(4, .int 5), (6, .int r_77), (5, .int r_75), (3, .ref q_5), (2, .ref q_3), (1, .ref q_1), (0, .ref b)]) hx hb dL_law_673 hl (k := 2) rfl (by decide) (by decide) rfl (fun ls hl => ?_)
        refine lv_goto (tgt := 23) hx hb dL_law_676 (by decide) ?_
        refine lv_iload hx hb dL_law_23 (lv_at hl 0 rfl) ?_
        refine lv_aload_n hx hb dL_law_25 rfl (lv_at hl 6 rfl) ?_
        refine va_slen hx hb hX hbl hbA hS dL_law_26 ?_
        refine W.eq (g2 := F0 m 27 ls [.int 5, .int 5]) rfl ?_
        refine lv_iconst (v := 5) hx hb dL_law_27 (by decide) ?_
        refine lv_isub hx hb dL_law_28 ?_
        refine lv_topi (fun z_81 ez_81 => ?_)
        obtain rfl : z_81 = (0 : Int32) := ez_81.trans (by decide)
        refine lv_icmp_gt (tgt := 679) hx hb dL_law_29 (by decide) (fun c_82 => ?_) (fun c_82 => absurd c_82 (by decide))
        refine lv_iconst (v := 1) hx hb dL_law_679 (by decide) ?_
        refine va_forget (fun q hq => by have h9 := hS.2.2 q hq; rw [hAe] at h9; exact h9) ?_
        refine W.widen (k := 600002) (n := 7302232) (Nat.le_of_ble_eq_true rfl) (Nat.le_of_ble_eq_true rfl) ?_
        exact lw_ret hx hb hr hlocks dL_law_680
      ·
        have ic_80 : r_75.toInt = 0 := tx_eq rfl (by decide) c_80
        refine lv_aload_n hx hb dL_law_444 rfl (lv_at hl 3 rfl) ?_
        refine lv_iconst (v := 0) hx hb dL_law_445 (by decide) ?_
        refine va_lald (i := 0) hx hb hK hP 0 8 rfl rfl (by unfold vp_in; decide) dL_law_446 ?_
        refine W.eq (g2 := F0 m 447 ls [.long (ur_75 0)]) rfl ?_
        refine lv_iload hx hb dL_law_447 (lv_at hl 0 rfl) ?_
        refine lv_i2l (v := r_77.toInt64) hx hb dL_law_449 rfl ?_
        refine W.lcmp hx hb dL_law_450 ?_
        refine lv_if_eq (tgt := 456) hx hb dL_law_451 (by decide) (fun c_83 => ?_) (fun c_83 => absurd (absurd ic_80 (by rw [jr_75]; decide)) c_83)
        refine lv_goto (tgt := 673) hx hb dL_law_456 (by decide) ?_
        refine lv_iinc (v := 5) (lv' := [(4, .int 5), (6, .int r_77), (5, .int r_75), (3, .ref q_5), (2, .ref q_3), (1, .ref q_1), (0, .ref b)]) hx hb dL_law_673 hl (k := 2) rfl (by decide) (by decide) rfl (fun ls hl => ?_)
        refine lv_goto (tgt := 23) hx hb dL_law_676 (by decide) ?_
        refine lv_iload hx hb dL_law_23 (lv_at hl 0 rfl) ?_
        refine lv_aload_n hx hb dL_law_25 rfl (lv_at hl 6 rfl) ?_
        refine va_slen hx hb hX hbl hbA hS dL_law_26 ?_
        refine W.eq (g2 := F0 m 27 ls [.int 5, .int 5]) rfl ?_
        refine lv_iconst (v := 5) hx hb dL_law_27 (by decide) ?_
        refine lv_isub hx hb dL_law_28 ?_
        refine lv_topi (fun z_84 ez_84 => ?_)
        obtain rfl : z_84 = (0 : Int32) := ez_84.trans (by decide)
        refine lv_icmp_gt (tgt := 679) hx hb dL_law_29 (by decide) (fun c_85 => ?_) (fun c_85 => absurd c_85 (by decide))
        refine lv_iconst (v := 1) hx hb dL_law_679 (by decide) ?_
        refine va_forget (fun q hq => by have h9 := hS.2.2 q hq; rw [hAe] at h9; exact h9) ?_
        refine W.widen (k := 600002) (n := 7302232) (Nat.le_of_ble_eq_true rfl) (Nat.le_of_ble_eq_true rfl) ?_
        exact lw_ret hx hb hr hlocks dL_law_680
    ·
      refine W.eq (g2 := F0 m 39 ls [.int 5]) (by rw [ej9]; rfl) ?_
      refine lv_tableIn (x := 5) (off := 420) (tgt := 459) hx hb dL_law_39 (by decide) (by decide) (by decide) (by decide) ?_
      refine lv_aload_n hx hb dL_law_459 rfl (lv_at hl 3 rfl) ?_
      refine lv_aload_n hx hb dL_law_460 rfl (lv_at hl 4 rfl) ?_
      refine lv_iload hx hb dL_law_461 (lv_at hl 0 rfl) ?_
      refine lv_iconst (v := 1) hx hb dL_law_463 (by decide) ?_
      refine lv_iadd hx hb dL_law_464 ?_
      refine lv_topi (fun z_86 ez_86 => ?_)
      obtain rfl : z_86 = (1 : Int32) := ez_86.trans (by decide)
      refine va_sld (i := 1) hx hb hX hbl hbA hS (by unfold vp_in; decide) dL_law_465 ?_
      refine W.eq (g2 := F0 m 466 ls [.int (xs 1), .ref q_1]) rfl ?_
      refine lv_aload_n hx hb dL_law_466 rfl (lv_at hl 4 rfl) ?_
      refine lv_iload hx hb dL_law_467 (lv_at hl 0 rfl) ?_
      refine lv_iconst (v := 2) hx hb dL_law_469 (by decide) ?_
      refine lv_iadd hx hb dL_law_470 ?_
      refine lv_topi (fun z_87 ez_87 => ?_)
      obtain rfl : z_87 = (2 : Int32) := ez_87.trans (by decide)
      refine va_sld (i := 2) hx hb hX hbl hbA hS (by unfold vp_in; decide) dL_law_471 ?_
      refine W.eq (g2 := F0 m 472 ls [.int (xs 2), .int (xs 1), .ref q_1]) rfl ?_
      refine lv_aload_n hx hb dL_law_472 rfl (lv_at hl 4 rfl) ?_
      refine lv_iload hx hb dL_law_473 (lv_at hl 0 rfl) ?_
      refine lv_iconst (v := 3) hx hb dL_law_475 (by decide) ?_
      refine lv_iadd hx hb dL_law_476 ?_
      refine lv_topi (fun z_88 ez_88 => ?_)
      obtain rfl : z_88 = (3 : Int32) := ez_88.trans (by decide)
      refine va_sld (i := 3) hx hb hX hbl hbA hS (by unfold vp_in; decide) dL_law_477 ?_
      refine W.eq (g2 := F0 m 478 ls [.int (xs 3), .int (xs 2), .int (xs 1), .ref q_1]) rfl ?_
      refine lv_aload_n hx hb dL_law_478 rfl (lv_at hl 1 rfl) ?_
      have hPc := hP.sub (ws' := [(q_1, .inr (7, [.ref qb])), (qb, .inl (cb, 16, .inr (.inr (.inr (.inr (fun _ => none)))))), (q_5, .inl (cA_6, 1, .inr (.inl (fun _ => (0 : Int64)))))]) [0, 1, 10] rfl
      have hDc := hD.sub (ws' := [(q_1, .inr (7, [.ref qb])), (qb, .inl (cb, 16, .inr (.inr (.inr (.inr (fun _ => none)))))), (q_5, .inl (cA_6, 1, .inr (.inl (fun _ => (0 : Int64)))))]) [0, 1, 10] (by decide) rfl
      have hKc := hK.sub (tys' := [(cb, .object "KeyAtlas$Body"), (cA_6, .long)]) [0, 8] rfl
      have hFc := va_free (wc := [(q_1, .inr (7, [.ref qb])), (qb, .inl (cb, 16, .inr (.inr (.inr (.inr (fun _ => none)))))), (q_5, .inl (cA_6, 1, .inr (.inl (fun _ => (0 : Int64)))))]) hD hS hA [0, 1, 10] rfl
      have hZc := (hZ.kept hS.2.1).narrow hFc
      refine va_calli (vx_runSW (As := [.ref q_1, .int (xs 1), .int (xs 2), .int (xs 3), .ref q_5]) (rest := []) ⟨hx, hb, hml, hown, hts⟩ (c_L_move l hlt dC dI H.size q_1 qb cb q_5 cA_6 (fun _ => (0 : Int64)) (xs 1) (xs 2) (xs 3)) (vx_cwSW 5 hts gP_law_L_move rfl rfl rfl (by decide +kernel) ⟨(Nat.le_of_ble_eq_true rfl), (Nat.le_of_ble_eq_true rfl)⟩) ⟨pk_blindX, pk_callX hPc hKc hDc hN hZc⟩ rfl rfl hl.1 rfl (lv_room (Nat.le_of_ble_eq_true rfl)) dL_law_479 ⟨(Nat.le_of_ble_eq_true rfl), (Nat.le_of_ble_eq_true rfl)⟩) hS (fun q _ h => hFc q h) hFc (fun r_89 ur_89 t H1 locs ht hvm hw hB hz1 hk1 hS => ?_)
      try dsimp only at hw
      have jr_89 := hw
      obtain ⟨hP1, hK1, hD1⟩ := hB
      rw [ht] at hP1
      have hK1 := va_K.moved hvm.symm hK1
      obtain ⟨hP, hD⟩ := va_join (wr := [(q_3, .inr (8, [.int 0, .ref q1, v2, .ref q3, .ref q4, .ref q5, .ref q6, .ref q7, .ref q8, v9, v10, v11, v12, v13, v14, v15, v16])), (q1, .inl (c1, 16, .inl (fun _ => (0 : Int32)))), (q3, .inl (c3, 16, .inl (fun _ => (0 : Int32)))), (q4, .inl (c4, 16, .inl (fun _ => (0 : Int32)))), (q5, .inl (c5, 16, .inl (fun _ => (0 : Int32)))), (q6, .inl (c6, 16, .inl (fun _ => (0 : Int32)))), (q7, .inl (c7, 16, .inl (fun _ => (0 : Int32)))), (q8, .inl (c8, 16, .inl (fun _ => (0 : Int32))))]) (w1 := [(q_5, .inl (cA_6, 1, .inr (.inl ur_89)))]) hP hD [0, 1, 10] [2, 3, 4, 5, 6, 7, 8, 9] rfl rfl (by decide) (by decide) hk1 hFc hP1 hD1
      clear hk1 hz1 ht hPc hDc hKc
      generalize H1 = H at hP hS ⊢
      have hP : va_P (dC, dI) vwCl [(q_3, .inr (8, [.int 0, .ref q1, v2, .ref q3, .ref q4, .ref q5, .ref q6, .ref q7, .ref q8, v9, v10, v11, v12, v13, v14, v15, v16])), (q1, .inl (c1, 16, .inl (fun _ => (0 : Int32)))), (q3, .inl (c3, 16, .inl (fun _ => (0 : Int32)))), (q4, .inl (c4, 16, .inl (fun _ => (0 : Int32)))), (q5, .inl (c5, 16, .inl (fun _ => (0 : Int32)))), (q6, .inl (c6, 16, .inl (fun _ => (0 : Int32)))), (q7, .inl (c7, 16, .inl (fun _ => (0 : Int32)))), (q8, .inl (c8, 16, .inl (fun _ => (0 : Int32)))), (q_5, .inl (cA_6, 1, .inr (.inl ur_89)))] H := hP
      have hD : va_D A [(q_3, .inr (8, [.int 0, .ref q1, v2, .ref q3, .ref q4, .ref q5, .ref q6, .ref q7, .ref q8, v9, v10, v11, v12, v13, v14, v15, v16])), (q1, .inl (c1, 16, .inl (fun _ => (0 : Int32)))), (q3, .inl (c3, 16, .inl (fun _ => (0 : Int32)))), (q4, .inl (c4, 16, .inl (fun _ => (0 : Int32)))), (q5, .inl (c5, 16, .inl (fun _ => (0 : Int32)))), (q6, .inl (c6, 16, .inl (fun _ => (0 : Int32)))), (q7, .inl (c7, 16, .inl (fun _ => (0 : Int32)))), (q8, .inl (c8, 16, .inl (fun _ => (0 : Int32)))), (q_5, .inl (cA_6, 1, .inr (.inl ur_89)))] := hD
      refine W.widen (k := 22) (n := 73535) (Nat.le_of_ble_eq_true rfl) (Nat.le_of_ble_eq_true rfl) ?_
      refine W.eq (g2 := F0 m 482 ls [.int r_89]) rfl ?_
      refine lv_istore (lv' := [(5, .int r_89), (4, .int 0), (3, .ref q_5), (2, .ref q_3), (1, .ref q_1), (0, .ref b)]) hx hb dL_law_482 hl (by decide) rfl (fun ls hl => ?_)
      refine lv_aload_n hx hb dL_law_484 rfl (lv_at hl 3 rfl) ?_
      refine lv_aload_n hx hb dL_law_485 rfl (lv_at hl 5 rfl) ?_
      refine lv_iload hx hb dL_law_486 (lv_at hl 1 rfl) ?_
      refine lv_iconst (v := 1) hx hb dL_law_488 (by decide) ?_
      refine lv_iadd hx hb dL_law_489 ?_
      refine lv_topi (fun z_90 ez_90 => ?_)
      obtain rfl : z_90 = (1 : Int32) := ez_90.trans (by decide)
      refine va_sld (i := 1) hx hb hX hbl hbA hS (by unfold vp_in; decide) dL_law_490 ?_
      refine W.eq (g2 := F0 m 491 ls [.int (xs 1), .ref q_3]) rfl ?_
      refine lv_aload_n hx hb dL_law_491 rfl (lv_at hl 5 rfl) ?_
      refine lv_iload hx hb dL_law_492 (lv_at hl 1 rfl) ?_
      refine lv_iconst (v := 2) hx hb dL_law_494 (by decide) ?_
      refine lv_iadd hx hb dL_law_495 ?_
      refine lv_topi (fun z_91 ez_91 => ?_)
      obtain rfl : z_91 = (2 : Int32) := ez_91.trans (by decide)
      refine va_sld (i := 2) hx hb hX hbl hbA hS (by unfold vp_in; decide) dL_law_496 ?_
      refine W.eq (g2 := F0 m 497 ls [.int (xs 2), .int (xs 1), .ref q_3]) rfl ?_
      refine lv_aload_n hx hb dL_law_497 rfl (lv_at hl 5 rfl) ?_
      refine lv_iload hx hb dL_law_498 (lv_at hl 1 rfl) ?_
      refine lv_iconst (v := 3) hx hb dL_law_500 (by decide) ?_
      refine lv_iadd hx hb dL_law_501 ?_
      refine lv_topi (fun z_92 ez_92 => ?_)
      obtain rfl : z_92 = (3 : Int32) := ez_92.trans (by decide)
      refine va_sld (i := 3) hx hb hX hbl hbA hS (by unfold vp_in; decide) dL_law_502 ?_
      refine W.eq (g2 := F0 m 503 ls [.int (xs 3), .int (xs 2), .int (xs 1), .ref q_3]) rfl ?_
      have hPc := hP.sub (ws' := [(q_3, .inr (8, [.int 0, .ref q1, v2, .ref q3, .ref q4, .ref q5, .ref q6, .ref q7, .ref q8, v9, v10, v11, v12, v13, v14, v15, v16])), (q1, .inl (c1, 16, .inl (fun _ => (0 : Int32)))), (q3, .inl (c3, 16, .inl (fun _ => (0 : Int32)))), (q4, .inl (c4, 16, .inl (fun _ => (0 : Int32)))), (q5, .inl (c5, 16, .inl (fun _ => (0 : Int32)))), (q6, .inl (c6, 16, .inl (fun _ => (0 : Int32)))), (q7, .inl (c7, 16, .inl (fun _ => (0 : Int32)))), (q8, .inl (c8, 16, .inl (fun _ => (0 : Int32))))]) [0, 1, 2, 3, 4, 5, 6, 7] rfl
      have hDc := hD.sub (ws' := [(q_3, .inr (8, [.int 0, .ref q1, v2, .ref q3, .ref q4, .ref q5, .ref q6, .ref q7, .ref q8, v9, v10, v11, v12, v13, v14, v15, v16])), (q1, .inl (c1, 16, .inl (fun _ => (0 : Int32)))), (q3, .inl (c3, 16, .inl (fun _ => (0 : Int32)))), (q4, .inl (c4, 16, .inl (fun _ => (0 : Int32)))), (q5, .inl (c5, 16, .inl (fun _ => (0 : Int32)))), (q6, .inl (c6, 16, .inl (fun _ => (0 : Int32)))), (q7, .inl (c7, 16, .inl (fun _ => (0 : Int32)))), (q8, .inl (c8, 16, .inl (fun _ => (0 : Int32))))]) [0, 1, 2, 3, 4, 5, 6, 7] (by decide) rfl
      have hKc := hK.sub (tys' := [(c1, .int), (c3, .int), (c4, .int), (c5, .int), (c6, .int), (c7, .int), (c8, .int)]) [1, 2, 3, 4, 5, 6, 7] rfl
      have hFc := va_free (wc := [(q_3, .inr (8, [.int 0, .ref q1, v2, .ref q3, .ref q4, .ref q5, .ref q6, .ref q7, .ref q8, v9, v10, v11, v12, v13, v14, v15, v16])), (q1, .inl (c1, 16, .inl (fun _ => (0 : Int32)))), (q3, .inl (c3, 16, .inl (fun _ => (0 : Int32)))), (q4, .inl (c4, 16, .inl (fun _ => (0 : Int32)))), (q5, .inl (c5, 16, .inl (fun _ => (0 : Int32)))), (q6, .inl (c6, 16, .inl (fun _ => (0 : Int32)))), (q7, .inl (c7, 16, .inl (fun _ => (0 : Int32)))), (q8, .inl (c8, 16, .inl (fun _ => (0 : Int32))))]) hD hS hA [0, 1, 2, 3, 4, 5, 6, 7] rfl
      refine va_calll (va_runV (As := [.int (xs 1), .int (xs 2), .int (xs 3)]) (rest := []) ⟨hx, hb, hml, hown, hts⟩ (c_X8_move l  dC dI H.size q_3 0 q1 q3 q4 q5 q6 q7 q8 c1 c3 c4 c5 c6 c7 c8 v2 v9 v10 v11 v12 v13 v14 v15 v16 (xs 1) (xs 2) (xs 3)) (cwV 3 hts gP_law_X8_move rfl rfl rfl (by decide +kernel) ⟨(Nat.le_of_ble_eq_true rfl), (Nat.le_of_ble_eq_true rfl)⟩) ⟨pk_blind, va_recv hKc hPc (ci := 8) (q0 := 0) rfl rfl, pk_call hPc hKc hDc⟩ rfl rfl hl.1 rfl (lv_room (Nat.le_of_ble_eq_true rfl)) dL_law_503 ⟨(Nat.le_of_ble_eq_true rfl), (Nat.le_of_ble_eq_true rfl)⟩) hS (fun q _ h => hFc q h) hFc (fun r_93 ur_93 t H1 locs ht hvm hw hB hz1 hk1 hS => ?_)
      try dsimp only at hw
      have jr_93 := hw
      obtain ⟨hP1, hK1, hD1⟩ := hB
      rw [ht] at hP1
      have hK1 := va_K.moved hvm.symm hK1
      obtain ⟨hP, hD⟩ := va_join (wr := [(q_5, .inl (cA_6, 1, .inr (.inl ur_89)))]) (w1 := [(q_3, .inr (8, [.int 1, .ref q1, v2, .ref q3, .ref q4, .ref q5, .ref q6, .ref q7, .ref q8, v9, v10, v11, v12, v13, v14, v15, v16]))]) hP hD [0, 1, 2, 3, 4, 5, 6, 7] [8] rfl rfl (by decide) (by decide) hk1 hFc hP1 hD1
      clear hk1 hz1 ht hPc hDc hKc
      generalize H1 = H at hP hS ⊢
      have hP : va_P (dC, dI) vwCl [(q_5, .inl (cA_6, 1, .inr (.inl ur_89))), (q_3, .inr (8, [.int 1, .ref q1, v2, .ref q3, .ref q4, .ref q5, .ref q6, .ref q7, .ref q8, v9, v10, v11, v12, v13, v14, v15, v16]))] H := hP
      have hD : va_D A [(q_5, .inl (cA_6, 1, .inr (.inl ur_89))), (q_3, .inr (8, [.int 1, .ref q1, v2, .ref q3, .ref q4, .ref q5, .ref q6, .ref q7, .ref q8, v9, v10, v11, v12, v13, v14, v15, v16]))] := hD
      refine W.widen (k := 22) (n := 73535) (Nat.le_of_ble_eq_true rfl) (Nat.le_of_ble_eq_true rfl) ?_
      refine W.eq (g2 := F0 m 506 ls [.long r_93]) rfl ?_
      refine lv_lstore (lv' := [(6, .long r_93), (5, .int r_89), (4, .int 0), (3, .ref q_5), (2, .ref q_3), (1, .ref q_1), (0, .ref b)]) hx hb dL_law_506 hl (by decide) rfl (fun ls hl => ?_)
      refine lv_aload_n hx hb dL_law_508 rfl (lv_at hl 4 rfl) ?_
      have hPc := hP.sub (ws' := [(q_3, .inr (8, [.int 1, .ref q1, v2, .ref q3, .ref q4, .ref q5, .ref q6, .ref q7, .ref q8, v9, v10, v11, v12, v13, v14, v15, v16]))]) [1] rfl
      have hDc := hD.sub (ws' := [(q_3, .inr (8, [.int 1, .ref q1, v2, .ref q3, .ref q4, .ref q5, .ref q6, .ref q7, .ref q8, v9, v10, v11, v12, v13, v14, v15, v16]))]) [1] (by decide) rfl
      have hKc := hK.sub (tys' := []) [] rfl
      have hFc := va_free (wc := [(q_3, .inr (8, [.int 1, .ref q1, v2, .ref q3, .ref q4, .ref q5, .ref q6, .ref q7, .ref q8, v9, v10, v11, v12, v13, v14, v15, v16]))]) hD hS hA [1] rfl
      refine va_calli (va_runV (As := []) (rest := []) ⟨hx, hb, hml, hown, hts⟩ (c_X8_thrown l  dC dI H.size q_3 1 (.ref q1) v2 (.ref q3) (.ref q4) (.ref q5) (.ref q6) (.ref q7) (.ref q8) v9 v10 v11 v12 v13 v14 v15 v16) (cwV 0 hts gP_law_X8_thrown rfl rfl rfl (by decide +kernel) ⟨(Nat.le_of_ble_eq_true rfl), (Nat.le_of_ble_eq_true rfl)⟩) ⟨pk_blind, va_recv hKc hPc (ci := 8) (q0 := 0) rfl rfl, pk_call hPc hKc hDc⟩ rfl rfl hl.1 rfl (lv_room (Nat.le_of_ble_eq_true rfl)) dL_law_509 ⟨(Nat.le_of_ble_eq_true rfl), (Nat.le_of_ble_eq_true rfl)⟩) hS (fun q _ h => hFc q h) hFc (fun r_94 ur_94 t H1 locs ht hvm hw hB hz1 hk1 hS => ?_)
      try dsimp only at hw
      obtain ⟨hP1, hK1, hD1⟩ := hB
      rw [ht] at hP1
      have hK1 := va_K.moved hvm.symm hK1
      obtain ⟨hP, hD⟩ := va_join (wr := [(q_5, .inl (cA_6, 1, .inr (.inl ur_89)))]) (w1 := [(q_3, .inr (8, [.int 1, .ref q1, v2, .ref q3, .ref q4, .ref q5, .ref q6, .ref q7, .ref q8, v9, v10, v11, v12, v13, v14, v15, v16]))]) hP hD [1] [0] rfl rfl (by decide) (by decide) hk1 hFc hP1 hD1
      clear hk1 hz1 ht hPc hDc hKc
      generalize H1 = H at hP hS ⊢
      have hP : va_P (dC, dI) vwCl [(q_5, .inl (cA_6, 1, .inr (.inl ur_89))), (q_3, .inr (8, [.int 1, .ref q1, v2, .ref q3, .ref q4, .ref q5, .ref q6, .ref q7, .ref q8, v9, v10, v11, v12, v13, v14, v15, v16]))] H := hP
      have hD : va_D A [(q_5, .inl (cA_6, 1, .inr (.inl ur_89))), (q_3, .inr (8, [.int 1, .ref q1, v2, .ref q3, .ref q4, .ref q5, .ref q6, .ref q7, .ref q8, v9, v10, v11, v12, v13, v14, v15, v16]))] := hD
      refine W.widen (k := 22) (n := 73535) (Nat.le_of_ble_eq_true rfl) (Nat.le_of_ble_eq_true rfl) ?_
      obtain rfl : r_94 = 1 := hw
      refine W.eq (g2 := F0 m 512 ls [.int 1]) rfl ?_
      refine lv_iload hx hb dL_law_512 (lv_at hl 1 rfl) ?_
      refine lv_icmp_eq (tgt := 519) hx hb dL_law_514 (by decide) (fun c_95 => ?_) (fun c_95 => absurd (jr_89.symm) c_95)
      refine lv_iload hx hb dL_law_519 (lv_at hl 1 rfl) ?_
      refine lv_if_ne (tgt := 535) hx hb dL_law_521 (by decide) (fun c_96 => ?_) (fun c_96 => ?_)
      ·
        have ic_96 : ¬ r_89.toInt = 0 := tx_ne rfl (by decide) c_96
        refine lv_goto (tgt := 673) hx hb dL_law_535 (by decide) ?_
        refine lv_iinc (v := 5) (lv' := [(4, .int 5), (6, .long r_93), (5, .int r_89), (3, .ref q_5), (2, .ref q_3), (1, .ref q_1), (0, .ref b)]) hx hb dL_law_673 hl (k := 2) rfl (by decide) (by decide) rfl (fun ls hl => ?_)
        refine lv_goto (tgt := 23) hx hb dL_law_676 (by decide) ?_
        refine lv_iload hx hb dL_law_23 (lv_at hl 0 rfl) ?_
        refine lv_aload_n hx hb dL_law_25 rfl (lv_at hl 6 rfl) ?_
        refine va_slen hx hb hX hbl hbA hS dL_law_26 ?_
        refine W.eq (g2 := F0 m 27 ls [.int 5, .int 5]) rfl ?_
        refine lv_iconst (v := 5) hx hb dL_law_27 (by decide) ?_
        refine lv_isub hx hb dL_law_28 ?_
        refine lv_topi (fun z_97 ez_97 => ?_)
        obtain rfl : z_97 = (0 : Int32) := ez_97.trans (by decide)
        refine lv_icmp_gt (tgt := 679) hx hb dL_law_29 (by decide) (fun c_98 => ?_) (fun c_98 => absurd c_98 (by decide))
        refine lv_iconst (v := 1) hx hb dL_law_679 (by decide) ?_
        refine va_forget (fun q hq => by have h9 := hS.2.2 q hq; rw [hAe] at h9; exact h9) ?_
        refine W.widen (k := 600002) (n := 7302232) (Nat.le_of_ble_eq_true rfl) (Nat.le_of_ble_eq_true rfl) ?_
        exact lw_ret hx hb hr hlocks dL_law_680
      ·
        have ic_96 : r_89.toInt = 0 := tx_eq rfl (by decide) c_96
        refine lv_aload_n hx hb dL_law_524 rfl (lv_at hl 3 rfl) ?_
        refine lv_iconst (v := 0) hx hb dL_law_525 (by decide) ?_
        refine va_lald (i := 0) hx hb hK hP 0 8 rfl rfl (by unfold vp_in; decide) dL_law_526 ?_
        refine W.eq (g2 := F0 m 527 ls [.long (ur_89 0)]) rfl ?_
        refine lv_lload hx hb dL_law_527 (lv_at hl 0 rfl) ?_
        refine W.lcmp hx hb dL_law_529 ?_
        refine lv_if_eq (tgt := 535) hx hb dL_law_530 (by decide) (fun c_99 => ?_) (fun c_99 => absurd (absurd ic_96 (by rw [jr_89]; decide)) c_99)
        refine lv_goto (tgt := 673) hx hb dL_law_535 (by decide) ?_
        refine lv_iinc (v := 5) (lv' := [(4, .int 5), (6, .long r_93), (5, .int r_89), (3, .ref q_5), (2, .ref q_3), (1, .ref q_1), (0, .ref b)]) hx hb dL_law_673 hl (k := 2) rfl (by decide) (by decide) rfl (fun ls hl => ?_)
        refine lv_goto (tgt := 23) hx hb dL_law_676 (by decide) ?_
        refine lv_iload hx hb dL_law_23 (lv_at hl 0 rfl) ?_
        refine lv_aload_n hx hb dL_law_25 rfl (lv_at hl 6 rfl) ?_
        refine va_slen hx hb hX hbl hbA hS dL_law_26 ?_
        refine W.eq (g2 := F0 m 27 ls [.int 5, .int 5]) rfl ?_
        refine lv_iconst (v := 5) hx hb dL_law_27 (by decide) ?_
        refine lv_isub hx hb dL_law_28 ?_
        refine lv_topi (fun z_100 ez_100 => ?_)
        obtain rfl : z_100 = (0 : Int32) := ez_100.trans (by decide)
        refine lv_icmp_gt (tgt := 679) hx hb dL_law_29 (by decide) (fun c_101 => ?_) (fun c_101 => absurd c_101 (by decide))
        refine lv_iconst (v := 1) hx hb dL_law_679 (by decide) ?_
        refine va_forget (fun q hq => by have h9 := hS.2.2 q hq; rw [hAe] at h9; exact h9) ?_
        refine W.widen (k := 600002) (n := 7302232) (Nat.le_of_ble_eq_true rfl) (Nat.le_of_ble_eq_true rfl) ?_
        exact lw_ret hx hb hr hlocks dL_law_680
    ·
      refine W.eq (g2 := F0 m 39 ls [.int 6]) (by rw [ej9]; rfl) ?_
      refine lv_tableIn (x := 6) (off := 499) (tgt := 538) hx hb dL_law_39 (by decide) (by decide) (by decide) (by decide) ?_
      refine lv_aload_n hx hb dL_law_538 rfl (lv_at hl 3 rfl) ?_
      refine lv_aload_n hx hb dL_law_539 rfl (lv_at hl 4 rfl) ?_
      refine lv_iload hx hb dL_law_540 (lv_at hl 0 rfl) ?_
      refine lv_iconst (v := 1) hx hb dL_law_542 (by decide) ?_
      refine lv_iadd hx hb dL_law_543 ?_
      refine lv_topi (fun z_102 ez_102 => ?_)
      obtain rfl : z_102 = (1 : Int32) := ez_102.trans (by decide)
      refine va_sld (i := 1) hx hb hX hbl hbA hS (by unfold vp_in; decide) dL_law_544 ?_
      refine W.eq (g2 := F0 m 545 ls [.int (xs 1), .ref q_1]) rfl ?_
      refine lv_aload_n hx hb dL_law_545 rfl (lv_at hl 4 rfl) ?_
      refine lv_iload hx hb dL_law_546 (lv_at hl 0 rfl) ?_
      refine lv_iconst (v := 2) hx hb dL_law_548 (by decide) ?_
      refine lv_iadd hx hb dL_law_549 ?_
      refine lv_topi (fun z_103 ez_103 => ?_)
      obtain rfl : z_103 = (2 : Int32) := ez_103.trans (by decide)
      refine va_sld (i := 2) hx hb hX hbl hbA hS (by unfold vp_in; decide) dL_law_550 ?_
      refine W.eq (g2 := F0 m 551 ls [.int (xs 2), .int (xs 1), .ref q_1]) rfl ?_
      refine lv_aload_n hx hb dL_law_551 rfl (lv_at hl 4 rfl) ?_
      refine lv_iload hx hb dL_law_552 (lv_at hl 0 rfl) ?_
      refine lv_iconst (v := 3) hx hb dL_law_554 (by decide) ?_
      refine lv_iadd hx hb dL_law_555 ?_
      refine lv_topi (fun z_104 ez_104 => ?_)
      obtain rfl : z_104 = (3 : Int32) := ez_104.trans (by decide)
      refine va_sld (i := 3) hx hb hX hbl hbA hS (by unfold vp_in; decide) dL_law_556 ?_
      refine W.eq (g2 := F0 m 557 ls [.int (xs 3), .int (xs 2), .int (xs 1), .ref q_1]) rfl ?_
      refine lv_aload_n hx hb dL_law_557 rfl (lv_at hl 1 rfl) ?_
      have hPc := hP.sub (ws' := [(q_1, .inr (7, [.ref qb])), (qb, .inl (cb, 16, .inr (.inr (.inr (.inr (fun _ => none)))))), (q_5, .inl (cA_6, 1, .inr (.inl (fun _ => (0 : Int64)))))]) [0, 1, 10] rfl
      have hDc := hD.sub (ws' := [(q_1, .inr (7, [.ref qb])), (qb, .inl (cb, 16, .inr (.inr (.inr (.inr (fun _ => none)))))), (q_5, .inl (cA_6, 1, .inr (.inl (fun _ => (0 : Int64)))))]) [0, 1, 10] (by decide) rfl
      have hKc := hK.sub (tys' := [(cb, .object "KeyAtlas$Body"), (cA_6, .long)]) [0, 8] rfl
      have hFc := va_free (wc := [(q_1, .inr (7, [.ref qb])), (qb, .inl (cb, 16, .inr (.inr (.inr (.inr (fun _ => none)))))), (q_5, .inl (cA_6, 1, .inr (.inl (fun _ => (0 : Int64)))))]) hD hS hA [0, 1, 10] rfl
      have hZc := (hZ.kept hS.2.1).narrow hFc
      refine va_calli (vx_runSW (As := [.ref q_1, .int (xs 1), .int (xs 2), .int (xs 3), .ref q_5]) (rest := []) ⟨hx, hb, hml, hown, hts⟩ (c_L_item l hlt dC dI H.size q_1 qb cb q_5 cA_6 (fun _ => (0 : Int64)) (xs 1) (xs 2) (xs 3)) (vx_cwSW 5 hts gP_law_L_item rfl rfl rfl (by decide +kernel) ⟨(Nat.le_of_ble_eq_true rfl), (Nat.le_of_ble_eq_true rfl)⟩) ⟨pk_blindX, pk_callX hPc hKc hDc hN hZc⟩ rfl rfl hl.1 rfl (lv_room (Nat.le_of_ble_eq_true rfl)) dL_law_558 ⟨(Nat.le_of_ble_eq_true rfl), (Nat.le_of_ble_eq_true rfl)⟩) hS (fun q _ h => hFc q h) hFc (fun r_105 ur_105 t H1 locs ht hvm hw hB hz1 hk1 hS => ?_)
      try dsimp only at hw
      have jr_105 := hw
      obtain ⟨hP1, hK1, hD1⟩ := hB
      rw [ht] at hP1
      have hK1 := va_K.moved hvm.symm hK1
      obtain ⟨hP, hD⟩ := va_join (wr := [(q_3, .inr (8, [.int 0, .ref q1, v2, .ref q3, .ref q4, .ref q5, .ref q6, .ref q7, .ref q8, v9, v10, v11, v12, v13, v14, v15, v16])), (q1, .inl (c1, 16, .inl (fun _ => (0 : Int32)))), (q3, .inl (c3, 16, .inl (fun _ => (0 : Int32)))), (q4, .inl (c4, 16, .inl (fun _ => (0 : Int32)))), (q5, .inl (c5, 16, .inl (fun _ => (0 : Int32)))), (q6, .inl (c6, 16, .inl (fun _ => (0 : Int32)))), (q7, .inl (c7, 16, .inl (fun _ => (0 : Int32)))), (q8, .inl (c8, 16, .inl (fun _ => (0 : Int32))))]) (w1 := [(q_5, .inl (cA_6, 1, .inr (.inl ur_105)))]) hP hD [0, 1, 10] [2, 3, 4, 5, 6, 7, 8, 9] rfl rfl (by decide) (by decide) hk1 hFc hP1 hD1
      clear hk1 hz1 ht hPc hDc hKc
      generalize H1 = H at hP hS ⊢
      have hP : va_P (dC, dI) vwCl [(q_3, .inr (8, [.int 0, .ref q1, v2, .ref q3, .ref q4, .ref q5, .ref q6, .ref q7, .ref q8, v9, v10, v11, v12, v13, v14, v15, v16])), (q1, .inl (c1, 16, .inl (fun _ => (0 : Int32)))), (q3, .inl (c3, 16, .inl (fun _ => (0 : Int32)))), (q4, .inl (c4, 16, .inl (fun _ => (0 : Int32)))), (q5, .inl (c5, 16, .inl (fun _ => (0 : Int32)))), (q6, .inl (c6, 16, .inl (fun _ => (0 : Int32)))), (q7, .inl (c7, 16, .inl (fun _ => (0 : Int32)))), (q8, .inl (c8, 16, .inl (fun _ => (0 : Int32)))), (q_5, .inl (cA_6, 1, .inr (.inl ur_105)))] H := hP
      have hD : va_D A [(q_3, .inr (8, [.int 0, .ref q1, v2, .ref q3, .ref q4, .ref q5, .ref q6, .ref q7, .ref q8, v9, v10, v11, v12, v13, v14, v15, v16])), (q1, .inl (c1, 16, .inl (fun _ => (0 : Int32)))), (q3, .inl (c3, 16, .inl (fun _ => (0 : Int32)))), (q4, .inl (c4, 16, .inl (fun _ => (0 : Int32)))), (q5, .inl (c5, 16, .inl (fun _ => (0 : Int32)))), (q6, .inl (c6, 16, .inl (fun _ => (0 : Int32)))), (q7, .inl (c7, 16, .inl (fun _ => (0 : Int32)))), (q8, .inl (c8, 16, .inl (fun _ => (0 : Int32)))), (q_5, .inl (cA_6, 1, .inr (.inl ur_105)))] := hD
      refine W.widen (k := 22) (n := 73535) (Nat.le_of_ble_eq_true rfl) (Nat.le_of_ble_eq_true rfl) ?_
      refine W.eq (g2 := F0 m 561 ls [.int r_105]) rfl ?_
      refine lv_istore (lv' := [(5, .int r_105), (4, .int 0), (3, .ref q_5), (2, .ref q_3), (1, .ref q_1), (0, .ref b)]) hx hb dL_law_561 hl (by decide) rfl (fun ls hl => ?_)
      refine lv_aload_n hx hb dL_law_563 rfl (lv_at hl 3 rfl) ?_
      refine lv_aload_n hx hb dL_law_564 rfl (lv_at hl 5 rfl) ?_
      refine lv_iload hx hb dL_law_565 (lv_at hl 1 rfl) ?_
      refine lv_iconst (v := 1) hx hb dL_law_567 (by decide) ?_
      refine lv_iadd hx hb dL_law_568 ?_
      refine lv_topi (fun z_106 ez_106 => ?_)
      obtain rfl : z_106 = (1 : Int32) := ez_106.trans (by decide)
      refine va_sld (i := 1) hx hb hX hbl hbA hS (by unfold vp_in; decide) dL_law_569 ?_
      refine W.eq (g2 := F0 m 570 ls [.int (xs 1), .ref q_3]) rfl ?_
      refine lv_aload_n hx hb dL_law_570 rfl (lv_at hl 5 rfl) ?_
      refine lv_iload hx hb dL_law_571 (lv_at hl 1 rfl) ?_
      refine lv_iconst (v := 2) hx hb dL_law_573 (by decide) ?_
      refine lv_iadd hx hb dL_law_574 ?_
      refine lv_topi (fun z_107 ez_107 => ?_)
      obtain rfl : z_107 = (2 : Int32) := ez_107.trans (by decide)
      refine va_sld (i := 2) hx hb hX hbl hbA hS (by unfold vp_in; decide) dL_law_575 ?_
      refine W.eq (g2 := F0 m 576 ls [.int (xs 2), .int (xs 1), .ref q_3]) rfl ?_
      refine lv_aload_n hx hb dL_law_576 rfl (lv_at hl 5 rfl) ?_
      refine lv_iload hx hb dL_law_577 (lv_at hl 1 rfl) ?_
      refine lv_iconst (v := 3) hx hb dL_law_579 (by decide) ?_
      refine lv_iadd hx hb dL_law_580 ?_
      refine lv_topi (fun z_108 ez_108 => ?_)
      obtain rfl : z_108 = (3 : Int32) := ez_108.trans (by decide)
      refine va_sld (i := 3) hx hb hX hbl hbA hS (by unfold vp_in; decide) dL_law_581 ?_
      refine W.eq (g2 := F0 m 582 ls [.int (xs 3), .int (xs 2), .int (xs 1), .ref q_3]) rfl ?_
      have hPc := hP.sub (ws' := [(q_3, .inr (8, [.int 0, .ref q1, v2, .ref q3, .ref q4, .ref q5, .ref q6, .ref q7, .ref q8, v9, v10, v11, v12, v13, v14, v15, v16])), (q1, .inl (c1, 16, .inl (fun _ => (0 : Int32)))), (q3, .inl (c3, 16, .inl (fun _ => (0 : Int32)))), (q4, .inl (c4, 16, .inl (fun _ => (0 : Int32)))), (q5, .inl (c5, 16, .inl (fun _ => (0 : Int32)))), (q6, .inl (c6, 16, .inl (fun _ => (0 : Int32)))), (q7, .inl (c7, 16, .inl (fun _ => (0 : Int32)))), (q8, .inl (c8, 16, .inl (fun _ => (0 : Int32))))]) [0, 1, 2, 3, 4, 5, 6, 7] rfl
      have hDc := hD.sub (ws' := [(q_3, .inr (8, [.int 0, .ref q1, v2, .ref q3, .ref q4, .ref q5, .ref q6, .ref q7, .ref q8, v9, v10, v11, v12, v13, v14, v15, v16])), (q1, .inl (c1, 16, .inl (fun _ => (0 : Int32)))), (q3, .inl (c3, 16, .inl (fun _ => (0 : Int32)))), (q4, .inl (c4, 16, .inl (fun _ => (0 : Int32)))), (q5, .inl (c5, 16, .inl (fun _ => (0 : Int32)))), (q6, .inl (c6, 16, .inl (fun _ => (0 : Int32)))), (q7, .inl (c7, 16, .inl (fun _ => (0 : Int32)))), (q8, .inl (c8, 16, .inl (fun _ => (0 : Int32))))]) [0, 1, 2, 3, 4, 5, 6, 7] (by decide) rfl
      have hKc := hK.sub (tys' := [(c1, .int), (c3, .int), (c4, .int), (c5, .int), (c6, .int), (c7, .int), (c8, .int)]) [1, 2, 3, 4, 5, 6, 7] rfl
      have hFc := va_free (wc := [(q_3, .inr (8, [.int 0, .ref q1, v2, .ref q3, .ref q4, .ref q5, .ref q6, .ref q7, .ref q8, v9, v10, v11, v12, v13, v14, v15, v16])), (q1, .inl (c1, 16, .inl (fun _ => (0 : Int32)))), (q3, .inl (c3, 16, .inl (fun _ => (0 : Int32)))), (q4, .inl (c4, 16, .inl (fun _ => (0 : Int32)))), (q5, .inl (c5, 16, .inl (fun _ => (0 : Int32)))), (q6, .inl (c6, 16, .inl (fun _ => (0 : Int32)))), (q7, .inl (c7, 16, .inl (fun _ => (0 : Int32)))), (q8, .inl (c8, 16, .inl (fun _ => (0 : Int32))))]) hD hS hA [0, 1, 2, 3, 4, 5, 6, 7] rfl
      refine va_calll (va_runV (As := [.int (xs 1), .int (xs 2), .int (xs 3)]) (rest := []) ⟨hx, hb, hml, hown, hts⟩ (c_X8_item l  dC dI H.size q_3 0 q1 q3 q4 q5 q6 q7 q8 c1 c3 c4 c5 c6 c7 c8 v2 v9 v10 v11 v12 v13 v14 v15 v16 (xs 1) (xs 2) (xs 3)) (cwV 3 hts gP_law_X8_item rfl rfl rfl (by decide +kernel) ⟨(Nat.le_of_ble_eq_true rfl), (Nat.le_of_ble_eq_true rfl)⟩) ⟨pk_blind, va_recv hKc hPc (ci := 8) (q0 := 0) rfl rfl, pk_call hPc hKc hDc⟩ rfl rfl hl.1 rfl (lv_room (Nat.le_of_ble_eq_true rfl)) dL_law_582 ⟨(Nat.le_of_ble_eq_true rfl), (Nat.le_of_ble_eq_true rfl)⟩) hS (fun q _ h => hFc q h) hFc (fun r_109 ur_109 t H1 locs ht hvm hw hB hz1 hk1 hS => ?_)
      try dsimp only at hw
      have jr_109 := hw
      obtain ⟨hP1, hK1, hD1⟩ := hB
      rw [ht] at hP1
      have hK1 := va_K.moved hvm.symm hK1
      obtain ⟨hP, hD⟩ := va_join (wr := [(q_5, .inl (cA_6, 1, .inr (.inl ur_105)))]) (w1 := [(q_3, .inr (8, [.int 1, .ref q1, v2, .ref q3, .ref q4, .ref q5, .ref q6, .ref q7, .ref q8, v9, v10, v11, v12, v13, v14, v15, v16]))]) hP hD [0, 1, 2, 3, 4, 5, 6, 7] [8] rfl rfl (by decide) (by decide) hk1 hFc hP1 hD1
      clear hk1 hz1 ht hPc hDc hKc
      generalize H1 = H at hP hS ⊢
      have hP : va_P (dC, dI) vwCl [(q_5, .inl (cA_6, 1, .inr (.inl ur_105))), (q_3, .inr (8, [.int 1, .ref q1, v2, .ref q3, .ref q4, .ref q5, .ref q6, .ref q7, .ref q8, v9, v10, v11, v12, v13, v14, v15, v16]))] H := hP
      have hD : va_D A [(q_5, .inl (cA_6, 1, .inr (.inl ur_105))), (q_3, .inr (8, [.int 1, .ref q1, v2, .ref q3, .ref q4, .ref q5, .ref q6, .ref q7, .ref q8, v9, v10, v11, v12, v13, v14, v15, v16]))] := hD
      refine W.widen (k := 22) (n := 73535) (Nat.le_of_ble_eq_true rfl) (Nat.le_of_ble_eq_true rfl) ?_
      refine W.eq (g2 := F0 m 585 ls [.long r_109]) rfl ?_
      refine lv_lstore (lv' := [(6, .long r_109), (5, .int r_105), (4, .int 0), (3, .ref q_5), (2, .ref q_3), (1, .ref q_1), (0, .ref b)]) hx hb dL_law_585 hl (by decide) rfl (fun ls hl => ?_)
      refine lv_aload_n hx hb dL_law_587 rfl (lv_at hl 4 rfl) ?_
      have hPc := hP.sub (ws' := [(q_3, .inr (8, [.int 1, .ref q1, v2, .ref q3, .ref q4, .ref q5, .ref q6, .ref q7, .ref q8, v9, v10, v11, v12, v13, v14, v15, v16]))]) [1] rfl
      have hDc := hD.sub (ws' := [(q_3, .inr (8, [.int 1, .ref q1, v2, .ref q3, .ref q4, .ref q5, .ref q6, .ref q7, .ref q8, v9, v10, v11, v12, v13, v14, v15, v16]))]) [1] (by decide) rfl
      have hKc := hK.sub (tys' := []) [] rfl
      have hFc := va_free (wc := [(q_3, .inr (8, [.int 1, .ref q1, v2, .ref q3, .ref q4, .ref q5, .ref q6, .ref q7, .ref q8, v9, v10, v11, v12, v13, v14, v15, v16]))]) hD hS hA [1] rfl
      refine va_calli (va_runV (As := []) (rest := []) ⟨hx, hb, hml, hown, hts⟩ (c_X8_thrown l  dC dI H.size q_3 1 (.ref q1) v2 (.ref q3) (.ref q4) (.ref q5) (.ref q6) (.ref q7) (.ref q8) v9 v10 v11 v12 v13 v14 v15 v16) (cwV 0 hts gP_law_X8_thrown rfl rfl rfl (by decide +kernel) ⟨(Nat.le_of_ble_eq_true rfl), (Nat.le_of_ble_eq_true rfl)⟩) ⟨pk_blind, va_recv hKc hPc (ci := 8) (q0 := 0) rfl rfl, pk_call hPc hKc hDc⟩ rfl rfl hl.1 rfl (lv_room (Nat.le_of_ble_eq_true rfl)) dL_law_588 ⟨(Nat.le_of_ble_eq_true rfl), (Nat.le_of_ble_eq_true rfl)⟩) hS (fun q _ h => hFc q h) hFc (fun r_110 ur_110 t H1 locs ht hvm hw hB hz1 hk1 hS => ?_)
      try dsimp only at hw
      obtain ⟨hP1, hK1, hD1⟩ := hB
      rw [ht] at hP1
      have hK1 := va_K.moved hvm.symm hK1
      obtain ⟨hP, hD⟩ := va_join (wr := [(q_5, .inl (cA_6, 1, .inr (.inl ur_105)))]) (w1 := [(q_3, .inr (8, [.int 1, .ref q1, v2, .ref q3, .ref q4, .ref q5, .ref q6, .ref q7, .ref q8, v9, v10, v11, v12, v13, v14, v15, v16]))]) hP hD [1] [0] rfl rfl (by decide) (by decide) hk1 hFc hP1 hD1
      clear hk1 hz1 ht hPc hDc hKc
      generalize H1 = H at hP hS ⊢
      have hP : va_P (dC, dI) vwCl [(q_5, .inl (cA_6, 1, .inr (.inl ur_105))), (q_3, .inr (8, [.int 1, .ref q1, v2, .ref q3, .ref q4, .ref q5, .ref q6, .ref q7, .ref q8, v9, v10, v11, v12, v13, v14, v15, v16]))] H := hP
      have hD : va_D A [(q_5, .inl (cA_6, 1, .inr (.inl ur_105))), (q_3, .inr (8, [.int 1, .ref q1, v2, .ref q3, .ref q4, .ref q5, .ref q6, .ref q7, .ref q8, v9, v10, v11, v12, v13, v14, v15, v16]))] := hD
      refine W.widen (k := 22) (n := 73535) (Nat.le_of_ble_eq_true rfl) (Nat.le_of_ble_eq_true rfl) ?_
      obtain rfl : r_110 = 1 := hw
      refine W.eq (g2 := F0 m 591 ls [.int 1]) rfl ?_
      refine lv_iload hx hb dL_law_591 (lv_at hl 1 rfl) ?_
      refine lv_icmp_eq (tgt := 598) hx hb dL_law_593 (by decide) (fun c_111 => ?_) (fun c_111 => absurd (jr_105.symm) c_111)
      refine lv_iload hx hb dL_law_598 (lv_at hl 1 rfl) ?_
      refine lv_if_ne (tgt := 614) hx hb dL_law_600 (by decide) (fun c_112 => ?_) (fun c_112 => ?_)
      ·
        have ic_112 : ¬ r_105.toInt = 0 := tx_ne rfl (by decide) c_112
        refine lv_goto (tgt := 673) hx hb dL_law_614 (by decide) ?_
        refine lv_iinc (v := 5) (lv' := [(4, .int 5), (6, .long r_109), (5, .int r_105), (3, .ref q_5), (2, .ref q_3), (1, .ref q_1), (0, .ref b)]) hx hb dL_law_673 hl (k := 2) rfl (by decide) (by decide) rfl (fun ls hl => ?_)
        refine lv_goto (tgt := 23) hx hb dL_law_676 (by decide) ?_
        refine lv_iload hx hb dL_law_23 (lv_at hl 0 rfl) ?_
        refine lv_aload_n hx hb dL_law_25 rfl (lv_at hl 6 rfl) ?_
        refine va_slen hx hb hX hbl hbA hS dL_law_26 ?_
        refine W.eq (g2 := F0 m 27 ls [.int 5, .int 5]) rfl ?_
        refine lv_iconst (v := 5) hx hb dL_law_27 (by decide) ?_
        refine lv_isub hx hb dL_law_28 ?_
        refine lv_topi (fun z_113 ez_113 => ?_)
        obtain rfl : z_113 = (0 : Int32) := ez_113.trans (by decide)
        refine lv_icmp_gt (tgt := 679) hx hb dL_law_29 (by decide) (fun c_114 => ?_) (fun c_114 => absurd c_114 (by decide))
        refine lv_iconst (v := 1) hx hb dL_law_679 (by decide) ?_
        refine va_forget (fun q hq => by have h9 := hS.2.2 q hq; rw [hAe] at h9; exact h9) ?_
        refine W.widen (k := 600002) (n := 7302232) (Nat.le_of_ble_eq_true rfl) (Nat.le_of_ble_eq_true rfl) ?_
        exact lw_ret hx hb hr hlocks dL_law_680
      ·
        have ic_112 : r_105.toInt = 0 := tx_eq rfl (by decide) c_112
        refine lv_aload_n hx hb dL_law_603 rfl (lv_at hl 3 rfl) ?_
        refine lv_iconst (v := 0) hx hb dL_law_604 (by decide) ?_
        refine va_lald (i := 0) hx hb hK hP 0 8 rfl rfl (by unfold vp_in; decide) dL_law_605 ?_
        refine W.eq (g2 := F0 m 606 ls [.long (ur_105 0)]) rfl ?_
        refine lv_lload hx hb dL_law_606 (lv_at hl 0 rfl) ?_
        refine W.lcmp hx hb dL_law_608 ?_
        refine lv_if_eq (tgt := 614) hx hb dL_law_609 (by decide) (fun c_115 => ?_) (fun c_115 => absurd (absurd ic_112 (by rw [jr_105]; decide)) c_115)
        refine lv_goto (tgt := 673) hx hb dL_law_614 (by decide) ?_
        refine lv_iinc (v := 5) (lv' := [(4, .int 5), (6, .long r_109), (5, .int r_105), (3, .ref q_5), (2, .ref q_3), (1, .ref q_1), (0, .ref b)]) hx hb dL_law_673 hl (k := 2) rfl (by decide) (by decide) rfl (fun ls hl => ?_)
        refine lv_goto (tgt := 23) hx hb dL_law_676 (by decide) ?_
        refine lv_iload hx hb dL_law_23 (lv_at hl 0 rfl) ?_
        refine lv_aload_n hx hb dL_law_25 rfl (lv_at hl 6 rfl) ?_
        refine va_slen hx hb hX hbl hbA hS dL_law_26 ?_
        refine W.eq (g2 := F0 m 27 ls [.int 5, .int 5]) rfl ?_
        refine lv_iconst (v := 5) hx hb dL_law_27 (by decide) ?_
        refine lv_isub hx hb dL_law_28 ?_
        refine lv_topi (fun z_116 ez_116 => ?_)
        obtain rfl : z_116 = (0 : Int32) := ez_116.trans (by decide)
        refine lv_icmp_gt (tgt := 679) hx hb dL_law_29 (by decide) (fun c_117 => ?_) (fun c_117 => absurd c_117 (by decide))
        refine lv_iconst (v := 1) hx hb dL_law_679 (by decide) ?_
        refine va_forget (fun q hq => by have h9 := hS.2.2 q hq; rw [hAe] at h9; exact h9) ?_
        refine W.widen (k := 600002) (n := 7302232) (Nat.le_of_ble_eq_true rfl) (Nat.le_of_ble_eq_true rfl) ?_
        exact lw_ret hx hb hr hlocks dL_law_680
    ·
      refine W.eq (g2 := F0 m 39 ls [.int 7]) (by rw [ej9]; rfl) ?_
      refine lv_tableIn (x := 7) (off := 578) (tgt := 617) hx hb dL_law_39 (by decide) (by decide) (by decide) (by decide) ?_
      refine lv_aload_n hx hb dL_law_617 rfl (lv_at hl 3 rfl) ?_
      refine lv_aload_n hx hb dL_law_618 rfl (lv_at hl 4 rfl) ?_
      refine lv_iload hx hb dL_law_619 (lv_at hl 0 rfl) ?_
      refine lv_iconst (v := 1) hx hb dL_law_621 (by decide) ?_
      refine lv_iadd hx hb dL_law_622 ?_
      refine lv_topi (fun z_118 ez_118 => ?_)
      obtain rfl : z_118 = (1 : Int32) := ez_118.trans (by decide)
      refine va_sld (i := 1) hx hb hX hbl hbA hS (by unfold vp_in; decide) dL_law_623 ?_
      refine W.eq (g2 := F0 m 624 ls [.int (xs 1), .ref q_1]) rfl ?_
      refine lv_aload_n hx hb dL_law_624 rfl (lv_at hl 1 rfl) ?_
      have hPc := hP.sub (ws' := [(q_1, .inr (7, [.ref qb])), (qb, .inl (cb, 16, .inr (.inr (.inr (.inr (fun _ => none)))))), (q_5, .inl (cA_6, 1, .inr (.inl (fun _ => (0 : Int64)))))]) [0, 1, 10] rfl
      have hDc := hD.sub (ws' := [(q_1, .inr (7, [.ref qb])), (qb, .inl (cb, 16, .inr (.inr (.inr (.inr (fun _ => none)))))), (q_5, .inl (cA_6, 1, .inr (.inl (fun _ => (0 : Int64)))))]) [0, 1, 10] (by decide) rfl
      have hKc := hK.sub (tys' := [(cb, .object "KeyAtlas$Body"), (cA_6, .long)]) [0, 8] rfl
      have hFc := va_free (wc := [(q_1, .inr (7, [.ref qb])), (qb, .inl (cb, 16, .inr (.inr (.inr (.inr (fun _ => none)))))), (q_5, .inl (cA_6, 1, .inr (.inl (fun _ => (0 : Int64)))))]) hD hS hA [0, 1, 10] rfl
      have hZc := (hZ.kept hS.2.1).narrow hFc
      refine va_calli (vx_runSW (As := [.ref q_1, .int (xs 1), .ref q_5]) (rest := []) ⟨hx, hb, hml, hown, hts⟩ (c_L_count l hlt dC dI H.size q_1 qb cb q_5 cA_6 (fun _ => (0 : Int64)) (xs 1)) (vx_cwSW 3 hts gP_law_L_count rfl rfl rfl (by decide +kernel) ⟨(Nat.le_of_ble_eq_true rfl), (Nat.le_of_ble_eq_true rfl)⟩) ⟨pk_blindX, pk_callX hPc hKc hDc hN hZc⟩ rfl rfl hl.1 rfl (lv_room (Nat.le_of_ble_eq_true rfl)) dL_law_625 ⟨(Nat.le_of_ble_eq_true rfl), (Nat.le_of_ble_eq_true rfl)⟩) hS (fun q _ h => hFc q h) hFc (fun r_119 ur_119 t H1 locs ht hvm hw hB hz1 hk1 hS => ?_)
      try dsimp only at hw
      have jr_119 := hw
      obtain ⟨hP1, hK1, hD1⟩ := hB
      rw [ht] at hP1
      have hK1 := va_K.moved hvm.symm hK1
      obtain ⟨hP, hD⟩ := va_join (wr := [(q_3, .inr (8, [.int 0, .ref q1, v2, .ref q3, .ref q4, .ref q5, .ref q6, .ref q7, .ref q8, v9, v10, v11, v12, v13, v14, v15, v16])), (q1, .inl (c1, 16, .inl (fun _ => (0 : Int32)))), (q3, .inl (c3, 16, .inl (fun _ => (0 : Int32)))), (q4, .inl (c4, 16, .inl (fun _ => (0 : Int32)))), (q5, .inl (c5, 16, .inl (fun _ => (0 : Int32)))), (q6, .inl (c6, 16, .inl (fun _ => (0 : Int32)))), (q7, .inl (c7, 16, .inl (fun _ => (0 : Int32)))), (q8, .inl (c8, 16, .inl (fun _ => (0 : Int32))))]) (w1 := [(q_5, .inl (cA_6, 1, .inr (.inl ur_119)))]) hP hD [0, 1, 10] [2, 3, 4, 5, 6, 7, 8, 9] rfl rfl (by decide) (by decide) hk1 hFc hP1 hD1
      clear hk1 hz1 ht hPc hDc hKc
      generalize H1 = H at hP hS ⊢
      have hP : va_P (dC, dI) vwCl [(q_3, .inr (8, [.int 0, .ref q1, v2, .ref q3, .ref q4, .ref q5, .ref q6, .ref q7, .ref q8, v9, v10, v11, v12, v13, v14, v15, v16])), (q1, .inl (c1, 16, .inl (fun _ => (0 : Int32)))), (q3, .inl (c3, 16, .inl (fun _ => (0 : Int32)))), (q4, .inl (c4, 16, .inl (fun _ => (0 : Int32)))), (q5, .inl (c5, 16, .inl (fun _ => (0 : Int32)))), (q6, .inl (c6, 16, .inl (fun _ => (0 : Int32)))), (q7, .inl (c7, 16, .inl (fun _ => (0 : Int32)))), (q8, .inl (c8, 16, .inl (fun _ => (0 : Int32)))), (q_5, .inl (cA_6, 1, .inr (.inl ur_119)))] H := hP
      have hD : va_D A [(q_3, .inr (8, [.int 0, .ref q1, v2, .ref q3, .ref q4, .ref q5, .ref q6, .ref q7, .ref q8, v9, v10, v11, v12, v13, v14, v15, v16])), (q1, .inl (c1, 16, .inl (fun _ => (0 : Int32)))), (q3, .inl (c3, 16, .inl (fun _ => (0 : Int32)))), (q4, .inl (c4, 16, .inl (fun _ => (0 : Int32)))), (q5, .inl (c5, 16, .inl (fun _ => (0 : Int32)))), (q6, .inl (c6, 16, .inl (fun _ => (0 : Int32)))), (q7, .inl (c7, 16, .inl (fun _ => (0 : Int32)))), (q8, .inl (c8, 16, .inl (fun _ => (0 : Int32)))), (q_5, .inl (cA_6, 1, .inr (.inl ur_119)))] := hD
      refine W.widen (k := 21) (n := 73529) (Nat.le_of_ble_eq_true rfl) (Nat.le_of_ble_eq_true rfl) ?_
      refine W.eq (g2 := F0 m 628 ls [.int r_119]) rfl ?_
      refine lv_istore (lv' := [(5, .int r_119), (4, .int 0), (3, .ref q_5), (2, .ref q_3), (1, .ref q_1), (0, .ref b)]) hx hb dL_law_628 hl (by decide) rfl (fun ls hl => ?_)
      refine lv_aload_n hx hb dL_law_630 rfl (lv_at hl 3 rfl) ?_
      refine lv_aload_n hx hb dL_law_631 rfl (lv_at hl 5 rfl) ?_
      refine lv_iload hx hb dL_law_632 (lv_at hl 1 rfl) ?_
      refine lv_iconst (v := 1) hx hb dL_law_634 (by decide) ?_
      refine lv_iadd hx hb dL_law_635 ?_
      refine lv_topi (fun z_120 ez_120 => ?_)
      obtain rfl : z_120 = (1 : Int32) := ez_120.trans (by decide)
      refine va_sld (i := 1) hx hb hX hbl hbA hS (by unfold vp_in; decide) dL_law_636 ?_
      refine W.eq (g2 := F0 m 637 ls [.int (xs 1), .ref q_3]) rfl ?_
      have hPc := hP.sub (ws' := [(q_3, .inr (8, [.int 0, .ref q1, v2, .ref q3, .ref q4, .ref q5, .ref q6, .ref q7, .ref q8, v9, v10, v11, v12, v13, v14, v15, v16])), (q1, .inl (c1, 16, .inl (fun _ => (0 : Int32)))), (q3, .inl (c3, 16, .inl (fun _ => (0 : Int32)))), (q4, .inl (c4, 16, .inl (fun _ => (0 : Int32)))), (q5, .inl (c5, 16, .inl (fun _ => (0 : Int32)))), (q6, .inl (c6, 16, .inl (fun _ => (0 : Int32)))), (q7, .inl (c7, 16, .inl (fun _ => (0 : Int32)))), (q8, .inl (c8, 16, .inl (fun _ => (0 : Int32))))]) [0, 1, 2, 3, 4, 5, 6, 7] rfl
      have hDc := hD.sub (ws' := [(q_3, .inr (8, [.int 0, .ref q1, v2, .ref q3, .ref q4, .ref q5, .ref q6, .ref q7, .ref q8, v9, v10, v11, v12, v13, v14, v15, v16])), (q1, .inl (c1, 16, .inl (fun _ => (0 : Int32)))), (q3, .inl (c3, 16, .inl (fun _ => (0 : Int32)))), (q4, .inl (c4, 16, .inl (fun _ => (0 : Int32)))), (q5, .inl (c5, 16, .inl (fun _ => (0 : Int32)))), (q6, .inl (c6, 16, .inl (fun _ => (0 : Int32)))), (q7, .inl (c7, 16, .inl (fun _ => (0 : Int32)))), (q8, .inl (c8, 16, .inl (fun _ => (0 : Int32))))]) [0, 1, 2, 3, 4, 5, 6, 7] (by decide) rfl
      have hKc := hK.sub (tys' := [(c1, .int), (c3, .int), (c4, .int), (c5, .int), (c6, .int), (c7, .int), (c8, .int)]) [1, 2, 3, 4, 5, 6, 7] rfl
      have hFc := va_free (wc := [(q_3, .inr (8, [.int 0, .ref q1, v2, .ref q3, .ref q4, .ref q5, .ref q6, .ref q7, .ref q8, v9, v10, v11, v12, v13, v14, v15, v16])), (q1, .inl (c1, 16, .inl (fun _ => (0 : Int32)))), (q3, .inl (c3, 16, .inl (fun _ => (0 : Int32)))), (q4, .inl (c4, 16, .inl (fun _ => (0 : Int32)))), (q5, .inl (c5, 16, .inl (fun _ => (0 : Int32)))), (q6, .inl (c6, 16, .inl (fun _ => (0 : Int32)))), (q7, .inl (c7, 16, .inl (fun _ => (0 : Int32)))), (q8, .inl (c8, 16, .inl (fun _ => (0 : Int32))))]) hD hS hA [0, 1, 2, 3, 4, 5, 6, 7] rfl
      refine va_calli (va_runV (As := [.int (xs 1)]) (rest := []) ⟨hx, hb, hml, hown, hts⟩ (c_X8_count l  dC dI H.size q_3 0 q1 q3 q4 q5 q6 q7 q8 c1 c3 c4 c5 c6 c7 c8 v2 v9 v10 v11 v12 v13 v14 v15 v16 (xs 1)) (cwV 1 hts gP_law_X8_count rfl rfl rfl (by decide +kernel) ⟨(Nat.le_of_ble_eq_true rfl), (Nat.le_of_ble_eq_true rfl)⟩) ⟨pk_blind, va_recv hKc hPc (ci := 8) (q0 := 0) rfl rfl, pk_call hPc hKc hDc⟩ rfl rfl hl.1 rfl (lv_room (Nat.le_of_ble_eq_true rfl)) dL_law_637 ⟨(Nat.le_of_ble_eq_true rfl), (Nat.le_of_ble_eq_true rfl)⟩) hS (fun q _ h => hFc q h) hFc (fun r_121 ur_121 t H1 locs ht hvm hw hB hz1 hk1 hS => ?_)
      try dsimp only at hw
      have jr_121 := hw
      obtain ⟨hP1, hK1, hD1⟩ := hB
      rw [ht] at hP1
      have hK1 := va_K.moved hvm.symm hK1
      obtain ⟨hP, hD⟩ := va_join (wr := [(q_5, .inl (cA_6, 1, .inr (.inl ur_119)))]) (w1 := [(q_3, .inr (8, [.int ur_121, .ref q1, v2, .ref q3, .ref q4, .ref q5, .ref q6, .ref q7, .ref q8, v9, v10, v11, v12, v13, v14, v15, v16]))]) hP hD [0, 1, 2, 3, 4, 5, 6, 7] [8] rfl rfl (by decide) (by decide) hk1 hFc hP1 hD1
      clear hk1 hz1 ht hPc hDc hKc
      generalize H1 = H at hP hS ⊢
      have hP : va_P (dC, dI) vwCl [(q_5, .inl (cA_6, 1, .inr (.inl ur_119))), (q_3, .inr (8, [.int ur_121, .ref q1, v2, .ref q3, .ref q4, .ref q5, .ref q6, .ref q7, .ref q8, v9, v10, v11, v12, v13, v14, v15, v16]))] H := hP
      have hD : va_D A [(q_5, .inl (cA_6, 1, .inr (.inl ur_119))), (q_3, .inr (8, [.int ur_121, .ref q1, v2, .ref q3, .ref q4, .ref q5, .ref q6, .ref q7, .ref q8, v9, v10, v11, v12, v13, v14, v15, v16]))] := hD
      refine W.widen (k := 21) (n := 73529) (Nat.le_of_ble_eq_true rfl) (Nat.le_of_ble_eq_true rfl) ?_
      refine W.eq (g2 := F0 m 640 ls [.int r_121]) rfl ?_
      refine lv_istore (lv' := [(6, .int r_121), (5, .int r_119), (4, .int 0), (3, .ref q_5), (2, .ref q_3), (1, .ref q_1), (0, .ref b)]) hx hb dL_law_640 hl (by decide) rfl (fun ls hl => ?_)
      refine lv_aload_n hx hb dL_law_642 rfl (lv_at hl 4 rfl) ?_
      have hPc := hP.sub (ws' := [(q_3, .inr (8, [.int ur_121, .ref q1, v2, .ref q3, .ref q4, .ref q5, .ref q6, .ref q7, .ref q8, v9, v10, v11, v12, v13, v14, v15, v16]))]) [1] rfl
      have hDc := hD.sub (ws' := [(q_3, .inr (8, [.int ur_121, .ref q1, v2, .ref q3, .ref q4, .ref q5, .ref q6, .ref q7, .ref q8, v9, v10, v11, v12, v13, v14, v15, v16]))]) [1] (by decide) rfl
      have hKc := hK.sub (tys' := []) [] rfl
      have hFc := va_free (wc := [(q_3, .inr (8, [.int ur_121, .ref q1, v2, .ref q3, .ref q4, .ref q5, .ref q6, .ref q7, .ref q8, v9, v10, v11, v12, v13, v14, v15, v16]))]) hD hS hA [1] rfl
      refine va_calli (va_runV (As := []) (rest := []) ⟨hx, hb, hml, hown, hts⟩ (c_X8_thrown l  dC dI H.size q_3 ur_121 (.ref q1) v2 (.ref q3) (.ref q4) (.ref q5) (.ref q6) (.ref q7) (.ref q8) v9 v10 v11 v12 v13 v14 v15 v16) (cwV 0 hts gP_law_X8_thrown rfl rfl rfl (by decide +kernel) ⟨(Nat.le_of_ble_eq_true rfl), (Nat.le_of_ble_eq_true rfl)⟩) ⟨pk_blind, va_recv hKc hPc (ci := 8) (q0 := 0) rfl rfl, pk_call hPc hKc hDc⟩ rfl rfl hl.1 rfl (lv_room (Nat.le_of_ble_eq_true rfl)) dL_law_643 ⟨(Nat.le_of_ble_eq_true rfl), (Nat.le_of_ble_eq_true rfl)⟩) hS (fun q _ h => hFc q h) hFc (fun r_122 ur_122 t H1 locs ht hvm hw hB hz1 hk1 hS => ?_)
      try dsimp only at hw
      have jr_122 := hw
      obtain ⟨hP1, hK1, hD1⟩ := hB
      rw [ht] at hP1
      have hK1 := va_K.moved hvm.symm hK1
      obtain ⟨hP, hD⟩ := va_join (wr := [(q_5, .inl (cA_6, 1, .inr (.inl ur_119)))]) (w1 := [(q_3, .inr (8, [.int ur_121, .ref q1, v2, .ref q3, .ref q4, .ref q5, .ref q6, .ref q7, .ref q8, v9, v10, v11, v12, v13, v14, v15, v16]))]) hP hD [1] [0] rfl rfl (by decide) (by decide) hk1 hFc hP1 hD1
      clear hk1 hz1 ht hPc hDc hKc
      generalize H1 = H at hP hS ⊢
      have hP : va_P (dC, dI) vwCl [(q_5, .inl (cA_6, 1, .inr (.inl ur_119))), (q_3, .inr (8, [.int ur_121, .ref q1, v2, .ref q3, .ref q4, .ref q5, .ref q6, .ref q7, .ref q8, v9, v10, v11, v12, v13, v14, v15, v16]))] H := hP
      have hD : va_D A [(q_5, .inl (cA_6, 1, .inr (.inl ur_119))), (q_3, .inr (8, [.int ur_121, .ref q1, v2, .ref q3, .ref q4, .ref q5, .ref q6, .ref q7, .ref q8, v9, v10, v11, v12, v13, v14, v15, v16]))] := hD
      refine W.widen (k := 21) (n := 73529) (Nat.le_of_ble_eq_true rfl) (Nat.le_of_ble_eq_true rfl) ?_
      refine W.eq (g2 := F0 m 646 ls [.int r_122]) rfl ?_
      refine lv_iload hx hb dL_law_646 (lv_at hl 1 rfl) ?_
      obtain ⟨v9, hv9, hf9⟩ := jr_119
      have hc9 := ctIs_one hv9 jr_121
      refine lv_icmp_eq (tgt := 653) hx hb dL_law_648 (by decide) (fun c_123 => ?_) (fun c_123 => absurd (jr_122.trans (Int32.toInt_inj.mp hc9.1.symm)) c_123)
      refine lv_iload hx hb dL_law_653 (lv_at hl 1 rfl) ?_
      refine lv_if_ne (tgt := 670) hx hb dL_law_655 (by decide) (fun c_124 => ?_) (fun c_124 => ?_)
      ·
        have ic_124 : ¬ r_119.toInt = 0 := tx_ne rfl (by decide) c_124
        refine lv_goto (tgt := 673) hx hb dL_law_670 (by decide) ?_
        refine lv_iinc (v := 5) (lv' := [(4, .int 5), (6, .int r_121), (5, .int r_119), (3, .ref q_5), (2, .ref q_3), (1, .ref q_1), (0, .ref b)]) hx hb dL_law_673 hl (k := 2) rfl (by decide) (by decide) rfl (fun ls hl => ?_)
        refine lv_goto (tgt := 23) hx hb dL_law_676 (by decide) ?_
        refine lv_iload hx hb dL_law_23 (lv_at hl 0 rfl) ?_
        refine lv_aload_n hx hb dL_law_25 rfl (lv_at hl 6 rfl) ?_
        refine va_slen hx hb hX hbl hbA hS dL_law_26 ?_
        refine W.eq (g2 := F0 m 27 ls [.int 5, .int 5]) rfl ?_
        refine lv_iconst (v := 5) hx hb dL_law_27 (by decide) ?_
        refine lv_isub hx hb dL_law_28 ?_
        refine lv_topi (fun z_125 ez_125 => ?_)
        obtain rfl : z_125 = (0 : Int32) := ez_125.trans (by decide)
        refine lv_icmp_gt (tgt := 679) hx hb dL_law_29 (by decide) (fun c_126 => ?_) (fun c_126 => absurd c_126 (by decide))
        refine lv_iconst (v := 1) hx hb dL_law_679 (by decide) ?_
        refine va_forget (fun q hq => by have h9 := hS.2.2 q hq; rw [hAe] at h9; exact h9) ?_
        refine W.widen (k := 600002) (n := 7302232) (Nat.le_of_ble_eq_true rfl) (Nat.le_of_ble_eq_true rfl) ?_
        exact lw_ret hx hb hr hlocks dL_law_680
      ·
        have ic_124 : r_119.toInt = 0 := tx_eq rfl (by decide) c_124
        refine lv_aload_n hx hb dL_law_658 rfl (lv_at hl 3 rfl) ?_
        refine lv_iconst (v := 0) hx hb dL_law_659 (by decide) ?_
        refine va_lald (i := 0) hx hb hK hP 0 8 rfl rfl (by unfold vp_in; decide) dL_law_660 ?_
        refine W.eq (g2 := F0 m 661 ls [.long (ur_119 0)]) rfl ?_
        refine lv_iload hx hb dL_law_661 (lv_at hl 0 rfl) ?_
        refine lv_i2l (v := r_121.toInt64) hx hb dL_law_663 rfl ?_
        refine W.lcmp hx hb dL_law_664 ?_
        refine lv_if_eq (tgt := 670) hx hb dL_law_665 (by decide) (fun c_127 => ?_) (fun c_127 => absurd (by rw [hf9 ic_124, Int32.toInt_inj.mp (hc9.2 ic_124)]; exact tx_cmp _) c_127)
        refine lv_goto (tgt := 673) hx hb dL_law_670 (by decide) ?_
        refine lv_iinc (v := 5) (lv' := [(4, .int 5), (6, .int r_121), (5, .int r_119), (3, .ref q_5), (2, .ref q_3), (1, .ref q_1), (0, .ref b)]) hx hb dL_law_673 hl (k := 2) rfl (by decide) (by decide) rfl (fun ls hl => ?_)
        refine lv_goto (tgt := 23) hx hb dL_law_676 (by decide) ?_
        refine lv_iload hx hb dL_law_23 (lv_at hl 0 rfl) ?_
        refine lv_aload_n hx hb dL_law_25 rfl (lv_at hl 6 rfl) ?_
        refine va_slen hx hb hX hbl hbA hS dL_law_26 ?_
        refine W.eq (g2 := F0 m 27 ls [.int 5, .int 5]) rfl ?_
        refine lv_iconst (v := 5) hx hb dL_law_27 (by decide) ?_
        refine lv_isub hx hb dL_law_28 ?_
        refine lv_topi (fun z_128 ez_128 => ?_)
        obtain rfl : z_128 = (0 : Int32) := ez_128.trans (by decide)
        refine lv_icmp_gt (tgt := 679) hx hb dL_law_29 (by decide) (fun c_129 => ?_) (fun c_129 => absurd c_129 (by decide))
        refine lv_iconst (v := 1) hx hb dL_law_679 (by decide) ?_
        refine va_forget (fun q hq => by have h9 := hS.2.2 q hq; rw [hAe] at h9; exact h9) ?_
        refine W.widen (k := 600002) (n := 7302232) (Nat.le_of_ble_eq_true rfl) (Nat.le_of_ble_eq_true rfl) ?_
        exact lw_ret hx hb hr hlocks dL_law_680
