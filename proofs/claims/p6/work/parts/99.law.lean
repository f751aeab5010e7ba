theorem dL_law_23 : decode cL_law 23 = .ok (.iload 4, 2) := by decide +kernel
theorem dL_law_25 : decode cL_law 25 = .ok (.aload_n 0, 1) := by decide +kernel
theorem dL_law_26 : decode cL_law 26 = .ok (.arraylength, 1) := by decide +kernel
theorem dL_law_27 : decode cL_law 27 = .ok (.iconst 5, 1) := by decide +kernel
theorem dL_law_28 : decode cL_law 28 = .ok (.isub, 1) := by decide +kernel
theorem dL_law_29 : decode cL_law 29 = .ok (.if_icmp .gt 457, 3) := by decide +kernel
theorem dL_law_486 : decode cL_law 486 = .ok (.iconst 1, 1) := by decide +kernel
theorem dL_law_487 : decode cL_law 487 = .ok (.ireturn, 1) := by decide +kernel
theorem dL_law_480 : decode cL_law 480 = .ok (.iinc 4 5, 3) := by decide +kernel
theorem dL_law_483 : decode cL_law 483 = .ok (.goto (-460), 3) := by decide +kernel
theorem dL_law_32 : decode cL_law 32 = .ok (.aload_n 0, 1) := by decide +kernel
theorem dL_law_33 : decode cL_law 33 = .ok (.iload 4, 2) := by decide +kernel
theorem dL_law_35 : decode cL_law 35 = .ok (.iaload, 1) := by decide +kernel
theorem dL_law_36 : decode cL_law 36 = .ok (.bipush 7, 2) := by decide +kernel
theorem dL_law_38 : decode cL_law 38 = .ok (.iand, 1) := by decide +kernel
theorem dL_law_39 : decode cL_law 39 = .ok (.tableswitch 441 0 7 #[45, 97, 125, 189, 253, 309, 361, 413], 45) := by decide +kernel
theorem dL_law_0 : decode cL_law 0 = .ok (.new 8, 3) := by decide +kernel
theorem dL_law_3 : decode cL_law 3 = .ok (.dup, 1) := by decide +kernel
theorem dL_law_4 : decode cL_law 4 = .ok (.invokespecial 52, 3) := by decide +kernel
theorem dL_law_7 : decode cL_law 7 = .ok (.astore_n 1, 1) := by decide +kernel
theorem dL_law_8 : decode cL_law 8 = .ok (.new 53, 3) := by decide +kernel
theorem dL_law_11 : decode cL_law 11 = .ok (.dup, 1) := by decide +kernel
theorem dL_law_12 : decode cL_law 12 = .ok (.invokespecial 55, 3) := by decide +kernel
theorem dL_law_15 : decode cL_law 15 = .ok (.astore_n 2, 1) := by decide +kernel
theorem dL_law_16 : decode cL_law 16 = .ok (.iconst 1, 1) := by decide +kernel
theorem dL_law_17 : decode cL_law 17 = .ok (.newarray .long, 2) := by decide +kernel
theorem dL_law_19 : decode cL_law 19 = .ok (.astore_n 3, 1) := by decide +kernel
theorem dL_law_20 : decode cL_law 20 = .ok (.iconst 0, 1) := by decide +kernel
theorem dL_law_21 : decode cL_law 21 = .ok (.istore 4, 2) := by decide +kernel
theorem D_ne {A : Nat → Prop} {ws : va_W} {l is : List Nat} {k : Nat} {p : Nat × va_E} (hD : va_D A ws) (hs : is.filterMap (fun i => (ws[i]?).map (fun x => x.1)) = l) (hk : ws[k]? = some p) (hn : k ∉ is) : ∀ q ∈ l, q ≠ p.1 := fun q hq z => by
  rw [← hs] at hq
  obtain ⟨i, hi, he⟩ := List.mem_filterMap.mp hq
  obtain ⟨y, hy, hz⟩ := Option.map_eq_some_iff.mp he
  have h9 := hD.1 i k y p hy hk (hz.trans z)
  rw [h9] at hi
  exact hn hi
theorem oz_new {x qb qo : Nat} {l : List Nat} (h1 : ∀ q ∈ l, q ≠ x) (h2 : ∀ q ∈ l, q ≠ qb) (h3 : ∀ q ∈ l, q ≠ qo) : ∀ q ∈ l, (fun q : Nat => if q = x then 1 else if q = qb then 2 else 0) q = 0 ∧ q ≠ qo := fun q hq => ⟨(if_neg (h1 q hq)).trans (if_neg (h2 q hq)), h3 q hq⟩
theorem lo_new {x qb s0 : Nat} (h1 : s0 ≤ x) (h2 : s0 ≤ qb) : ∀ q : Nat, 0 < (fun q : Nat => if q = x then 1 else if q = qb then 2 else 0) q → s0 ≤ q := fun q hq => by
  by_cases e1 : q = x
  · rw [e1]; exact h1
  · by_cases e2 : q = qb
    · rw [e2]; exact h2
    · dsimp only at hq
      rw [if_neg e1, if_neg e2] at hq
      omega
theorem law_head {p : Program} {e : Env} {s : State} {m : MethodId} {below : List Frame} {meth : Method} {c : Code} (l : Launch) (hlt : l.stackTraces = false) {b L : Nat} {xs : Nat → Int32} (hL : L ≤ 2560) (C0 : lw_At p s m meth c b L xs) (dC : Nat → ClassId) (dI : Nat → Nat → Nat) (hN : p_N s) (hM : p_M s) (A : Nat → Prop) (hAe : A = (fun q : Nat => s.heap.size ≤ q)) (hZ : p_Z A s s.heap) {x h0 qo k : Nat} {H : Heap} {locs : List Loc} {ls : Array Slot} (hk : k ≤ 512) (hS : va_S A s.heap H locs) (hl : lv_has ls 8 [(0, .ref b), (1, .ref x), (2, .ref h0), (3, .ref qo), (4, .int (nI (5 * k)))]) (go : 5 * k + 5 ≤ L → W p l e room_1 s m #[Value.ref b] below meth c H locs (2000 + 150 * k) (100000 + 12700 * k) (lw_Z below #[Value.ref b] s) (F0 m 32 ls [])) : W p l e room_1 s m #[Value.ref b] below meth c H locs (2000 + 150 * k) (100000 + 12700 * k) (lw_Z below #[Value.ref b] s) (F0 m 23 ls []) := by
  obtain ⟨hx, hb, hr, hml, hown, hts, hX, hbl, hlocks, hgv⟩ := id C0
  have hown : s.vm.findClass RL = some m.cls := hown
  have hts := lwx_hts hts
  have hA : ∀ q : Nat, s.heap.size ≤ q → A q := fun q h => by rw [hAe]; exact h
  have hbA : ¬ A b := by rw [hAe]; exact Nat.not_le.mpr hbl
  refine lv_iload hx hb dL_law_23 (lv_at hl 4 rfl) ?_
  refine lv_aload_n hx hb dL_law_25 rfl (lv_at hl 0 rfl) ?_
  refine va_slen hx hb hX hbl hbA hS dL_law_26 ?_
  refine lv_iconst (v := 5) hx hb dL_law_27 (by decide) ?_
  refine lv_isub hx hb dL_law_28 ?_
  refine lv_icmp_gt (tgt := 486) hx hb dL_law_29 (by decide) (fun c_ => ?_) (fun c_ => ?_)
  · refine lv_iconst (v := 1) hx hb dL_law_486 (by decide) ?_
    refine va_forget (fun q hq => by have h9 := hS.2.2 q hq; rw [hAe] at h9; exact h9) ?_
    refine W.widen (k := 601024) (n := 7293034) (by omega) (by omega) ?_
    exact lw_ret hx hb hr hlocks dL_law_487
  · refine go ?_
    have e1 : (Int32.ofNat L - 5).toInt = (L : Int) - 5 := by rw [Int32.toInt_sub, show (Int32.ofNat L).toInt = (L : Int) from nI_toInt (by omega), show (5 : Int32).toInt = 5 from by decide, tx_bm (by omega) (by omega)]
    rw [Int32.lt_iff_toInt_lt, e1, nI_toInt (by omega)] at c_
    omega
set_option maxHeartbeats 4000000 in
set_option maxRecDepth 100000 in
/-- the law, from the head of its loop -/
theorem law_loop {p : Program} {e : Env} {s : State} {m : MethodId} {below : List Frame} {meth : Method} {c : Code} (l : Launch) (hlt : l.stackTraces = false) {b L : Nat} {xs : Nat → Int32} (hL : L ≤ 2560) (C0 : lw_At p s m meth c b L xs) (dC : Nat → ClassId) (dI : Nat → Nat → Nat) (hN : p_N s) (hM : p_M s) (A : Nat → Prop) (hAe : A = (fun q : Nat => s.heap.size ≤ q)) (hZ : p_Z A s s.heap) {x h0 qo : Nat} : ∀ (n k : Nat) {H : Heap} {locs : List Loc} {ls : Array Slot}, n + k = 512 → lawI (dC, dI) s A x h0 qo k H → va_S A s.heap H locs → lv_has ls 8 [(0, .ref b), (1, .ref x), (2, .ref h0), (3, .ref qo), (4, .int (nI (5 * k)))] → W p l e room_1 s m #[Value.ref b] below meth c H locs (2000 + 150 * k) (100000 + 12700 * k) (lw_Z below #[Value.ref b] s) (F0 m 23 ls []) := by
  obtain ⟨hx, hb, hr, hml, hown, hts, hX, hbl, hlocks, hgv⟩ := id C0
  have hown : s.vm.findClass RL = some m.cls := hown
  have hts := lwx_hts hts
  have hA : ∀ q : Nat, s.heap.size ≤ q → A q := fun q h => by rw [hAe]; exact h
  have hbA : ¬ A b := by rw [hAe]; exact Nat.not_le.mpr hbl
  intro n
  induction n with
  | zero =>
    intro k H locs ls hn J hS hl
    exact law_head l hlt hL C0 dC dI hN hM A hAe hZ (by omega) hS hl (fun hg => absurd hg (by omega))
  | succ n ih =>
    intro k H locs ls hn J hS hl
    refine law_head l hlt hL C0 dC dI hN hM A hAe hZ (by omega) hS hl (fun hg => ?_)
    have hnext : ∀ (H1 : Heap) (locs1 : List Loc) (ls1 : Array Slot), lawI (dC, dI) s A x h0 qo (k + 1) H1 → va_S A s.heap H1 locs1 → lv_has ls1 8 [(0, .ref b), (1, .ref x), (2, .ref h0), (3, .ref qo), (4, .int (nI (5 * k)))] → W p l e room_1 s m #[Value.ref b] below meth c H1 locs1 (2000 + 150 * (k + 1)) (100000 + 12700 * (k + 1)) (lw_Z below #[Value.ref b] s) (F0 m 480 ls1 []) := by
      intro H locs ls J hS hl
      refine lv_iinc (v := nI ((5 * k) + 5)) (lv' := [(4, .int (nI ((5 * k) + 5))), (0, .ref b), (1, .ref x), (2, .ref h0), (3, .ref qo)]) hx hb dL_law_480 hl (k := 4) rfl (by rw [show Int32.ofInt 5 = nI 5 from rfl, nI_add]) (by decide) rfl (fun ls hl => ?_)
      refine lv_goto (tgt := 23) hx hb dL_law_483 (by decide) ?_
      have hl9 : lv_has ls 8 [(4, .int (nI ((5 * k) + 5))), (0, .ref b), (1, .ref x), (2, .ref h0), (3, .ref qo)] := hl
      rw [show (5 * k) + 5 = 5 * (k + 1) by omega] at hl9
      exact ih (k + 1) (by omega) J hS (lv_sub hl9 [1, 2, 3, 4, 0] rfl)
    refine lv_aload_n hx hb dL_law_32 rfl (lv_at hl 0 rfl) ?_
    refine lv_iload hx hb dL_law_33 (lv_at hl 4 rfl) ?_
    refine va_sld (i := nI (5 * k)) hx hb hX hbl hbA hS (vp_in_nI (by omega) (by omega)) dL_law_35 ?_
    refine W.eq (g2 := F0 m 36 ls [.int (xs (5 * k))]) (by rw [nI_clamp (by omega)]) ?_
    refine lv_bipush (v := 7) hx hb dL_law_36 (by decide) ?_
    refine lv_iand hx hb dL_law_38 ?_
    obtain ⟨j9, hj9, ej9⟩ := pk_andE (xs (5 * k)) (m := 7) 3 (by decide)
    rcases (show j9 = 0 ∨ j9 = 1 ∨ j9 = 2 ∨ j9 = 3 ∨ j9 = 4 ∨ j9 = 5 ∨ j9 = 6 ∨ j9 = 7 by omega) with rfl | rfl | rfl | rfl | rfl | rfl | rfl | rfl
    ·
      refine W.eq (g2 := F0 m 39 ls [.int 0]) (by rw [ej9]; rfl) ?_
      refine lv_tableIn (x := 0) (off := 45) (tgt := 84) hx hb dL_law_39 (by decide) (by decide) (by decide) (by decide) ?_
      exact law_make l hlt hL C0 dC dI hN hM A hAe hZ hg J hS hl hnext
    ·
      refine W.eq (g2 := F0 m 39 ls [.int 1]) (by rw [ej9]; rfl) ?_
      refine lv_tableIn (x := 1) (off := 97) (tgt := 136) hx hb dL_law_39 (by decide) (by decide) (by decide) (by decide) ?_
      exact law_drop l hlt hL C0 dC dI hN hM A hAe hZ hg J hS hl hnext
    ·
      refine W.eq (g2 := F0 m 39 ls [.int 2]) (by rw [ej9]; rfl) ?_
      refine lv_tableIn (x := 2) (off := 125) (tgt := 164) hx hb dL_law_39 (by decide) (by decide) (by decide) (by decide) ?_
      exact law_map l hlt hL C0 dC dI hN hM A hAe hZ hg J hS hl hnext
    ·
      refine W.eq (g2 := F0 m 39 ls [.int 3]) (by rw [ej9]; rfl) ?_
      refine lv_tableIn (x := 3) (off := 189) (tgt := 228) hx hb dL_law_39 (by decide) (by decide) (by decide) (by decide) ?_
      exact law_view l hlt hL C0 dC dI hN hM A hAe hZ hg J hS hl hnext
    ·
      refine W.eq (g2 := F0 m 39 ls [.int 4]) (by rw [ej9]; rfl) ?_
      refine lv_tableIn (x := 4) (off := 253) (tgt := 292) hx hb dL_law_39 (by decide) (by decide) (by decide) (by decide) ?_
      exact law_cursor l hlt hL C0 dC dI hN hM A hAe hZ hg J hS hl hnext
    ·
      refine W.eq (g2 := F0 m 39 ls [.int 5]) (by rw [ej9]; rfl) ?_
      refine lv_tableIn (x := 5) (off := 309) (tgt := 348) hx hb dL_law_39 (by decide) (by decide) (by decide) (by decide) ?_
      exact law_move l hlt hL C0 dC dI hN hM A hAe hZ hg J hS hl hnext
    ·
      refine W.eq (g2 := F0 m 39 ls [.int 6]) (by rw [ej9]; rfl) ?_
      refine lv_tableIn (x := 6) (off := 361) (tgt := 400) hx hb dL_law_39 (by decide) (by decide) (by decide) (by decide) ?_
      exact law_item l hlt hL C0 dC dI hN hM A hAe hZ hg J hS hl hnext
    ·
      refine W.eq (g2 := F0 m 39 ls [.int 7]) (by rw [ej9]; rfl) ?_
      refine lv_tableIn (x := 7) (off := 413) (tgt := 452) hx hb dL_law_39 (by decide) (by decide) (by decide) (by decide) ?_
      exact law_count l hlt hL C0 dC dI hN hM A hAe hZ hg J hS hl hnext
set_option maxHeartbeats 4000000 in
set_option maxRecDepth 100000 in
/-- the law, from its entry -/
theorem whole_start {p : Program} {e : Env} {s : State} {m : MethodId} {below : List Frame} {meth : Method} {c : Code} (l : Launch) (hlt : l.stackTraces = false) {b L : Nat} {xs : Nat → Int32} (hL : L ≤ 2560) (C0 : lw_At p s m meth c b L xs) : W p l e room_1 s m #[Value.ref b] below meth c s.heap [] 0 0 (lw_Z below #[Value.ref b] s) (entryFrame m ([Value.ref b] : List Value).toArray 8) := by
  obtain ⟨hx, hb, hr, hml, hown, hts, hX, hbl, hlocks, hgv⟩ := id C0
  have hown : s.vm.findClass RL = some m.cls := hown
  have hgf := flat_of_before _ hgv
  obtain ⟨dC, dI, hKc0⟩ := p1_known hts
  have hN : p_N s := p1_N hts hgf
  have hM : p_M s := p1_M hgf
  have hZ : p_Z (fun q : Nat => s.heap.size ≤ q) s s.heap := p1_Z hts hgf
  obtain ⟨A, hAe⟩ : ∃ A : Nat → Prop, A = (fun q : Nat => s.heap.size ≤ q) := ⟨_, rfl⟩
  rw [← hAe] at hZ
  have hts := lwx_hts hts
  have hA : ∀ q : Nat, s.heap.size ≤ q → A q := fun q h => by rw [hAe]; exact h
  have hAi : ∀ q : Nat, A q → s.heap.size ≤ q := fun q h => by rw [hAe] at h; exact h
  have hbA : ¬ A b := by rw [hAe]; exact Nat.not_le.mpr hbl
  have hS : va_S A s.heap s.heap [] := va_S.rf
  have hK : va_K (dC, dI) vwCl [] s := ⟨hKc0, fun k q h => by simp at h⟩
  have hP : va_P (dC, dI) vwCl [] s.heap := tx_P0
  have hD : va_D A [] := tx_D0
  have hl := lv_entry ([.ref b]) (n := 8) (Nat.le_of_ble_eq_true rfl)
  rw [lg_entry_eq]
  generalize (lg_sl ([.ref b]) ++ List.replicate (8 - (lg_sl ([.ref b])).length) Slot.unset).toArray = ls at hl ⊢
  have hl : lv_has ls 8 [(0, .ref b)] := hl
  refine va_new (ci := 7) (fs := [.null]) (C := RX7) (T := TX7) (N := 1) hx hb hts (by decide +kernel) tyX7 tyX7_ok hown (hts (.classLink RL 8 RX7) (by decide +kernel)) (hts (.instantiable RX7 1) (by decide +kernel)) (hts (.initialized RX7) (by decide +kernel)) hK hP hD hS hA rfl (by decide +kernel) (Nat.le_of_ble_eq_true rfl) (Nat.le_of_ble_eq_true rfl) dL_law_0 (fun q_1 H hP hD hS => ?_)
  replace hP : va_P (dC, dI) vwCl [(q_1, .inr (7, [.null]))] H := hP
  replace hD : va_D A [(q_1, .inr (7, [.null]))] := hD
  refine W.widen (k := 1) (n := 1) (Nat.le_of_ble_eq_true rfl) (Nat.le_of_ble_eq_true rfl) ?_
  refine lv_dup hx hb dL_law_3 rfl ?_
  have hPc := hP.sub (ws' := [(q_1, .inr (7, [.null]))]) [0] rfl
  have hDc := hD.sub (ws' := [(q_1, .inr (7, [.null]))]) [0] (by decide) rfl
  have hKc := hK.sub (tys' := []) [] rfl
  have hFc := va_free (wc := [(q_1, .inr (7, [.null]))]) hD hS hA [0] rfl
  have hZc := (hZ.kept hS.2.1).narrow hFc
  refine va_callv (va_runI (As := []) (rest := [.ref q_1]) ⟨hx, hb, hml, hown, hts⟩ (c_X7_init l hlt dC dI H.size q_1) (cwI 0 hts gP_law_X7_init rfl rfl rfl (hts (.initialized RX7) (by decide +kernel)) (hts (.methodLink RL 52 yX7_init) (by decide +kernel)) (hts (.instanceMethod yX7_init) (by decide +kernel)) rfl (by decide +kernel) ⟨(Nat.le_of_ble_eq_true rfl), (Nat.le_of_ble_eq_true rfl)⟩) ⟨pk_blindX, pk_callX hPc hKc hDc hN hZc⟩ rfl rfl hl.1 rfl (lv_room (Nat.le_of_ble_eq_true rfl)) dL_law_4 ⟨(Nat.le_of_ble_eq_true rfl), (Nat.le_of_ble_eq_true rfl)⟩) hS (fun q _ h => hFc q h) hFc (fun ur_2 t H1 locs ht hvm hw hB hz1 hk1 hS => ?_)
  try dsimp only at hw
  have jr_2 := hw
  obtain ⟨qb, cb, hP1, hK1, hD1⟩ := hB
  rw [ht] at hP1
  have hK1 := va_K.moved hvm.symm hK1
  obtain ⟨hP, hD⟩ := va_join (wr := []) (w1 := [(q_1, .inr (7, [.ref qb])), (qb, .inl (cb, 16, .inr (.inr (.inr (.inr (fun _ => none))))))]) hP hD [0] [] rfl rfl (by decide) (by decide) hk1 hFc hP1 hD1
  have hK := hK.app hK1
  have hK : va_K (dC, dI) vwCl [(cb, .object "KeyAtlas$Body")] s := hK
  clear hk1 hz1 ht hPc hDc hKc hFc
  generalize H1 = H at hP hS ⊢
  replace hP : va_P (dC, dI) vwCl [(q_1, .inr (7, [.ref qb])), (qb, .inl (cb, 16, .inr (.inr (.inr (.inr (fun _ => none))))))] H := hP
  replace hD : va_D A [(q_1, .inr (7, [.ref qb])), (qb, .inl (cb, 16, .inr (.inr (.inr (.inr (fun _ => none))))))] := hD
  refine W.widen (k := 2) (n := 17) (Nat.le_of_ble_eq_true rfl) (Nat.le_of_ble_eq_true rfl) ?_
  refine W.eq (g2 := F0 m 7 ls [.ref q_1]) rfl ?_
  refine lv_astore_n (lv' := [(1, .ref q_1), (0, .ref b)]) hx hb dL_law_7 rfl hl (by decide) rfl (fun ls hl => ?_)
  refine va_new (ci := 8) (fs := [.int 0, .null, .null, .null, .null, .null, .null, .null, .null, .null, .null, .null, .null, .null, .null, .null, .null]) (C := RX8) (T := TX8) (N := 17) hx hb hts (by decide +kernel) tyX8 tyX8_ok hown (hts (.classLink RL 53 RX8) (by decide +kernel)) (hts (.instantiable RX8 17) (by decide +kernel)) (hts (.initialized RX8) (by decide +kernel)) hK hP hD hS hA rfl (by decide +kernel) (Nat.le_of_ble_eq_true rfl) (Nat.le_of_ble_eq_true rfl) dL_law_8 (fun q_3 H hP hD hS => ?_)
  replace hP : va_P (dC, dI) vwCl [(q_1, .inr (7, [.ref qb])), (qb, .inl (cb, 16, .inr (.inr (.inr (.inr (fun _ => none)))))), (q_3, .inr (8, [.int 0, .null, .null, .null, .null, .null, .null, .null, .null, .null, .null, .null, .null, .null, .null, .null, .null]))] H := hP
  replace hD : va_D A [(q_1, .inr (7, [.ref qb])), (qb, .inl (cb, 16, .inr (.inr (.inr (.inr (fun _ => none)))))), (q_3, .inr (8, [.int 0, .null, .null, .null, .null, .null, .null, .null, .null, .null, .null, .null, .null, .null, .null, .null, .null]))] := hD
  refine W.widen (k := 3) (n := 34) (Nat.le_of_ble_eq_true rfl) (Nat.le_of_ble_eq_true rfl) ?_
  refine lv_dup hx hb dL_law_11 rfl ?_
  have hPc := hP.sub (ws' := [(q_3, .inr (8, [.int 0, .null, .null, .null, .null, .null, .null, .null, .null, .null, .null, .null, .null, .null, .null, .null, .null]))]) [2] rfl
  have hDc := hD.sub (ws' := [(q_3, .inr (8, [.int 0, .null, .null, .null, .null, .null, .null, .null, .null, .null, .null, .null, .null, .null, .null, .null, .null]))]) [2] (by decide) rfl
  have hKc := hK.sub (tys' := []) [] rfl
  have hFc := va_free (wc := [(q_3, .inr (8, [.int 0, .null, .null, .null, .null, .null, .null, .null, .null, .null, .null, .null, .null, .null, .null, .null, .null]))]) hD hS hA [2] rfl
  refine va_callv (va_runI (As := []) (rest := [.ref q_3]) ⟨hx, hb, hml, hown, hts⟩ (c_X8_init l  dC dI H.size q_3) (cwI 0 hts gP_law_X8_init rfl rfl rfl (hts (.initialized RX8) (by decide +kernel)) (hts (.methodLink RL 55 yX8_init) (by decide +kernel)) (hts (.instanceMethod yX8_init) (by decide +kernel)) rfl (by decide +kernel) ⟨(Nat.le_of_ble_eq_true rfl), (Nat.le_of_ble_eq_true rfl)⟩) ⟨pk_blind, pk_call hPc hKc hDc⟩ rfl rfl hl.1 rfl (lv_room (Nat.le_of_ble_eq_true rfl)) dL_law_12 ⟨(Nat.le_of_ble_eq_true rfl), (Nat.le_of_ble_eq_true rfl)⟩) hS (fun q _ h => hFc q h) hFc (fun ur_4 t H1 locs ht hvm hw hB hz1 hk1 hS => ?_)
  try dsimp only at hw
  have jr_4 := hw
  obtain ⟨q1, c1, q2, c2, q3, c3, q4, c4, q5, c5, q6, c6, q7, c7, q8, c8, q9, c9, q10, c10, q11, c11, q12, c12, q13, c13, q14, c14, q15, c15, q16, c16, hP1, hK1, hD1⟩ := hB
  rw [ht] at hP1
  have hK1 := va_K.moved hvm.symm hK1
  obtain ⟨hP, hD⟩ := va_join (wr := [(q_1, .inr (7, [.ref qb])), (qb, .inl (cb, 16, .inr (.inr (.inr (.inr (fun _ => none))))))]) (w1 := [(q_3, .inr (8, [.int 0, .ref q1, .ref q2, .ref q3, .ref q4, .ref q5, .ref q6, .ref q7, .ref q8, .ref q9, .ref q10, .ref q11, .ref q12, .ref q13, .ref q14, .ref q15, .ref q16])), (q1, .inl (c1, 16, .inl (fun _ => 0))), (q2, .inl (c2, 67200, .inl (fun _ => 0))), (q3, .inl (c3, 16, .inl (fun _ => 0))), (q4, .inl (c4, 16, .inl (fun _ => 0))), (q5, .inl (c5, 16, .inl (fun _ => 0))), (q6, .inl (c6, 16, .inl (fun _ => 0))), (q7, .inl (c7, 16, .inl (fun _ => 0))), (q8, .inl (c8, 16, .inl (fun _ => 0))), (q9, .inl (c9, 16, .inl (fun _ => 0))), (q10, .inl (c10, 16, .inl (fun _ => 0))), (q11, .inl (c11, 16, .inl (fun _ => 0))), (q12, .inl (c12, 16, .inl (fun _ => 0))), (q13, .inl (c13, 1000, .inl (fun _ => 0))), (q14, .inl (c14, 1000, .inl (fun _ => 0))), (q15, .inl (c15, 4096, .inl (fun _ => 0))), (q16, .inl (c16, 16, .inl (fun _ => 0)))]) hP hD [2] [0, 1] rfl rfl (by decide) (by decide) hk1 hFc hP1 hD1
  have hK := hK.app hK1
  have hK : va_K (dC, dI) vwCl [(cb, .object "KeyAtlas$Body"), (c1, .int), (c2, .int), (c3, .int), (c4, .int), (c5, .int), (c6, .int), (c7, .int), (c8, .int), (c9, .int), (c10, .int), (c11, .int), (c12, .int), (c13, .int), (c14, .int), (c15, .boolean), (c16, .boolean)] s := hK
  clear hk1 hz1 ht hPc hDc hKc hFc
  generalize H1 = H at hP hS ⊢
  replace hP : va_P (dC, dI) vwCl [(q_1, .inr (7, [.ref qb])), (qb, .inl (cb, 16, .inr (.inr (.inr (.inr (fun _ => none)))))), (q_3, .inr (8, [.int 0, .ref q1, .ref q2, .ref q3, .ref q4, .ref q5, .ref q6, .ref q7, .ref q8, .ref q9, .ref q10, .ref q11, .ref q12, .ref q13, .ref q14, .ref q15, .ref q16])), (q1, .inl (c1, 16, .inl (fun _ => 0))), (q2, .inl (c2, 67200, .inl (fun _ => 0))), (q3, .inl (c3, 16, .inl (fun _ => 0))), (q4, .inl (c4, 16, .inl (fun _ => 0))), (q5, .inl (c5, 16, .inl (fun _ => 0))), (q6, .inl (c6, 16, .inl (fun _ => 0))), (q7, .inl (c7, 16, .inl (fun _ => 0))), (q8, .inl (c8, 16, .inl (fun _ => 0))), (q9, .inl (c9, 16, .inl (fun _ => 0))), (q10, .inl (c10, 16, .inl (fun _ => 0))), (q11, .inl (c11, 16, .inl (fun _ => 0))), (q12, .inl (c12, 16, .inl (fun _ => 0))), (q13, .inl (c13, 1000, .inl (fun _ => 0))), (q14, .inl (c14, 1000, .inl (fun _ => 0))), (q15, .inl (c15, 4096, .inl (fun _ => 0))), (q16, .inl (c16, 16, .inl (fun _ => 0)))] H := hP
  replace hD : va_D A [(q_1, .inr (7, [.ref qb])), (qb, .inl (cb, 16, .inr (.inr (.inr (.inr (fun _ => none)))))), (q_3, .inr (8, [.int 0, .ref q1, .ref q2, .ref q3, .ref q4, .ref q5, .ref q6, .ref q7, .ref q8, .ref q9, .ref q10, .ref q11, .ref q12, .ref q13, .ref q14, .ref q15, .ref q16])), (q1, .inl (c1, 16, .inl (fun _ => 0))), (q2, .inl (c2, 67200, .inl (fun _ => 0))), (q3, .inl (c3, 16, .inl (fun _ => 0))), (q4, .inl (c4, 16, .inl (fun _ => 0))), (q5, .inl (c5, 16, .inl (fun _ => 0))), (q6, .inl (c6, 16, .inl (fun _ => 0))), (q7, .inl (c7, 16, .inl (fun _ => 0))), (q8, .inl (c8, 16, .inl (fun _ => 0))), (q9, .inl (c9, 16, .inl (fun _ => 0))), (q10, .inl (c10, 16, .inl (fun _ => 0))), (q11, .inl (c11, 16, .inl (fun _ => 0))), (q12, .inl (c12, 16, .inl (fun _ => 0))), (q13, .inl (c13, 1000, .inl (fun _ => 0))), (q14, .inl (c14, 1000, .inl (fun _ => 0))), (q15, .inl (c15, 4096, .inl (fun _ => 0))), (q16, .inl (c16, 16, .inl (fun _ => 0)))] := hD
  refine W.widen (k := 19) (n := 73522) (Nat.le_of_ble_eq_true rfl) (Nat.le_of_ble_eq_true rfl) ?_
  refine W.eq (g2 := F0 m 15 ls [.ref q_3]) rfl ?_
  refine lv_astore_n (lv' := [(2, .ref q_3), (1, .ref q_1), (0, .ref b)]) hx hb dL_law_15 rfl hl (by decide) rfl (fun ls hl => ?_)
  refine lv_iconst (v := 1) hx hb dL_law_16 (by decide) ?_
  have hS0_ := hS
  clear hS
  refine va_newa (atype := .long) (ty := .long) (n := 1) (N' := 1) (a0 := (1, .inr (.inl (fun _ => (0 : Int64))))) hx hb (hts (.arrayClass .long) (by decide +kernel)) rfl hK hP hD hS0_ hA (fun _ => rfl) (by decide) (by decide) (by decide) (Nat.le_of_ble_eq_true rfl) (Nat.le_of_ble_eq_true rfl) dL_law_17 (fun q_5 cA_6 H hK hP hD hS => ?_)
  clear hS0_
  have hK : va_K (dC, dI) vwCl [(cb, .object "KeyAtlas$Body"), (c1, .int), (c2, .int), (c3, .int), (c4, .int), (c5, .int), (c6, .int), (c7, .int), (c8, .int), (c9, .int), (c10, .int), (c11, .int), (c12, .int), (c13, .int), (c14, .int), (c15, .boolean), (c16, .boolean), (cA_6, .long)] s := hK
  replace hP : va_P (dC, dI) vwCl [(q_1, .inr (7, [.ref qb])), (qb, .inl (cb, 16, .inr (.inr (.inr (.inr (fun _ => none)))))), (q_3, .inr (8, [.int 0, .ref q1, .ref q2, .ref q3, .ref q4, .ref q5, .ref q6, .ref q7, .ref q8, .ref q9, .ref q10, .ref q11, .ref q12, .ref q13, .ref q14, .ref q15, .ref q16])), (q1, .inl (c1, 16, .inl (fun _ => 0))), (q2, .inl (c2, 67200, .inl (fun _ => 0))), (q3, .inl (c3, 16, .inl (fun _ => 0))), (q4, .inl (c4, 16, .inl (fun _ => 0))), (q5, .inl (c5, 16, .inl (fun _ => 0))), (q6, .inl (c6, 16, .inl (fun _ => 0))), (q7, .inl (c7, 16, .inl (fun _ => 0))), (q8, .inl (c8, 16, .inl (fun _ => 0))), (q9, .inl (c9, 16, .inl (fun _ => 0))), (q10, .inl (c10, 16, .inl (fun _ => 0))), (q11, .inl (c11, 16, .inl (fun _ => 0))), (q12, .inl (c12, 16, .inl (fun _ => 0))), (q13, .inl (c13, 1000, .inl (fun _ => 0))), (q14, .inl (c14, 1000, .inl (fun _ => 0))), (q15, .inl (c15, 4096, .inl (fun _ => 0))), (q16, .inl (c16, 16, .inl (fun _ => 0))), (q_5, .inl (cA_6, 1, .inr (.inl (fun _ => (0 : Int64)))))] H := hP
  replace hD : va_D A [(q_1, .inr (7, [.ref qb])), (qb, .inl (cb, 16, .inr (.inr (.inr (.inr (fun _ => none)))))), (q_3, .inr (8, [.int 0, .ref q1, .ref q2, .ref q3, .ref q4, .ref q5, .ref q6, .ref q7, .ref q8, .ref q9, .ref q10, .ref q11, .ref q12, .ref q13, .ref q14, .ref q15, .ref q16])), (q1, .inl (c1, 16, .inl (fun _ => 0))), (q2, .inl (c2, 67200, .inl (fun _ => 0))), (q3, .inl (c3, 16, .inl (fun _ => 0))), (q4, .inl (c4, 16, .inl (fun _ => 0))), (q5, .inl (c5, 16, .inl (fun _ => 0))), (q6, .inl (c6, 16, .inl (fun _ => 0))), (q7, .inl (c7, 16, .inl (fun _ => 0))), (q8, .inl (c8, 16, .inl (fun _ => 0))), (q9, .inl (c9, 16, .inl (fun _ => 0))), (q10, .inl (c10, 16, .inl (fun _ => 0))), (q11, .inl (c11, 16, .inl (fun _ => 0))), (q12, .inl (c12, 16, .inl (fun _ => 0))), (q13, .inl (c13, 1000, .inl (fun _ => 0))), (q14, .inl (c14, 1000, .inl (fun _ => 0))), (q15, .inl (c15, 4096, .inl (fun _ => 0))), (q16, .inl (c16, 16, .inl (fun _ => 0))), (q_5, .inl (cA_6, 1, .inr (.inl (fun _ => (0 : Int64)))))] := hD
  refine W.widen (k := 20) (n := 73523) (Nat.le_of_ble_eq_true rfl) (Nat.le_of_ble_eq_true rfl) ?_
  refine lv_astore_n (lv' := [(3, .ref q_5), (2, .ref q_3), (1, .ref q_1), (0, .ref b)]) hx hb dL_law_19 rfl hl (by decide) rfl (fun ls hl => ?_)
  refine lv_iconst (v := 0) hx hb dL_law_20 (by decide) ?_
  refine lv_istore (lv' := [(4, .int 0), (3, .ref q_5), (2, .ref q_3), (1, .ref q_1), (0, .ref b)]) hx hb dL_law_21 hl (by decide) rfl (fun ls hl => ?_)
  have hne : q_1 ≠ qb := fun z => absurd (hD.1 0 1 _ _ rfl rfl z) (by decide)
  have hox : q_5 ≠ q_1 := fun z => absurd (hD.1 19 0 _ _ rfl rfl z) (by decide)
  have hob : q_5 ≠ qb := fun z => absurd (hD.1 19 1 _ _ rfl rfl z) (by decide)
  have hI := aI_new (x := q_1) (qb := qb) (hP.sub (ws' := [(q_1, .inr (7, [.ref qb])), (qb, .inl (cb, 16, .inr (.inr (.inr (.inr (fun _ => none))))))]) [0, 1] rfl) (hK.sub (tys' := [(cb, .object "KeyAtlas$Body")]) [0] rfl) hne
  have hn1 : ∀ q ∈ [q_3, q1, q2, q3, q4, q5, q6, q7, q8, q9, q10, q11, q12, q13, q14, q15, q16], q ≠ q_1 := D_ne (is := [2, 3, 4, 5, 6, 7, 8, 9, 10, 11, 12, 13, 14, 15, 16, 17, 18]) (k := 0) (p := (q_1, .inr (7, [.ref qb]))) hD rfl rfl (by decide)
  have hn2 : ∀ q ∈ [q_3, q1, q2, q3, q4, q5, q6, q7, q8, q9, q10, q11, q12, q13, q14, q15, q16], q ≠ qb := D_ne (is := [2, 3, 4, 5, 6, 7, 8, 9, 10, 11, 12, 13, 14, 15, 16, 17, 18]) (k := 1) (p := (qb, .inl (cb, 16, .inr (.inr (.inr (.inr (fun _ => none))))))) hD rfl rfl (by decide)
  have hn3 : ∀ q ∈ [q_3, q1, q2, q3, q4, q5, q6, q7, q8, q9, q10, q11, q12, q13, q14, q15, q16], q ≠ q_5 := D_ne (is := [2, 3, 4, 5, 6, 7, 8, 9, 10, 11, 12, 13, 14, 15, 16, 17, 18]) (k := 19) (p := (q_5, .inl (cA_6, 1, .inr (.inl (fun _ => (0 : Int64)))))) hD rfl rfl (by decide)
  refine W.book (fun hz9 hn9 => ?_)
  refine W.widen (k := 2000 + 150 * 0) (n := 100000 + 12700 * 0) (by omega) (by omega) ?_
  have h9 : sumN (fun _ => 0) 16 = 0 := rfl
  exact law_loop l hlt hL C0 dC dI hN hM A hAe hZ 512 0 rfl ⟨qb, cb, (fun _ => none), (fun q => if q = q_1 then 1 else if q = qb then 2 else 0), (fun _ => 0), (fun _ => 0), cA_6, (fun _ => (0 : Int64)), 0, q1, q2, q3, q4, q5, q6, q7, q8, q9, q10, q11, q12, q13, q14, q15, q16, c1, c2, c3, c4, c5, c6, c7, c8, c9, c10, c11, c12, c13, c14, c15, c16, (fun _ => 0), (fun _ => 0), (fun _ => 0), (fun _ => 0), (fun _ => 0), (fun _ => 0), (fun _ => 0), (fun _ => 0), (fun _ => 0), (fun _ => 0), (fun _ => 0), (fun _ => 0), (fun _ => 0), (fun _ => 0), (fun _ => 0), (fun _ => 0), hP.sub (ws' := [(q_3, .inr (8, [.int 0, .ref q1, .ref q2, .ref q3, .ref q4, .ref q5, .ref q6, .ref q7, .ref q8, .ref q9, .ref q10, .ref q11, .ref q12, .ref q13, .ref q14, .ref q15, .ref q16])), (q1, .inl (c1, 16, .inl (fun _ => 0))), (q2, .inl (c2, 67200, .inl (fun _ => 0))), (q3, .inl (c3, 16, .inl (fun _ => 0))), (q4, .inl (c4, 16, .inl (fun _ => 0))), (q5, .inl (c5, 16, .inl (fun _ => 0))), (q6, .inl (c6, 16, .inl (fun _ => 0))), (q7, .inl (c7, 16, .inl (fun _ => 0))), (q8, .inl (c8, 16, .inl (fun _ => 0))), (q9, .inl (c9, 16, .inl (fun _ => 0))), (q10, .inl (c10, 16, .inl (fun _ => 0))), (q11, .inl (c11, 16, .inl (fun _ => 0))), (q12, .inl (c12, 16, .inl (fun _ => 0))), (q13, .inl (c13, 1000, .inl (fun _ => 0))), (q14, .inl (c14, 1000, .inl (fun _ => 0))), (q15, .inl (c15, 4096, .inl (fun _ => 0))), (q16, .inl (c16, 16, .inl (fun _ => 0)))]) [2, 3, 4, 5, 6, 7, 8, 9, 10, 11, 12, 13, 14, 15, 16, 17, 18] rfl, hK.sub (tys' := [(c1, .int), (c2, .int), (c3, .int), (c4, .int), (c5, .int), (c6, .int), (c7, .int), (c8, .int), (c9, .int), (c10, .int), (c11, .int), (c12, .int), (c13, .int), (c14, .int), (c15, .boolean), (c16, .boolean)]) [1, 2, 3, 4, 5, 6, 7, 8, 9, 10, 11, 12, 13, 14, 15, 16] rfl, hD.sub (ws' := [(q_3, .inr (8, [.int 0, .ref q1, .ref q2, .ref q3, .ref q4, .ref q5, .ref q6, .ref q7, .ref q8, .ref q9, .ref q10, .ref q11, .ref q12, .ref q13, .ref q14, .ref q15, .ref q16])), (q1, .inl (c1, 16, .inl (fun _ => 0))), (q2, .inl (c2, 67200, .inl (fun _ => 0))), (q3, .inl (c3, 16, .inl (fun _ => 0))), (q4, .inl (c4, 16, .inl (fun _ => 0))), (q5, .inl (c5, 16, .inl (fun _ => 0))), (q6, .inl (c6, 16, .inl (fun _ => 0))), (q7, .inl (c7, 16, .inl (fun _ => 0))), (q8, .inl (c8, 16, .inl (fun _ => 0))), (q9, .inl (c9, 16, .inl (fun _ => 0))), (q10, .inl (c10, 16, .inl (fun _ => 0))), (q11, .inl (c11, 16, .inl (fun _ => 0))), (q12, .inl (c12, 16, .inl (fun _ => 0))), (q13, .inl (c13, 1000, .inl (fun _ => 0))), (q14, .inl (c14, 1000, .inl (fun _ => 0))), (q15, .inl (c15, 4096, .inl (fun _ => 0))), (q16, .inl (c16, 16, .inl (fun _ => 0)))]) [2, 3, 4, 5, 6, 7, 8, 9, 10, 11, 12, 13, 14, 15, 16, 17, 18] (by decide) rfl, hP.sub (ws' := [(q_5, .inl (cA_6, 1, .inr (.inl (fun _ => (0 : Int64)))))]) [19] rfl, hK.sub (tys' := [(cA_6, .long)]) [17] rfl, hD.2 19 _ rfl, (if_neg hox).trans (if_neg hob), hI, oz_new hn1 hn2 hn3, lo_new (hAi _ (hD.2 0 _ rfl)) (hAi _ (hD.2 1 _ rfl)), RInv_new, by omega, by omega⟩ hS (lv_sub hl [4, 3, 2, 1, 0] rfl)
