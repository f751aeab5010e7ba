theorem dX7_newMap_0 : decode cX7_newMap 0 = .ok (.iload_n 0, 1) := by decide +kernel
theorem dX7_newMap_1 : decode cX7_newMap 1 = .ok (.lookupswitch 56 #[(0, 27), (1, 37)], 27) := by decide +kernel
theorem dX7_newMap_28 : decode cX7_newMap 28 = .ok (.new 223, 3) := by decide +kernel
theorem dX7_newMap_31 : decode cX7_newMap 31 = .ok (.dup, 1) := by decide +kernel
theorem dX7_newMap_32 : decode cX7_newMap 32 = .ok (.iload_n 1, 1) := by decide +kernel
theorem dX7_newMap_33 : decode cX7_newMap 33 = .ok (.iload_n 2, 1) := by decide +kernel
set_option maxRecDepth 20000 in
theorem ggX7_newMap_X2_init : GoodIn wsX7_newMap wsX2_init := goodIn_r _ [12, 13, 14, 15, 16, 17, 18, 19, 20, 21, 22, 23, 24, 25, 26, 27, 28, 29, 30, 31, 32, 33, 34, 35, 36, 37, 38, 39, 77, 78, 79, 80, 58, 59, 60, 61, 62, 63, 64, 65, 66, 67, 68, 69, 70, 71, 72, 73, 74, 75, 76, 81, 82, 83, 84, 85, 86] rfl (by decide +kernel)
set_option maxRecDepth 20000 in
theorem gX7_newMap_X2_init : GoodIn wsX7_newMap (wsX2_init) := ggX7_newMap_X2_init
theorem dX7_newMap_34 : decode cX7_newMap 34 = .ok (.invokespecial 225, 3) := by decide +kernel
theorem dX7_newMap_37 : decode cX7_newMap 37 = .ok (.areturn, 1) := by decide +kernel
theorem dX7_newMap_38 : decode cX7_newMap 38 = .ok (.new 228, 3) := by decide +kernel
theorem dX7_newMap_41 : decode cX7_newMap 41 = .ok (.dup, 1) := by decide +kernel
theorem dX7_newMap_42 : decode cX7_newMap 42 = .ok (.iload_n 1, 1) := by decide +kernel
theorem dX7_newMap_43 : decode cX7_newMap 43 = .ok (.iload_n 2, 1) := by decide +kernel
theorem dX7_newMap_44 : decode cX7_newMap 44 = .ok (.iconst 1, 1) := by decide +kernel
theorem dX7_newMap_45 : decode cX7_newMap 45 = .ok (.if_icmp .ne 7, 3) := by decide +kernel
theorem dX7_newMap_52 : decode cX7_newMap 52 = .ok (.iconst 0, 1) := by decide +kernel
set_option maxRecDepth 20000 in
theorem ggX7_newMap_X4_init : GoodIn wsX7_newMap wsX4_init := goodIn_r _ [42, 43, 14, 15, 44, 45, 20, 21, 22, 23, 24, 25, 26, 27, 46, 29, 30, 31, 32, 33, 34, 35, 36, 37, 38, 39, 77, 78, 79, 80, 65, 66, 67, 68, 69, 58, 59, 60, 61, 62, 63, 64, 70, 71, 72, 73, 74, 75, 76, 81, 82, 83, 84, 85, 86] rfl (by decide +kernel)
set_option maxRecDepth 20000 in
theorem gX7_newMap_X4_init : GoodIn wsX7_newMap (wsX4_init) := ggX7_newMap_X4_init
theorem dX7_newMap_53 : decode cX7_newMap 53 = .ok (.invokespecial 230, 3) := by decide +kernel
theorem dX7_newMap_56 : decode cX7_newMap 56 = .ok (.areturn, 1) := by decide +kernel
theorem dX7_newMap_48 : decode cX7_newMap 48 = .ok (.iconst 1, 1) := by decide +kernel
theorem dX7_newMap_49 : decode cX7_newMap 49 = .ok (.goto 4, 3) := by decide +kernel
theorem dX7_newMap_57 : decode cX7_newMap 57 = .ok (.new 147, 3) := by decide +kernel
theorem dX7_newMap_60 : decode cX7_newMap 60 = .ok (.dup, 1) := by decide +kernel
theorem dX7_newMap_61 : decode cX7_newMap 61 = .ok (.iload_n 1, 1) := by decide +kernel
set_option maxRecDepth 20000 in
theorem ggX7_newMap_X6_init : GoodIn wsX7_newMap wsX6_init := goodIn_r _ [49, 50, 14, 15, 51, 52, 53, 54, 55, 56, 20, 21, 22, 23, 24, 25, 26, 27, 57, 29, 30, 31, 32, 33, 34, 35, 36, 37, 38, 39, 77, 78, 79, 80, 70, 71, 72, 73, 74, 75, 76, 58, 59, 60, 61, 62, 63, 64, 65, 66, 67, 68, 69, 81, 82, 83, 84, 85, 86] rfl (by decide +kernel)
set_option maxRecDepth 20000 in
theorem gX7_newMap_X6_init : GoodIn wsX7_newMap (wsX6_init) := ggX7_newMap_X6_init
theorem dX7_newMap_62 : decode cX7_newMap 62 = .ok (.invokespecial 233, 3) := by decide +kernel
theorem dX7_newMap_65 : decode cX7_newMap 65 = .ok (.areturn, 1) := by decide +kernel
set_option maxHeartbeats 4000000 in
set_option maxRecDepth 100000 in
/-- a new map, H -/
theorem c_X7_newMap_H (l : Launch) (hlt : l.stackTraces = false) (dC : Nat → ClassId) (dI : Nat → Nat → Nat) (sz : Nat) (p1 : Int32) (p2 : Int32) (hrg : rgH p1 p2) : Met l yX7_newMap wsX7_newMap ({ frames := 4, cells := 5, slots := 43, locals := 90 }) (va_Pc [.int 0, .int p1, .int p2] (pk_PreX (dC, dI) [] [] sz)) (va_Qr (fun (_ : Nat × Nat × Nat × ClassId × ClassId × Nat × ClassId) => True) (fun (u : Nat × Nat × Nat × ClassId × ClassId × Nat × ClassId) (a : Nat) (t : State) => va_P (dC, dI) vwCl [(a, .inr (3, [.ref u.1, .int 0, .int (-1), .int p1, .int p2, .int (nI 0), .ref u.2.2.2.2.2.1])), (u.1, .inr (5, [.ref u.2.1, .ref u.2.2.1, .int (nI 0), .int 0])), (u.2.1, .inl (u.2.2.2.1, 16, .inl (fun _ => (0 : Int32)))), (u.2.2.1, .inl (u.2.2.2.2.1, 16, .inl (fun _ => (0 : Int32)))), (u.2.2.2.2.2.1, .inl (u.2.2.2.2.2.2, 0, .inl (fun _ => (0 : Int32))))] t.heap ∧ va_K (dC, dI) vwCl [(u.2.2.2.1, .int), (u.2.2.2.2.1, .int), (u.2.2.2.2.2.2, .boolean)] t ∧ va_D (va_A [] sz) [(a, .inr (3, [.ref u.1, .int 0, .int (-1), .int p1, .int p2, .int (nI 0), .ref u.2.2.2.2.2.1])), (u.1, .inr (5, [.ref u.2.1, .ref u.2.2.1, .int (nI 0), .int 0])), (u.2.1, .inl (u.2.2.2.1, 16, .inl (fun _ => (0 : Int32)))), (u.2.2.1, .inl (u.2.2.2.2.1, 16, .inl (fun _ => (0 : Int32)))), (u.2.2.2.2.2.1, .inl (u.2.2.2.2.2.2, 0, .inl (fun _ => (0 : Int32))))]) (va_A [] sz)) 5 43 (va_A [] sz) := by
  refine Met.ofW (cc := cX7_newMap) (maxL := 3) (ret := (some (.object "KeyAtlas$Keyed"))) (by decide) rfl ?_
  intro p e s m args below meth c s₁ B hml hv
  obtain ⟨rfl, hsz, hP, hK, hD0, hN, hZ⟩ := hv
  have hx := B.exec
  have hb := B.bytes
  have hr := B.returns
  have hts := atoms_spec (ws := wsX7_newMap) B.pre
  have hown : s.vm.findClass RX7 = some m.cls := findClass_of_methodNamed B.named
  have hlocks := B.notSynchronized
  subst hsz
  have hD := hD0.self (sz := s.heap.size)
  generalize hAe : va_A [] s.heap.size = A at hZ hD ⊢
  have hA : ∀ q : Nat, s.heap.size ≤ q → A q := fun q h => by rw [← hAe]; exact Or.inr h
  have hS : va_S A s.heap s.heap [] := va_S.rf
  have hP : va_P (dC, dI) vwCl [] s.heap := hP
  have hl := lv_entry ([.int 0, .int p1, .int p2]) (n := 3) (Nat.le_of_ble_eq_true rfl)
  rw [lg_entry_eq]
  generalize (lg_sl ([.int 0, .int p1, .int p2]) ++ List.replicate (3 - (lg_sl ([.int 0, .int p1, .int p2])).length) Slot.unset).toArray = ls at hl ⊢
  have hl : lv_has ls 3 [(0, .int 0), (1, .int p1), (2, .int p2)] := hl
  have hw0_ := hts (.classLink RX7 223 RX2) (List.mem_of_getElem? (l := wsX7_newMap) (i := 1) rfl)
  have hw1_ := hts (.instantiable RX2 7) (List.mem_of_getElem? (l := wsX7_newMap) (i := 2) rfl)
  have hw2_ := hts (.initialized RX2) (List.mem_of_getElem? (l := wsX7_newMap) (i := 3) rfl)
  have hw3_ := hts (.methodLink RX7 225 yX2_init) (List.mem_of_getElem? (l := wsX7_newMap) (i := 10) rfl)
  have hw4_ := hts (.instanceMethod yX2_init) (List.mem_of_getElem? (l := wsX7_newMap) (i := 11) rfl)
  have hi0_ : ∀ w ∈ u_ws RX2 TX2 7, w ∈ wsX7_newMap := fun w h => List.mem_cons_of_mem _ (List.mem_append_left _ (List.mem_append_left _ (List.mem_append_left _ (List.mem_append_left _ (List.mem_append_right _ h)))))
  refine lv_iload_n hx hb dX7_newMap_0 rfl (lv_at hl 0 rfl) ?_
  refine lv_lookup (x := 0) (off := 27) (tgt := 28) hx hb dX7_newMap_1 (by decide) (by decide) (by decide) ?_
  refine va_new (ci := 3) (fs := [.null, .int 0, .int 0, .int 0, .int 0, .int 0, .null]) (C := RX2) (T := TX2) (N := 7) hx hb hts hi0_ tyX2 tyX2_ok hown hw0_ hw1_ hw2_ hK hP hD hS hA rfl (by decide +kernel) (Nat.le_of_ble_eq_true rfl) (Nat.le_of_ble_eq_true rfl) dX7_newMap_28 (fun q_1 H hP hD hS => ?_)
  replace hP : va_P (dC, dI) vwCl [(q_1, .inr (3, [.null, .int 0, .int 0, .int 0, .int 0, .int 0, .null]))] H := hP
  replace hD : va_D A [(q_1, .inr (3, [.null, .int 0, .int 0, .int 0, .int 0, .int 0, .null]))] := hD
  refine W.widen (k := 1) (n := 7) (Nat.le_of_ble_eq_true rfl) (Nat.le_of_ble_eq_true rfl) ?_
  refine lv_dup hx hb dX7_newMap_31 rfl ?_
  refine lv_iload_n hx hb dX7_newMap_32 rfl (lv_at hl 1 rfl) ?_
  obtain ⟨cap, hcap, rfl⟩ := nI_nat (x := p1) (n := 1001) (by unfold rgH at hrg; omega) (by unfold rgH at hrg; omega) (by omega)
  refine lv_iload_n hx hb dX7_newMap_33 rfl (lv_at hl 2 rfl) ?_
  have hPc := hP.sub (ws' := [(q_1, .inr (3, [.null, .int 0, .int 0, .int 0, .int 0, .int 0, .null]))]) [0] rfl
  have hDc := hD.sub (ws' := [(q_1, .inr (3, [.null, .int 0, .int 0, .int 0, .int 0, .int 0, .null]))]) [0] (by decide) rfl
  have hKc := hK.sub (tys' := []) [] rfl
  have hFc := va_free (wc := [(q_1, .inr (3, [.null, .int 0, .int 0, .int 0, .int 0, .int 0, .null]))]) hD hS hA [0] rfl
  have hZc := (hZ.kept hS.2.1).narrow hFc
  refine va_callv (va_runI (As := [.int (nI cap), .int p2]) (rest := [.ref q_1]) ⟨hx, hb, hml, hown, hts⟩ (c_X2_init l hlt dC dI H.size q_1 cap p2) (cwI 2 hts gX7_newMap_X2_init rfl rfl rfl hw2_ hw3_ hw4_ rfl (by decide +kernel) ⟨(Nat.le_of_ble_eq_true rfl), (Nat.le_of_ble_eq_true rfl)⟩) ⟨pk_blindX, pk_callX hPc hKc hDc hN hZc⟩ rfl rfl hl.1 rfl (lv_room (Nat.le_of_ble_eq_true rfl)) dX7_newMap_34 ⟨(Nat.le_of_ble_eq_true rfl), (Nat.le_of_ble_eq_true rfl)⟩) hS (fun q _ h => hFc q h) hFc (fun ur_2 t H1 locs ht hvm hw hB hz1 hk1 hS => ?_)
  try dsimp only at hw
  have jr_2 := hw
  obtain ⟨hP1, hK1, hD1⟩ := hB
  rw [ht] at hP1
  have hK1 := va_K.moved hvm.symm hK1
  obtain ⟨hP, hD⟩ := va_join (wr := []) (w1 := [(q_1, .inr (3, [.ref ur_2.1, .int 0, .int (-1), .int (nI cap), .int p2, .int (nI 0), .ref ur_2.2.2.2.2.2.1])), (ur_2.1, .inr (5, [.ref ur_2.2.1, .ref ur_2.2.2.1, .int (nI 0), .int 0])), (ur_2.2.1, .inl (ur_2.2.2.2.1, 16, .inl (fun _ => (0 : Int32)))), (ur_2.2.2.1, .inl (ur_2.2.2.2.2.1, 16, .inl (fun _ => (0 : Int32)))), (ur_2.2.2.2.2.2.1, .inl (ur_2.2.2.2.2.2.2, 0, .inl (fun _ => (0 : Int32))))]) hP hD [0] [] rfl rfl (by decide) (by decide) hk1 hFc hP1 hD1
  have hK := hK.app hK1
  have hK : va_K (dC, dI) vwCl [(ur_2.2.2.2.1, .int), (ur_2.2.2.2.2.1, .int), (ur_2.2.2.2.2.2.2, .boolean)] s := hK
  clear hk1 hz1 ht hPc hDc hKc hFc
  generalize H1 = H at hP hS ⊢
  replace hP : va_P (dC, dI) vwCl [(q_1, .inr (3, [.ref ur_2.1, .int 0, .int (-1), .int (nI cap), .int p2, .int (nI 0), .ref ur_2.2.2.2.2.2.1])), (ur_2.1, .inr (5, [.ref ur_2.2.1, .ref ur_2.2.2.1, .int (nI 0), .int 0])), (ur_2.2.1, .inl (ur_2.2.2.2.1, 16, .inl (fun _ => (0 : Int32)))), (ur_2.2.2.1, .inl (ur_2.2.2.2.2.1, 16, .inl (fun _ => (0 : Int32)))), (ur_2.2.2.2.2.2.1, .inl (ur_2.2.2.2.2.2.2, 0, .inl (fun _ => (0 : Int32))))] H := hP
  replace hD : va_D A [(q_1, .inr (3, [.ref ur_2.1, .int 0, .int (-1), .int (nI cap), .int p2, .int (nI 0), .ref ur_2.2.2.2.2.2.1])), (ur_2.1, .inr (5, [.ref ur_2.2.1, .ref ur_2.2.2.1, .int (nI 0), .int 0])), (ur_2.2.1, .inl (ur_2.2.2.2.1, 16, .inl (fun _ => (0 : Int32)))), (ur_2.2.2.1, .inl (ur_2.2.2.2.2.1, 16, .inl (fun _ => (0 : Int32)))), (ur_2.2.2.2.2.2.1, .inl (ur_2.2.2.2.2.2.2, 0, .inl (fun _ => (0 : Int32))))] := hD
  refine W.widen (k := 5) (n := 43) (Nat.le_of_ble_eq_true rfl) (Nat.le_of_ble_eq_true rfl) ?_
  refine W.eq (g2 := F0 m 37 ls [.ref q_1]) rfl ?_
  have hP9 := hP.sub (ws' := [(q_1, .inr (3, [.ref ur_2.1, .int 0, .int (-1), .int (nI cap), .int p2, .int (nI 0), .ref ur_2.2.2.2.2.2.1])), (ur_2.1, .inr (5, [.ref ur_2.2.1, .ref ur_2.2.2.1, .int (nI 0), .int 0])), (ur_2.2.1, .inl (ur_2.2.2.2.1, 16, .inl (fun _ => (0 : Int32)))), (ur_2.2.2.1, .inl (ur_2.2.2.2.2.1, 16, .inl (fun _ => (0 : Int32)))), (ur_2.2.2.2.2.2.1, .inl (ur_2.2.2.2.2.2.2, 0, .inl (fun _ => (0 : Int32))))]) [0, 1, 2, 3, 4] rfl
  have hD9 := hD.sub (ws' := [(q_1, .inr (3, [.ref ur_2.1, .int 0, .int (-1), .int (nI cap), .int p2, .int (nI 0), .ref ur_2.2.2.2.2.2.1])), (ur_2.1, .inr (5, [.ref ur_2.2.1, .ref ur_2.2.2.1, .int (nI 0), .int 0])), (ur_2.2.1, .inl (ur_2.2.2.2.1, 16, .inl (fun _ => (0 : Int32)))), (ur_2.2.2.1, .inl (ur_2.2.2.2.2.1, 16, .inl (fun _ => (0 : Int32)))), (ur_2.2.2.2.2.2.1, .inl (ur_2.2.2.2.2.2.2, 0, .inl (fun _ => (0 : Int32))))]) [0, 1, 2, 3, 4] (by decide) rfl
  have hK9 := hK.sub (tys' := [(ur_2.2.2.2.1, .int), (ur_2.2.2.2.2.1, .int), (ur_2.2.2.2.2.2.2, .boolean)]) [0, 1, 2] rfl
  refine W.widen (k := 5) (n := 43) (Nat.le_of_ble_eq_true rfl) (Nat.le_of_ble_eq_true rfl) ?_
  exact W.aret (v := .ref q_1) hx hb hr (Or.inl ⟨_, rfl⟩) (Or.inr ⟨_, rfl⟩) (fun t ht hW => ⟨⟨(ur_2.1, ur_2.2.1, ur_2.2.2.1, ur_2.2.2.2.1, ur_2.2.2.2.2.1, ur_2.2.2.2.2.2.1, ur_2.2.2.2.2.2.2), q_1, rfl, trivial, by rw [ht]; exact hP9, va_K.moved hW.alike hK9, hD9⟩, hS.F ht⟩) hS.2.2 dX7_newMap_37
set_option maxHeartbeats 4000000 in
set_option maxRecDepth 100000 in
/-- a new map, L -/
theorem c_X7_newMap_L (l : Launch) (hlt : l.stackTraces = false) (dC : Nat → ClassId) (dI : Nat → Nat → Nat) (sz : Nat) (p1 : Int32) (p2 : Int32) (hrg : rgL p1 p2) : Met l yX7_newMap wsX7_newMap ({ frames := 4, cells := 5, slots := 43, locals := 90 }) (va_Pc [.int 1, .int p1, .int p2] (pk_PreX (dC, dI) [] [] sz)) (va_Qr (fun (_ : Nat × Nat × Nat × ClassId × ClassId) => True) (fun (u : Nat × Nat × Nat × ClassId × ClassId) (a : Nat) (t : State) => va_P (dC, dI) vwCl [(a, .inr (4, [.ref u.1, .int 1, .int (-1), .int p1, .int (lbu p2)])), (u.1, .inr (5, [.ref u.2.1, .ref u.2.2.1, .int (nI 0), .int 0])), (u.2.1, .inl (u.2.2.2.1, 16, .inl (fun _ => (0 : Int32)))), (u.2.2.1, .inl (u.2.2.2.2, 16, .inl (fun _ => (0 : Int32))))] t.heap ∧ va_K (dC, dI) vwCl [(u.2.2.2.1, .int), (u.2.2.2.2, .int)] t ∧ va_D (va_A [] sz) [(a, .inr (4, [.ref u.1, .int 1, .int (-1), .int p1, .int (lbu p2)])), (u.1, .inr (5, [.ref u.2.1, .ref u.2.2.1, .int (nI 0), .int 0])), (u.2.1, .inl (u.2.2.2.1, 16, .inl (fun _ => (0 : Int32)))), (u.2.2.1, .inl (u.2.2.2.2, 16, .inl (fun _ => (0 : Int32))))]) (va_A [] sz)) 5 43 (va_A [] sz) := by
  refine Met.ofW (cc := cX7_newMap) (maxL := 3) (ret := (some (.object "KeyAtlas$Keyed"))) (by decide) rfl ?_
  intro p e s m args below meth c s₁ B hml hv
  obtain ⟨rfl, hsz, hP, hK, hD0, hN, hZ⟩ := hv
  have hx := B.exec
  have hb := B.bytes
  have hr := B.returns
  have hts := atoms_spec (ws := wsX7_newMap) B.pre
  have hown : s.vm.findClass RX7 = some m.cls := findClass_of_methodNamed B.named
  have hlocks := B.notSynchronized
  subst hsz
  have hD := hD0.self (sz := s.heap.size)
  generalize hAe : va_A [] s.heap.size = A at hZ hD ⊢
  have hA : ∀ q : Nat, s.heap.size ≤ q → A q := fun q h => by rw [← hAe]; exact Or.inr h
  have hS : va_S A s.heap s.heap [] := va_S.rf
  have hP : va_P (dC, dI) vwCl [] s.heap := hP
  have hl := lv_entry ([.int 1, .int p1, .int p2]) (n := 3) (Nat.le_of_ble_eq_true rfl)
  rw [lg_entry_eq]
  generalize (lg_sl ([.int 1, .int p1, .int p2]) ++ List.replicate (3 - (lg_sl ([.int 1, .int p1, .int p2])).length) Slot.unset).toArray = ls at hl ⊢
  have hl : lv_has ls 3 [(0, .int 1), (1, .int p1), (2, .int p2)] := hl
  have hw0_ := hts (.classLink RX7 228 RX4) (List.mem_of_getElem? (l := wsX7_newMap) (i := 4) rfl)
  have hw1_ := hts (.instantiable RX4 5) (List.mem_of_getElem? (l := wsX7_newMap) (i := 5) rfl)
  have hw2_ := hts (.initialized RX4) (List.mem_of_getElem? (l := wsX7_newMap) (i := 6) rfl)
  have hw3_ := hts (.methodLink RX7 230 yX4_init) (List.mem_of_getElem? (l := wsX7_newMap) (i := 40) rfl)
  have hw4_ := hts (.instanceMethod yX4_init) (List.mem_of_getElem? (l := wsX7_newMap) (i := 41) rfl)
  have hi0_ : ∀ w ∈ u_ws RX4 TX4 5, w ∈ wsX7_newMap := fun w h => List.mem_cons_of_mem _ (List.mem_append_left _ (List.mem_append_left _ (List.mem_append_left _ (List.mem_append_right _ h))))
  refine lv_iload_n hx hb dX7_newMap_0 rfl (lv_at hl 0 rfl) ?_
  refine lv_lookup (x := 1) (off := 37) (tgt := 38) hx hb dX7_newMap_1 (by decide) (by decide) (by decide) ?_
  refine va_new (ci := 4) (fs := [.null, .int 0, .int 0, .int 0, .int 0]) (C := RX4) (T := TX4) (N := 5) hx hb hts hi0_ tyX4 tyX4_ok hown hw0_ hw1_ hw2_ hK hP hD hS hA rfl (by decide +kernel) (Nat.le_of_ble_eq_true rfl) (Nat.le_of_ble_eq_true rfl) dX7_newMap_38 (fun q_1 H hP hD hS => ?_)
  replace hP : va_P (dC, dI) vwCl [(q_1, .inr (4, [.null, .int 0, .int 0, .int 0, .int 0]))] H := hP
  replace hD : va_D A [(q_1, .inr (4, [.null, .int 0, .int 0, .int 0, .int 0]))] := hD
  refine W.widen (k := 1) (n := 5) (Nat.le_of_ble_eq_true rfl) (Nat.le_of_ble_eq_true rfl) ?_
  refine lv_dup hx hb dX7_newMap_41 rfl ?_
  refine lv_iload_n hx hb dX7_newMap_42 rfl (lv_at hl 1 rfl) ?_
  obtain ⟨cap, hcap, rfl⟩ := nI_nat (x := p1) (n := 1001) (by unfold rgL at hrg; omega) (by unfold rgL at hrg; omega) (by omega)
  refine lv_iload_n hx hb dX7_newMap_43 rfl (lv_at hl 2 rfl) ?_
  refine lv_iconst (v := 1) hx hb dX7_newMap_44 (by decide) ?_
  refine lv_icmp_ne (tgt := 52) hx hb dX7_newMap_45 (by decide) (fun c_2 => ?_) (fun c_2 => ?_)
  ·
    have ic_2 : ¬ p2.toInt = 1 := tx_ne rfl (by decide) c_2
    refine lv_iconst (v := 0) hx hb dX7_newMap_52 (by decide) ?_
    have hPc := hP.sub (ws' := [(q_1, .inr (4, [.null, .int 0, .int 0, .int 0, .int 0]))]) [0] rfl
    have hDc := hD.sub (ws' := [(q_1, .inr (4, [.null, .int 0, .int 0, .int 0, .int 0]))]) [0] (by decide) rfl
    have hKc := hK.sub (tys' := []) [] rfl
    have hFc := va_free (wc := [(q_1, .inr (4, [.null, .int 0, .int 0, .int 0, .int 0]))]) hD hS hA [0] rfl
    have hZc := (hZ.kept hS.2.1).narrow hFc
    refine va_callv (va_runI (As := [.int (nI cap), .int 0]) (rest := [.ref q_1]) ⟨hx, hb, hml, hown, hts⟩ (c_X4_init l hlt dC dI H.size q_1 cap 0 (Or.inl rfl)) (cwI 2 hts gX7_newMap_X4_init rfl rfl rfl hw2_ hw3_ hw4_ rfl (by decide +kernel) ⟨(Nat.le_of_ble_eq_true rfl), (Nat.le_of_ble_eq_true rfl)⟩) ⟨pk_blindX, pk_callX hPc hKc hDc hN hZc⟩ rfl rfl hl.1 rfl (lv_room (Nat.le_of_ble_eq_true rfl)) dX7_newMap_53 ⟨(Nat.le_of_ble_eq_true rfl), (Nat.le_of_ble_eq_true rfl)⟩) hS (fun q _ h => hFc q h) hFc (fun ur_3 t H1 locs ht hvm hw hB hz1 hk1 hS => ?_)
    try dsimp only at hw
    have jr_3 := hw
    obtain ⟨hP1, hK1, hD1⟩ := hB
    rw [ht] at hP1
    have hK1 := va_K.moved hvm.symm hK1
    obtain ⟨hP, hD⟩ := va_join (wr := []) (w1 := [(q_1, .inr (4, [.ref ur_3.1, .int 1, .int (-1), .int (nI cap), .int 0])), (ur_3.1, .inr (5, [.ref ur_3.2.1, .ref ur_3.2.2.1, .int (nI 0), .int 0])), (ur_3.2.1, .inl (ur_3.2.2.2.1, 16, .inl (fun _ => (0 : Int32)))), (ur_3.2.2.1, .inl (ur_3.2.2.2.2, 16, .inl (fun _ => (0 : Int32))))]) hP hD [0] [] rfl rfl (by decide) (by decide) hk1 hFc hP1 hD1
    have hK := hK.app hK1
    have hK : va_K (dC, dI) vwCl [(ur_3.2.2.2.1, .int), (ur_3.2.2.2.2, .int)] s := hK
    clear hk1 hz1 ht hPc hDc hKc hFc
    generalize H1 = H at hP hS ⊢
    replace hP : va_P (dC, dI) vwCl [(q_1, .inr (4, [.ref ur_3.1, .int 1, .int (-1), .int (nI cap), .int 0])), (ur_3.1, .inr (5, [.ref ur_3.2.1, .ref ur_3.2.2.1, .int (nI 0), .int 0])), (ur_3.2.1, .inl (ur_3.2.2.2.1, 16, .inl (fun _ => (0 : Int32)))), (ur_3.2.2.1, .inl (ur_3.2.2.2.2, 16, .inl (fun _ => (0 : Int32))))] H := hP
    replace hD : va_D A [(q_1, .inr (4, [.ref ur_3.1, .int 1, .int (-1), .int (nI cap), .int 0])), (ur_3.1, .inr (5, [.ref ur_3.2.1, .ref ur_3.2.2.1, .int (nI 0), .int 0])), (ur_3.2.1, .inl (ur_3.2.2.2.1, 16, .inl (fun _ => (0 : Int32)))), (ur_3.2.2.1, .inl (ur_3.2.2.2.2, 16, .inl (fun _ => (0 : Int32))))] := hD
    refine W.widen (k := 5) (n := 41) (Nat.le_of_ble_eq_true rfl) (Nat.le_of_ble_eq_true rfl) ?_
    refine W.eq (g2 := F0 m 56 ls [.ref q_1]) rfl ?_
    have hbu : lbu p2 = 0 := if_neg (by assumption)
    rw [hbu]
    have hP9 := hP.sub (ws' := [(q_1, .inr (4, [.ref ur_3.1, .int 1, .int (-1), .int (nI cap), .int 0])), (ur_3.1, .inr (5, [.ref ur_3.2.1, .ref ur_3.2.2.1, .int (nI 0), .int 0])), (ur_3.2.1, .inl (ur_3.2.2.2.1, 16, .inl (fun _ => (0 : Int32)))), (ur_3.2.2.1, .inl (ur_3.2.2.2.2, 16, .inl (fun _ => (0 : Int32))))]) [0, 1, 2, 3] rfl
    have hD9 := hD.sub (ws' := [(q_1, .inr (4, [.ref ur_3.1, .int 1, .int (-1), .int (nI cap), .int 0])), (ur_3.1, .inr (5, [.ref ur_3.2.1, .ref ur_3.2.2.1, .int (nI 0), .int 0])), (ur_3.2.1, .inl (ur_3.2.2.2.1, 16, .inl (fun _ => (0 : Int32)))), (ur_3.2.2.1, .inl (ur_3.2.2.2.2, 16, .inl (fun _ => (0 : Int32))))]) [0, 1, 2, 3] (by decide) rfl
    have hK9 := hK.sub (tys' := [(ur_3.2.2.2.1, .int), (ur_3.2.2.2.2, .int)]) [0, 1] rfl
    refine W.widen (k := 5) (n := 43) (Nat.le_of_ble_eq_true rfl) (Nat.le_of_ble_eq_true rfl) ?_
    exact W.aret (v := .ref q_1) hx hb hr (Or.inl ⟨_, rfl⟩) (Or.inr ⟨_, rfl⟩) (fun t ht hW => ⟨⟨(ur_3.1, ur_3.2.1, ur_3.2.2.1, ur_3.2.2.2.1, ur_3.2.2.2.2), q_1, rfl, trivial, by rw [ht]; exact hP9, va_K.moved hW.alike hK9, hD9⟩, hS.F ht⟩) hS.2.2 dX7_newMap_56
  ·
    have ic_2 : p2.toInt = 1 := tx_eq rfl (by decide) c_2
    refine lv_iconst (v := 1) hx hb dX7_newMap_48 (by decide) ?_
    refine lv_goto (tgt := 53) hx hb dX7_newMap_49 (by decide) ?_
    have hPc := hP.sub (ws' := [(q_1, .inr (4, [.null, .int 0, .int 0, .int 0, .int 0]))]) [0] rfl
    have hDc := hD.sub (ws' := [(q_1, .inr (4, [.null, .int 0, .int 0, .int 0, .int 0]))]) [0] (by decide) rfl
    have hKc := hK.sub (tys' := []) [] rfl
    have hFc := va_free (wc := [(q_1, .inr (4, [.null, .int 0, .int 0, .int 0, .int 0]))]) hD hS hA [0] rfl
    have hZc := (hZ.kept hS.2.1).narrow hFc
    refine va_callv (va_runI (As := [.int (nI cap), .int 1]) (rest := [.ref q_1]) ⟨hx, hb, hml, hown, hts⟩ (c_X4_init l hlt dC dI H.size q_1 cap 1 (Or.inr rfl)) (cwI 2 hts gX7_newMap_X4_init rfl rfl rfl hw2_ hw3_ hw4_ rfl (by decide +kernel) ⟨(Nat.le_of_ble_eq_true rfl), (Nat.le_of_ble_eq_true rfl)⟩) ⟨pk_blindX, pk_callX hPc hKc hDc hN hZc⟩ rfl rfl hl.1 rfl (lv_room (Nat.le_of_ble_eq_true rfl)) dX7_newMap_53 ⟨(Nat.le_of_ble_eq_true rfl), (Nat.le_of_ble_eq_true rfl)⟩) hS (fun q _ h => hFc q h) hFc (fun ur_4 t H1 locs ht hvm hw hB hz1 hk1 hS => ?_)
    try dsimp only at hw
    have jr_4 := hw
    obtain ⟨hP1, hK1, hD1⟩ := hB
    rw [ht] at hP1
    have hK1 := va_K.moved hvm.symm hK1
    obtain ⟨hP, hD⟩ := va_join (wr := []) (w1 := [(q_1, .inr (4, [.ref ur_4.1, .int 1, .int (-1), .int (nI cap), .int 1])), (ur_4.1, .inr (5, [.ref ur_4.2.1, .ref ur_4.2.2.1, .int (nI 0), .int 0])), (ur_4.2.1, .inl (ur_4.2.2.2.1, 16, .inl (fun _ => (0 : Int32)))), (ur_4.2.2.1, .inl (ur_4.2.2.2.2, 16, .inl (fun _ => (0 : Int32))))]) hP hD [0] [] rfl rfl (by decide) (by decide) hk1 hFc hP1 hD1
    have hK := hK.app hK1
    have hK : va_K (dC, dI) vwCl [(ur_4.2.2.2.1, .int), (ur_4.2.2.2.2, .int)] s := hK
    clear hk1 hz1 ht hPc hDc hKc hFc
    generalize H1 = H at hP hS ⊢
    replace hP : va_P (dC, dI) vwCl [(q_1, .inr (4, [.ref ur_4.1, .int 1, .int (-1), .int (nI cap), .int 1])), (ur_4.1, .inr (5, [.ref ur_4.2.1, .ref ur_4.2.2.1, .int (nI 0), .int 0])), (ur_4.2.1, .inl (ur_4.2.2.2.1, 16, .inl (fun _ => (0 : Int32)))), (ur_4.2.2.1, .inl (ur_4.2.2.2.2, 16, .inl (fun _ => (0 : Int32))))] H := hP
    replace hD : va_D A [(q_1, .inr (4, [.ref ur_4.1, .int 1, .int (-1), .int (nI cap), .int 1])), (ur_4.1, .inr (5, [.ref ur_4.2.1, .ref ur_4.2.2.1, .int (nI 0), .int 0])), (ur_4.2.1, .inl (ur_4.2.2.2.1, 16, .inl (fun _ => (0 : Int32)))), (ur_4.2.2.1, .inl (ur_4.2.2.2.2, 16, .inl (fun _ => (0 : Int32))))] := hD
    refine W.widen (k := 5) (n := 41) (Nat.le_of_ble_eq_true rfl) (Nat.le_of_ble_eq_true rfl) ?_
    refine W.eq (g2 := F0 m 56 ls [.ref q_1]) rfl ?_
    have hbu : lbu p2 = 1 := if_pos (by assumption)
    rw [hbu]
    have hP9 := hP.sub (ws' := [(q_1, .inr (4, [.ref ur_4.1, .int 1, .int (-1), .int (nI cap), .int 1])), (ur_4.1, .inr (5, [.ref ur_4.2.1, .ref ur_4.2.2.1, .int (nI 0), .int 0])), (ur_4.2.1, .inl (ur_4.2.2.2.1, 16, .inl (fun _ => (0 : Int32)))), (ur_4.2.2.1, .inl (ur_4.2.2.2.2, 16, .inl (fun _ => (0 : Int32))))]) [0, 1, 2, 3] rfl
    have hD9 := hD.sub (ws' := [(q_1, .inr (4, [.ref ur_4.1, .int 1, .int (-1), .int (nI cap), .int 1])), (ur_4.1, .inr (5, [.ref ur_4.2.1, .ref ur_4.2.2.1, .int (nI 0), .int 0])), (ur_4.2.1, .inl (ur_4.2.2.2.1, 16, .inl (fun _ => (0 : Int32)))), (ur_4.2.2.1, .inl (ur_4.2.2.2.2, 16, .inl (fun _ => (0 : Int32))))]) [0, 1, 2, 3] (by decide) rfl
    have hK9 := hK.sub (tys' := [(ur_4.2.2.2.1, .int), (ur_4.2.2.2.2, .int)]) [0, 1] rfl
    refine W.widen (k := 5) (n := 43) (Nat.le_of_ble_eq_true rfl) (Nat.le_of_ble_eq_true rfl) ?_
    exact W.aret (v := .ref q_1) hx hb hr (Or.inl ⟨_, rfl⟩) (Or.inr ⟨_, rfl⟩) (fun t ht hW => ⟨⟨(ur_4.1, ur_4.2.1, ur_4.2.2.1, ur_4.2.2.2.1, ur_4.2.2.2.2), q_1, rfl, trivial, by rw [ht]; exact hP9, va_K.moved hW.alike hK9, hD9⟩, hS.F ht⟩) hS.2.2 dX7_newMap_56
set_option maxHeartbeats 4000000 in
set_option maxRecDepth 100000 in
/-- a new map, S -/
theorem c_X7_newMap_S (l : Launch) (hlt : l.stackTraces = false) (dC : Nat → ClassId) (dI : Nat → Nat → Nat) (sz : Nat) (p1 : Int32) (p2 : Int32) (hrg : rgS p1 p2) : Met l yX7_newMap wsX7_newMap ({ frames := 4, cells := 5, slots := 43, locals := 90 }) (va_Pc [.int 2, .int p1, .int p2] (pk_PreX (dC, dI) [] [] sz)) (va_Qr (fun (_ : Nat × Nat × Nat × ClassId × ClassId) => True) (fun (u : Nat × Nat × Nat × ClassId × ClassId) (a : Nat) (t : State) => va_P (dC, dI) vwCl [(a, .inr (6, [.ref u.1, .int 2, .int (-1), .int p1, .int 0, .long (-9223372036854775808), .long 9223372036854775807])), (u.1, .inr (5, [.ref u.2.1, .ref u.2.2.1, .int (nI 0), .int 0])), (u.2.1, .inl (u.2.2.2.1, 16, .inl (fun _ => (0 : Int32)))), (u.2.2.1, .inl (u.2.2.2.2, 16, .inl (fun _ => (0 : Int32))))] t.heap ∧ va_K (dC, dI) vwCl [(u.2.2.2.1, .int), (u.2.2.2.2, .int)] t ∧ va_D (va_A [] sz) [(a, .inr (6, [.ref u.1, .int 2, .int (-1), .int p1, .int 0, .long (-9223372036854775808), .long 9223372036854775807])), (u.1, .inr (5, [.ref u.2.1, .ref u.2.2.1, .int (nI 0), .int 0])), (u.2.1, .inl (u.2.2.2.1, 16, .inl (fun _ => (0 : Int32)))), (u.2.2.1, .inl (u.2.2.2.2, 16, .inl (fun _ => (0 : Int32))))]) (va_A [] sz)) 5 43 (va_A [] sz) := by
  refine Met.ofW (cc := cX7_newMap) (maxL := 3) (ret := (some (.object "KeyAtlas$Keyed"))) (by decide) rfl ?_
  intro p e s m args below meth c s₁ B hml hv
  obtain ⟨rfl, hsz, hP, hK, hD0, hN, hZ⟩ := hv
  have hx := B.exec
  have hb := B.bytes
  have hr := B.returns
  have hts := atoms_spec (ws := wsX7_newMap) B.pre
  have hown : s.vm.findClass RX7 = some m.cls := findClass_of_methodNamed B.named
  have hlocks := B.notSynchronized
  subst hsz
  have hD := hD0.self (sz := s.heap.size)
  generalize hAe : va_A [] s.heap.size = A at hZ hD ⊢
  have hA : ∀ q : Nat, s.heap.size ≤ q → A q := fun q h => by rw [← hAe]; exact Or.inr h
  have hS : va_S A s.heap s.heap [] := va_S.rf
  have hP : va_P (dC, dI) vwCl [] s.heap := hP
  have hl := lv_entry ([.int 2, .int p1, .int p2]) (n := 3) (Nat.le_of_ble_eq_true rfl)
  rw [lg_entry_eq]
  generalize (lg_sl ([.int 2, .int p1, .int p2]) ++ List.replicate (3 - (lg_sl ([.int 2, .int p1, .int p2])).length) Slot.unset).toArray = ls at hl ⊢
  have hl : lv_has ls 3 [(0, .int 2), (1, .int p1), (2, .int p2)] := hl
  have hw0_ := hts (.classLink RX7 147 RX6) (List.mem_of_getElem? (l := wsX7_newMap) (i := 7) rfl)
  have hw1_ := hts (.instantiable RX6 7) (List.mem_of_getElem? (l := wsX7_newMap) (i := 8) rfl)
  have hw2_ := hts (.initialized RX6) (List.mem_of_getElem? (l := wsX7_newMap) (i := 9) rfl)
  have hw3_ := hts (.methodLink RX7 233 yX6_init) (List.mem_of_getElem? (l := wsX7_newMap) (i := 47) rfl)
  have hw4_ := hts (.instanceMethod yX6_init) (List.mem_of_getElem? (l := wsX7_newMap) (i := 48) rfl)
  have hi0_ : ∀ w ∈ u_ws RX6 TX6 7, w ∈ wsX7_newMap := fun w h => List.mem_cons_of_mem _ (List.mem_append_left _ (List.mem_append_left _ (List.mem_append_right _ h)))
  refine lv_iload_n hx hb dX7_newMap_0 rfl (lv_at hl 0 rfl) ?_
  refine lv_lookup (x := 2) (off := 56) (tgt := 57) hx hb dX7_newMap_1 (by decide) (by decide) (by decide) ?_
  refine va_new (ci := 6) (fs := [.null, .int 0, .int 0, .int 0, .int 0, .long 0, .long 0]) (C := RX6) (T := TX6) (N := 7) hx hb hts hi0_ tyX6 tyX6_ok hown hw0_ hw1_ hw2_ hK hP hD hS hA rfl (by decide +kernel) (Nat.le_of_ble_eq_true rfl) (Nat.le_of_ble_eq_true rfl) dX7_newMap_57 (fun q_1 H hP hD hS => ?_)
  replace hP : va_P (dC, dI) vwCl [(q_1, .inr (6, [.null, .int 0, .int 0, .int 0, .int 0, .long 0, .long 0]))] H := hP
  replace hD : va_D A [(q_1, .inr (6, [.null, .int 0, .int 0, .int 0, .int 0, .long 0, .long 0]))] := hD
  refine W.widen (k := 1) (n := 7) (Nat.le_of_ble_eq_true rfl) (Nat.le_of_ble_eq_true rfl) ?_
  refine lv_dup hx hb dX7_newMap_60 rfl ?_
  refine lv_iload_n hx hb dX7_newMap_61 rfl (lv_at hl 1 rfl) ?_
  have hPc := hP.sub (ws' := [(q_1, .inr (6, [.null, .int 0, .int 0, .int 0, .int 0, .long 0, .long 0]))]) [0] rfl
  have hDc := hD.sub (ws' := [(q_1, .inr (6, [.null, .int 0, .int 0, .int 0, .int 0, .long 0, .long 0]))]) [0] (by decide) rfl
  have hKc := hK.sub (tys' := []) [] rfl
  have hFc := va_free (wc := [(q_1, .inr (6, [.null, .int 0, .int 0, .int 0, .int 0, .long 0, .long 0]))]) hD hS hA [0] rfl
  have hZc := (hZ.kept hS.2.1).narrow hFc
  refine va_callv (va_runI (As := [.int p1]) (rest := [.ref q_1]) ⟨hx, hb, hml, hown, hts⟩ (c_X6_init l hlt dC dI H.size q_1 p1) (cwI 1 hts gX7_newMap_X6_init rfl rfl rfl hw2_ hw3_ hw4_ rfl (by decide +kernel) ⟨(Nat.le_of_ble_eq_true rfl), (Nat.le_of_ble_eq_true rfl)⟩) ⟨pk_blindX, pk_callX hPc hKc hDc hN hZc⟩ rfl rfl hl.1 rfl (lv_room (Nat.le_of_ble_eq_true rfl)) dX7_newMap_62 ⟨(Nat.le_of_ble_eq_true rfl), (Nat.le_of_ble_eq_true rfl)⟩) hS (fun q _ h => hFc q h) hFc (fun ur_2 t H1 locs ht hvm hw hB hz1 hk1 hS => ?_)
  try dsimp only at hw
  have jr_2 := hw
  obtain ⟨hP1, hK1, hD1⟩ := hB
  rw [ht] at hP1
  have hK1 := va_K.moved hvm.symm hK1
  obtain ⟨hP, hD⟩ := va_join (wr := []) (w1 := [(q_1, .inr (6, [.ref ur_2.1, .int 2, .int (-1), .int p1, .int 0, .long (-9223372036854775808), .long 9223372036854775807])), (ur_2.1, .inr (5, [.ref ur_2.2.1, .ref ur_2.2.2.1, .int (nI 0), .int 0])), (ur_2.2.1, .inl (ur_2.2.2.2.1, 16, .inl (fun _ => (0 : Int32)))), (ur_2.2.2.1, .inl (ur_2.2.2.2.2, 16, .inl (fun _ => (0 : Int32))))]) hP hD [0] [] rfl rfl (by decide) (by decide) hk1 hFc hP1 hD1
  have hK := hK.app hK1
  have hK : va_K (dC, dI) vwCl [(ur_2.2.2.2.1, .int), (ur_2.2.2.2.2, .int)] s := hK
  clear hk1 hz1 ht hPc hDc hKc hFc
  generalize H1 = H at hP hS ⊢
  replace hP : va_P (dC, dI) vwCl [(q_1, .inr (6, [.ref ur_2.1, .int 2, .int (-1), .int p1, .int 0, .long (-9223372036854775808), .long 9223372036854775807])), (ur_2.1, .inr (5, [.ref ur_2.2.1, .ref ur_2.2.2.1, .int (nI 0), .int 0])), (ur_2.2.1, .inl (ur_2.2.2.2.1, 16, .inl (fun _ => (0 : Int32)))), (ur_2.2.2.1, .inl (ur_2.2.2.2.2, 16, .inl (fun _ => (0 : Int32))))] H := hP
  replace hD : va_D A [(q_1, .inr (6, [.ref ur_2.1, .int 2, .int (-1), .int p1, .int 0, .long (-9223372036854775808), .long 9223372036854775807])), (ur_2.1, .inr (5, [.ref ur_2.2.1, .ref ur_2.2.2.1, .int (nI 0), .int 0])), (ur_2.2.1, .inl (ur_2.2.2.2.1, 16, .inl (fun _ => (0 : Int32)))), (ur_2.2.2.1, .inl (ur_2.2.2.2.2, 16, .inl (fun _ => (0 : Int32))))] := hD
  refine W.widen (k := 5) (n := 43) (Nat.le_of_ble_eq_true rfl) (Nat.le_of_ble_eq_true rfl) ?_
  refine W.eq (g2 := F0 m 65 ls [.ref q_1]) rfl ?_
  have hP9 := hP.sub (ws' := [(q_1, .inr (6, [.ref ur_2.1, .int 2, .int (-1), .int p1, .int 0, .long (-9223372036854775808), .long 9223372036854775807])), (ur_2.1, .inr (5, [.ref ur_2.2.1, .ref ur_2.2.2.1, .int (nI 0), .int 0])), (ur_2.2.1, .inl (ur_2.2.2.2.1, 16, .inl (fun _ => (0 : Int32)))), (ur_2.2.2.1, .inl (ur_2.2.2.2.2, 16, .inl (fun _ => (0 : Int32))))]) [0, 1, 2, 3] rfl
  have hD9 := hD.sub (ws' := [(q_1, .inr (6, [.ref ur_2.1, .int 2, .int (-1), .int p1, .int 0, .long (-9223372036854775808), .long 9223372036854775807])), (ur_2.1, .inr (5, [.ref ur_2.2.1, .ref ur_2.2.2.1, .int (nI 0), .int 0])), (ur_2.2.1, .inl (ur_2.2.2.2.1, 16, .inl (fun _ => (0 : Int32)))), (ur_2.2.2.1, .inl (ur_2.2.2.2.2, 16, .inl (fun _ => (0 : Int32))))]) [0, 1, 2, 3] (by decide) rfl
  have hK9 := hK.sub (tys' := [(ur_2.2.2.2.1, .int), (ur_2.2.2.2.2, .int)]) [0, 1] rfl
  refine W.widen (k := 5) (n := 43) (Nat.le_of_ble_eq_true rfl) (Nat.le_of_ble_eq_true rfl) ?_
  exact W.aret (v := .ref q_1) hx hb hr (Or.inl ⟨_, rfl⟩) (Or.inr ⟨_, rfl⟩) (fun t ht hW => ⟨⟨(ur_2.1, ur_2.2.1, ur_2.2.2.1, ur_2.2.2.2.1, ur_2.2.2.2.2), q_1, rfl, trivial, by rw [ht]; exact hP9, va_K.moved hW.alike hK9, hD9⟩, hS.F ht⟩) hS.2.2 dX7_newMap_65
