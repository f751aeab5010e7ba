theorem dX1_init_0 : decode cX1_init 0 = .ok (.aload_n 0, 1) := by decide +kernel
theorem dX1_init_1 : decode cX1_init 1 = .ok (.iconst 4, 1) := by decide +kernel
theorem dX1_init_2 : decode cX1_init 2 = .ok (.iload_n 1, 1) := by decide +kernel
set_option maxRecDepth 20000 in
theorem ggX1_init_X0_init : GoodIn wsX1_init wsX0_init := goodIn_r _ [8, 9, 10, 11, 12, 13, 20, 21, 22, 23, 24, 25, 26, 27, 28, 29, 30, 31, 32, 33, 34, 35, 36, 37, 38, 39, 40, 41, 42, 43, 44] rfl (by decide +kernel)
set_option maxRecDepth 20000 in
theorem gX1_init_X0_init : GoodIn wsX1_init (wsX0_init) := ggX1_init_X0_init
theorem dX1_init_3 : decode cX1_init 3 = .ok (.invokespecial 3, 3) := by decide +kernel
theorem dX1_init_6 : decode cX1_init 6 = .ok (.aload_n 0, 1) := by decide +kernel
theorem dX1_init_7 : decode cX1_init 7 = .ok (.aload_n 2, 1) := by decide +kernel
theorem dX1_init_8 : decode cX1_init 8 = .ok (.putfield 9, 3) := by decide +kernel
theorem dX1_init_11 : decode cX1_init 11 = .ok (.aload_n 0, 1) := by decide +kernel
theorem dX1_init_12 : decode cX1_init 12 = .ok (.iconst (-1), 1) := by decide +kernel
theorem dX1_init_13 : decode cX1_init 13 = .ok (.putfield 15, 3) := by decide +kernel
theorem dX1_init_16 : decode cX1_init 16 = .ok (.aload_n 0, 1) := by decide +kernel
theorem dX1_init_17 : decode cX1_init 17 = .ok (.aload_n 2, 1) := by decide +kernel
theorem dX1_init_18 : decode cX1_init 18 = .ok (.getfield 19, 3) := by decide +kernel
set_option maxRecDepth 20000 in
theorem ggX1_init_X5_changes : GoodIn wsX1_init wsX5_changes := goodIn_r _ [18, 19, 45, 46, 47, 48] rfl (by decide +kernel)
set_option maxRecDepth 20000 in
theorem gX1_init_X5_changes : GoodIn wsX1_init (wsV RX1 25 RX5 yX5_changes wsX5_changes) := goodIn_app (goodIn_of _ (by decide +kernel)) ggX1_init_X5_changes
theorem dX1_init_21 : decode cX1_init 21 = .ok (.invokevirtual 25, 3) := by decide +kernel
theorem dX1_init_24 : decode cX1_init 24 = .ok (.putfield 31, 3) := by decide +kernel
theorem dX1_init_27 : decode cX1_init 27 = .ok (.return_, 1) := by decide +kernel
set_option maxHeartbeats 4000000 in
set_option maxRecDepth 100000 in
/-- Cursor(whole, keyed) over H -/
theorem c_X1_init_H (l : Launch) (dC : Nat → ClassId) (dI : Nat → Nat → Nat) (sz : Nat) (z0 : Nat) (y0 : Nat) (x0 : Nat) (v1 : Value) (v2 : Value) (v3 : Value) (v4 : Value) (v5 : Value) (v6 : Value) (w0 : Value) (w1 : Value) (w2 : Value) (ch : Int32) (p0 : Int32) : Met l yX1_init wsX1_init ({ frames := 3, cells := 0, slots := 0, locals := 64 }) (va_Pc [.ref z0, .int p0, .ref y0] (pk_Pre (dC, dI) [(z0, .inr (2, [.int 0, .int 0, .null, .int 0, .int 0, .int 0])), (y0, .inr (3, [.ref x0, v1, v2, v3, v4, v5, v6])), (x0, .inr (5, [w0, w1, w2, .int ch]))] [] sz)) (va_Qv (fun (_ : Unit) => True) (fun (_ : Unit) (t : State) => va_P (dC, dI) vwCl [(z0, .inr (2, [.int 4, .int p0, .ref y0, .int 0, .int (-1), .int ch])), (y0, .inr (3, [.ref x0, v1, v2, v3, v4, v5, v6])), (x0, .inr (5, [w0, w1, w2, .int ch]))] t.heap ∧ va_K (dC, dI) vwCl [] t ∧ va_D (va_A [(z0, .inr (2, [.int 0, .int 0, .null, .int 0, .int 0, .int 0])), (y0, .inr (3, [.ref x0, v1, v2, v3, v4, v5, v6])), (x0, .inr (5, [w0, w1, w2, .int ch]))] sz) [(z0, .inr (2, [.int 4, .int p0, .ref y0, .int 0, .int (-1), .int ch])), (y0, .inr (3, [.ref x0, v1, v2, v3, v4, v5, v6])), (x0, .inr (5, [w0, w1, w2, .int ch]))]) (va_A [(z0, .inr (2, [.int 0, .int 0, .null, .int 0, .int 0, .int 0])), (y0, .inr (3, [.ref x0, v1, v2, v3, v4, v5, v6])), (x0, .inr (5, [w0, w1, w2, .int ch]))] sz)) 0 0 (va_A [(z0, .inr (2, [.int 0, .int 0, .null, .int 0, .int 0, .int 0])), (y0, .inr (3, [.ref x0, v1, v2, v3, v4, v5, v6])), (x0, .inr (5, [w0, w1, w2, .int ch]))] sz) := by
  refine Met.ofW (cc := cX1_init) (maxL := 3) (ret := none) (by decide) rfl ?_
  intro p e s m args below meth c s₁ B hml hv
  obtain ⟨rfl, hsz, hP, hK, hD0⟩ := hv
  have hx := B.exec
  have hb := B.bytes
  have hr := B.returns
  have hts := atoms_spec (ws := wsX1_init) B.pre
  have hown : s.vm.findClass RX1 = some m.cls := findClass_of_methodNamed B.named
  have hlocks := B.notSynchronized
  have hin : meth.name = "<init>" := (name_of_methodNamed B.named B.method).1
  subst hsz
  have hD := hD0.self (sz := s.heap.size)
  generalize hAe : va_A [(z0, .inr (2, [.int 0, .int 0, .null, .int 0, .int 0, .int 0])), (y0, .inr (3, [.ref x0, v1, v2, v3, v4, v5, v6])), (x0, .inr (5, [w0, w1, w2, .int ch]))] s.heap.size = A at hD ⊢
  have hA : ∀ q : Nat, s.heap.size ≤ q → A q := fun q h => by rw [← hAe]; exact Or.inr h
  have hS : va_S A s.heap s.heap [] := va_S.rf
  have hP : va_P (dC, dI) vwCl [(z0, .inr (2, [.int 0, .int 0, .null, .int 0, .int 0, .int 0])), (y0, .inr (3, [.ref x0, v1, v2, v3, v4, v5, v6])), (x0, .inr (5, [w0, w1, w2, .int ch]))] s.heap := hP
  have hl := lv_entry ([.ref z0, .int p0, .ref y0]) (n := 3) (Nat.le_of_ble_eq_true rfl)
  rw [lg_entry_eq]
  generalize (lg_sl ([.ref z0, .int p0, .ref y0]) ++ List.replicate (3 - (lg_sl ([.ref z0, .int p0, .ref y0])).length) Slot.unset).toArray = ls at hl ⊢
  have hl : lv_has ls 3 [(0, .ref z0), (1, .int p0), (2, .ref y0)] := hl
  have hw0_ := hts (.initialized RX0) (List.mem_of_getElem? (l := wsX1_init) (i := 7) rfl)
  have hw1_ := hts (.methodLink RX1 3 yX0_init) (List.mem_of_getElem? (l := wsX1_init) (i := 5) rfl)
  have hw2_ := hts (.instanceMethod yX0_init) (List.mem_of_getElem? (l := wsX1_init) (i := 6) rfl)
  have hw3_ := hts (.fieldLink RX1 9 "KeyAtlas$Cursor" "keyed" "LKeyAtlas$Keyed;") (List.mem_of_getElem? (l := wsX1_init) (i := 1) rfl)
  have hw4_ := hts (.fieldLink RX1 15 "KeyAtlas$Cursor" "passed" "I") (List.mem_of_getElem? (l := wsX1_init) (i := 2) rfl)
  have hw5_ := hts (.fieldLink RX1 19 "KeyAtlas$Keyed" "rows" "LKeyAtlas$Rows;") (List.mem_of_getElem? (l := wsX1_init) (i := 3) rfl)
  have hw6_ := hts (.fieldLink RX1 31 "KeyAtlas$Cursor" "seenChanges" "I") (List.mem_of_getElem? (l := wsX1_init) (i := 4) rfl)
  have hi0_ : ∀ w ∈ u_ws RX1 TX1 6, w ∈ wsX1_init := fun w h => List.mem_cons_of_mem _ (List.mem_append_left _ (List.mem_append_left _ (List.mem_append_left _ (List.mem_append_left _ (List.mem_append_right _ h)))))
  have hi1_ : ∀ w ∈ u_ws RX2 TX2 7, w ∈ wsX1_init := fun w h => List.mem_cons_of_mem _ (List.mem_append_left _ (List.mem_append_left _ (List.mem_append_left _ (List.mem_append_right _ h))))
  refine lv_aload_n hx hb dX1_init_0 rfl (lv_at hl 0 rfl) ?_
  refine lv_iconst (v := 4) hx hb dX1_init_1 (by decide) ?_
  refine lv_iload_n hx hb dX1_init_2 rfl (lv_at hl 1 rfl) ?_
  have hPc := hP.sub (ws' := [(z0, .inr (2, [.int 0, .int 0, .null, .int 0, .int 0, .int 0]))]) [0] rfl
  have hDc := hD.sub (ws' := [(z0, .inr (2, [.int 0, .int 0, .null, .int 0, .int 0, .int 0]))]) [0] (by decide) rfl
  have hKc := hK.sub (tys' := []) [] rfl
  have hFc := va_free (wc := [(z0, .inr (2, [.int 0, .int 0, .null, .int 0, .int 0, .int 0]))]) hD hS hA [0] rfl
  refine va_callv (va_runI (As := [.int 4, .int p0]) (rest := []) ⟨hx, hb, hml, hown, hts⟩ (c_X0_init_X1 l  dC dI s.heap.size z0 4 p0 (.int 0) (.int 0) .null (.int 0) (.int 0) (.int 0)) (cwI 2 hts gX1_init_X0_init rfl rfl rfl hw0_ hw1_ hw2_ rfl (by decide +kernel) ⟨(Nat.le_of_ble_eq_true rfl), (Nat.le_of_ble_eq_true rfl)⟩) ⟨pk_blind, pk_call hPc hKc hDc⟩ rfl rfl hl.1 rfl (lv_room (Nat.le_of_ble_eq_true rfl)) dX1_init_3 ⟨(Nat.le_of_ble_eq_true rfl), (Nat.le_of_ble_eq_true rfl)⟩) hS (fun q _ h => hFc q h) hFc (fun ur_1 t H1 locs ht hvm hw hB hz1 hk1 hS => ?_)
  try dsimp only at hw
  have jr_1 := hw
  obtain ⟨hP1, hK1, hD1⟩ := hB
  rw [ht] at hP1
  have hK1 := va_K.moved hvm.symm hK1
  obtain ⟨hP, hD⟩ := va_join (wr := [(y0, .inr (3, [.ref x0, v1, v2, v3, v4, v5, v6])), (x0, .inr (5, [w0, w1, w2, .int ch]))]) (w1 := [(z0, .inr (2, [.int 4, .int p0, .null, .int 0, .int 0, .int 0]))]) hP hD [0] [1, 2] rfl rfl (by decide) (by decide) hk1 hFc hP1 hD1
  clear hk1 hz1 ht hPc hDc hKc hFc
  generalize H1 = H at hP hS ⊢
  replace hP : va_P (dC, dI) vwCl [(y0, .inr (3, [.ref x0, v1, v2, v3, v4, v5, v6])), (x0, .inr (5, [w0, w1, w2, .int ch])), (z0, .inr (2, [.int 4, .int p0, .null, .int 0, .int 0, .int 0]))] H := hP
  replace hD : va_D A [(y0, .inr (3, [.ref x0, v1, v2, v3, v4, v5, v6])), (x0, .inr (5, [w0, w1, w2, .int ch])), (z0, .inr (2, [.int 4, .int p0, .null, .int 0, .int 0, .int 0]))] := hD
  refine W.widen (k := 0) (n := 0) (Nat.le_of_ble_eq_true rfl) (Nat.le_of_ble_eq_true rfl) ?_
  refine W.eq (g2 := F0 m 6 ls []) rfl ?_
  refine lv_aload_n hx hb dX1_init_6 rfl (lv_at hl 0 rfl) ?_
  refine lv_aload_n hx hb dX1_init_7 rfl (lv_at hl 2 rfl) ?_
  refine va_putF (D := (dC, dI)) (ci := 2) (v := .ref y0) (ty := .object "KeyAtlas$Keyed") (C := RX1) (T := TX1) (N := 6) hx hb hts hi0_ tyX1 tyX1_ok nmX1 hown hK hP hD hS 2 rfl rfl 2 (by decide) hw3_ (fun _ h9 => h9) rfl hin rfl (by decide +kernel) rfl rfl (Nat.le_of_ble_eq_true rfl) dX1_init_8 (fun H locs hP hD hS => ?_)
  replace hP : va_P (dC, dI) vwCl [(y0, .inr (3, [.ref x0, v1, v2, v3, v4, v5, v6])), (x0, .inr (5, [w0, w1, w2, .int ch])), (z0, .inr (2, [.int 4, .int p0, .ref y0, .int 0, .int 0, .int 0]))] H := hP
  replace hD : va_D A [(y0, .inr (3, [.ref x0, v1, v2, v3, v4, v5, v6])), (x0, .inr (5, [w0, w1, w2, .int ch])), (z0, .inr (2, [.int 4, .int p0, .ref y0, .int 0, .int 0, .int 0]))] := hD
  refine lv_aload_n hx hb dX1_init_11 rfl (lv_at hl 0 rfl) ?_
  refine lv_iconst (v := (-1)) hx hb dX1_init_12 (by decide) ?_
  refine va_put (D := (dC, dI)) (ci := 2) (v := .int (-1)) (ty := .int) (C := RX1) (T := TX1) (N := 6) hx hb hts hi0_ tyX1 tyX1_ok nmX1 hown hK hP hD hS 2 rfl rfl 4 (by decide) hw4_ (fun _ h9 => h9) rfl (by decide +kernel) rfl rfl (Nat.le_of_ble_eq_true rfl) dX1_init_13 (fun H locs hP hD hS => ?_)
  replace hP : va_P (dC, dI) vwCl [(y0, .inr (3, [.ref x0, v1, v2, v3, v4, v5, v6])), (x0, .inr (5, [w0, w1, w2, .int ch])), (z0, .inr (2, [.int 4, .int p0, .ref y0, .int 0, .int (-1), .int 0]))] H := hP
  replace hD : va_D A [(y0, .inr (3, [.ref x0, v1, v2, v3, v4, v5, v6])), (x0, .inr (5, [w0, w1, w2, .int ch])), (z0, .inr (2, [.int 4, .int p0, .ref y0, .int 0, .int (-1), .int 0]))] := hD
  refine lv_aload_n hx hb dX1_init_16 rfl (lv_at hl 0 rfl) ?_
  refine lv_aload_n hx hb dX1_init_17 rfl (lv_at hl 2 rfl) ?_
  refine va_get (D := (dC, dI)) (ci := 3) (v := .ref x0) (C := RX2) (T := TX2) (N := 7) hx hb hts hi1_ hown hK hP 0 rfl rfl 0 (by decide) hw5_ (fun _ h9 => h9) rfl dX1_init_18 ?_
  have hPc := hP.sub (ws' := [(x0, .inr (5, [w0, w1, w2, .int ch]))]) [1] rfl
  have hKc := hK.sub (tys' := []) [] rfl
  refine ro_calli (va_runV (As := []) (rest := [.ref z0]) ⟨hx, hb, hml, hown, hts⟩ (c_X5_changes l  dC dI H.size x0 ch w0 w1 w2) (cwV 0 hts gX1_init_X5_changes rfl rfl rfl (by decide +kernel) ⟨(Nat.le_of_ble_eq_true rfl), (Nat.le_of_ble_eq_true rfl)⟩) ⟨pk_blindR, va_recv hKc hPc (ci := 5) (q0 := 0) rfl rfl, pk_callR hPc hKc⟩ rfl rfl hl.1 rfl (lv_room (Nat.le_of_ble_eq_true rfl)) dX1_init_21 ⟨(Nat.le_of_ble_eq_true rfl), (Nat.le_of_ble_eq_true rfl)⟩) (fun r_2 ur_2 hw => ?_)
  clear hPc hKc
  try dsimp only at hw
  refine W.eq (g2 := F0 m 24 ls [.int ch, .ref z0]) (by rw [hw]) ?_
  refine va_put (D := (dC, dI)) (ci := 2) (v := .int ch) (ty := .int) (C := RX1) (T := TX1) (N := 6) hx hb hts hi0_ tyX1 tyX1_ok nmX1 hown hK hP hD hS 2 rfl rfl 5 (by decide) hw6_ (fun _ h9 => h9) rfl (by decide +kernel) rfl rfl (Nat.le_of_ble_eq_true rfl) dX1_init_24 (fun H locs hP hD hS => ?_)
  replace hP : va_P (dC, dI) vwCl [(y0, .inr (3, [.ref x0, v1, v2, v3, v4, v5, v6])), (x0, .inr (5, [w0, w1, w2, .int ch])), (z0, .inr (2, [.int 4, .int p0, .ref y0, .int 0, .int (-1), .int ch]))] H := hP
  replace hD : va_D A [(y0, .inr (3, [.ref x0, v1, v2, v3, v4, v5, v6])), (x0, .inr (5, [w0, w1, w2, .int ch])), (z0, .inr (2, [.int 4, .int p0, .ref y0, .int 0, .int (-1), .int ch]))] := hD
  have hP9 := hP.sub (ws' := [(z0, .inr (2, [.int 4, .int p0, .ref y0, .int 0, .int (-1), .int ch])), (y0, .inr (3, [.ref x0, v1, v2, v3, v4, v5, v6])), (x0, .inr (5, [w0, w1, w2, .int ch]))]) [2, 0, 1] rfl
  have hD9 := hD.sub (ws' := [(z0, .inr (2, [.int 4, .int p0, .ref y0, .int 0, .int (-1), .int ch])), (y0, .inr (3, [.ref x0, v1, v2, v3, v4, v5, v6])), (x0, .inr (5, [w0, w1, w2, .int ch]))]) [2, 0, 1] (by decide) rfl
  have hK9 := hK.sub (tys' := []) [] rfl
  refine W.widen (k := 0) (n := 0) (Nat.le_of_ble_eq_true rfl) (Nat.le_of_ble_eq_true rfl) ?_
  exact W.vret hx hb hr (fun t ht hW => ⟨⟨(), rfl, trivial, by rw [ht]; exact hP9, va_K.moved hW.alike hK9, hD9⟩, hS.F ht⟩) hS.2.2 dX1_init_27
set_option maxHeartbeats 4000000 in
set_option maxRecDepth 100000 in
/-- Cursor(whole, keyed) over L -/
theorem c_X1_init_L (l : Launch) (dC : Nat → ClassId) (dI : Nat → Nat → Nat) (sz : Nat) (z0 : Nat) (y0 : Nat) (x0 : Nat) (v1 : Value) (v2 : Value) (v3 : Value) (v4 : Value) (w0 : Value) (w1 : Value) (w2 : Value) (ch : Int32) (p0 : Int32) : Met l yX1_init wsX1_init ({ frames := 3, cells := 0, slots := 0, locals := 64 }) (va_Pc [.ref z0, .int p0, .ref y0] (pk_Pre (dC, dI) [(z0, .inr (2, [.int 0, .int 0, .null, .int 0, .int 0, .int 0])), (y0, .inr (4, [.ref x0, v1, v2, v3, v4])), (x0, .inr (5, [w0, w1, w2, .int ch]))] [] sz)) (va_Qv (fun (_ : Unit) => True) (fun (_ : Unit) (t : State) => va_P (dC, dI) vwCl [(z0, .inr (2, [.int 4, .int p0, .ref y0, .int 0, .int (-1), .int ch])), (y0, .inr (4, [.ref x0, v1, v2, v3, v4])), (x0, .inr (5, [w0, w1, w2, .int ch]))] t.heap ∧ va_K (dC, dI) vwCl [] t ∧ va_D (va_A [(z0, .inr (2, [.int 0, .int 0, .null, .int 0, .int 0, .int 0])), (y0, .inr (4, [.ref x0, v1, v2, v3, v4])), (x0, .inr (5, [w0, w1, w2, .int ch]))] sz) [(z0, .inr (2, [.int 4, .int p0, .ref y0, .int 0, .int (-1), .int ch])), (y0, .inr (4, [.ref x0, v1, v2, v3, v4])), (x0, .inr (5, [w0, w1, w2, .int ch]))]) (va_A [(z0, .inr (2, [.int 0, .int 0, .null, .int 0, .int 0, .int 0])), (y0, .inr (4, [.ref x0, v1, v2, v3, v4])), (x0, .inr (5, [w0, w1, w2, .int ch]))] sz)) 0 0 (va_A [(z0, .inr (2, [.int 0, .int 0, .null, .int 0, .int 0, .int 0])), (y0, .inr (4, [.ref x0, v1, v2, v3, v4])), (x0, .inr (5, [w0, w1, w2, .int ch]))] sz) := by
  refine Met.ofW (cc := cX1_init) (maxL := 3) (ret := none) (by decide) rfl ?_
  intro p e s m args below meth c s₁ B hml hv
  obtain ⟨rfl, hsz, hP, hK, hD0⟩ := hv
  have hx := B.exec
  have hb := B.bytes
  have hr := B.returns
  have hts := atoms_spec (ws := wsX1_init) B.pre
  have hown : s.vm.findClass RX1 = some m.cls := findClass_of_methodNamed B.named
  have hlocks := B.notSynchronized
  have hin : meth.name = "<init>" := (name_of_methodNamed B.named B.method).1
  subst hsz
  have hD := hD0.self (sz := s.heap.size)
  generalize hAe : va_A [(z0, .inr (2, [.int 0, .int 0, .null, .int 0, .int 0, .int 0])), (y0, .inr (4, [.ref x0, v1, v2, v3, v4])), (x0, .inr (5, [w0, w1, w2, .int ch]))] s.heap.size = A at hD ⊢
  have hA : ∀ q : Nat, s.heap.size ≤ q → A q := fun q h => by rw [← hAe]; exact Or.inr h
  have hS : va_S A s.heap s.heap [] := va_S.rf
  have hP : va_P (dC, dI) vwCl [(z0, .inr (2, [.int 0, .int 0, .null, .int 0, .int 0, .int 0])), (y0, .inr (4, [.ref x0, v1, v2, v3, v4])), (x0, .inr (5, [w0, w1, w2, .int ch]))] s.heap := hP
  have hl := lv_entry ([.ref z0, .int p0, .ref y0]) (n := 3) (Nat.le_of_ble_eq_true rfl)
  rw [lg_entry_eq]
  generalize (lg_sl ([.ref z0, .int p0, .ref y0]) ++ List.replicate (3 - (lg_sl ([.ref z0, .int p0, .ref y0])).length) Slot.unset).toArray = ls at hl ⊢
  have hl : lv_has ls 3 [(0, .ref z0), (1, .int p0), (2, .ref y0)] := hl
  have hw0_ := hts (.initialized RX0) (List.mem_of_getElem? (l := wsX1_init) (i := 7) rfl)
  have hw1_ := hts (.methodLink RX1 3 yX0_init) (List.mem_of_getElem? (l := wsX1_init) (i := 5) rfl)
  have hw2_ := hts (.instanceMethod yX0_init) (List.mem_of_getElem? (l := wsX1_init) (i := 6) rfl)
  have hw3_ := hts (.fieldLink RX1 9 "KeyAtlas$Cursor" "keyed" "LKeyAtlas$Keyed;") (List.mem_of_getElem? (l := wsX1_init) (i := 1) rfl)
  have hw4_ := hts (.fieldLink RX1 15 "KeyAtlas$Cursor" "passed" "I") (List.mem_of_getElem? (l := wsX1_init) (i := 2) rfl)
  have hw5_ := hts (.fieldLink RX1 19 "KeyAtlas$Keyed" "rows" "LKeyAtlas$Rows;") (List.mem_of_getElem? (l := wsX1_init) (i := 3) rfl)
  have hw6_ := hts (.fieldLink RX1 31 "KeyAtlas$Cursor" "seenChanges" "I") (List.mem_of_getElem? (l := wsX1_init) (i := 4) rfl)
  have hi0_ : ∀ w ∈ u_ws RX1 TX1 6, w ∈ wsX1_init := fun w h => List.mem_cons_of_mem _ (List.mem_append_left _ (List.mem_append_left _ (List.mem_append_left _ (List.mem_append_left _ (List.mem_append_right _ h)))))
  have hi1_ : ∀ w ∈ u_ws RX4 TX4 5, w ∈ wsX1_init := fun w h => List.mem_cons_of_mem _ (List.mem_append_left _ (List.mem_append_left _ (List.mem_append_right _ h)))
  refine lv_aload_n hx hb dX1_init_0 rfl (lv_at hl 0 rfl) ?_
  refine lv_iconst (v := 4) hx hb dX1_init_1 (by decide) ?_
  refine lv_iload_n hx hb dX1_init_2 rfl (lv_at hl 1 rfl) ?_
  have hPc := hP.sub (ws' := [(z0, .inr (2, [.int 0, .int 0, .null, .int 0, .int 0, .int 0]))]) [0] rfl
  have hDc := hD.sub (ws' := [(z0, .inr (2, [.int 0, .int 0, .null, .int 0, .int 0, .int 0]))]) [0] (by decide) rfl
  have hKc := hK.sub (tys' := []) [] rfl
  have hFc := va_free (wc := [(z0, .inr (2, [.int 0, .int 0, .null, .int 0, .int 0, .int 0]))]) hD hS hA [0] rfl
  refine va_callv (va_runI (As := [.int 4, .int p0]) (rest := []) ⟨hx, hb, hml, hown, hts⟩ (c_X0_init_X1 l  dC dI s.heap.size z0 4 p0 (.int 0) (.int 0) .null (.int 0) (.int 0) (.int 0)) (cwI 2 hts gX1_init_X0_init rfl rfl rfl hw0_ hw1_ hw2_ rfl (by decide +kernel) ⟨(Nat.le_of_ble_eq_true rfl), (Nat.le_of_ble_eq_true rfl)⟩) ⟨pk_blind, pk_call hPc hKc hDc⟩ rfl rfl hl.1 rfl (lv_room (Nat.le_of_ble_eq_true rfl)) dX1_init_3 ⟨(Nat.le_of_ble_eq_true rfl), (Nat.le_of_ble_eq_true rfl)⟩) hS (fun q _ h => hFc q h) hFc (fun ur_1 t H1 locs ht hvm hw hB hz1 hk1 hS => ?_)
  try dsimp only at hw
  have jr_1 := hw
  obtain ⟨hP1, hK1, hD1⟩ := hB
  rw [ht] at hP1
  have hK1 := va_K.moved hvm.symm hK1
  obtain ⟨hP, hD⟩ := va_join (wr := [(y0, .inr (4, [.ref x0, v1, v2, v3, v4])), (x0, .inr (5, [w0, w1, w2, .int ch]))]) (w1 := [(z0, .inr (2, [.int 4, .int p0, .null, .int 0, .int 0, .int 0]))]) hP hD [0] [1, 2] rfl rfl (by decide) (by decide) hk1 hFc hP1 hD1
  clear hk1 hz1 ht hPc hDc hKc hFc
  generalize H1 = H at hP hS ⊢
  replace hP : va_P (dC, dI) vwCl [(y0, .inr (4, [.ref x0, v1, v2, v3, v4])), (x0, .inr (5, [w0, w1, w2, .int ch])), (z0, .inr (2, [.int 4, .int p0, .null, .int 0, .int 0, .int 0]))] H := hP
  replace hD : va_D A [(y0, .inr (4, [.ref x0, v1, v2, v3, v4])), (x0, .inr (5, [w0, w1, w2, .int ch])), (z0, .inr (2, [.int 4, .int p0, .null, .int 0, .int 0, .int 0]))] := hD
  refine W.widen (k := 0) (n := 0) (Nat.le_of_ble_eq_true rfl) (Nat.le_of_ble_eq_true rfl) ?_
  refine W.eq (g2 := F0 m 6 ls []) rfl ?_
  refine lv_aload_n hx hb dX1_init_6 rfl (lv_at hl 0 rfl) ?_
  refine lv_aload_n hx hb dX1_init_7 rfl (lv_at hl 2 rfl) ?_
  refine va_putF (D := (dC, dI)) (ci := 2) (v := .ref y0) (ty := .object "KeyAtlas$Keyed") (C := RX1) (T := TX1) (N := 6) hx hb hts hi0_ tyX1 tyX1_ok nmX1 hown hK hP hD hS 2 rfl rfl 2 (by decide) hw3_ (fun _ h9 => h9) rfl hin rfl (by decide +kernel) rfl rfl (Nat.le_of_ble_eq_true rfl) dX1_init_8 (fun H locs hP hD hS => ?_)
  replace hP : va_P (dC, dI) vwCl [(y0, .inr (4, [.ref x0, v1, v2, v3, v4])), (x0, .inr (5, [w0, w1, w2, .int ch])), (z0, .inr (2, [.int 4, .int p0, .ref y0, .int 0, .int 0, .int 0]))] H := hP
  replace hD : va_D A [(y0, .inr (4, [.ref x0, v1, v2, v3, v4])), (x0, .inr (5, [w0, w1, w2, .int ch])), (z0, .inr (2, [.int 4, .int p0, .ref y0, .int 0, .int 0, .int 0]))] := hD
  refine lv_aload_n hx hb dX1_init_11 rfl (lv_at hl 0 rfl) ?_
  refine lv_iconst (v := (-1)) hx hb dX1_init_12 (by decide) ?_
  refine va_put (D := (dC, dI)) (ci := 2) (v := .int (-1)) (ty := .int) (C := RX1) (T := TX1) (N := 6) hx hb hts hi0_ tyX1 tyX1_ok nmX1 hown hK hP hD hS 2 rfl rfl 4 (by decide) hw4_ (fun _ h9 => h9) rfl (by decide +kernel) rfl rfl (Nat.le_of_ble_eq_true rfl) dX1_init_13 (fun H locs hP hD hS => ?_)
  replace hP : va_P (dC, dI) vwCl [(y0, .inr (4, [.ref x0, v1, v2, v3, v4])), (x0, .inr (5, [w0, w1, w2, .int ch])), (z0, .inr (2, [.int 4, .int p0, .ref y0, .int 0, .int (-1), .int 0]))] H := hP
  replace hD : va_D A [(y0, .inr (4, [.ref x0, v1, v2, v3, v4])), (x0, .inr (5, [w0, w1, w2, .int ch])), (z0, .inr (2, [.int 4, .int p0, .ref y0, .int 0, .int (-1), .int 0]))] := hD
  refine lv_aload_n hx hb dX1_init_16 rfl (lv_at hl 0 rfl) ?_
  refine lv_aload_n hx hb dX1_init_17 rfl (lv_at hl 2 rfl) ?_
  refine va_get (D := (dC, dI)) (ci := 4) (v := .ref x0) (C := RX4) (T := TX4) (N := 5) hx hb hts hi1_ hown hK hP 0 rfl rfl 0 (by decide) hw5_ (fun _ h9 => h9) rfl dX1_init_18 ?_
  have hPc := hP.sub (ws' := [(x0, .inr (5, [w0, w1, w2, .int ch]))]) [1] rfl
  have hKc := hK.sub (tys' := []) [] rfl
  refine ro_calli (va_runV (As := []) (rest := [.ref z0]) ⟨hx, hb, hml, hown, hts⟩ (c_X5_changes l  dC dI H.size x0 ch w0 w1 w2) (cwV 0 hts gX1_init_X5_changes rfl rfl rfl (by decide +kernel) ⟨(Nat.le_of_ble_eq_true rfl), (Nat.le_of_ble_eq_true rfl)⟩) ⟨pk_blindR, va_recv hKc hPc (ci := 5) (q0 := 0) rfl rfl, pk_callR hPc hKc⟩ rfl rfl hl.1 rfl (lv_room (Nat.le_of_ble_eq_true rfl)) dX1_init_21 ⟨(Nat.le_of_ble_eq_true rfl), (Nat.le_of_ble_eq_true rfl)⟩) (fun r_2 ur_2 hw => ?_)
  clear hPc hKc
  try dsimp only at hw
  refine W.eq (g2 := F0 m 24 ls [.int ch, .ref z0]) (by rw [hw]) ?_
  refine va_put (D := (dC, dI)) (ci := 2) (v := .int ch) (ty := .int) (C := RX1) (T := TX1) (N := 6) hx hb hts hi0_ tyX1 tyX1_ok nmX1 hown hK hP hD hS 2 rfl rfl 5 (by decide) hw6_ (fun _ h9 => h9) rfl (by decide +kernel) rfl rfl (Nat.le_of_ble_eq_true rfl) dX1_init_24 (fun H locs hP hD hS => ?_)
  replace hP : va_P (dC, dI) vwCl [(y0, .inr (4, [.ref x0, v1, v2, v3, v4])), (x0, .inr (5, [w0, w1, w2, .int ch])), (z0, .inr (2, [.int 4, .int p0, .ref y0, .int 0, .int (-1), .int ch]))] H := hP
  replace hD : va_D A [(y0, .inr (4, [.ref x0, v1, v2, v3, v4])), (x0, .inr (5, [w0, w1, w2, .int ch])), (z0, .inr (2, [.int 4, .int p0, .ref y0, .int 0, .int (-1), .int ch]))] := hD
  have hP9 := hP.sub (ws' := [(z0, .inr (2, [.int 4, .int p0, .ref y0, .int 0, .int (-1), .int ch])), (y0, .inr (4, [.ref x0, v1, v2, v3, v4])), (x0, .inr (5, [w0, w1, w2, .int ch]))]) [2, 0, 1] rfl
  have hD9 := hD.sub (ws' := [(z0, .inr (2, [.int 4, .int p0, .ref y0, .int 0, .int (-1), .int ch])), (y0, .inr (4, [.ref x0, v1, v2, v3, v4])), (x0, .inr (5, [w0, w1, w2, .int ch]))]) [2, 0, 1] (by decide) rfl
  have hK9 := hK.sub (tys' := []) [] rfl
  refine W.widen (k := 0) (n := 0) (Nat.le_of_ble_eq_true rfl) (Nat.le_of_ble_eq_true rfl) ?_
  exact W.vret hx hb hr (fun t ht hW => ⟨⟨(), rfl, trivial, by rw [ht]; exact hP9, va_K.moved hW.alike hK9, hD9⟩, hS.F ht⟩) hS.2.2 dX1_init_27
set_option maxHeartbeats 4000000 in
set_option maxRecDepth 100000 in
/-- Cursor(whole, keyed) over S -/
theorem c_X1_init_S (l : Launch) (dC : Nat → ClassId) (dI : Nat → Nat → Nat) (sz : Nat) (z0 : Nat) (y0 : Nat) (x0 : Nat) (v1 : Value) (v2 : Value) (v3 : Value) (v4 : Value) (v5 : Value) (v6 : Value) (w0 : Value) (w1 : Value) (w2 : Value) (ch : Int32) (p0 : Int32) : Met l yX1_init wsX1_init ({ frames := 3, cells := 0, slots := 0, locals := 64 }) (va_Pc [.ref z0, .int p0, .ref y0] (pk_Pre (dC, dI) [(z0, .inr (2, [.int 0, .int 0, .null, .int 0, .int 0, .int 0])), (y0, .inr (6, [.ref x0, v1, v2, v3, v4, v5, v6])), (x0, .inr (5, [w0, w1, w2, .int ch]))] [] sz)) (va_Qv (fun (_ : Unit) => True) (fun (_ : Unit) (t : State) => va_P (dC, dI) vwCl [(z0, .inr (2, [.int 4, .int p0, .ref y0, .int 0, .int (-1), .int ch])), (y0, .inr (6, [.ref x0, v1, v2, v3, v4, v5, v6])), (x0, .inr (5, [w0, w1, w2, .int ch]))] t.heap ∧ va_K (dC, dI) vwCl [] t ∧ va_D (va_A [(z0, .inr (2, [.int 0, .int 0, .null, .int 0, .int 0, .int 0])), (y0, .inr (6, [.ref x0, v1, v2, v3, v4, v5, v6])), (x0, .inr (5, [w0, w1, w2, .int ch]))] sz) [(z0, .inr (2, [.int 4, .int p0, .ref y0, .int 0, .int (-1), .int ch])), (y0, .inr (6, [.ref x0, v1, v2, v3, v4, v5, v6])), (x0, .inr (5, [w0, w1, w2, .int ch]))]) (va_A [(z0, .inr (2, [.int 0, .int 0, .null, .int 0, .int 0, .int 0])), (y0, .inr (6, [.ref x0, v1, v2, v3, v4, v5, v6])), (x0, .inr (5, [w0, w1, w2, .int ch]))] sz)) 0 0 (va_A [(z0, .inr (2, [.int 0, .int 0, .null, .int 0, .int 0, .int 0])), (y0, .inr (6, [.ref x0, v1, v2, v3, v4, v5, v6])), (x0, .inr (5, [w0, w1, w2, .int ch]))] sz) := by
  refine Met.ofW (cc := cX1_init) (maxL := 3) (ret := none) (by decide) rfl ?_
  intro p e s m args below meth c s₁ B hml hv
  obtain ⟨rfl, hsz, hP, hK, hD0⟩ := hv
  have hx := B.exec
  have hb := B.bytes
  have hr := B.returns
  have hts := atoms_spec (ws := wsX1_init) B.pre
  have hown : s.vm.findClass RX1 = some m.cls := findClass_of_methodNamed B.named
  have hlocks := B.notSynchronized
  have hin : meth.name = "<init>" := (name_of_methodNamed B.named B.method).1
  subst hsz
  have hD := hD0.self (sz := s.heap.size)
  generalize hAe : va_A [(z0, .inr (2, [.int 0, .int 0, .null, .int 0, .int 0, .int 0])), (y0, .inr (6, [.ref x0, v1, v2, v3, v4, v5, v6])), (x0, .inr (5, [w0, w1, w2, .int ch]))] s.heap.size = A at hD ⊢
  have hA : ∀ q : Nat, s.heap.size ≤ q → A q := fun q h => by rw [← hAe]; exact Or.inr h
  have hS : va_S A s.heap s.heap [] := va_S.rf
  have hP : va_P (dC, dI) vwCl [(z0, .inr (2, [.int 0, .int 0, .null, .int 0, .int 0, .int 0])), (y0, .inr (6, [.ref x0, v1, v2, v3, v4, v5, v6])), (x0, .inr (5, [w0, w1, w2, .int ch]))] s.heap := hP
  have hl := lv_entry ([.ref z0, .int p0, .ref y0]) (n := 3) (Nat.le_of_ble_eq_true rfl)
  rw [lg_entry_eq]
  generalize (lg_sl ([.ref z0, .int p0, .ref y0]) ++ List.replicate (3 - (lg_sl ([.ref z0, .int p0, .ref y0])).length) Slot.unset).toArray = ls at hl ⊢
  have hl : lv_has ls 3 [(0, .ref z0), (1, .int p0), (2, .ref y0)] := hl
  have hw0_ := hts (.initialized RX0) (List.mem_of_getElem? (l := wsX1_init) (i := 7) rfl)
  have hw1_ := hts (.methodLink RX1 3 yX0_init) (List.mem_of_getElem? (l := wsX1_init) (i := 5) rfl)
  have hw2_ := hts (.instanceMethod yX0_init) (List.mem_of_getElem? (l := wsX1_init) (i := 6) rfl)
  have hw3_ := hts (.fieldLink RX1 9 "KeyAtlas$Cursor" "keyed" "LKeyAtlas$Keyed;") (List.mem_of_getElem? (l := wsX1_init) (i := 1) rfl)
  have hw4_ := hts (.fieldLink RX1 15 "KeyAtlas$Cursor" "passed" "I") (List.mem_of_getElem? (l := wsX1_init) (i := 2) rfl)
  have hw5_ := hts (.fieldLink RX1 19 "KeyAtlas$Keyed" "rows" "LKeyAtlas$Rows;") (List.mem_of_getElem? (l := wsX1_init) (i := 3) rfl)
  have hw6_ := hts (.fieldLink RX1 31 "KeyAtlas$Cursor" "seenChanges" "I") (List.mem_of_getElem? (l := wsX1_init) (i := 4) rfl)
  have hi0_ : ∀ w ∈ u_ws RX1 TX1 6, w ∈ wsX1_init := fun w h => List.mem_cons_of_mem _ (List.mem_append_left _ (List.mem_append_left _ (List.mem_append_left _ (List.mem_append_left _ (List.mem_append_right _ h)))))
  have hi1_ : ∀ w ∈ u_ws RX6 TX6 7, w ∈ wsX1_init := fun w h => List.mem_cons_of_mem _ (List.mem_append_left _ (List.mem_append_right _ h))
  refine lv_aload_n hx hb dX1_init_0 rfl (lv_at hl 0 rfl) ?_
  refine lv_iconst (v := 4) hx hb dX1_init_1 (by decide) ?_
  refine lv_iload_n hx hb dX1_init_2 rfl (lv_at hl 1 rfl) ?_
  have hPc := hP.sub (ws' := [(z0, .inr (2, [.int 0, .int 0, .null, .int 0, .int 0, .int 0]))]) [0] rfl
  have hDc := hD.sub (ws' := [(z0, .inr (2, [.int 0, .int 0, .null, .int 0, .int 0, .int 0]))]) [0] (by decide) rfl
  have hKc := hK.sub (tys' := []) [] rfl
  have hFc := va_free (wc := [(z0, .inr (2, [.int 0, .int 0, .null, .int 0, .int 0, .int 0]))]) hD hS hA [0] rfl
  refine va_callv (va_runI (As := [.int 4, .int p0]) (rest := []) ⟨hx, hb, hml, hown, hts⟩ (c_X0_init_X1 l  dC dI s.heap.size z0 4 p0 (.int 0) (.int 0) .null (.int 0) (.int 0) (.int 0)) (cwI 2 hts gX1_init_X0_init rfl rfl rfl hw0_ hw1_ hw2_ rfl (by decide +kernel) ⟨(Nat.le_of_ble_eq_true rfl), (Nat.le_of_ble_eq_true rfl)⟩) ⟨pk_blind, pk_call hPc hKc hDc⟩ rfl rfl hl.1 rfl (lv_room (Nat.le_of_ble_eq_true rfl)) dX1_init_3 ⟨(Nat.le_of_ble_eq_true rfl), (Nat.le_of_ble_eq_true rfl)⟩) hS (fun q _ h => hFc q h) hFc (fun ur_1 t H1 locs ht hvm hw hB hz1 hk1 hS => ?_)
  try dsimp only at hw
  have jr_1 := hw
  obtain ⟨hP1, hK1, hD1⟩ := hB
  rw [ht] at hP1
  have hK1 := va_K.moved hvm.symm hK1
  obtain ⟨hP, hD⟩ := va_join (wr := [(y0, .inr (6, [.ref x0, v1, v2, v3, v4, v5, v6])), (x0, .inr (5, [w0, w1, w2, .int ch]))]) (w1 := [(z0, .inr (2, [.int 4, .int p0, .null, .int 0, .int 0, .int 0]))]) hP hD [0] [1, 2] rfl rfl (by decide) (by decide) hk1 hFc hP1 hD1
  clear hk1 hz1 ht hPc hDc hKc hFc
  generalize H1 = H at hP hS ⊢
  replace hP : va_P (dC, dI) vwCl [(y0, .inr (6, [.ref x0, v1, v2, v3, v4, v5, v6])), (x0, .inr (5, [w0, w1, w2, .int ch])), (z0, .inr (2, [.int 4, .int p0, .null, .int 0, .int 0, .int 0]))] H := hP
  replace hD : va_D A [(y0, .inr (6, [.ref x0, v1, v2, v3, v4, v5, v6])), (x0, .inr (5, [w0, w1, w2, .int ch])), (z0, .inr (2, [.int 4, .int p0, .null, .int 0, .int 0, .int 0]))] := hD
  refine W.widen (k := 0) (n := 0) (Nat.le_of_ble_eq_true rfl) (Nat.le_of_ble_eq_true rfl) ?_
  refine W.eq (g2 := F0 m 6 ls []) rfl ?_
  refine lv_aload_n hx hb dX1_init_6 rfl (lv_at hl 0 rfl) ?_
  refine lv_aload_n hx hb dX1_init_7 rfl (lv_at hl 2 rfl) ?_
  refine va_putF (D := (dC, dI)) (ci := 2) (v := .ref y0) (ty := .object "KeyAtlas$Keyed") (C := RX1) (T := TX1) (N := 6) hx hb hts hi0_ tyX1 tyX1_ok nmX1 hown hK hP hD hS 2 rfl rfl 2 (by decide) hw3_ (fun _ h9 => h9) rfl hin rfl (by decide +kernel) rfl rfl (Nat.le_of_ble_eq_true rfl) dX1_init_8 (fun H locs hP hD hS => ?_)
  replace hP : va_P (dC, dI) vwCl [(y0, .inr (6, [.ref x0, v1, v2, v3, v4, v5, v6])), (x0, .inr (5, [w0, w1, w2, .int ch])), (z0, .inr (2, [.int 4, .int p0, .ref y0, .int 0, .int 0, .int 0]))] H := hP
  replace hD : va_D A [(y0, .inr (6, [.ref x0, v1, v2, v3, v4, v5, v6])), (x0, .inr (5, [w0, w1, w2, .int ch])), (z0, .inr (2, [.int 4, .int p0, .ref y0, .int 0, .int 0, .int 0]))] := hD
  refine lv_aload_n hx hb dX1_init_11 rfl (lv_at hl 0 rfl) ?_
  refine lv_iconst (v := (-1)) hx hb dX1_init_12 (by decide) ?_
  refine va_put (D := (dC, dI)) (ci := 2) (v := .int (-1)) (ty := .int) (C := RX1) (T := TX1) (N := 6) hx hb hts hi0_ tyX1 tyX1_ok nmX1 hown hK hP hD hS 2 rfl rfl 4 (by decide) hw4_ (fun _ h9 => h9) rfl (by decide +kernel) rfl rfl (Nat.le_of_ble_eq_true rfl) dX1_init_13 (fun H locs hP hD hS => ?_)
  replace hP : va_P (dC, dI) vwCl [(y0, .inr (6, [.ref x0, v1, v2, v3, v4, v5, v6])), (x0, .inr (5, [w0, w1, w2, .int ch])), (z0, .inr (2, [.int 4, .int p0, .ref y0, .int 0, .int (-1), .int 0]))] H := hP
  replace hD : va_D A [(y0, .inr (6, [.ref x0, v1, v2, v3, v4, v5, v6])), (x0, .inr (5, [w0, w1, w2, .int ch])), (z0, .inr (2, [.int 4, .int p0, .ref y0, .int 0, .int (-1), .int 0]))] := hD
  refine lv_aload_n hx hb dX1_init_16 rfl (lv_at hl 0 rfl) ?_
  refine lv_aload_n hx hb dX1_init_17 rfl (lv_at hl 2 rfl) ?_
  refine va_get (D := (dC, dI)) (ci := 6) (v := .ref x0) (C := RX6) (T := TX6) (N := 7) hx hb hts hi1_ hown hK hP 0 rfl rfl 0 (by decide) hw5_ (fun _ h9 => h9) rfl dX1_init_18 ?_
  have hPc := hP.sub (ws' := [(x0, .inr (5, [w0, w1, w2, .int ch]))]) [1] rfl
  have hKc := hK.sub (tys' := []) [] rfl
  refine ro_calli (va_runV (As := []) (rest := [.ref z0]) ⟨hx, hb, hml, hown, hts⟩ (c_X5_changes l  dC dI H.size x0 ch w0 w1 w2) (cwV 0 hts gX1_init_X5_changes rfl rfl rfl (by decide +kernel) ⟨(Nat.le_of_ble_eq_true rfl), (Nat.le_of_ble_eq_true rfl)⟩) ⟨pk_blindR, va_recv hKc hPc (ci := 5) (q0 := 0) rfl rfl, pk_callR hPc hKc⟩ rfl rfl hl.1 rfl (lv_room (Nat.le_of_ble_eq_true rfl)) dX1_init_21 ⟨(Nat.le_of_ble_eq_true rfl), (Nat.le_of_ble_eq_true rfl)⟩) (fun r_2 ur_2 hw => ?_)
  clear hPc hKc
  try dsimp only at hw
  refine W.eq (g2 := F0 m 24 ls [.int ch, .ref z0]) (by rw [hw]) ?_
  refine va_put (D := (dC, dI)) (ci := 2) (v := .int ch) (ty := .int) (C := RX1) (T := TX1) (N := 6) hx hb hts hi0_ tyX1 tyX1_ok nmX1 hown hK hP hD hS 2 rfl rfl 5 (by decide) hw6_ (fun _ h9 => h9) rfl (by decide +kernel) rfl rfl (Nat.le_of_ble_eq_true rfl) dX1_init_24 (fun H locs hP hD hS => ?_)
  replace hP : va_P (dC, dI) vwCl [(y0, .inr (6, [.ref x0, v1, v2, v3, v4, v5, v6])), (x0, .inr (5, [w0, w1, w2, .int ch])), (z0, .inr (2, [.int 4, .int p0, .ref y0, .int 0, .int (-1), .int ch]))] H := hP
  replace hD : va_D A [(y0, .inr (6, [.ref x0, v1, v2, v3, v4, v5, v6])), (x0, .inr (5, [w0, w1, w2, .int ch])), (z0, .inr (2, [.int 4, .int p0, .ref y0, .int 0, .int (-1), .int ch]))] := hD
  have hP9 := hP.sub (ws' := [(z0, .inr (2, [.int 4, .int p0, .ref y0, .int 0, .int (-1), .int ch])), (y0, .inr (6, [.ref x0, v1, v2, v3, v4, v5, v6])), (x0, .inr (5, [w0, w1, w2, .int ch]))]) [2, 0, 1] rfl
  have hD9 := hD.sub (ws' := [(z0, .inr (2, [.int 4, .int p0, .ref y0, .int 0, .int (-1), .int ch])), (y0, .inr (6, [.ref x0, v1, v2, v3, v4, v5, v6])), (x0, .inr (5, [w0, w1, w2, .int ch]))]) [2, 0, 1] (by decide) rfl
  have hK9 := hK.sub (tys' := []) [] rfl
  refine W.widen (k := 0) (n := 0) (Nat.le_of_ble_eq_true rfl) (Nat.le_of_ble_eq_true rfl) ?_
  exact W.vret hx hb hr (fun t ht hW => ⟨⟨(), rfl, trivial, by rw [ht]; exact hP9, va_K.moved hW.alike hK9, hD9⟩, hS.F ht⟩) hS.2.2 dX1_init_27
