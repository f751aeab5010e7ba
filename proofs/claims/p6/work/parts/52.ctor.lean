theorem dX0_init_0 : decode cX0_init 0 = .ok (.aload_n 0, 1) := by decide +kernel
theorem dX0_init_1 : decode cX0_init 1 = .ok (.invokespecial 1, 3) := by decide +kernel
theorem dX0_init_4 : decode cX0_init 4 = .ok (.aload_n 0, 1) := by decide +kernel
theorem dX0_init_5 : decode cX0_init 5 = .ok (.iload_n 1, 1) := by decide +kernel
theorem dX0_init_6 : decode cX0_init 6 = .ok (.putfield 7, 3) := by decide +kernel
theorem dX0_init_9 : decode cX0_init 9 = .ok (.aload_n 0, 1) := by decide +kernel
theorem dX0_init_10 : decode cX0_init 10 = .ok (.iload_n 2, 1) := by decide +kernel
theorem dX0_init_11 : decode cX0_init 11 = .ok (.putfield 13, 3) := by decide +kernel
theorem dX0_init_14 : decode cX0_init 14 = .ok (.return_, 1) := by decide +kernel
theorem dX3_init_0 : decode cX3_init 0 = .ok (.aload_n 0, 1) := by decide +kernel
theorem dX3_init_1 : decode cX3_init 1 = .ok (.iload_n 1, 1) := by decide +kernel
theorem dX3_init_2 : decode cX3_init 2 = .ok (.iload_n 2, 1) := by decide +kernel
set_option maxRecDepth 20000 in
theorem ggX3_init_X0_init : GoodIn wsX3_init wsX0_init := goodIn_r _ [5, 6, 7, 8, 9, 10, 30, 31, 32, 33, 34, 35, 11, 12, 13, 14, 15, 16, 17, 18, 19, 20, 21, 22, 23, 24, 25, 26, 27, 28, 29] rfl (by decide +kernel)
set_option maxRecDepth 20000 in
theorem gX3_init_X0_init : GoodIn wsX3_init (wsX0_init) := ggX3_init_X0_init
theorem dX3_init_3 : decode cX3_init 3 = .ok (.invokespecial 3, 3) := by decide +kernel
theorem dX3_init_6 : decode cX3_init 6 = .ok (.aload_n 0, 1) := by decide +kernel
theorem dX3_init_7 : decode cX3_init 7 = .ok (.aload_n 3, 1) := by decide +kernel
theorem dX3_init_8 : decode cX3_init 8 = .ok (.putfield 9, 3) := by decide +kernel
theorem dX3_init_11 : decode cX3_init 11 = .ok (.return_, 1) := by decide +kernel
theorem dX5_init_0 : decode cX5_init 0 = .ok (.aload_n 0, 1) := by decide +kernel
theorem dX5_init_1 : decode cX5_init 1 = .ok (.invokespecial 3, 3) := by decide +kernel
theorem dX5_init_4 : decode cX5_init 4 = .ok (.aload_n 0, 1) := by decide +kernel
theorem dX5_init_5 : decode cX5_init 5 = .ok (.bipush 16, 2) := by decide +kernel
theorem dX5_init_7 : decode cX5_init 7 = .ok (.newarray .int, 2) := by decide +kernel
theorem dX5_init_9 : decode cX5_init 9 = .ok (.putfield 9, 3) := by decide +kernel
theorem dX5_init_12 : decode cX5_init 12 = .ok (.aload_n 0, 1) := by decide +kernel
theorem dX5_init_13 : decode cX5_init 13 = .ok (.bipush 16, 2) := by decide +kernel
theorem dX5_init_15 : decode cX5_init 15 = .ok (.newarray .int, 2) := by decide +kernel
theorem dX5_init_17 : decode cX5_init 17 = .ok (.putfield 15, 3) := by decide +kernel
theorem dX5_init_20 : decode cX5_init 20 = .ok (.return_, 1) := by decide +kernel
theorem dX2_init_0 : decode cX2_init 0 = .ok (.aload_n 0, 1) := by decide +kernel
theorem dX2_init_1 : decode cX2_init 1 = .ok (.iconst 0, 1) := by decide +kernel
theorem dX2_init_2 : decode cX2_init 2 = .ok (.iconst (-1), 1) := by decide +kernel
theorem dX2_init_3 : decode cX2_init 3 = .ok (.new 3, 3) := by decide +kernel
theorem dX2_init_6 : decode cX2_init 6 = .ok (.dup, 1) := by decide +kernel
set_option maxRecDepth 20000 in
theorem ggX2_init_X5_init : GoodIn wsX2_init wsX5_init := goodIn_r _ [9, 10, 11, 12, 13, 14, 15, 28, 29, 30, 31] rfl (by decide +kernel)
set_option maxRecDepth 20000 in
theorem gX2_init_X5_init_n5 : GoodIn wsX2_init (wsX5_init) := ggX2_init_X5_init
theorem dX2_init_7 : decode cX2_init 7 = .ok (.invokespecial 5, 3) := by decide +kernel
set_option maxRecDepth 20000 in
theorem ggX2_init_X3_init : GoodIn wsX2_init wsX3_init := goodIn_r _ [19, 20, 21, 22, 23, 24, 25, 11, 12, 26, 27, 32, 33, 34, 35, 36, 37, 38, 39, 40, 41, 42, 43, 44, 45, 46, 47, 48, 49, 50, 51, 52, 53, 54, 55, 56] rfl (by decide +kernel)
set_option maxRecDepth 20000 in
theorem gX2_init_X3_init : GoodIn wsX2_init (wsX3_init) := ggX2_init_X3_init
theorem dX2_init_10 : decode cX2_init 10 = .ok (.invokespecial 9, 3) := by decide +kernel
theorem dX2_init_13 : decode cX2_init 13 = .ok (.aload_n 0, 1) := by decide +kernel
theorem dX2_init_14 : decode cX2_init 14 = .ok (.iconst 0, 1) := by decide +kernel
theorem dX2_init_15 : decode cX2_init 15 = .ok (.newarray .boolean, 2) := by decide +kernel
theorem dX2_init_17 : decode cX2_init 17 = .ok (.putfield 14, 3) := by decide +kernel
theorem dX2_init_20 : decode cX2_init 20 = .ok (.aload_n 0, 1) := by decide +kernel
theorem dX2_init_21 : decode cX2_init 21 = .ok (.iload_n 1, 1) := by decide +kernel
theorem dX2_init_22 : decode cX2_init 22 = .ok (.putfield 20, 3) := by decide +kernel
theorem dX2_init_25 : decode cX2_init 25 = .ok (.aload_n 0, 1) := by decide +kernel
theorem dX2_init_26 : decode cX2_init 26 = .ok (.iload_n 2, 1) := by decide +kernel
theorem dX2_init_27 : decode cX2_init 27 = .ok (.putfield 24, 3) := by decide +kernel
theorem dX2_init_30 : decode cX2_init 30 = .ok (.return_, 1) := by decide +kernel
theorem dX4_init_0 : decode cX4_init 0 = .ok (.aload_n 0, 1) := by decide +kernel
theorem dX4_init_1 : decode cX4_init 1 = .ok (.iconst 1, 1) := by decide +kernel
theorem dX4_init_2 : decode cX4_init 2 = .ok (.iconst (-1), 1) := by decide +kernel
theorem dX4_init_3 : decode cX4_init 3 = .ok (.new 3, 3) := by decide +kernel
theorem dX4_init_6 : decode cX4_init 6 = .ok (.dup, 1) := by decide +kernel
set_option maxRecDepth 20000 in
theorem ggX4_init_X5_init : GoodIn wsX4_init wsX5_init := goodIn_r _ [7, 8, 9, 10, 11, 12, 13, 26, 27, 28, 29] rfl (by decide +kernel)
set_option maxRecDepth 20000 in
theorem gX4_init_X5_init_n5 : GoodIn wsX4_init (wsX5_init) := ggX4_init_X5_init
theorem dX4_init_7 : decode cX4_init 7 = .ok (.invokespecial 5, 3) := by decide +kernel
set_option maxRecDepth 20000 in
theorem ggX4_init_X3_init : GoodIn wsX4_init wsX3_init := goodIn_r _ [17, 18, 19, 20, 21, 22, 23, 9, 10, 24, 25, 35, 36, 37, 38, 39, 40, 41, 30, 31, 32, 33, 34, 42, 43, 44, 45, 46, 47, 48, 49, 50, 51, 52, 53, 54] rfl (by decide +kernel)
set_option maxRecDepth 20000 in
theorem gX4_init_X3_init : GoodIn wsX4_init (wsX3_init) := ggX4_init_X3_init
theorem dX4_init_10 : decode cX4_init 10 = .ok (.invokespecial 9, 3) := by decide +kernel
theorem dX4_init_13 : decode cX4_init 13 = .ok (.aload_n 0, 1) := by decide +kernel
theorem dX4_init_14 : decode cX4_init 14 = .ok (.iload_n 1, 1) := by decide +kernel
theorem dX4_init_15 : decode cX4_init 15 = .ok (.putfield 14, 3) := by decide +kernel
theorem dX4_init_18 : decode cX4_init 18 = .ok (.aload_n 0, 1) := by decide +kernel
theorem dX4_init_19 : decode cX4_init 19 = .ok (.iload_n 2, 1) := by decide +kernel
theorem dX4_init_20 : decode cX4_init 20 = .ok (.putfield 20, 3) := by decide +kernel
theorem dX4_init_23 : decode cX4_init 23 = .ok (.return_, 1) := by decide +kernel
theorem dX6_init_0 : decode cX6_init 0 = .ok (.aload_n 0, 1) := by decide +kernel
theorem dX6_init_1 : decode cX6_init 1 = .ok (.iconst 2, 1) := by decide +kernel
theorem dX6_init_2 : decode cX6_init 2 = .ok (.iconst (-1), 1) := by decide +kernel
theorem dX6_init_3 : decode cX6_init 3 = .ok (.new 5, 3) := by decide +kernel
theorem dX6_init_6 : decode cX6_init 6 = .ok (.dup, 1) := by decide +kernel
set_option maxRecDepth 20000 in
theorem ggX6_init_X5_init : GoodIn wsX6_init wsX5_init := goodIn_r _ [11, 12, 13, 14, 15, 16, 17, 30, 31, 32, 33] rfl (by decide +kernel)
set_option maxRecDepth 20000 in
theorem gX6_init_X5_init_n7 : GoodIn wsX6_init (wsX5_init) := ggX6_init_X5_init
theorem dX6_init_7 : decode cX6_init 7 = .ok (.invokespecial 7, 3) := by decide +kernel
set_option maxRecDepth 20000 in
theorem ggX6_init_X3_init : GoodIn wsX6_init wsX3_init := goodIn_r _ [21, 22, 23, 24, 25, 26, 27, 13, 14, 28, 29, 41, 42, 43, 44, 45, 46, 47, 48, 49, 50, 51, 52, 34, 35, 36, 37, 38, 39, 40, 53, 54, 55, 56, 57, 58] rfl (by decide +kernel)
set_option maxRecDepth 20000 in
theorem gX6_init_X3_init : GoodIn wsX6_init (wsX3_init) := ggX6_init_X3_init
theorem dX6_init_10 : decode cX6_init 10 = .ok (.invokespecial 11, 3) := by decide +kernel
theorem dX6_init_13 : decode cX6_init 13 = .ok (.aload_n 0, 1) := by decide +kernel
theorem dX6_init_14 : decode cX6_init 14 = .ok (.iload_n 1, 1) := by decide +kernel
theorem dX6_init_15 : decode cX6_init 15 = .ok (.putfield 16, 3) := by decide +kernel
theorem dX6_init_18 : decode cX6_init 18 = .ok (.aload_n 0, 1) := by decide +kernel
theorem dX6_init_19 : decode cX6_init 19 = .ok (.iconst 0, 1) := by decide +kernel
theorem dX6_init_20 : decode cX6_init 20 = .ok (.putfield 22, 3) := by decide +kernel
theorem dX6_init_23 : decode cX6_init 23 = .ok (.aload_n 0, 1) := by decide +kernel
theorem dX6_init_24 : decode cX6_init 24 = .ok (.ldc2_w 26, 3) := by decide +kernel
theorem dX6_init_27 : decode cX6_init 27 = .ok (.putfield 28, 3) := by decide +kernel
theorem dX6_init_30 : decode cX6_init 30 = .ok (.aload_n 0, 1) := by decide +kernel
theorem dX6_init_31 : decode cX6_init 31 = .ok (.ldc2_w 32, 3) := by decide +kernel
theorem dX6_init_34 : decode cX6_init 34 = .ok (.putfield 34, 3) := by decide +kernel
theorem dX6_init_37 : decode cX6_init 37 = .ok (.return_, 1) := by decide +kernel
theorem dX6_init__0 : decode cX6_init_ 0 = .ok (.aload_n 0, 1) := by decide +kernel
theorem dX6_init__1 : decode cX6_init_ 1 = .ok (.iconst 3, 1) := by decide +kernel
theorem dX6_init__2 : decode cX6_init_ 2 = .ok (.iload_n 1, 1) := by decide +kernel
theorem dX6_init__3 : decode cX6_init_ 3 = .ok (.aload_n 2, 1) := by decide +kernel
theorem dX6_init__4 : decode cX6_init_ 4 = .ok (.getfield 37, 3) := by decide +kernel
set_option maxRecDepth 20000 in
theorem ggX6_init__X3_init : GoodIn wsX6_init_ wsX3_init := goodIn_r _ [10, 11, 12, 13, 14, 15, 16, 17, 18, 19, 20, 21, 22, 23, 24, 25, 26, 27, 28, 29, 30, 31, 32, 33, 34, 35, 36, 37, 38, 39, 40, 41, 42, 43, 44, 45] rfl (by decide +kernel)
set_option maxRecDepth 20000 in
theorem gX6_init__X3_init : GoodIn wsX6_init_ (wsX3_init) := ggX6_init__X3_init
theorem dX6_init__7 : decode cX6_init_ 7 = .ok (.invokespecial 11, 3) := by decide +kernel
theorem dX6_init__10 : decode cX6_init_ 10 = .ok (.aload_n 0, 1) := by decide +kernel
theorem dX6_init__11 : decode cX6_init_ 11 = .ok (.aload_n 2, 1) := by decide +kernel
theorem dX6_init__12 : decode cX6_init_ 12 = .ok (.getfield 16, 3) := by decide +kernel
theorem dX6_init__15 : decode cX6_init_ 15 = .ok (.putfield 16, 3) := by decide +kernel
theorem dX6_init__18 : decode cX6_init_ 18 = .ok (.aload_n 0, 1) := by decide +kernel
theorem dX6_init__19 : decode cX6_init_ 19 = .ok (.iload_n 3, 1) := by decide +kernel
theorem dX6_init__20 : decode cX6_init_ 20 = .ok (.putfield 22, 3) := by decide +kernel
theorem dX6_init__23 : decode cX6_init_ 23 = .ok (.aload_n 0, 1) := by decide +kernel
theorem dX6_init__24 : decode cX6_init_ 24 = .ok (.lload 4, 2) := by decide +kernel
theorem dX6_init__26 : decode cX6_init_ 26 = .ok (.putfield 28, 3) := by decide +kernel
theorem dX6_init__29 : decode cX6_init_ 29 = .ok (.aload_n 0, 1) := by decide +kernel
theorem dX6_init__30 : decode cX6_init_ 30 = .ok (.lload 6, 2) := by decide +kernel
theorem dX6_init__32 : decode cX6_init_ 32 = .ok (.putfield 34, 3) := by decide +kernel
theorem dX6_init__35 : decode cX6_init_ 35 = .ok (.return_, 1) := by decide +kernel
set_option maxHeartbeats 4000000 in
set_option maxRecDepth 100000 in
/-- Body(kind, whole) in an object of X1 -/
theorem c_X0_init_X1 (l : Launch) (dC : Nat → ClassId) (dI : Nat → Nat → Nat) (sz : Nat) (h0 : Nat) (p0 : Int32) (p1 : Int32) (f0 : Value) (f1 : Value) (f2 : Value) (f3 : Value) (f4 : Value) (f5 : Value) : Met l yX0_init wsX0_init ({ frames := 1, cells := 0, slots := 0, locals := 16 }) (va_Pc [.ref h0, .int p0, .int p1] (pk_Pre (dC, dI) [(h0, .inr (2, [f0, f1, f2, f3, f4, f5]))] [] sz)) (va_Qv (fun (_ : Unit) => True) (fun (_ : Unit) (t : State) => va_P (dC, dI) vwCl [(h0, .inr (2, [.int p0, .int p1, f2, f3, f4, f5]))] t.heap ∧ va_K (dC, dI) vwCl [] t ∧ va_D (va_A [(h0, .inr (2, [f0, f1, f2, f3, f4, f5]))] sz) [(h0, .inr (2, [.int p0, .int p1, f2, f3, f4, f5]))]) (va_A [(h0, .inr (2, [f0, f1, f2, f3, f4, f5]))] sz)) 0 0 (va_A [(h0, .inr (2, [f0, f1, f2, f3, f4, f5]))] sz) := by
  refine Met.ofW (cc := cX0_init) (maxL := 3) (ret := none) (by decide) rfl ?_
  intro p e s m args below meth c s₁ B hml hv
  obtain ⟨rfl, hsz, hP, hK, hD0⟩ := hv
  have hx := B.exec
  have hb := B.bytes
  have hr := B.returns
  have hts := atoms_spec (ws := wsX0_init) B.pre
  have hown : s.vm.findClass RX0 = some m.cls := findClass_of_methodNamed B.named
  have hlocks := B.notSynchronized
  have hin : meth.name = "<init>" := (name_of_methodNamed B.named B.method).1
  subst hsz
  have hD := hD0.self (sz := s.heap.size)
  generalize hAe : va_A [(h0, .inr (2, [f0, f1, f2, f3, f4, f5]))] s.heap.size = A at hD ⊢
  have hA : ∀ q : Nat, s.heap.size ≤ q → A q := fun q h => by rw [← hAe]; exact Or.inr h
  have hS : va_S A s.heap s.heap [] := va_S.rf
  have hP : va_P (dC, dI) vwCl [(h0, .inr (2, [f0, f1, f2, f3, f4, f5]))] s.heap := hP
  have hl := lv_entry ([.ref h0, .int p0, .int p1]) (n := 3) (Nat.le_of_ble_eq_true rfl)
  rw [lg_entry_eq]
  generalize (lg_sl ([.ref h0, .int p0, .int p1]) ++ List.replicate (3 - (lg_sl ([.ref h0, .int p0, .int p1])).length) Slot.unset).toArray = ls at hl ⊢
  have hl : lv_has ls 3 [(0, .ref h0), (1, .int p0), (2, .int p1)] := hl
  have hw0_ := hts (.methodLink RX0 1 objectInit) (List.mem_of_getElem? (l := wsX0_init) (i := 1) rfl)
  have hw1_ := hts (.instanceMethod objectInit) (List.mem_of_getElem? (l := wsX0_init) (i := 2) rfl)
  have hw2_ := hts (.fieldLink RX0 7 "KeyAtlas$Body" "kind" "I") (List.mem_of_getElem? (l := wsX0_init) (i := 4) rfl)
  have hw3_ := hts (.fieldLink RX0 13 "KeyAtlas$Body" "whole" "I") (List.mem_of_getElem? (l := wsX0_init) (i := 5) rfl)
  have hi0_ : ∀ w ∈ u_ws RX1 TX1 6, w ∈ wsX0_init := fun w h => List.mem_cons_of_mem _ (List.mem_append_left _ (List.mem_append_left _ (List.mem_append_left _ (List.mem_append_right _ h))))
  refine lv_aload_n hx hb dX0_init_0 rfl (lv_at hl 0 rfl) ?_
  refine W.objInit hx hb hown hw0_ hw1_ (hts _ (List.mem_cons_of_mem _ (List.mem_append_left _ (List.mem_of_getElem? (i := 2) rfl)))) rfl (by rw [hml]; exact hl.1) rfl dX0_init_1 (Nat.le_of_ble_eq_true rfl) (Nat.le_of_ble_eq_true rfl) ?_
  refine W.eq (g2 := F0 m 4 ls []) rfl ?_
  refine lv_aload_n hx hb dX0_init_4 rfl (lv_at hl 0 rfl) ?_
  refine lv_iload_n hx hb dX0_init_5 rfl (lv_at hl 1 rfl) ?_
  refine va_putF (D := (dC, dI)) (ci := 2) (v := .int p0) (ty := .int) (C := RX1) (T := TX1) (N := 6) hx hb hts hi0_ tyX1 tyX1_ok nmX1 hown hK hP hD hS 0 rfl rfl 0 (by decide) hw2_ (fun _ h9 => h9) rfl hin rfl (by decide +kernel) rfl rfl (Nat.le_of_ble_eq_true rfl) dX0_init_6 (fun H locs hP hD hS => ?_)
  replace hP : va_P (dC, dI) vwCl [(h0, .inr (2, [.int p0, f1, f2, f3, f4, f5]))] H := hP
  replace hD : va_D A [(h0, .inr (2, [.int p0, f1, f2, f3, f4, f5]))] := hD
  refine lv_aload_n hx hb dX0_init_9 rfl (lv_at hl 0 rfl) ?_
  refine lv_iload_n hx hb dX0_init_10 rfl (lv_at hl 2 rfl) ?_
  refine va_putF (D := (dC, dI)) (ci := 2) (v := .int p1) (ty := .int) (C := RX1) (T := TX1) (N := 6) hx hb hts hi0_ tyX1 tyX1_ok nmX1 hown hK hP hD hS 0 rfl rfl 1 (by decide) hw3_ (fun _ h9 => h9) rfl hin rfl (by decide +kernel) rfl rfl (Nat.le_of_ble_eq_true rfl) dX0_init_11 (fun H locs hP hD hS => ?_)
  replace hP : va_P (dC, dI) vwCl [(h0, .inr (2, [.int p0, .int p1, f2, f3, f4, f5]))] H := hP
  replace hD : va_D A [(h0, .inr (2, [.int p0, .int p1, f2, f3, f4, f5]))] := hD
  have hP9 := hP.sub (ws' := [(h0, .inr (2, [.int p0, .int p1, f2, f3, f4, f5]))]) [0] rfl
  have hD9 := hD.sub (ws' := [(h0, .inr (2, [.int p0, .int p1, f2, f3, f4, f5]))]) [0] (by decide) rfl
  have hK9 := hK.sub (tys' := []) [] rfl
  refine W.widen (k := 0) (n := 0) (Nat.le_of_ble_eq_true rfl) (Nat.le_of_ble_eq_true rfl) ?_
  exact W.vret hx hb hr (fun t ht hW => ⟨⟨(), rfl, trivial, by rw [ht]; exact hP9, va_K.moved hW.alike hK9, hD9⟩, hS.F ht⟩) hS.2.2 dX0_init_14
set_option maxHeartbeats 4000000 in
set_option maxRecDepth 100000 in
/-- Body(kind, whole) in an object of X2 -/
theorem c_X0_init_X2 (l : Launch) (dC : Nat → ClassId) (dI : Nat → Nat → Nat) (sz : Nat) (h0 : Nat) (p0 : Int32) (p1 : Int32) (f0 : Value) (f1 : Value) (f2 : Value) (f3 : Value) (f4 : Value) (f5 : Value) (f6 : Value) : Met l yX0_init wsX0_init ({ frames := 1, cells := 0, slots := 0, locals := 16 }) (va_Pc [.ref h0, .int p0, .int p1] (pk_Pre (dC, dI) [(h0, .inr (3, [f0, f1, f2, f3, f4, f5, f6]))] [] sz)) (va_Qv (fun (_ : Unit) => True) (fun (_ : Unit) (t : State) => va_P (dC, dI) vwCl [(h0, .inr (3, [f0, .int p0, .int p1, f3, f4, f5, f6]))] t.heap ∧ va_K (dC, dI) vwCl [] t ∧ va_D (va_A [(h0, .inr (3, [f0, f1, f2, f3, f4, f5, f6]))] sz) [(h0, .inr (3, [f0, .int p0, .int p1, f3, f4, f5, f6]))]) (va_A [(h0, .inr (3, [f0, f1, f2, f3, f4, f5, f6]))] sz)) 0 0 (va_A [(h0, .inr (3, [f0, f1, f2, f3, f4, f5, f6]))] sz) := by
  refine Met.ofW (cc := cX0_init) (maxL := 3) (ret := none) (by decide) rfl ?_
  intro p e s m args below meth c s₁ B hml hv
  obtain ⟨rfl, hsz, hP, hK, hD0⟩ := hv
  have hx := B.exec
  have hb := B.bytes
  have hr := B.returns
  have hts := atoms_spec (ws := wsX0_init) B.pre
  have hown : s.vm.findClass RX0 = some m.cls := findClass_of_methodNamed B.named
  have hlocks := B.notSynchronized
  have hin : meth.name = "<init>" := (name_of_methodNamed B.named B.method).1
  subst hsz
  have hD := hD0.self (sz := s.heap.size)
  generalize hAe : va_A [(h0, .inr (3, [f0, f1, f2, f3, f4, f5, f6]))] s.heap.size = A at hD ⊢
  have hA : ∀ q : Nat, s.heap.size ≤ q → A q := fun q h => by rw [← hAe]; exact Or.inr h
  have hS : va_S A s.heap s.heap [] := va_S.rf
  have hP : va_P (dC, dI) vwCl [(h0, .inr (3, [f0, f1, f2, f3, f4, f5, f6]))] s.heap := hP
  have hl := lv_entry ([.ref h0, .int p0, .int p1]) (n := 3) (Nat.le_of_ble_eq_true rfl)
  rw [lg_entry_eq]
  generalize (lg_sl ([.ref h0, .int p0, .int p1]) ++ List.replicate (3 - (lg_sl ([.ref h0, .int p0, .int p1])).length) Slot.unset).toArray = ls at hl ⊢
  have hl : lv_has ls 3 [(0, .ref h0), (1, .int p0), (2, .int p1)] := hl
  have hw0_ := hts (.methodLink RX0 1 objectInit) (List.mem_of_getElem? (l := wsX0_init) (i := 1) rfl)
  have hw1_ := hts (.instanceMethod objectInit) (List.mem_of_getElem? (l := wsX0_init) (i := 2) rfl)
  have hw2_ := hts (.fieldLink RX0 7 "KeyAtlas$Body" "kind" "I") (List.mem_of_getElem? (l := wsX0_init) (i := 4) rfl)
  have hw3_ := hts (.fieldLink RX0 13 "KeyAtlas$Body" "whole" "I") (List.mem_of_getElem? (l := wsX0_init) (i := 5) rfl)
  have hi0_ : ∀ w ∈ u_ws RX2 TX2 7, w ∈ wsX0_init := fun w h => List.mem_cons_of_mem _ (List.mem_append_left _ (List.mem_append_left _ (List.mem_append_right _ h)))
  refine lv_aload_n hx hb dX0_init_0 rfl (lv_at hl 0 rfl) ?_
  refine W.objInit hx hb hown hw0_ hw1_ (hts _ (List.mem_cons_of_mem _ (List.mem_append_left _ (List.mem_of_getElem? (i := 2) rfl)))) rfl (by rw [hml]; exact hl.1) rfl dX0_init_1 (Nat.le_of_ble_eq_true rfl) (Nat.le_of_ble_eq_true rfl) ?_
  refine W.eq (g2 := F0 m 4 ls []) rfl ?_
  refine lv_aload_n hx hb dX0_init_4 rfl (lv_at hl 0 rfl) ?_
  refine lv_iload_n hx hb dX0_init_5 rfl (lv_at hl 1 rfl) ?_
  refine va_putF (D := (dC, dI)) (ci := 3) (v := .int p0) (ty := .int) (C := RX2) (T := TX2) (N := 7) hx hb hts hi0_ tyX2 tyX2_ok nmX2 hown hK hP hD hS 0 rfl rfl 1 (by decide) hw2_ (fun _ h9 => h9) rfl hin rfl (by decide +kernel) rfl rfl (Nat.le_of_ble_eq_true rfl) dX0_init_6 (fun H locs hP hD hS => ?_)
  replace hP : va_P (dC, dI) vwCl [(h0, .inr (3, [f0, .int p0, f2, f3, f4, f5, f6]))] H := hP
  replace hD : va_D A [(h0, .inr (3, [f0, .int p0, f2, f3, f4, f5, f6]))] := hD
  refine lv_aload_n hx hb dX0_init_9 rfl (lv_at hl 0 rfl) ?_
  refine lv_iload_n hx hb dX0_init_10 rfl (lv_at hl 2 rfl) ?_
  refine va_putF (D := (dC, dI)) (ci := 3) (v := .int p1) (ty := .int) (C := RX2) (T := TX2) (N := 7) hx hb hts hi0_ tyX2 tyX2_ok nmX2 hown hK hP hD hS 0 rfl rfl 2 (by decide) hw3_ (fun _ h9 => h9) rfl hin rfl (by decide +kernel) rfl rfl (Nat.le_of_ble_eq_true rfl) dX0_init_11 (fun H locs hP hD hS => ?_)
  replace hP : va_P (dC, dI) vwCl [(h0, .inr (3, [f0, .int p0, .int p1, f3, f4, f5, f6]))] H := hP
  replace hD : va_D A [(h0, .inr (3, [f0, .int p0, .int p1, f3, f4, f5, f6]))] := hD
  have hP9 := hP.sub (ws' := [(h0, .inr (3, [f0, .int p0, .int p1, f3, f4, f5, f6]))]) [0] rfl
  have hD9 := hD.sub (ws' := [(h0, .inr (3, [f0, .int p0, .int p1, f3, f4, f5, f6]))]) [0] (by decide) rfl
  have hK9 := hK.sub (tys' := []) [] rfl
  refine W.widen (k := 0) (n := 0) (Nat.le_of_ble_eq_true rfl) (Nat.le_of_ble_eq_true rfl) ?_
  exact W.vret hx hb hr (fun t ht hW => ⟨⟨(), rfl, trivial, by rw [ht]; exact hP9, va_K.moved hW.alike hK9, hD9⟩, hS.F ht⟩) hS.2.2 dX0_init_14
set_option maxHeartbeats 4000000 in
set_option maxRecDepth 100000 in
/-- Keyed(kind, whole, rows) in an object of X2 -/
theorem c_X3_init_X2 (l : Launch) (dC : Nat → ClassId) (dI : Nat → Nat → Nat) (sz : Nat) (h0 : Nat) (p0 : Int32) (p1 : Int32) (p2 : Nat) (f0 : Value) (f1 : Value) (f2 : Value) (f3 : Value) (f4 : Value) (f5 : Value) (f6 : Value) : Met l yX3_init wsX3_init ({ frames := 2, cells := 0, slots := 0, locals := 40 }) (va_Pc [.ref h0, .int p0, .int p1, .ref p2] (pk_Pre (dC, dI) [(h0, .inr (3, [f0, f1, f2, f3, f4, f5, f6]))] [] sz)) (va_Qv (fun (_ : Unit) => True) (fun (_ : Unit) (t : State) => va_P (dC, dI) vwCl [(h0, .inr (3, [.ref p2, .int p0, .int p1, f3, f4, f5, f6]))] t.heap ∧ va_K (dC, dI) vwCl [] t ∧ va_D (va_A [(h0, .inr (3, [f0, f1, f2, f3, f4, f5, f6]))] sz) [(h0, .inr (3, [.ref p2, .int p0, .int p1, f3, f4, f5, f6]))]) (va_A [(h0, .inr (3, [f0, f1, f2, f3, f4, f5, f6]))] sz)) 0 0 (va_A [(h0, .inr (3, [f0, f1, f2, f3, f4, f5, f6]))] sz) := by
  refine Met.ofW (cc := cX3_init) (maxL := 4) (ret := none) (by decide) rfl ?_
  intro p e s m args below meth c s₁ B hml hv
  obtain ⟨rfl, hsz, hP, hK, hD0⟩ := hv
  have hx := B.exec
  have hb := B.bytes
  have hr := B.returns
  have hts := atoms_spec (ws := wsX3_init) B.pre
  have hown : s.vm.findClass RX3 = some m.cls := findClass_of_methodNamed B.named
  have hlocks := B.notSynchronized
  have hin : meth.name = "<init>" := (name_of_methodNamed B.named B.method).1
  subst hsz
  have hD := hD0.self (sz := s.heap.size)
  generalize hAe : va_A [(h0, .inr (3, [f0, f1, f2, f3, f4, f5, f6]))] s.heap.size = A at hD ⊢
  have hA : ∀ q : Nat, s.heap.size ≤ q → A q := fun q h => by rw [← hAe]; exact Or.inr h
  have hS : va_S A s.heap s.heap [] := va_S.rf
  have hP : va_P (dC, dI) vwCl [(h0, .inr (3, [f0, f1, f2, f3, f4, f5, f6]))] s.heap := hP
  have hl := lv_entry ([.ref h0, .int p0, .int p1, .ref p2]) (n := 4) (Nat.le_of_ble_eq_true rfl)
  rw [lg_entry_eq]
  generalize (lg_sl ([.ref h0, .int p0, .int p1, .ref p2]) ++ List.replicate (4 - (lg_sl ([.ref h0, .int p0, .int p1, .ref p2])).length) Slot.unset).toArray = ls at hl ⊢
  have hl : lv_has ls 4 [(0, .ref h0), (1, .int p0), (2, .int p1), (3, .ref p2)] := hl
  have hw0_ := hts (.initialized RX0) (List.mem_of_getElem? (l := wsX3_init) (i := 4) rfl)
  have hw1_ := hts (.methodLink RX3 3 yX0_init) (List.mem_of_getElem? (l := wsX3_init) (i := 2) rfl)
  have hw2_ := hts (.instanceMethod yX0_init) (List.mem_of_getElem? (l := wsX3_init) (i := 3) rfl)
  have hw3_ := hts (.fieldLink RX3 9 "KeyAtlas$Keyed" "rows" "LKeyAtlas$Rows;") (List.mem_of_getElem? (l := wsX3_init) (i := 1) rfl)
  have hi0_ : ∀ w ∈ u_ws RX2 TX2 7, w ∈ wsX3_init := fun w h => List.mem_cons_of_mem _ (List.mem_append_left _ (List.mem_append_left _ (List.mem_append_left _ (List.mem_append_right _ h))))
  refine lv_aload_n hx hb dX3_init_0 rfl (lv_at hl 0 rfl) ?_
  refine lv_iload_n hx hb dX3_init_1 rfl (lv_at hl 1 rfl) ?_
  refine lv_iload_n hx hb dX3_init_2 rfl (lv_at hl 2 rfl) ?_
  have hPc := hP.sub (ws' := [(h0, .inr (3, [f0, f1, f2, f3, f4, f5, f6]))]) [0] rfl
  have hDc := hD.sub (ws' := [(h0, .inr (3, [f0, f1, f2, f3, f4, f5, f6]))]) [0] (by decide) rfl
  have hKc := hK.sub (tys' := []) [] rfl
  have hFc := va_free (wc := [(h0, .inr (3, [f0, f1, f2, f3, f4, f5, f6]))]) hD hS hA [0] rfl
  refine va_callv (va_runI (As := [.int p0, .int p1]) (rest := []) ⟨hx, hb, hml, hown, hts⟩ (c_X0_init_X2 l  dC dI s.heap.size h0 p0 p1 f0 f1 f2 f3 f4 f5 f6) (cwI 2 hts gX3_init_X0_init rfl rfl rfl hw0_ hw1_ hw2_ rfl (by decide +kernel) ⟨(Nat.le_of_ble_eq_true rfl), (Nat.le_of_ble_eq_true rfl)⟩) ⟨pk_blind, pk_call hPc hKc hDc⟩ rfl rfl hl.1 rfl (lv_room (Nat.le_of_ble_eq_true rfl)) dX3_init_3 ⟨(Nat.le_of_ble_eq_true rfl), (Nat.le_of_ble_eq_true rfl)⟩) hS (fun q _ h => hFc q h) hFc (fun ur_1 t H1 locs ht hvm hw hB hz1 hk1 hS => ?_)
  try dsimp only at hw
  have jr_1 := hw
  obtain ⟨hP1, hK1, hD1⟩ := hB
  rw [ht] at hP1
  have hK1 := va_K.moved hvm.symm hK1
  obtain ⟨hP, hD⟩ := va_join (wr := []) (w1 := [(h0, .inr (3, [f0, .int p0, .int p1, f3, f4, f5, f6]))]) hP hD [0] [] rfl rfl (by decide) (by decide) hk1 hFc hP1 hD1
  clear hk1 hz1 ht hPc hDc hKc hFc
  generalize H1 = H at hP hS ⊢
  replace hP : va_P (dC, dI) vwCl [(h0, .inr (3, [f0, .int p0, .int p1, f3, f4, f5, f6]))] H := hP
  replace hD : va_D A [(h0, .inr (3, [f0, .int p0, .int p1, f3, f4, f5, f6]))] := hD
  refine W.widen (k := 0) (n := 0) (Nat.le_of_ble_eq_true rfl) (Nat.le_of_ble_eq_true rfl) ?_
  refine W.eq (g2 := F0 m 6 ls []) rfl ?_
  refine lv_aload_n hx hb dX3_init_6 rfl (lv_at hl 0 rfl) ?_
  refine lv_aload_n hx hb dX3_init_7 rfl (lv_at hl 3 rfl) ?_
  refine va_putF (D := (dC, dI)) (ci := 3) (v := .ref p2) (ty := .object "KeyAtlas$Rows") (C := RX2) (T := TX2) (N := 7) hx hb hts hi0_ tyX2 tyX2_ok nmX2 hown hK hP hD hS 0 rfl rfl 0 (by decide) hw3_ (fun _ h9 => h9) rfl hin rfl (by decide +kernel) rfl rfl (Nat.le_of_ble_eq_true rfl) dX3_init_8 (fun H locs hP hD hS => ?_)
  replace hP : va_P (dC, dI) vwCl [(h0, .inr (3, [.ref p2, .int p0, .int p1, f3, f4, f5, f6]))] H := hP
  replace hD : va_D A [(h0, .inr (3, [.ref p2, .int p0, .int p1, f3, f4, f5, f6]))] := hD
  have hP9 := hP.sub (ws' := [(h0, .inr (3, [.ref p2, .int p0, .int p1, f3, f4, f5, f6]))]) [0] rfl
  have hD9 := hD.sub (ws' := [(h0, .inr (3, [.ref p2, .int p0, .int p1, f3, f4, f5, f6]))]) [0] (by decide) rfl
  have hK9 := hK.sub (tys' := []) [] rfl
  refine W.widen (k := 0) (n := 0) (Nat.le_of_ble_eq_true rfl) (Nat.le_of_ble_eq_true rfl) ?_
  exact W.vret hx hb hr (fun t ht hW => ⟨⟨(), rfl, trivial, by rw [ht]; exact hP9, va_K.moved hW.alike hK9, hD9⟩, hS.F ht⟩) hS.2.2 dX3_init_11
set_option maxHeartbeats 4000000 in
set_option maxRecDepth 100000 in
/-- Body(kind, whole) in an object of X4 -/
theorem c_X0_init_X4 (l : Launch) (dC : Nat → ClassId) (dI : Nat → Nat → Nat) (sz : Nat) (h0 : Nat) (p0 : Int32) (p1 : Int32) (f0 : Value) (f1 : Value) (f2 : Value) (f3 : Value) (f4 : Value) : Met l yX0_init wsX0_init ({ frames := 1, cells := 0, slots := 0, locals := 16 }) (va_Pc [.ref h0, .int p0, .int p1] (pk_Pre (dC, dI) [(h0, .inr (4, [f0, f1, f2, f3, f4]))] [] sz)) (va_Qv (fun (_ : Unit) => True) (fun (_ : Unit) (t : State) => va_P (dC, dI) vwCl [(h0, .inr (4, [f0, .int p0, .int p1, f3, f4]))] t.heap ∧ va_K (dC, dI) vwCl [] t ∧ va_D (va_A [(h0, .inr (4, [f0, f1, f2, f3, f4]))] sz) [(h0, .inr (4, [f0, .int p0, .int p1, f3, f4]))]) (va_A [(h0, .inr (4, [f0, f1, f2, f3, f4]))] sz)) 0 0 (va_A [(h0, .inr (4, [f0, f1, f2, f3, f4]))] sz) := by
  refine Met.ofW (cc := cX0_init) (maxL := 3) (ret := none) (by decide) rfl ?_
  intro p e s m args below meth c s₁ B hml hv
  obtain ⟨rfl, hsz, hP, hK, hD0⟩ := hv
  have hx := B.exec
  have hb := B.bytes
  have hr := B.returns
  have hts := atoms_spec (ws := wsX0_init) B.pre
  have hown : s.vm.findClass RX0 = some m.cls := findClass_of_methodNamed B.named
  have hlocks := B.notSynchronized
  have hin : meth.name = "<init>" := (name_of_methodNamed B.named B.method).1
  subst hsz
  have hD := hD0.self (sz := s.heap.size)
  generalize hAe : va_A [(h0, .inr (4, [f0, f1, f2, f3, f4]))] s.heap.size = A at hD ⊢
  have hA : ∀ q : Nat, s.heap.size ≤ q → A q := fun q h => by rw [← hAe]; exact Or.inr h
  have hS : va_S A s.heap s.heap [] := va_S.rf
  have hP : va_P (dC, dI) vwCl [(h0, .inr (4, [f0, f1, f2, f3, f4]))] s.heap := hP
  have hl := lv_entry ([.ref h0, .int p0, .int p1]) (n := 3) (Nat.le_of_ble_eq_true rfl)
  rw [lg_entry_eq]
  generalize (lg_sl ([.ref h0, .int p0, .int p1]) ++ List.replicate (3 - (lg_sl ([.ref h0, .int p0, .int p1])).length) Slot.unset).toArray = ls at hl ⊢
  have hl : lv_has ls 3 [(0, .ref h0), (1, .int p0), (2, .int p1)] := hl
  have hw0_ := hts (.methodLink RX0 1 objectInit) (List.mem_of_getElem? (l := wsX0_init) (i := 1) rfl)
  have hw1_ := hts (.instanceMethod objectInit) (List.mem_of_getElem? (l := wsX0_init) (i := 2) rfl)
  have hw2_ := hts (.fieldLink RX0 7 "KeyAtlas$Body" "kind" "I") (List.mem_of_getElem? (l := wsX0_init) (i := 4) rfl)
  have hw3_ := hts (.fieldLink RX0 13 "KeyAtlas$Body" "whole" "I") (List.mem_of_getElem? (l := wsX0_init) (i := 5) rfl)
  have hi0_ : ∀ w ∈ u_ws RX4 TX4 5, w ∈ wsX0_init := fun w h => List.mem_cons_of_mem _ (List.mem_append_left _ (List.mem_append_right _ h))
  refine lv_aload_n hx hb dX0_init_0 rfl (lv_at hl 0 rfl) ?_
  refine W.objInit hx hb hown hw0_ hw1_ (hts _ (List.mem_cons_of_mem _ (List.mem_append_left _ (List.mem_of_getElem? (i := 2) rfl)))) rfl (by rw [hml]; exact hl.1) rfl dX0_init_1 (Nat.le_of_ble_eq_true rfl) (Nat.le_of_ble_eq_true rfl) ?_
  refine W.eq (g2 := F0 m 4 ls []) rfl ?_
  refine lv_aload_n hx hb dX0_init_4 rfl (lv_at hl 0 rfl) ?_
  refine lv_iload_n hx hb dX0_init_5 rfl (lv_at hl 1 rfl) ?_
  refine va_putF (D := (dC, dI)) (ci := 4) (v := .int p0) (ty := .int) (C := RX4) (T := TX4) (N := 5) hx hb hts hi0_ tyX4 tyX4_ok nmX4 hown hK hP hD hS 0 rfl rfl 1 (by decide) hw2_ (fun _ h9 => h9) rfl hin rfl (by decide +kernel) rfl rfl (Nat.le_of_ble_eq_true rfl) dX0_init_6 (fun H locs hP hD hS => ?_)
  replace hP : va_P (dC, dI) vwCl [(h0, .inr (4, [f0, .int p0, f2, f3, f4]))] H := hP
  replace hD : va_D A [(h0, .inr (4, [f0, .int p0, f2, f3, f4]))] := hD
  refine lv_aload_n hx hb dX0_init_9 rfl (lv_at hl 0 rfl) ?_
  refine lv_iload_n hx hb dX0_init_10 rfl (lv_at hl 2 rfl) ?_
  refine va_putF (D := (dC, dI)) (ci := 4) (v := .int p1) (ty := .int) (C := RX4) (T := TX4) (N := 5) hx hb hts hi0_ tyX4 tyX4_ok nmX4 hown hK hP hD hS 0 rfl rfl 2 (by decide) hw3_ (fun _ h9 => h9) rfl hin rfl (by decide +kernel) rfl rfl (Nat.le_of_ble_eq_true rfl) dX0_init_11 (fun H locs hP hD hS => ?_)
  replace hP : va_P (dC, dI) vwCl [(h0, .inr (4, [f0, .int p0, .int p1, f3, f4]))] H := hP
  replace hD : va_D A [(h0, .inr (4, [f0, .int p0, .int p1, f3, f4]))] := hD
  have hP9 := hP.sub (ws' := [(h0, .inr (4, [f0, .int p0, .int p1, f3, f4]))]) [0] rfl
  have hD9 := hD.sub (ws' := [(h0, .inr (4, [f0, .int p0, .int p1, f3, f4]))]) [0] (by decide) rfl
  have hK9 := hK.sub (tys' := []) [] rfl
  refine W.widen (k := 0) (n := 0) (Nat.le_of_ble_eq_true rfl) (Nat.le_of_ble_eq_true rfl) ?_
  exact W.vret hx hb hr (fun t ht hW => ⟨⟨(), rfl, trivial, by rw [ht]; exact hP9, va_K.moved hW.alike hK9, hD9⟩, hS.F ht⟩) hS.2.2 dX0_init_14
set_option maxHeartbeats 4000000 in
set_option maxRecDepth 100000 in
/-- Keyed(kind, whole, rows) in an object of X4 -/
theorem c_X3_init_X4 (l : Launch) (dC : Nat → ClassId) (dI : Nat → Nat → Nat) (sz : Nat) (h0 : Nat) (p0 : Int32) (p1 : Int32) (p2 : Nat) (f0 : Value) (f1 : Value) (f2 : Value) (f3 : Value) (f4 : Value) : Met l yX3_init wsX3_init ({ frames := 2, cells := 0, slots := 0, locals := 40 }) (va_Pc [.ref h0, .int p0, .int p1, .ref p2] (pk_Pre (dC, dI) [(h0, .inr (4, [f0, f1, f2, f3, f4]))] [] sz)) (va_Qv (fun (_ : Unit) => True) (fun (_ : Unit) (t : State) => va_P (dC, dI) vwCl [(h0, .inr (4, [.ref p2, .int p0, .int p1, f3, f4]))] t.heap ∧ va_K (dC, dI) vwCl [] t ∧ va_D (va_A [(h0, .inr (4, [f0, f1, f2, f3, f4]))] sz) [(h0, .inr (4, [.ref p2, .int p0, .int p1, f3, f4]))]) (va_A [(h0, .inr (4, [f0, f1, f2, f3, f4]))] sz)) 0 0 (va_A [(h0, .inr (4, [f0, f1, f2, f3, f4]))] sz) := by
  refine Met.ofW (cc := cX3_init) (maxL := 4) (ret := none) (by decide) rfl ?_
  intro p e s m args below meth c s₁ B hml hv
  obtain ⟨rfl, hsz, hP, hK, hD0⟩ := hv
  have hx := B.exec
  have hb := B.bytes
  have hr := B.returns
  have hts := atoms_spec (ws := wsX3_init) B.pre
  have hown : s.vm.findClass RX3 = some m.cls := findClass_of_methodNamed B.named
  have hlocks := B.notSynchronized
  have hin : meth.name = "<init>" := (name_of_methodNamed B.named B.method).1
  subst hsz
  have hD := hD0.self (sz := s.heap.size)
  generalize hAe : va_A [(h0, .inr (4, [f0, f1, f2, f3, f4]))] s.heap.size = A at hD ⊢
  have hA : ∀ q : Nat, s.heap.size ≤ q → A q := fun q h => by rw [← hAe]; exact Or.inr h
  have hS : va_S A s.heap s.heap [] := va_S.rf
  have hP : va_P (dC, dI) vwCl [(h0, .inr (4, [f0, f1, f2, f3, f4]))] s.heap := hP
  have hl := lv_entry ([.ref h0, .int p0, .int p1, .ref p2]) (n := 4) (Nat.le_of_ble_eq_true rfl)
  rw [lg_entry_eq]
  generalize (lg_sl ([.ref h0, .int p0, .int p1, .ref p2]) ++ List.replicate (4 - (lg_sl ([.ref h0, .int p0, .int p1, .ref p2])).length) Slot.unset).toArray = ls at hl ⊢
  have hl : lv_has ls 4 [(0, .ref h0), (1, .int p0), (2, .int p1), (3, .ref p2)] := hl
  have hw0_ := hts (.initialized RX0) (List.mem_of_getElem? (l := wsX3_init) (i := 4) rfl)
  have hw1_ := hts (.methodLink RX3 3 yX0_init) (List.mem_of_getElem? (l := wsX3_init) (i := 2) rfl)
  have hw2_ := hts (.instanceMethod yX0_init) (List.mem_of_getElem? (l := wsX3_init) (i := 3) rfl)
  have hw3_ := hts (.fieldLink RX3 9 "KeyAtlas$Keyed" "rows" "LKeyAtlas$Rows;") (List.mem_of_getElem? (l := wsX3_init) (i := 1) rfl)
  have hi0_ : ∀ w ∈ u_ws RX4 TX4 5, w ∈ wsX3_init := fun w h => List.mem_cons_of_mem _ (List.mem_append_left _ (List.mem_append_left _ (List.mem_append_right _ h)))
  refine lv_aload_n hx hb dX3_init_0 rfl (lv_at hl 0 rfl) ?_
  refine lv_iload_n hx hb dX3_init_1 rfl (lv_at hl 1 rfl) ?_
  refine lv_iload_n hx hb dX3_init_2 rfl (lv_at hl 2 rfl) ?_
  have hPc := hP.sub (ws' := [(h0, .inr (4, [f0, f1, f2, f3, f4]))]) [0] rfl
  have hDc := hD.sub (ws' := [(h0, .inr (4, [f0, f1, f2, f3, f4]))]) [0] (by decide) rfl
  have hKc := hK.sub (tys' := []) [] rfl
  have hFc := va_free (wc := [(h0, .inr (4, [f0, f1, f2, f3, f4]))]) hD hS hA [0] rfl
  refine va_callv (va_runI (As := [.int p0, .int p1]) (rest := []) ⟨hx, hb, hml, hown, hts⟩ (c_X0_init_X4 l  dC dI s.heap.size h0 p0 p1 f0 f1 f2 f3 f4) (cwI 2 hts gX3_init_X0_init rfl rfl rfl hw0_ hw1_ hw2_ rfl (by decide +kernel) ⟨(Nat.le_of_ble_eq_true rfl), (Nat.le_of_ble_eq_true rfl)⟩) ⟨pk_blind, pk_call hPc hKc hDc⟩ rfl rfl hl.1 rfl (lv_room (Nat.le_of_ble_eq_true rfl)) dX3_init_3 ⟨(Nat.le_of_ble_eq_true rfl), (Nat.le_of_ble_eq_true rfl)⟩) hS (fun q _ h => hFc q h) hFc (fun ur_1 t H1 locs ht hvm hw hB hz1 hk1 hS => ?_)
  try dsimp only at hw
  have jr_1 := hw
  obtain ⟨hP1, hK1, hD1⟩ := hB
  rw [ht] at hP1
  have hK1 := va_K.moved hvm.symm hK1
  obtain ⟨hP, hD⟩ := va_join (wr := []) (w1 := [(h0, .inr (4, [f0, .int p0, .int p1, f3, f4]))]) hP hD [0] [] rfl rfl (by decide) (by decide) hk1 hFc hP1 hD1
  clear hk1 hz1 ht hPc hDc hKc hFc
  generalize H1 = H at hP hS ⊢
  replace hP : va_P (dC, dI) vwCl [(h0, .inr (4, [f0, .int p0, .int p1, f3, f4]))] H := hP
  replace hD : va_D A [(h0, .inr (4, [f0, .int p0, .int p1, f3, f4]))] := hD
  refine W.widen (k := 0) (n := 0) (Nat.le_of_ble_eq_true rfl) (Nat.le_of_ble_eq_true rfl) ?_
  refine W.eq (g2 := F0 m 6 ls []) rfl ?_
  refine lv_aload_n hx hb dX3_init_6 rfl (lv_at hl 0 rfl) ?_
  refine lv_aload_n hx hb dX3_init_7 rfl (lv_at hl 3 rfl) ?_
  refine va_putF (D := (dC, dI)) (ci := 4) (v := .ref p2) (ty := .object "KeyAtlas$Rows") (C := RX4) (T := TX4) (N := 5) hx hb hts hi0_ tyX4 tyX4_ok nmX4 hown hK hP hD hS 0 rfl rfl 0 (by decide) hw3_ (fun _ h9 => h9) rfl hin rfl (by decide +kernel) rfl rfl (Nat.le_of_ble_eq_true rfl) dX3_init_8 (fun H locs hP hD hS => ?_)
  replace hP : va_P (dC, dI) vwCl [(h0, .inr (4, [.ref p2, .int p0, .int p1, f3, f4]))] H := hP
  replace hD : va_D A [(h0, .inr (4, [.ref p2, .int p0, .int p1, f3, f4]))] := hD
  have hP9 := hP.sub (ws' := [(h0, .inr (4, [.ref p2, .int p0, .int p1, f3, f4]))]) [0] rfl
  have hD9 := hD.sub (ws' := [(h0, .inr (4, [.ref p2, .int p0, .int p1, f3, f4]))]) [0] (by decide) rfl
  have hK9 := hK.sub (tys' := []) [] rfl
  refine W.widen (k := 0) (n := 0) (Nat.le_of_ble_eq_true rfl) (Nat.le_of_ble_eq_true rfl) ?_
  exact W.vret hx hb hr (fun t ht hW => ⟨⟨(), rfl, trivial, by rw [ht]; exact hP9, va_K.moved hW.alike hK9, hD9⟩, hS.F ht⟩) hS.2.2 dX3_init_11
set_option maxHeartbeats 4000000 in
set_option maxRecDepth 100000 in
/-- Body(kind, whole) in an object of X6 -/
theorem c_X0_init_X6 (l : Launch) (dC : Nat → ClassId) (dI : Nat → Nat → Nat) (sz : Nat) (h0 : Nat) (p0 : Int32) (p1 : Int32) (f0 : Value) (f1 : Value) (f2 : Value) (f3 : Value) (f4 : Value) (f5 : Value) (f6 : Value) : Met l yX0_init wsX0_init ({ frames := 1, cells := 0, slots := 0, locals := 16 }) (va_Pc [.ref h0, .int p0, .int p1] (pk_Pre (dC, dI) [(h0, .inr (6, [f0, f1, f2, f3, f4, f5, f6]))] [] sz)) (va_Qv (fun (_ : Unit) => True) (fun (_ : Unit) (t : State) => va_P (dC, dI) vwCl [(h0, .inr (6, [f0, .int p0, .int p1, f3, f4, f5, f6]))] t.heap ∧ va_K (dC, dI) vwCl [] t ∧ va_D (va_A [(h0, .inr (6, [f0, f1, f2, f3, f4, f5, f6]))] sz) [(h0, .inr (6, [f0, .int p0, .int p1, f3, f4, f5, f6]))]) (va_A [(h0, .inr (6, [f0, f1, f2, f3, f4, f5, f6]))] sz)) 0 0 (va_A [(h0, .inr (6, [f0, f1, f2, f3, f4, f5, f6]))] sz) := by
  refine Met.ofW (cc := cX0_init) (maxL := 3) (ret := none) (by decide) rfl ?_
  intro p e s m args below meth c s₁ B hml hv
  obtain ⟨rfl, hsz, hP, hK, hD0⟩ := hv
  have hx := B.exec
  have hb := B.bytes
  have hr := B.returns
  have hts := atoms_spec (ws := wsX0_init) B.pre
  have hown : s.vm.findClass RX0 = some m.cls := findClass_of_methodNamed B.named
  have hlocks := B.notSynchronized
  have hin : meth.name = "<init>" := (name_of_methodNamed B.named B.method).1
  subst hsz
  have hD := hD0.self (sz := s.heap.size)
  generalize hAe : va_A [(h0, .inr (6, [f0, f1, f2, f3, f4, f5, f6]))] s.heap.size = A at hD ⊢
  have hA : ∀ q : Nat, s.heap.size ≤ q → A q := fun q h => by rw [← hAe]; exact Or.inr h
  have hS : va_S A s.heap s.heap [] := va_S.rf
  have hP : va_P (dC, dI) vwCl [(h0, .inr (6, [f0, f1, f2, f3, f4, f5, f6]))] s.heap := hP
  have hl := lv_entry ([.ref h0, .int p0, .int p1]) (n := 3) (Nat.le_of_ble_eq_true rfl)
  rw [lg_entry_eq]
  generalize (lg_sl ([.ref h0, .int p0, .int p1]) ++ List.replicate (3 - (lg_sl ([.ref h0, .int p0, .int p1])).length) Slot.unset).toArray = ls at hl ⊢
  have hl : lv_has ls 3 [(0, .ref h0), (1, .int p0), (2, .int p1)] := hl
  have hw0_ := hts (.methodLink RX0 1 objectInit) (List.mem_of_getElem? (l := wsX0_init) (i := 1) rfl)
  have hw1_ := hts (.instanceMethod objectInit) (List.mem_of_getElem? (l := wsX0_init) (i := 2) rfl)
  have hw2_ := hts (.fieldLink RX0 7 "KeyAtlas$Body" "kind" "I") (List.mem_of_getElem? (l := wsX0_init) (i := 4) rfl)
  have hw3_ := hts (.fieldLink RX0 13 "KeyAtlas$Body" "whole" "I") (List.mem_of_getElem? (l := wsX0_init) (i := 5) rfl)
  have hi0_ : ∀ w ∈ u_ws RX6 TX6 7, w ∈ wsX0_init := fun w h => List.mem_cons_of_mem _ (List.mem_append_right _ h)
  refine lv_aload_n hx hb dX0_init_0 rfl (lv_at hl 0 rfl) ?_
  refine W.objInit hx hb hown hw0_ hw1_ (hts _ (List.mem_cons_of_mem _ (List.mem_append_left _ (List.mem_of_getElem? (i := 2) rfl)))) rfl (by rw [hml]; exact hl.1) rfl dX0_init_1 (Nat.le_of_ble_eq_true rfl) (Nat.le_of_ble_eq_true rfl) ?_
  refine W.eq (g2 := F0 m 4 ls []) rfl ?_
  refine lv_aload_n hx hb dX0_init_4 rfl (lv_at hl 0 rfl) ?_
  refine lv_iload_n hx hb dX0_init_5 rfl (lv_at hl 1 rfl) ?_
  refine va_putF (D := (dC, dI)) (ci := 6) (v := .int p0) (ty := .int) (C := RX6) (T := TX6) (N := 7) hx hb hts hi0_ tyX6 tyX6_ok nmX6 hown hK hP hD hS 0 rfl rfl 1 (by decide) hw2_ (fun _ h9 => h9) rfl hin rfl (by decide +kernel) rfl rfl (Nat.le_of_ble_eq_true rfl) dX0_init_6 (fun H locs hP hD hS => ?_)
  replace hP : va_P (dC, dI) vwCl [(h0, .inr (6, [f0, .int p0, f2, f3, f4, f5, f6]))] H := hP
  replace hD : va_D A [(h0, .inr (6, [f0, .int p0, f2, f3, f4, f5, f6]))] := hD
  refine lv_aload_n hx hb dX0_init_9 rfl (lv_at hl 0 rfl) ?_
  refine lv_iload_n hx hb dX0_init_10 rfl (lv_at hl 2 rfl) ?_
  refine va_putF (D := (dC, dI)) (ci := 6) (v := .int p1) (ty := .int) (C := RX6) (T := TX6) (N := 7) hx hb hts hi0_ tyX6 tyX6_ok nmX6 hown hK hP hD hS 0 rfl rfl 2 (by decide) hw3_ (fun _ h9 => h9) rfl hin rfl (by decide +kernel) rfl rfl (Nat.le_of_ble_eq_true rfl) dX0_init_11 (fun H locs hP hD hS => ?_)
  replace hP : va_P (dC, dI) vwCl [(h0, .inr (6, [f0, .int p0, .int p1, f3, f4, f5, f6]))] H := hP
  replace hD : va_D A [(h0, .inr (6, [f0, .int p0, .int p1, f3, f4, f5, f6]))] := hD
  have hP9 := hP.sub (ws' := [(h0, .inr (6, [f0, .int p0, .int p1, f3, f4, f5, f6]))]) [0] rfl
  have hD9 := hD.sub (ws' := [(h0, .inr (6, [f0, .int p0, .int p1, f3, f4, f5, f6]))]) [0] (by decide) rfl
  have hK9 := hK.sub (tys' := []) [] rfl
  refine W.widen (k := 0) (n := 0) (Nat.le_of_ble_eq_true rfl) (Nat.le_of_ble_eq_true rfl) ?_
  exact W.vret hx hb hr (fun t ht hW => ⟨⟨(), rfl, trivial, by rw [ht]; exact hP9, va_K.moved hW.alike hK9, hD9⟩, hS.F ht⟩) hS.2.2 dX0_init_14
set_option maxHeartbeats 4000000 in
set_option maxRecDepth 100000 in
/-- Keyed(kind, whole, rows) in an object of X6 -/
theorem c_X3_init_X6 (l : Launch) (dC : Nat → ClassId) (dI : Nat → Nat → Nat) (sz : Nat) (h0 : Nat) (p0 : Int32) (p1 : Int32) (p2 : Nat) (f0 : Value) (f1 : Value) (f2 : Value) (f3 : Value) (f4 : Value) (f5 : Value) (f6 : Value) : Met l yX3_init wsX3_init ({ frames := 2, cells := 0, slots := 0, locals := 40 }) (va_Pc [.ref h0, .int p0, .int p1, .ref p2] (pk_Pre (dC, dI) [(h0, .inr (6, [f0, f1, f2, f3, f4, f5, f6]))] [] sz)) (va_Qv (fun (_ : Unit) => True) (fun (_ : Unit) (t : State) => va_P (dC, dI) vwCl [(h0, .inr (6, [.ref p2, .int p0, .int p1, f3, f4, f5, f6]))] t.heap ∧ va_K (dC, dI) vwCl [] t ∧ va_D (va_A [(h0, .inr (6, [f0, f1, f2, f3, f4, f5, f6]))] sz) [(h0, .inr (6, [.ref p2, .int p0, .int p1, f3, f4, f5, f6]))]) (va_A [(h0, .inr (6, [f0, f1, f2, f3, f4, f5, f6]))] sz)) 0 0 (va_A [(h0, .inr (6, [f0, f1, f2, f3, f4, f5, f6]))] sz) := by
  refine Met.ofW (cc := cX3_init) (maxL := 4) (ret := none) (by decide) rfl ?_
  intro p e s m args below meth c s₁ B hml hv
  obtain ⟨rfl, hsz, hP, hK, hD0⟩ := hv
  have hx := B.exec
  have hb := B.bytes
  have hr := B.returns
  have hts := atoms_spec (ws := wsX3_init) B.pre
  have hown : s.vm.findClass RX3 = some m.cls := findClass_of_methodNamed B.named
  have hlocks := B.notSynchronized
  have hin : meth.name = "<init>" := (name_of_methodNamed B.named B.method).1
  subst hsz
  have hD := hD0.self (sz := s.heap.size)
  generalize hAe : va_A [(h0, .inr (6, [f0, f1, f2, f3, f4, f5, f6]))] s.heap.size = A at hD ⊢
  have hA : ∀ q : Nat, s.heap.size ≤ q → A q := fun q h => by rw [← hAe]; exact Or.inr h
  have hS : va_S A s.heap s.heap [] := va_S.rf
  have hP : va_P (dC, dI) vwCl [(h0, .inr (6, [f0, f1, f2, f3, f4, f5, f6]))] s.heap := hP
  have hl := lv_entry ([.ref h0, .int p0, .int p1, .ref p2]) (n := 4) (Nat.le_of_ble_eq_true rfl)
  rw [lg_entry_eq]
  generalize (lg_sl ([.ref h0, .int p0, .int p1, .ref p2]) ++ List.replicate (4 - (lg_sl ([.ref h0, .int p0, .int p1, .ref p2])).length) Slot.unset).toArray = ls at hl ⊢
  have hl : lv_has ls 4 [(0, .ref h0), (1, .int p0), (2, .int p1), (3, .ref p2)] := hl
  have hw0_ := hts (.initialized RX0) (List.mem_of_getElem? (l := wsX3_init) (i := 4) rfl)
  have hw1_ := hts (.methodLink RX3 3 yX0_init) (List.mem_of_getElem? (l := wsX3_init) (i := 2) rfl)
  have hw2_ := hts (.instanceMethod yX0_init) (List.mem_of_getElem? (l := wsX3_init) (i := 3) rfl)
  have hw3_ := hts (.fieldLink RX3 9 "KeyAtlas$Keyed" "rows" "LKeyAtlas$Rows;") (List.mem_of_getElem? (l := wsX3_init) (i := 1) rfl)
  have hi0_ : ∀ w ∈ u_ws RX6 TX6 7, w ∈ wsX3_init := fun w h => List.mem_cons_of_mem _ (List.mem_append_left _ (List.mem_append_right _ h))
  refine lv_aload_n hx hb dX3_init_0 rfl (lv_at hl 0 rfl) ?_
  refine lv_iload_n hx hb dX3_init_1 rfl (lv_at hl 1 rfl) ?_
  refine lv_iload_n hx hb dX3_init_2 rfl (lv_at hl 2 rfl) ?_
  have hPc := hP.sub (ws' := [(h0, .inr (6, [f0, f1, f2, f3, f4, f5, f6]))]) [0] rfl
  have hDc := hD.sub (ws' := [(h0, .inr (6, [f0, f1, f2, f3, f4, f5, f6]))]) [0] (by decide) rfl
  have hKc := hK.sub (tys' := []) [] rfl
  have hFc := va_free (wc := [(h0, .inr (6, [f0, f1, f2, f3, f4, f5, f6]))]) hD hS hA [0] rfl
  refine va_callv (va_runI (As := [.int p0, .int p1]) (rest := []) ⟨hx, hb, hml, hown, hts⟩ (c_X0_init_X6 l  dC dI s.heap.size h0 p0 p1 f0 f1 f2 f3 f4 f5 f6) (cwI 2 hts gX3_init_X0_init rfl rfl rfl hw0_ hw1_ hw2_ rfl (by decide +kernel) ⟨(Nat.le_of_ble_eq_true rfl), (Nat.le_of_ble_eq_true rfl)⟩) ⟨pk_blind, pk_call hPc hKc hDc⟩ rfl rfl hl.1 rfl (lv_room (Nat.le_of_ble_eq_true rfl)) dX3_init_3 ⟨(Nat.le_of_ble_eq_true rfl), (Nat.le_of_ble_eq_true rfl)⟩) hS (fun q _ h => hFc q h) hFc (fun ur_1 t H1 locs ht hvm hw hB hz1 hk1 hS => ?_)
  try dsimp only at hw
  have jr_1 := hw
  obtain ⟨hP1, hK1, hD1⟩ := hB
  rw [ht] at hP1
  have hK1 := va_K.moved hvm.symm hK1
  obtain ⟨hP, hD⟩ := va_join (wr := []) (w1 := [(h0, .inr (6, [f0, .int p0, .int p1, f3, f4, f5, f6]))]) hP hD [0] [] rfl rfl (by decide) (by decide) hk1 hFc hP1 hD1
  clear hk1 hz1 ht hPc hDc hKc hFc
  generalize H1 = H at hP hS ⊢
  replace hP : va_P (dC, dI) vwCl [(h0, .inr (6, [f0, .int p0, .int p1, f3, f4, f5, f6]))] H := hP
  replace hD : va_D A [(h0, .inr (6, [f0, .int p0, .int p1, f3, f4, f5, f6]))] := hD
  refine W.widen (k := 0) (n := 0) (Nat.le_of_ble_eq_true rfl) (Nat.le_of_ble_eq_true rfl) ?_
  refine W.eq (g2 := F0 m 6 ls []) rfl ?_
  refine lv_aload_n hx hb dX3_init_6 rfl (lv_at hl 0 rfl) ?_
  refine lv_aload_n hx hb dX3_init_7 rfl (lv_at hl 3 rfl) ?_
  refine va_putF (D := (dC, dI)) (ci := 6) (v := .ref p2) (ty := .object "KeyAtlas$Rows") (C := RX6) (T := TX6) (N := 7) hx hb hts hi0_ tyX6 tyX6_ok nmX6 hown hK hP hD hS 0 rfl rfl 0 (by decide) hw3_ (fun _ h9 => h9) rfl hin rfl (by decide +kernel) rfl rfl (Nat.le_of_ble_eq_true rfl) dX3_init_8 (fun H locs hP hD hS => ?_)
  replace hP : va_P (dC, dI) vwCl [(h0, .inr (6, [.ref p2, .int p0, .int p1, f3, f4, f5, f6]))] H := hP
  replace hD : va_D A [(h0, .inr (6, [.ref p2, .int p0, .int p1, f3, f4, f5, f6]))] := hD
  have hP9 := hP.sub (ws' := [(h0, .inr (6, [.ref p2, .int p0, .int p1, f3, f4, f5, f6]))]) [0] rfl
  have hD9 := hD.sub (ws' := [(h0, .inr (6, [.ref p2, .int p0, .int p1, f3, f4, f5, f6]))]) [0] (by decide) rfl
  have hK9 := hK.sub (tys' := []) [] rfl
  refine W.widen (k := 0) (n := 0) (Nat.le_of_ble_eq_true rfl) (Nat.le_of_ble_eq_true rfl) ?_
  exact W.vret hx hb hr (fun t ht hW => ⟨⟨(), rfl, trivial, by rw [ht]; exact hP9, va_K.moved hW.alike hK9, hD9⟩, hS.F ht⟩) hS.2.2 dX3_init_11
set_option maxHeartbeats 4000000 in
set_option maxRecDepth 100000 in
/-- Rows() -/
theorem c_X5_init (l : Launch) (dC : Nat → ClassId) (dI : Nat → Nat → Nat) (sz : Nat) (x0 : Nat) : Met l yX5_init wsX5_init ({ frames := 1, cells := 2, slots := 32, locals := 16 }) (va_Pc [.ref x0] (pk_Pre (dC, dI) [(x0, .inr (5, [.null, .null, .int 0, .int 0]))] [] sz)) (va_Qv (fun (_ : Nat × Nat × ClassId × ClassId) => True) (fun (u : Nat × Nat × ClassId × ClassId) (t : State) => va_P (dC, dI) vwCl [(x0, .inr (5, [.ref u.1, .ref u.2.1, .int (nI 0), .int 0])), (u.1, .inl (u.2.2.1, 16, .inl (fun _ => (0 : Int32)))), (u.2.1, .inl (u.2.2.2, 16, .inl (fun _ => (0 : Int32))))] t.heap ∧ va_K (dC, dI) vwCl [(u.2.2.1, .int), (u.2.2.2, .int)] t ∧ va_D (va_A [(x0, .inr (5, [.null, .null, .int 0, .int 0]))] sz) [(x0, .inr (5, [.ref u.1, .ref u.2.1, .int (nI 0), .int 0])), (u.1, .inl (u.2.2.1, 16, .inl (fun _ => (0 : Int32)))), (u.2.1, .inl (u.2.2.2, 16, .inl (fun _ => (0 : Int32))))]) (va_A [(x0, .inr (5, [.null, .null, .int 0, .int 0]))] sz)) 2 32 (va_A [(x0, .inr (5, [.null, .null, .int 0, .int 0]))] sz) := by
  refine Met.ofW (cc := cX5_init) (maxL := 1) (ret := none) (by decide) rfl ?_
  intro p e s m args below meth c s₁ B hml hv
  obtain ⟨rfl, hsz, hP, hK, hD0⟩ := hv
  have hx := B.exec
  have hb := B.bytes
  have hr := B.returns
  have hts := atoms_spec (ws := wsX5_init) B.pre
  have hown : s.vm.findClass RX5 = some m.cls := findClass_of_methodNamed B.named
  have hlocks := B.notSynchronized
  have hin : meth.name = "<init>" := (name_of_methodNamed B.named B.method).1
  subst hsz
  have hD := hD0.self (sz := s.heap.size)
  generalize hAe : va_A [(x0, .inr (5, [.null, .null, .int 0, .int 0]))] s.heap.size = A at hD ⊢
  have hA : ∀ q : Nat, s.heap.size ≤ q → A q := fun q h => by rw [← hAe]; exact Or.inr h
  have hS : va_S A s.heap s.heap [] := va_S.rf
  have hP : va_P (dC, dI) vwCl [(x0, .inr (5, [.null, .null, .int 0, .int 0]))] s.heap := hP
  have hl := lv_entry ([.ref x0]) (n := 1) (Nat.le_of_ble_eq_true rfl)
  rw [lg_entry_eq]
  generalize (lg_sl ([.ref x0]) ++ List.replicate (1 - (lg_sl ([.ref x0])).length) Slot.unset).toArray = ls at hl ⊢
  have hl : lv_has ls 1 [(0, .ref x0)] := hl
  have hw0_ := hts (.methodLink RX5 3 objectInit) (List.mem_of_getElem? (l := wsX5_init) (i := 1) rfl)
  have hw1_ := hts (.instanceMethod objectInit) (List.mem_of_getElem? (l := wsX5_init) (i := 2) rfl)
  have hw2_ := hts (.arrayClass .int) (List.mem_of_getElem? (l := wsX5_init) (i := 4) rfl)
  have hw3_ := hts (.fieldLink RX5 9 "KeyAtlas$Rows" "keys" "[I") (List.mem_of_getElem? (l := wsX5_init) (i := 5) rfl)
  have hw4_ := hts (.fieldLink RX5 15 "KeyAtlas$Rows" "values" "[I") (List.mem_of_getElem? (l := wsX5_init) (i := 6) rfl)
  have hi0_ : ∀ w ∈ u_ws RX5 TX5 4, w ∈ wsX5_init := fun w h => List.mem_cons_of_mem _ (List.mem_append_right _ h)
  refine lv_aload_n hx hb dX5_init_0 rfl (lv_at hl 0 rfl) ?_
  refine W.objInit hx hb hown hw0_ hw1_ (hts _ (List.mem_cons_of_mem _ (List.mem_append_left _ (List.mem_of_getElem? (i := 2) rfl)))) rfl (by rw [hml]; exact hl.1) rfl dX5_init_1 (Nat.le_of_ble_eq_true rfl) (Nat.le_of_ble_eq_true rfl) ?_
  refine W.eq (g2 := F0 m 4 ls []) rfl ?_
  refine lv_aload_n hx hb dX5_init_4 rfl (lv_at hl 0 rfl) ?_
  refine lv_bipush (v := 16) hx hb dX5_init_5 (by decide) ?_
  refine va_newa (atype := .int) (ty := .int) (n := 16) (N' := 16) (a0 := (16, .inl (fun _ => (0 : Int32)))) hx hb hw2_ rfl hK hP hD hS hA (fun _ => rfl) (by decide) (by decide) (by decide) (Nat.le_of_ble_eq_true rfl) (Nat.le_of_ble_eq_true rfl) dX5_init_7 (fun q_1 cA_2 H hK hP hD hS => ?_)
  have hK : va_K (dC, dI) vwCl [(cA_2, .int)] s := hK
  replace hP : va_P (dC, dI) vwCl [(x0, .inr (5, [.null, .null, .int 0, .int 0])), (q_1, .inl (cA_2, 16, .inl (fun _ => (0 : Int32))))] H := hP
  replace hD : va_D A [(x0, .inr (5, [.null, .null, .int 0, .int 0])), (q_1, .inl (cA_2, 16, .inl (fun _ => (0 : Int32))))] := hD
  refine W.widen (k := 1) (n := 16) (Nat.le_of_ble_eq_true rfl) (Nat.le_of_ble_eq_true rfl) ?_
  refine va_put (D := (dC, dI)) (ci := 5) (v := .ref q_1) (ty := .array .int) (C := RX5) (T := TX5) (N := 4) hx hb hts hi0_ tyX5 tyX5_ok nmX5 hown hK hP hD hS 0 rfl rfl 0 (by decide) hw3_ (fun _ h9 => h9) rfl (by decide +kernel) rfl rfl (Nat.le_of_ble_eq_true rfl) dX5_init_9 (fun H locs hP hD hS => ?_)
  replace hP : va_P (dC, dI) vwCl [(x0, .inr (5, [.ref q_1, .null, .int 0, .int 0])), (q_1, .inl (cA_2, 16, .inl (fun _ => (0 : Int32))))] H := hP
  replace hD : va_D A [(x0, .inr (5, [.ref q_1, .null, .int 0, .int 0])), (q_1, .inl (cA_2, 16, .inl (fun _ => (0 : Int32))))] := hD
  refine lv_aload_n hx hb dX5_init_12 rfl (lv_at hl 0 rfl) ?_
  refine lv_bipush (v := 16) hx hb dX5_init_13 (by decide) ?_
  have hS0_ := hS
  clear hS
  refine va_newa (atype := .int) (ty := .int) (n := 16) (N' := 16) (a0 := (16, .inl (fun _ => (0 : Int32)))) hx hb hw2_ rfl hK hP hD hS0_ hA (fun _ => rfl) (by decide) (by decide) (by decide) (Nat.le_of_ble_eq_true rfl) (Nat.le_of_ble_eq_true rfl) dX5_init_15 (fun q_3 cA_4 H hK hP hD hS => ?_)
  clear hS0_
  have hK : va_K (dC, dI) vwCl [(cA_2, .int), (cA_4, .int)] s := hK
  replace hP : va_P (dC, dI) vwCl [(x0, .inr (5, [.ref q_1, .null, .int 0, .int 0])), (q_1, .inl (cA_2, 16, .inl (fun _ => (0 : Int32)))), (q_3, .inl (cA_4, 16, .inl (fun _ => (0 : Int32))))] H := hP
  replace hD : va_D A [(x0, .inr (5, [.ref q_1, .null, .int 0, .int 0])), (q_1, .inl (cA_2, 16, .inl (fun _ => (0 : Int32)))), (q_3, .inl (cA_4, 16, .inl (fun _ => (0 : Int32))))] := hD
  refine W.widen (k := 2) (n := 32) (Nat.le_of_ble_eq_true rfl) (Nat.le_of_ble_eq_true rfl) ?_
  refine va_put (D := (dC, dI)) (ci := 5) (v := .ref q_3) (ty := .array .int) (C := RX5) (T := TX5) (N := 4) hx hb hts hi0_ tyX5 tyX5_ok nmX5 hown hK hP hD hS 0 rfl rfl 1 (by decide) hw4_ (fun _ h9 => h9) rfl (by decide +kernel) rfl rfl (Nat.le_of_ble_eq_true rfl) dX5_init_17 (fun H locs hP hD hS => ?_)
  replace hP : va_P (dC, dI) vwCl [(x0, .inr (5, [.ref q_1, .ref q_3, .int 0, .int 0])), (q_1, .inl (cA_2, 16, .inl (fun _ => (0 : Int32)))), (q_3, .inl (cA_4, 16, .inl (fun _ => (0 : Int32))))] H := hP
  replace hD : va_D A [(x0, .inr (5, [.ref q_1, .ref q_3, .int 0, .int 0])), (q_1, .inl (cA_2, 16, .inl (fun _ => (0 : Int32)))), (q_3, .inl (cA_4, 16, .inl (fun _ => (0 : Int32))))] := hD
  have hP9 := hP.sub (ws' := [(x0, .inr (5, [.ref q_1, .ref q_3, .int 0, .int 0])), (q_1, .inl (cA_2, 16, .inl (fun _ => (0 : Int32)))), (q_3, .inl (cA_4, 16, .inl (fun _ => (0 : Int32))))]) [0, 1, 2] rfl
  have hD9 := hD.sub (ws' := [(x0, .inr (5, [.ref q_1, .ref q_3, .int 0, .int 0])), (q_1, .inl (cA_2, 16, .inl (fun _ => (0 : Int32)))), (q_3, .inl (cA_4, 16, .inl (fun _ => (0 : Int32))))]) [0, 1, 2] (by decide) rfl
  have hK9 := hK.sub (tys' := [(cA_2, .int), (cA_4, .int)]) [0, 1] rfl
  refine W.widen (k := 2) (n := 32) (Nat.le_of_ble_eq_true rfl) (Nat.le_of_ble_eq_true rfl) ?_
  exact W.vret hx hb hr (fun t ht hW => ⟨⟨(q_1, q_3, cA_2, cA_4), rfl, trivial, by rw [ht]; exact hP9, va_K.moved hW.alike hK9, hD9⟩, hS.F ht⟩) hS.2.2 dX5_init_20
set_option maxHeartbeats 4000000 in
set_option maxRecDepth 100000 in
/-- the constructor of X2 -/
theorem c_X2_init (l : Launch) (hlt : l.stackTraces = false) (dC : Nat → ClassId) (dI : Nat → Nat → Nat) (sz : Nat) (y0 : Nat) (cap : Nat) (p1 : Int32) : Met l yX2_init wsX2_init ({ frames := 3, cells := 4, slots := 36, locals := 64 }) (va_Pc [.ref y0, .int (nI cap), .int p1] (pk_PreX (dC, dI) [(y0, .inr (3, [.null, .int 0, .int 0, .int 0, .int 0, .int 0, .null]))] [] sz)) (va_Qv (fun (_ : Nat × Nat × Nat × ClassId × ClassId × Nat × ClassId) => True) (fun (u : Nat × Nat × Nat × ClassId × ClassId × Nat × ClassId) (t : State) => va_P (dC, dI) vwCl [(y0, .inr (3, [.ref u.1, .int 0, .int (-1), .int (nI cap), .int p1, .int (nI 0), .ref u.2.2.2.2.2.1])), (u.1, .inr (5, [.ref u.2.1, .ref u.2.2.1, .int (nI 0), .int 0])), (u.2.1, .inl (u.2.2.2.1, 16, .inl (fun _ => (0 : Int32)))), (u.2.2.1, .inl (u.2.2.2.2.1, 16, .inl (fun _ => (0 : Int32)))), (u.2.2.2.2.2.1, .inl (u.2.2.2.2.2.2, 0, .inl (fun _ => (0 : Int32))))] t.heap ∧ va_K (dC, dI) vwCl [(u.2.2.2.1, .int), (u.2.2.2.2.1, .int), (u.2.2.2.2.2.2, .boolean)] t ∧ va_D (va_A [(y0, .inr (3, [.null, .int 0, .int 0, .int 0, .int 0, .int 0, .null]))] sz) [(y0, .inr (3, [.ref u.1, .int 0, .int (-1), .int (nI cap), .int p1, .int (nI 0), .ref u.2.2.2.2.2.1])), (u.1, .inr (5, [.ref u.2.1, .ref u.2.2.1, .int (nI 0), .int 0])), (u.2.1, .inl (u.2.2.2.1, 16, .inl (fun _ => (0 : Int32)))), (u.2.2.1, .inl (u.2.2.2.2.1, 16, .inl (fun _ => (0 : Int32)))), (u.2.2.2.2.2.1, .inl (u.2.2.2.2.2.2, 0, .inl (fun _ => (0 : Int32))))]) (va_A [(y0, .inr (3, [.null, .int 0, .int 0, .int 0, .int 0, .int 0, .null]))] sz)) 4 36 (va_A [(y0, .inr (3, [.null, .int 0, .int 0, .int 0, .int 0, .int 0, .null]))] sz) := by
  refine Met.ofW (cc := cX2_init) (maxL := 3) (ret := none) (by decide) rfl ?_
  intro p e s m args below meth c s₁ B hml hv
  obtain ⟨rfl, hsz, hP, hK, hD0, hN, hZ⟩ := hv
  have hx := B.exec
  have hb := B.bytes
  have hr := B.returns
  have hts := atoms_spec (ws := wsX2_init) B.pre
  have hown : s.vm.findClass RX2 = some m.cls := findClass_of_methodNamed B.named
  have hlocks := B.notSynchronized
  have hin : meth.name = "<init>" := (name_of_methodNamed B.named B.method).1
  subst hsz
  have hD := hD0.self (sz := s.heap.size)
  generalize hAe : va_A [(y0, .inr (3, [.null, .int 0, .int 0, .int 0, .int 0, .int 0, .null]))] s.heap.size = A at hZ hD ⊢
  have hA : ∀ q : Nat, s.heap.size ≤ q → A q := fun q h => by rw [← hAe]; exact Or.inr h
  have hS : va_S A s.heap s.heap [] := va_S.rf
  have hP : va_P (dC, dI) vwCl [(y0, .inr (3, [.null, .int 0, .int 0, .int 0, .int 0, .int 0, .null]))] s.heap := hP
  have hl := lv_entry ([.ref y0, .int (nI cap), .int p1]) (n := 3) (Nat.le_of_ble_eq_true rfl)
  rw [lg_entry_eq]
  generalize (lg_sl ([.ref y0, .int (nI cap), .int p1]) ++ List.replicate (3 - (lg_sl ([.ref y0, .int (nI cap), .int p1])).length) Slot.unset).toArray = ls at hl ⊢
  have hl : lv_has ls 3 [(0, .ref y0), (1, .int (nI cap)), (2, .int p1)] := hl
  have hw0_ := hts (.classLink RX2 3 RX5) (List.mem_of_getElem? (l := wsX2_init) (i := 1) rfl)
  have hw1_ := hts (.instantiable RX5 4) (List.mem_of_getElem? (l := wsX2_init) (i := 2) rfl)
  have hw2_ := hts (.initialized RX5) (List.mem_of_getElem? (l := wsX2_init) (i := 3) rfl)
  have hw3_ := hts (.initialized RX3) (List.mem_of_getElem? (l := wsX2_init) (i := 18) rfl)
  have hw4_ := hts (.methodLink RX2 9 yX3_init) (List.mem_of_getElem? (l := wsX2_init) (i := 16) rfl)
  have hw5_ := hts (.instanceMethod yX3_init) (List.mem_of_getElem? (l := wsX2_init) (i := 17) rfl)
  have hw6_ := hts (.arrayClass .boolean) (List.mem_of_getElem? (l := wsX2_init) (i := 4) rfl)
  have hw7_ := hts (.fieldLink RX2 14 "KeyAtlas$Hash" "bushy" "[Z") (List.mem_of_getElem? (l := wsX2_init) (i := 5) rfl)
  have hw8_ := hts (.fieldLink RX2 20 "KeyAtlas$Hash" "capacity" "I") (List.mem_of_getElem? (l := wsX2_init) (i := 6) rfl)
  have hw9_ := hts (.fieldLink RX2 24 "KeyAtlas$Hash" "rule" "I") (List.mem_of_getElem? (l := wsX2_init) (i := 7) rfl)
  have hi0_ : ∀ w ∈ u_ws RX5 TX5 4, w ∈ wsX2_init := fun w h => List.mem_cons_of_mem _ (List.mem_append_left _ (List.mem_append_left _ (List.mem_append_left _ (List.mem_append_left _ (List.mem_append_right _ h)))))
  have hi1_ : ∀ w ∈ u_ws RX2 TX2 7, w ∈ wsX2_init := fun w h => List.mem_cons_of_mem _ (List.mem_append_left _ (List.mem_append_left _ (List.mem_append_left _ (List.mem_append_right _ h))))
  refine lv_aload_n hx hb dX2_init_0 rfl (lv_at hl 0 rfl) ?_
  refine lv_iconst (v := 0) hx hb dX2_init_1 (by decide) ?_
  refine lv_iconst (v := (-1)) hx hb dX2_init_2 (by decide) ?_
  refine va_new (ci := 5) (fs := [.null, .null, .int 0, .int 0]) (C := RX5) (T := TX5) (N := 4) hx hb hts hi0_ tyX5 tyX5_ok hown hw0_ hw1_ hw2_ hK hP hD hS hA rfl (by decide +kernel) (Nat.le_of_ble_eq_true rfl) (Nat.le_of_ble_eq_true rfl) dX2_init_3 (fun q_1 H hP hD hS => ?_)
  replace hP : va_P (dC, dI) vwCl [(y0, .inr (3, [.null, .int 0, .int 0, .int 0, .int 0, .int 0, .null])), (q_1, .inr (5, [.null, .null, .int 0, .int 0]))] H := hP
  replace hD : va_D A [(y0, .inr (3, [.null, .int 0, .int 0, .int 0, .int 0, .int 0, .null])), (q_1, .inr (5, [.null, .null, .int 0, .int 0]))] := hD
  refine W.widen (k := 1) (n := 4) (Nat.le_of_ble_eq_true rfl) (Nat.le_of_ble_eq_true rfl) ?_
  refine lv_dup hx hb dX2_init_6 rfl ?_
  have hPc := hP.sub (ws' := [(q_1, .inr (5, [.null, .null, .int 0, .int 0]))]) [1] rfl
  have hDc := hD.sub (ws' := [(q_1, .inr (5, [.null, .null, .int 0, .int 0]))]) [1] (by decide) rfl
  have hKc := hK.sub (tys' := []) [] rfl
  have hFc := va_free (wc := [(q_1, .inr (5, [.null, .null, .int 0, .int 0]))]) hD hS hA [1] rfl
  refine va_callv (va_runIN (As := []) (rest := [.ref q_1, .int (-1), .int 0, .ref y0]) ⟨hx, hb, hml, hown, hts⟩ (c_X5_init l  dC dI H.size q_1) ⟨va_cnB 0 hts gX2_init_X5_init_n5 rfl rfl rfl hN.n2 hw2_ (by decide +kernel) ⟨(Nat.le_of_ble_eq_true rfl), (Nat.le_of_ble_eq_true rfl)⟩, rfl, hts (.instanceMethod yX5_init) (by decide +kernel)⟩ ⟨pk_blind, pk_call hPc hKc hDc⟩ rfl rfl hl.1 rfl (lv_room (Nat.le_of_ble_eq_true rfl)) dX2_init_7 ⟨(Nat.le_of_ble_eq_true rfl), (Nat.le_of_ble_eq_true rfl)⟩) hS (fun q _ h => hFc q h) hFc (fun ur_2 t H1 locs ht hvm hw hB hz1 hk1 hS => ?_)
  try dsimp only at hw
  have jr_2 := hw
  obtain ⟨hP1, hK1, hD1⟩ := hB
  rw [ht] at hP1
  have hK1 := va_K.moved hvm.symm hK1
  obtain ⟨hP, hD⟩ := va_join (wr := [(y0, .inr (3, [.null, .int 0, .int 0, .int 0, .int 0, .int 0, .null]))]) (w1 := [(q_1, .inr (5, [.ref ur_2.1, .ref ur_2.2.1, .int (nI 0), .int 0])), (ur_2.1, .inl (ur_2.2.2.1, 16, .inl (fun _ => (0 : Int32)))), (ur_2.2.1, .inl (ur_2.2.2.2, 16, .inl (fun _ => (0 : Int32))))]) hP hD [1] [0] rfl rfl (by decide) (by decide) hk1 hFc hP1 hD1
  have hK := hK.app hK1
  have hK : va_K (dC, dI) vwCl [(ur_2.2.2.1, .int), (ur_2.2.2.2, .int)] s := hK
  clear hk1 hz1 ht hPc hDc hKc hFc
  generalize H1 = H at hP hS ⊢
  replace hP : va_P (dC, dI) vwCl [(y0, .inr (3, [.null, .int 0, .int 0, .int 0, .int 0, .int 0, .null])), (q_1, .inr (5, [.ref ur_2.1, .ref ur_2.2.1, .int (nI 0), .int 0])), (ur_2.1, .inl (ur_2.2.2.1, 16, .inl (fun _ => (0 : Int32)))), (ur_2.2.1, .inl (ur_2.2.2.2, 16, .inl (fun _ => (0 : Int32))))] H := hP
  replace hD : va_D A [(y0, .inr (3, [.null, .int 0, .int 0, .int 0, .int 0, .int 0, .null])), (q_1, .inr (5, [.ref ur_2.1, .ref ur_2.2.1, .int (nI 0), .int 0])), (ur_2.1, .inl (ur_2.2.2.1, 16, .inl (fun _ => (0 : Int32)))), (ur_2.2.1, .inl (ur_2.2.2.2, 16, .inl (fun _ => (0 : Int32))))] := hD
  refine W.widen (k := 3) (n := 36) (Nat.le_of_ble_eq_true rfl) (Nat.le_of_ble_eq_true rfl) ?_
  refine W.eq (g2 := F0 m 10 ls [.ref q_1, .int (-1), .int 0, .ref y0]) rfl ?_
  have hPc := hP.sub (ws' := [(y0, .inr (3, [.null, .int 0, .int 0, .int 0, .int 0, .int 0, .null]))]) [0] rfl
  have hDc := hD.sub (ws' := [(y0, .inr (3, [.null, .int 0, .int 0, .int 0, .int 0, .int 0, .null]))]) [0] (by decide) rfl
  have hKc := hK.sub (tys' := []) [] rfl
  have hFc := va_free (wc := [(y0, .inr (3, [.null, .int 0, .int 0, .int 0, .int 0, .int 0, .null]))]) hD hS hA [0] rfl
  refine va_callv (va_runI (As := [.int 0, .int (-1), .ref q_1]) (rest := []) ⟨hx, hb, hml, hown, hts⟩ (c_X3_init_X2 l  dC dI H.size y0 0 (-1) q_1 .null (.int 0) (.int 0) (.int 0) (.int 0) (.int 0) .null) (cwI 3 hts gX2_init_X3_init rfl rfl rfl hw3_ hw4_ hw5_ rfl (by decide +kernel) ⟨(Nat.le_of_ble_eq_true rfl), (Nat.le_of_ble_eq_true rfl)⟩) ⟨pk_blind, pk_call hPc hKc hDc⟩ rfl rfl hl.1 rfl (lv_room (Nat.le_of_ble_eq_true rfl)) dX2_init_10 ⟨(Nat.le_of_ble_eq_true rfl), (Nat.le_of_ble_eq_true rfl)⟩) hS (fun q _ h => hFc q h) hFc (fun ur_3 t H1 locs ht hvm hw hB hz1 hk1 hS => ?_)
  try dsimp only at hw
  have jr_3 := hw
  obtain ⟨hP1, hK1, hD1⟩ := hB
  rw [ht] at hP1
  have hK1 := va_K.moved hvm.symm hK1
  obtain ⟨hP, hD⟩ := va_join (wr := [(q_1, .inr (5, [.ref ur_2.1, .ref ur_2.2.1, .int (nI 0), .int 0])), (ur_2.1, .inl (ur_2.2.2.1, 16, .inl (fun _ => (0 : Int32)))), (ur_2.2.1, .inl (ur_2.2.2.2, 16, .inl (fun _ => (0 : Int32))))]) (w1 := [(y0, .inr (3, [.ref q_1, .int 0, .int (-1), .int 0, .int 0, .int 0, .null]))]) hP hD [0] [1, 2, 3] rfl rfl (by decide) (by decide) hk1 hFc hP1 hD1
  clear hk1 hz1 ht hPc hDc hKc hFc
  generalize H1 = H at hP hS ⊢
  replace hP : va_P (dC, dI) vwCl [(q_1, .inr (5, [.ref ur_2.1, .ref ur_2.2.1, .int (nI 0), .int 0])), (ur_2.1, .inl (ur_2.2.2.1, 16, .inl (fun _ => (0 : Int32)))), (ur_2.2.1, .inl (ur_2.2.2.2, 16, .inl (fun _ => (0 : Int32)))), (y0, .inr (3, [.ref q_1, .int 0, .int (-1), .int 0, .int 0, .int 0, .null]))] H := hP
  replace hD : va_D A [(q_1, .inr (5, [.ref ur_2.1, .ref ur_2.2.1, .int (nI 0), .int 0])), (ur_2.1, .inl (ur_2.2.2.1, 16, .inl (fun _ => (0 : Int32)))), (ur_2.2.1, .inl (ur_2.2.2.2, 16, .inl (fun _ => (0 : Int32)))), (y0, .inr (3, [.ref q_1, .int 0, .int (-1), .int 0, .int 0, .int 0, .null]))] := hD
  refine W.widen (k := 3) (n := 36) (Nat.le_of_ble_eq_true rfl) (Nat.le_of_ble_eq_true rfl) ?_
  refine W.eq (g2 := F0 m 13 ls []) rfl ?_
  refine lv_aload_n hx hb dX2_init_13 rfl (lv_at hl 0 rfl) ?_
  refine lv_iconst (v := 0) hx hb dX2_init_14 (by decide) ?_
  have hS0_ := hS
  clear hS
  refine va_newa (atype := .boolean) (ty := .boolean) (n := 0) (N' := 0) (a0 := (0, .inl (fun _ => (0 : Int32)))) hx hb hw6_ rfl hK hP hD hS0_ hA (fun _ => rfl) (by decide) (by decide) (by decide) (Nat.le_of_ble_eq_true rfl) (Nat.le_of_ble_eq_true rfl) dX2_init_15 (fun q_4 cA_5 H hK hP hD hS => ?_)
  clear hS0_
  have hK : va_K (dC, dI) vwCl [(ur_2.2.2.1, .int), (ur_2.2.2.2, .int), (cA_5, .boolean)] s := hK
  replace hP : va_P (dC, dI) vwCl [(q_1, .inr (5, [.ref ur_2.1, .ref ur_2.2.1, .int (nI 0), .int 0])), (ur_2.1, .inl (ur_2.2.2.1, 16, .inl (fun _ => (0 : Int32)))), (ur_2.2.1, .inl (ur_2.2.2.2, 16, .inl (fun _ => (0 : Int32)))), (y0, .inr (3, [.ref q_1, .int 0, .int (-1), .int 0, .int 0, .int 0, .null])), (q_4, .inl (cA_5, 0, .inl (fun _ => (0 : Int32))))] H := hP
  replace hD : va_D A [(q_1, .inr (5, [.ref ur_2.1, .ref ur_2.2.1, .int (nI 0), .int 0])), (ur_2.1, .inl (ur_2.2.2.1, 16, .inl (fun _ => (0 : Int32)))), (ur_2.2.1, .inl (ur_2.2.2.2, 16, .inl (fun _ => (0 : Int32)))), (y0, .inr (3, [.ref q_1, .int 0, .int (-1), .int 0, .int 0, .int 0, .null])), (q_4, .inl (cA_5, 0, .inl (fun _ => (0 : Int32))))] := hD
  refine W.widen (k := 4) (n := 36) (Nat.le_of_ble_eq_true rfl) (Nat.le_of_ble_eq_true rfl) ?_
  refine va_put (D := (dC, dI)) (ci := 3) (v := .ref q_4) (ty := .array .boolean) (C := RX2) (T := TX2) (N := 7) hx hb hts hi1_ tyX2 tyX2_ok nmX2 hown hK hP hD hS 3 rfl rfl 6 (by decide) hw7_ (fun _ h9 => h9) rfl (by decide +kernel) rfl rfl (Nat.le_of_ble_eq_true rfl) dX2_init_17 (fun H locs hP hD hS => ?_)
  replace hP : va_P (dC, dI) vwCl [(q_1, .inr (5, [.ref ur_2.1, .ref ur_2.2.1, .int (nI 0), .int 0])), (ur_2.1, .inl (ur_2.2.2.1, 16, .inl (fun _ => (0 : Int32)))), (ur_2.2.1, .inl (ur_2.2.2.2, 16, .inl (fun _ => (0 : Int32)))), (y0, .inr (3, [.ref q_1, .int 0, .int (-1), .int 0, .int 0, .int 0, .ref q_4])), (q_4, .inl (cA_5, 0, .inl (fun _ => (0 : Int32))))] H := hP
  replace hD : va_D A [(q_1, .inr (5, [.ref ur_2.1, .ref ur_2.2.1, .int (nI 0), .int 0])), (ur_2.1, .inl (ur_2.2.2.1, 16, .inl (fun _ => (0 : Int32)))), (ur_2.2.1, .inl (ur_2.2.2.2, 16, .inl (fun _ => (0 : Int32)))), (y0, .inr (3, [.ref q_1, .int 0, .int (-1), .int 0, .int 0, .int 0, .ref q_4])), (q_4, .inl (cA_5, 0, .inl (fun _ => (0 : Int32))))] := hD
  refine lv_aload_n hx hb dX2_init_20 rfl (lv_at hl 0 rfl) ?_
  refine lv_iload_n hx hb dX2_init_21 rfl (lv_at hl 1 rfl) ?_
  refine va_putF (D := (dC, dI)) (ci := 3) (v := .int (nI cap)) (ty := .int) (C := RX2) (T := TX2) (N := 7) hx hb hts hi1_ tyX2 tyX2_ok nmX2 hown hK hP hD hS 3 rfl rfl 3 (by decide) hw8_ (fun _ h9 => h9) rfl hin rfl (by decide +kernel) rfl rfl (Nat.le_of_ble_eq_true rfl) dX2_init_22 (fun H locs hP hD hS => ?_)
  replace hP : va_P (dC, dI) vwCl [(q_1, .inr (5, [.ref ur_2.1, .ref ur_2.2.1, .int (nI 0), .int 0])), (ur_2.1, .inl (ur_2.2.2.1, 16, .inl (fun _ => (0 : Int32)))), (ur_2.2.1, .inl (ur_2.2.2.2, 16, .inl (fun _ => (0 : Int32)))), (y0, .inr (3, [.ref q_1, .int 0, .int (-1), .int (nI cap), .int 0, .int 0, .ref q_4])), (q_4, .inl (cA_5, 0, .inl (fun _ => (0 : Int32))))] H := hP
  replace hD : va_D A [(q_1, .inr (5, [.ref ur_2.1, .ref ur_2.2.1, .int (nI 0), .int 0])), (ur_2.1, .inl (ur_2.2.2.1, 16, .inl (fun _ => (0 : Int32)))), (ur_2.2.1, .inl (ur_2.2.2.2, 16, .inl (fun _ => (0 : Int32)))), (y0, .inr (3, [.ref q_1, .int 0, .int (-1), .int (nI cap), .int 0, .int 0, .ref q_4])), (q_4, .inl (cA_5, 0, .inl (fun _ => (0 : Int32))))] := hD
  refine lv_aload_n hx hb dX2_init_25 rfl (lv_at hl 0 rfl) ?_
  refine lv_iload_n hx hb dX2_init_26 rfl (lv_at hl 2 rfl) ?_
  refine va_putF (D := (dC, dI)) (ci := 3) (v := .int p1) (ty := .int) (C := RX2) (T := TX2) (N := 7) hx hb hts hi1_ tyX2 tyX2_ok nmX2 hown hK hP hD hS 3 rfl rfl 4 (by decide) hw9_ (fun _ h9 => h9) rfl hin rfl (by decide +kernel) rfl rfl (Nat.le_of_ble_eq_true rfl) dX2_init_27 (fun H locs hP hD hS => ?_)
  replace hP : va_P (dC, dI) vwCl [(q_1, .inr (5, [.ref ur_2.1, .ref ur_2.2.1, .int (nI 0), .int 0])), (ur_2.1, .inl (ur_2.2.2.1, 16, .inl (fun _ => (0 : Int32)))), (ur_2.2.1, .inl (ur_2.2.2.2, 16, .inl (fun _ => (0 : Int32)))), (y0, .inr (3, [.ref q_1, .int 0, .int (-1), .int (nI cap), .int p1, .int 0, .ref q_4])), (q_4, .inl (cA_5, 0, .inl (fun _ => (0 : Int32))))] H := hP
  replace hD : va_D A [(q_1, .inr (5, [.ref ur_2.1, .ref ur_2.2.1, .int (nI 0), .int 0])), (ur_2.1, .inl (ur_2.2.2.1, 16, .inl (fun _ => (0 : Int32)))), (ur_2.2.1, .inl (ur_2.2.2.2, 16, .inl (fun _ => (0 : Int32)))), (y0, .inr (3, [.ref q_1, .int 0, .int (-1), .int (nI cap), .int p1, .int 0, .ref q_4])), (q_4, .inl (cA_5, 0, .inl (fun _ => (0 : Int32))))] := hD
  have hP9 := hP.sub (ws' := [(y0, .inr (3, [.ref q_1, .int 0, .int (-1), .int (nI cap), .int p1, .int 0, .ref q_4])), (q_1, .inr (5, [.ref ur_2.1, .ref ur_2.2.1, .int (nI 0), .int 0])), (ur_2.1, .inl (ur_2.2.2.1, 16, .inl (fun _ => (0 : Int32)))), (ur_2.2.1, .inl (ur_2.2.2.2, 16, .inl (fun _ => (0 : Int32)))), (q_4, .inl (cA_5, 0, .inl (fun _ => (0 : Int32))))]) [3, 0, 1, 2, 4] rfl
  have hD9 := hD.sub (ws' := [(y0, .inr (3, [.ref q_1, .int 0, .int (-1), .int (nI cap), .int p1, .int 0, .ref q_4])), (q_1, .inr (5, [.ref ur_2.1, .ref ur_2.2.1, .int (nI 0), .int 0])), (ur_2.1, .inl (ur_2.2.2.1, 16, .inl (fun _ => (0 : Int32)))), (ur_2.2.1, .inl (ur_2.2.2.2, 16, .inl (fun _ => (0 : Int32)))), (q_4, .inl (cA_5, 0, .inl (fun _ => (0 : Int32))))]) [3, 0, 1, 2, 4] (by decide) rfl
  have hK9 := hK.sub (tys' := [(ur_2.2.2.1, .int), (ur_2.2.2.2, .int), (cA_5, .boolean)]) [0, 1, 2] rfl
  refine W.widen (k := 4) (n := 36) (Nat.le_of_ble_eq_true rfl) (Nat.le_of_ble_eq_true rfl) ?_
  exact W.vret hx hb hr (fun t ht hW => ⟨⟨(q_1, ur_2.1, ur_2.2.1, ur_2.2.2.1, ur_2.2.2.2, q_4, cA_5), rfl, trivial, by rw [ht]; exact hP9, va_K.moved hW.alike hK9, hD9⟩, hS.F ht⟩) hS.2.2 dX2_init_30
set_option maxHeartbeats 4000000 in
set_option maxRecDepth 100000 in
/-- the constructor of X4 -/
theorem c_X4_init (l : Launch) (hlt : l.stackTraces = false) (dC : Nat → ClassId) (dI : Nat → Nat → Nat) (sz : Nat) (y0 : Nat) (lim : Nat) (p1 : Int32) (hz : p1 = 0 ∨ p1 = 1) : Met l yX4_init wsX4_init ({ frames := 3, cells := 4, slots := 36, locals := 64 }) (va_Pc [.ref y0, .int (nI lim), .int p1] (pk_PreX (dC, dI) [(y0, .inr (4, [.null, .int 0, .int 0, .int 0, .int 0]))] [] sz)) (va_Qv (fun (_ : Nat × Nat × Nat × ClassId × ClassId) => True) (fun (u : Nat × Nat × Nat × ClassId × ClassId) (t : State) => va_P (dC, dI) vwCl [(y0, .inr (4, [.ref u.1, .int 1, .int (-1), .int (nI lim), .int p1])), (u.1, .inr (5, [.ref u.2.1, .ref u.2.2.1, .int (nI 0), .int 0])), (u.2.1, .inl (u.2.2.2.1, 16, .inl (fun _ => (0 : Int32)))), (u.2.2.1, .inl (u.2.2.2.2, 16, .inl (fun _ => (0 : Int32))))] t.heap ∧ va_K (dC, dI) vwCl [(u.2.2.2.1, .int), (u.2.2.2.2, .int)] t ∧ va_D (va_A [(y0, .inr (4, [.null, .int 0, .int 0, .int 0, .int 0]))] sz) [(y0, .inr (4, [.ref u.1, .int 1, .int (-1), .int (nI lim), .int p1])), (u.1, .inr (5, [.ref u.2.1, .ref u.2.2.1, .int (nI 0), .int 0])), (u.2.1, .inl (u.2.2.2.1, 16, .inl (fun _ => (0 : Int32)))), (u.2.2.1, .inl (u.2.2.2.2, 16, .inl (fun _ => (0 : Int32))))]) (va_A [(y0, .inr (4, [.null, .int 0, .int 0, .int 0, .int 0]))] sz)) 4 36 (va_A [(y0, .inr (4, [.null, .int 0, .int 0, .int 0, .int 0]))] sz) := by
  refine Met.ofW (cc := cX4_init) (maxL := 3) (ret := none) (by decide) rfl ?_
  intro p e s m args below meth c s₁ B hml hv
  obtain ⟨rfl, hsz, hP, hK, hD0, hN, hZ⟩ := hv
  have hx := B.exec
  have hb := B.bytes
  have hr := B.returns
  have hts := atoms_spec (ws := wsX4_init) B.pre
  have hown : s.vm.findClass RX4 = some m.cls := findClass_of_methodNamed B.named
  have hlocks := B.notSynchronized
  have hin : meth.name = "<init>" := (name_of_methodNamed B.named B.method).1
  subst hsz
  have hD := hD0.self (sz := s.heap.size)
  generalize hAe : va_A [(y0, .inr (4, [.null, .int 0, .int 0, .int 0, .int 0]))] s.heap.size = A at hZ hD ⊢
  have hA : ∀ q : Nat, s.heap.size ≤ q → A q := fun q h => by rw [← hAe]; exact Or.inr h
  have hS : va_S A s.heap s.heap [] := va_S.rf
  have hP : va_P (dC, dI) vwCl [(y0, .inr (4, [.null, .int 0, .int 0, .int 0, .int 0]))] s.heap := hP
  have hl := lv_entry ([.ref y0, .int (nI lim), .int p1]) (n := 3) (Nat.le_of_ble_eq_true rfl)
  rw [lg_entry_eq]
  generalize (lg_sl ([.ref y0, .int (nI lim), .int p1]) ++ List.replicate (3 - (lg_sl ([.ref y0, .int (nI lim), .int p1])).length) Slot.unset).toArray = ls at hl ⊢
  have hl : lv_has ls 3 [(0, .ref y0), (1, .int (nI lim)), (2, .int p1)] := hl
  have hw0_ := hts (.classLink RX4 3 RX5) (List.mem_of_getElem? (l := wsX4_init) (i := 1) rfl)
  have hw1_ := hts (.instantiable RX5 4) (List.mem_of_getElem? (l := wsX4_init) (i := 2) rfl)
  have hw2_ := hts (.initialized RX5) (List.mem_of_getElem? (l := wsX4_init) (i := 3) rfl)
  have hw3_ := hts (.initialized RX3) (List.mem_of_getElem? (l := wsX4_init) (i := 16) rfl)
  have hw4_ := hts (.methodLink RX4 9 yX3_init) (List.mem_of_getElem? (l := wsX4_init) (i := 14) rfl)
  have hw5_ := hts (.instanceMethod yX3_init) (List.mem_of_getElem? (l := wsX4_init) (i := 15) rfl)
  have hw6_ := hts (.fieldLink RX4 14 "KeyAtlas$Linked" "limit" "I") (List.mem_of_getElem? (l := wsX4_init) (i := 4) rfl)
  have hw7_ := hts (.fieldLink RX4 20 "KeyAtlas$Linked" "isByUse" "Z") (List.mem_of_getElem? (l := wsX4_init) (i := 5) rfl)
  have hi0_ : ∀ w ∈ u_ws RX5 TX5 4, w ∈ wsX4_init := fun w h => List.mem_cons_of_mem _ (List.mem_append_left _ (List.mem_append_left _ (List.mem_append_left _ (List.mem_append_left _ (List.mem_append_right _ h)))))
  have hi1_ : ∀ w ∈ u_ws RX4 TX4 5, w ∈ wsX4_init := fun w h => List.mem_cons_of_mem _ (List.mem_append_left _ (List.mem_append_left _ (List.mem_append_left _ (List.mem_append_right _ h))))
  refine lv_aload_n hx hb dX4_init_0 rfl (lv_at hl 0 rfl) ?_
  refine lv_iconst (v := 1) hx hb dX4_init_1 (by decide) ?_
  refine lv_iconst (v := (-1)) hx hb dX4_init_2 (by decide) ?_
  refine va_new (ci := 5) (fs := [.null, .null, .int 0, .int 0]) (C := RX5) (T := TX5) (N := 4) hx hb hts hi0_ tyX5 tyX5_ok hown hw0_ hw1_ hw2_ hK hP hD hS hA rfl (by decide +kernel) (Nat.le_of_ble_eq_true rfl) (Nat.le_of_ble_eq_true rfl) dX4_init_3 (fun q_1 H hP hD hS => ?_)
  replace hP : va_P (dC, dI) vwCl [(y0, .inr (4, [.null, .int 0, .int 0, .int 0, .int 0])), (q_1, .inr (5, [.null, .null, .int 0, .int 0]))] H := hP
  replace hD : va_D A [(y0, .inr (4, [.null, .int 0, .int 0, .int 0, .int 0])), (q_1, .inr (5, [.null, .null, .int 0, .int 0]))] := hD
  refine W.widen (k := 1) (n := 4) (Nat.le_of_ble_eq_true rfl) (Nat.le_of_ble_eq_true rfl) ?_
  refine lv_dup hx hb dX4_init_6 rfl ?_
  have hPc := hP.sub (ws' := [(q_1, .inr (5, [.null, .null, .int 0, .int 0]))]) [1] rfl
  have hDc := hD.sub (ws' := [(q_1, .inr (5, [.null, .null, .int 0, .int 0]))]) [1] (by decide) rfl
  have hKc := hK.sub (tys' := []) [] rfl
  have hFc := va_free (wc := [(q_1, .inr (5, [.null, .null, .int 0, .int 0]))]) hD hS hA [1] rfl
  refine va_callv (va_runIN (As := []) (rest := [.ref q_1, .int (-1), .int 1, .ref y0]) ⟨hx, hb, hml, hown, hts⟩ (c_X5_init l  dC dI H.size q_1) ⟨va_cnB 0 hts gX4_init_X5_init_n5 rfl rfl rfl hN.n4 hw2_ (by decide +kernel) ⟨(Nat.le_of_ble_eq_true rfl), (Nat.le_of_ble_eq_true rfl)⟩, rfl, hts (.instanceMethod yX5_init) (by decide +kernel)⟩ ⟨pk_blind, pk_call hPc hKc hDc⟩ rfl rfl hl.1 rfl (lv_room (Nat.le_of_ble_eq_true rfl)) dX4_init_7 ⟨(Nat.le_of_ble_eq_true rfl), (Nat.le_of_ble_eq_true rfl)⟩) hS (fun q _ h => hFc q h) hFc (fun ur_2 t H1 locs ht hvm hw hB hz1 hk1 hS => ?_)
  try dsimp only at hw
  have jr_2 := hw
  obtain ⟨hP1, hK1, hD1⟩ := hB
  rw [ht] at hP1
  have hK1 := va_K.moved hvm.symm hK1
  obtain ⟨hP, hD⟩ := va_join (wr := [(y0, .inr (4, [.null, .int 0, .int 0, .int 0, .int 0]))]) (w1 := [(q_1, .inr (5, [.ref ur_2.1, .ref ur_2.2.1, .int (nI 0), .int 0])), (ur_2.1, .inl (ur_2.2.2.1, 16, .inl (fun _ => (0 : Int32)))), (ur_2.2.1, .inl (ur_2.2.2.2, 16, .inl (fun _ => (0 : Int32))))]) hP hD [1] [0] rfl rfl (by decide) (by decide) hk1 hFc hP1 hD1
  have hK := hK.app hK1
  have hK : va_K (dC, dI) vwCl [(ur_2.2.2.1, .int), (ur_2.2.2.2, .int)] s := hK
  clear hk1 hz1 ht hPc hDc hKc hFc
  generalize H1 = H at hP hS ⊢
  replace hP : va_P (dC, dI) vwCl [(y0, .inr (4, [.null, .int 0, .int 0, .int 0, .int 0])), (q_1, .inr (5, [.ref ur_2.1, .ref ur_2.2.1, .int (nI 0), .int 0])), (ur_2.1, .inl (ur_2.2.2.1, 16, .inl (fun _ => (0 : Int32)))), (ur_2.2.1, .inl (ur_2.2.2.2, 16, .inl (fun _ => (0 : Int32))))] H := hP
  replace hD : va_D A [(y0, .inr (4, [.null, .int 0, .int 0, .int 0, .int 0])), (q_1, .inr (5, [.ref ur_2.1, .ref ur_2.2.1, .int (nI 0), .int 0])), (ur_2.1, .inl (ur_2.2.2.1, 16, .inl (fun _ => (0 : Int32)))), (ur_2.2.1, .inl (ur_2.2.2.2, 16, .inl (fun _ => (0 : Int32))))] := hD
  refine W.widen (k := 3) (n := 36) (Nat.le_of_ble_eq_true rfl) (Nat.le_of_ble_eq_true rfl) ?_
  refine W.eq (g2 := F0 m 10 ls [.ref q_1, .int (-1), .int 1, .ref y0]) rfl ?_
  have hPc := hP.sub (ws' := [(y0, .inr (4, [.null, .int 0, .int 0, .int 0, .int 0]))]) [0] rfl
  have hDc := hD.sub (ws' := [(y0, .inr (4, [.null, .int 0, .int 0, .int 0, .int 0]))]) [0] (by decide) rfl
  have hKc := hK.sub (tys' := []) [] rfl
  have hFc := va_free (wc := [(y0, .inr (4, [.null, .int 0, .int 0, .int 0, .int 0]))]) hD hS hA [0] rfl
  refine va_callv (va_runI (As := [.int 1, .int (-1), .ref q_1]) (rest := []) ⟨hx, hb, hml, hown, hts⟩ (c_X3_init_X4 l  dC dI H.size y0 1 (-1) q_1 .null (.int 0) (.int 0) (.int 0) (.int 0)) (cwI 3 hts gX4_init_X3_init rfl rfl rfl hw3_ hw4_ hw5_ rfl (by decide +kernel) ⟨(Nat.le_of_ble_eq_true rfl), (Nat.le_of_ble_eq_true rfl)⟩) ⟨pk_blind, pk_call hPc hKc hDc⟩ rfl rfl hl.1 rfl (lv_room (Nat.le_of_ble_eq_true rfl)) dX4_init_10 ⟨(Nat.le_of_ble_eq_true rfl), (Nat.le_of_ble_eq_true rfl)⟩) hS (fun q _ h => hFc q h) hFc (fun ur_3 t H1 locs ht hvm hw hB hz1 hk1 hS => ?_)
  try dsimp only at hw
  have jr_3 := hw
  obtain ⟨hP1, hK1, hD1⟩ := hB
  rw [ht] at hP1
  have hK1 := va_K.moved hvm.symm hK1
  obtain ⟨hP, hD⟩ := va_join (wr := [(q_1, .inr (5, [.ref ur_2.1, .ref ur_2.2.1, .int (nI 0), .int 0])), (ur_2.1, .inl (ur_2.2.2.1, 16, .inl (fun _ => (0 : Int32)))), (ur_2.2.1, .inl (ur_2.2.2.2, 16, .inl (fun _ => (0 : Int32))))]) (w1 := [(y0, .inr (4, [.ref q_1, .int 1, .int (-1), .int 0, .int 0]))]) hP hD [0] [1, 2, 3] rfl rfl (by decide) (by decide) hk1 hFc hP1 hD1
  clear hk1 hz1 ht hPc hDc hKc hFc
  generalize H1 = H at hP hS ⊢
  replace hP : va_P (dC, dI) vwCl [(q_1, .inr (5, [.ref ur_2.1, .ref ur_2.2.1, .int (nI 0), .int 0])), (ur_2.1, .inl (ur_2.2.2.1, 16, .inl (fun _ => (0 : Int32)))), (ur_2.2.1, .inl (ur_2.2.2.2, 16, .inl (fun _ => (0 : Int32)))), (y0, .inr (4, [.ref q_1, .int 1, .int (-1), .int 0, .int 0]))] H := hP
  replace hD : va_D A [(q_1, .inr (5, [.ref ur_2.1, .ref ur_2.2.1, .int (nI 0), .int 0])), (ur_2.1, .inl (ur_2.2.2.1, 16, .inl (fun _ => (0 : Int32)))), (ur_2.2.1, .inl (ur_2.2.2.2, 16, .inl (fun _ => (0 : Int32)))), (y0, .inr (4, [.ref q_1, .int 1, .int (-1), .int 0, .int 0]))] := hD
  refine W.widen (k := 3) (n := 36) (Nat.le_of_ble_eq_true rfl) (Nat.le_of_ble_eq_true rfl) ?_
  refine W.eq (g2 := F0 m 13 ls []) rfl ?_
  refine lv_aload_n hx hb dX4_init_13 rfl (lv_at hl 0 rfl) ?_
  refine lv_iload_n hx hb dX4_init_14 rfl (lv_at hl 1 rfl) ?_
  refine va_putF (D := (dC, dI)) (ci := 4) (v := .int (nI lim)) (ty := .int) (C := RX4) (T := TX4) (N := 5) hx hb hts hi1_ tyX4 tyX4_ok nmX4 hown hK hP hD hS 3 rfl rfl 3 (by decide) hw6_ (fun _ h9 => h9) rfl hin rfl (by decide +kernel) rfl rfl (Nat.le_of_ble_eq_true rfl) dX4_init_15 (fun H locs hP hD hS => ?_)
  replace hP : va_P (dC, dI) vwCl [(q_1, .inr (5, [.ref ur_2.1, .ref ur_2.2.1, .int (nI 0), .int 0])), (ur_2.1, .inl (ur_2.2.2.1, 16, .inl (fun _ => (0 : Int32)))), (ur_2.2.1, .inl (ur_2.2.2.2, 16, .inl (fun _ => (0 : Int32)))), (y0, .inr (4, [.ref q_1, .int 1, .int (-1), .int (nI lim), .int 0]))] H := hP
  replace hD : va_D A [(q_1, .inr (5, [.ref ur_2.1, .ref ur_2.2.1, .int (nI 0), .int 0])), (ur_2.1, .inl (ur_2.2.2.1, 16, .inl (fun _ => (0 : Int32)))), (ur_2.2.1, .inl (ur_2.2.2.2, 16, .inl (fun _ => (0 : Int32)))), (y0, .inr (4, [.ref q_1, .int 1, .int (-1), .int (nI lim), .int 0]))] := hD
  refine lv_aload_n hx hb dX4_init_18 rfl (lv_at hl 0 rfl) ?_
  refine lv_iload_n hx hb dX4_init_19 rfl (lv_at hl 2 rfl) ?_
  refine va_putF (D := (dC, dI)) (ci := 4) (v := .int p1) (ty := .boolean) (C := RX4) (T := TX4) (N := 5) hx hb hts hi1_ tyX4 tyX4_ok nmX4 hown hK hP hD hS 3 rfl rfl 4 (by decide) hw7_ (fun _ h9 => h9) rfl hin rfl (by decide +kernel) (by rcases hz with rfl | rfl <;> rfl) (by rcases hz with rfl | rfl <;> rfl) (Nat.le_of_ble_eq_true rfl) dX4_init_20 (fun H locs hP hD hS => ?_)
  replace hP : va_P (dC, dI) vwCl [(q_1, .inr (5, [.ref ur_2.1, .ref ur_2.2.1, .int (nI 0), .int 0])), (ur_2.1, .inl (ur_2.2.2.1, 16, .inl (fun _ => (0 : Int32)))), (ur_2.2.1, .inl (ur_2.2.2.2, 16, .inl (fun _ => (0 : Int32)))), (y0, .inr (4, [.ref q_1, .int 1, .int (-1), .int (nI lim), .int p1]))] H := hP
  replace hD : va_D A [(q_1, .inr (5, [.ref ur_2.1, .ref ur_2.2.1, .int (nI 0), .int 0])), (ur_2.1, .inl (ur_2.2.2.1, 16, .inl (fun _ => (0 : Int32)))), (ur_2.2.1, .inl (ur_2.2.2.2, 16, .inl (fun _ => (0 : Int32)))), (y0, .inr (4, [.ref q_1, .int 1, .int (-1), .int (nI lim), .int p1]))] := hD
  have hP9 := hP.sub (ws' := [(y0, .inr (4, [.ref q_1, .int 1, .int (-1), .int (nI lim), .int p1])), (q_1, .inr (5, [.ref ur_2.1, .ref ur_2.2.1, .int (nI 0), .int 0])), (ur_2.1, .inl (ur_2.2.2.1, 16, .inl (fun _ => (0 : Int32)))), (ur_2.2.1, .inl (ur_2.2.2.2, 16, .inl (fun _ => (0 : Int32))))]) [3, 0, 1, 2] rfl
  have hD9 := hD.sub (ws' := [(y0, .inr (4, [.ref q_1, .int 1, .int (-1), .int (nI lim), .int p1])), (q_1, .inr (5, [.ref ur_2.1, .ref ur_2.2.1, .int (nI 0), .int 0])), (ur_2.1, .inl (ur_2.2.2.1, 16, .inl (fun _ => (0 : Int32)))), (ur_2.2.1, .inl (ur_2.2.2.2, 16, .inl (fun _ => (0 : Int32))))]) [3, 0, 1, 2] (by decide) rfl
  have hK9 := hK.sub (tys' := [(ur_2.2.2.1, .int), (ur_2.2.2.2, .int)]) [0, 1] rfl
  refine W.widen (k := 4) (n := 36) (Nat.le_of_ble_eq_true rfl) (Nat.le_of_ble_eq_true rfl) ?_
  exact W.vret hx hb hr (fun t ht hW => ⟨⟨(q_1, ur_2.1, ur_2.2.1, ur_2.2.2.1, ur_2.2.2.2), rfl, trivial, by rw [ht]; exact hP9, va_K.moved hW.alike hK9, hD9⟩, hS.F ht⟩) hS.2.2 dX4_init_23
set_option maxHeartbeats 4000000 in
set_option maxRecDepth 100000 in
/-- the constructor of X6 -/
theorem c_X6_init (l : Launch) (hlt : l.stackTraces = false) (dC : Nat → ClassId) (dI : Nat → Nat → Nat) (sz : Nat) (y0 : Nat) (p0 : Int32) : Met l yX6_init wsX6_init ({ frames := 3, cells := 4, slots := 36, locals := 64 }) (va_Pc [.ref y0, .int p0] (pk_PreX (dC, dI) [(y0, .inr (6, [.null, .int 0, .int 0, .int 0, .int 0, .long 0, .long 0]))] [] sz)) (va_Qv (fun (_ : Nat × Nat × Nat × ClassId × ClassId) => True) (fun (u : Nat × Nat × Nat × ClassId × ClassId) (t : State) => va_P (dC, dI) vwCl [(y0, .inr (6, [.ref u.1, .int 2, .int (-1), .int p0, .int 0, .long (-9223372036854775808), .long 9223372036854775807])), (u.1, .inr (5, [.ref u.2.1, .ref u.2.2.1, .int (nI 0), .int 0])), (u.2.1, .inl (u.2.2.2.1, 16, .inl (fun _ => (0 : Int32)))), (u.2.2.1, .inl (u.2.2.2.2, 16, .inl (fun _ => (0 : Int32))))] t.heap ∧ va_K (dC, dI) vwCl [(u.2.2.2.1, .int), (u.2.2.2.2, .int)] t ∧ va_D (va_A [(y0, .inr (6, [.null, .int 0, .int 0, .int 0, .int 0, .long 0, .long 0]))] sz) [(y0, .inr (6, [.ref u.1, .int 2, .int (-1), .int p0, .int 0, .long (-9223372036854775808), .long 9223372036854775807])), (u.1, .inr (5, [.ref u.2.1, .ref u.2.2.1, .int (nI 0), .int 0])), (u.2.1, .inl (u.2.2.2.1, 16, .inl (fun _ => (0 : Int32)))), (u.2.2.1, .inl (u.2.2.2.2, 16, .inl (fun _ => (0 : Int32))))]) (va_A [(y0, .inr (6, [.null, .int 0, .int 0, .int 0, .int 0, .long 0, .long 0]))] sz)) 4 36 (va_A [(y0, .inr (6, [.null, .int 0, .int 0, .int 0, .int 0, .long 0, .long 0]))] sz) := by
  refine Met.ofW (cc := cX6_init) (maxL := 2) (ret := none) (by decide) rfl ?_
  intro p e s m args below meth c s₁ B hml hv
  obtain ⟨rfl, hsz, hP, hK, hD0, hN, hZ⟩ := hv
  have hx := B.exec
  have hb := B.bytes
  have hr := B.returns
  have hts := atoms_spec (ws := wsX6_init) B.pre
  have hown : s.vm.findClass RX6 = some m.cls := findClass_of_methodNamed B.named
  have hlocks := B.notSynchronized
  have hin : meth.name = "<init>" := (name_of_methodNamed B.named B.method).1
  subst hsz
  have hD := hD0.self (sz := s.heap.size)
  generalize hAe : va_A [(y0, .inr (6, [.null, .int 0, .int 0, .int 0, .int 0, .long 0, .long 0]))] s.heap.size = A at hZ hD ⊢
  have hA : ∀ q : Nat, s.heap.size ≤ q → A q := fun q h => by rw [← hAe]; exact Or.inr h
  have hS : va_S A s.heap s.heap [] := va_S.rf
  have hP : va_P (dC, dI) vwCl [(y0, .inr (6, [.null, .int 0, .int 0, .int 0, .int 0, .long 0, .long 0]))] s.heap := hP
  have hl := lv_entry ([.ref y0, .int p0]) (n := 2) (Nat.le_of_ble_eq_true rfl)
  rw [lg_entry_eq]
  generalize (lg_sl ([.ref y0, .int p0]) ++ List.replicate (2 - (lg_sl ([.ref y0, .int p0])).length) Slot.unset).toArray = ls at hl ⊢
  have hl : lv_has ls 2 [(0, .ref y0), (1, .int p0)] := hl
  have hw0_ := hts (.classLink RX6 5 RX5) (List.mem_of_getElem? (l := wsX6_init) (i := 1) rfl)
  have hw1_ := hts (.instantiable RX5 4) (List.mem_of_getElem? (l := wsX6_init) (i := 2) rfl)
  have hw2_ := hts (.initialized RX5) (List.mem_of_getElem? (l := wsX6_init) (i := 3) rfl)
  have hw3_ := hts (.initialized RX3) (List.mem_of_getElem? (l := wsX6_init) (i := 20) rfl)
  have hw4_ := hts (.methodLink RX6 11 yX3_init) (List.mem_of_getElem? (l := wsX6_init) (i := 18) rfl)
  have hw5_ := hts (.instanceMethod yX3_init) (List.mem_of_getElem? (l := wsX6_init) (i := 19) rfl)
  have hw6_ := hts (.fieldLink RX6 16 "KeyAtlas$Sorted" "order" "I") (List.mem_of_getElem? (l := wsX6_init) (i := 4) rfl)
  have hw7_ := hts (.fieldLink RX6 22 "KeyAtlas$Sorted" "isTurned" "Z") (List.mem_of_getElem? (l := wsX6_init) (i := 5) rfl)
  have hw8_ := hts (.constantLong RX6 26 (-9223372036854775808)) (List.mem_of_getElem? (l := wsX6_init) (i := 6) rfl)
  have hw9_ := hts (.fieldLink RX6 28 "KeyAtlas$Sorted" "low" "J") (List.mem_of_getElem? (l := wsX6_init) (i := 7) rfl)
  have hw10_ := hts (.constantLong RX6 32 (9223372036854775807)) (List.mem_of_getElem? (l := wsX6_init) (i := 8) rfl)
  have hw11_ := hts (.fieldLink RX6 34 "KeyAtlas$Sorted" "high" "J") (List.mem_of_getElem? (l := wsX6_init) (i := 9) rfl)
  have hi0_ : ∀ w ∈ u_ws RX5 TX5 4, w ∈ wsX6_init := fun w h => List.mem_cons_of_mem _ (List.mem_append_left _ (List.mem_append_left _ (List.mem_append_left _ (List.mem_append_left _ (List.mem_append_right _ h)))))
  have hi1_ : ∀ w ∈ u_ws RX6 TX6 7, w ∈ wsX6_init := fun w h => List.mem_cons_of_mem _ (List.mem_append_left _ (List.mem_append_left _ (List.mem_append_left _ (List.mem_append_right _ h))))
  refine lv_aload_n hx hb dX6_init_0 rfl (lv_at hl 0 rfl) ?_
  refine lv_iconst (v := 2) hx hb dX6_init_1 (by decide) ?_
  refine lv_iconst (v := (-1)) hx hb dX6_init_2 (by decide) ?_
  refine va_new (ci := 5) (fs := [.null, .null, .int 0, .int 0]) (C := RX5) (T := TX5) (N := 4) hx hb hts hi0_ tyX5 tyX5_ok hown hw0_ hw1_ hw2_ hK hP hD hS hA rfl (by decide +kernel) (Nat.le_of_ble_eq_true rfl) (Nat.le_of_ble_eq_true rfl) dX6_init_3 (fun q_1 H hP hD hS => ?_)
  replace hP : va_P (dC, dI) vwCl [(y0, .inr (6, [.null, .int 0, .int 0, .int 0, .int 0, .long 0, .long 0])), (q_1, .inr (5, [.null, .null, .int 0, .int 0]))] H := hP
  replace hD : va_D A [(y0, .inr (6, [.null, .int 0, .int 0, .int 0, .int 0, .long 0, .long 0])), (q_1, .inr (5, [.null, .null, .int 0, .int 0]))] := hD
  refine W.widen (k := 1) (n := 4) (Nat.le_of_ble_eq_true rfl) (Nat.le_of_ble_eq_true rfl) ?_
  refine lv_dup hx hb dX6_init_6 rfl ?_
  have hPc := hP.sub (ws' := [(q_1, .inr (5, [.null, .null, .int 0, .int 0]))]) [1] rfl
  have hDc := hD.sub (ws' := [(q_1, .inr (5, [.null, .null, .int 0, .int 0]))]) [1] (by decide) rfl
  have hKc := hK.sub (tys' := []) [] rfl
  have hFc := va_free (wc := [(q_1, .inr (5, [.null, .null, .int 0, .int 0]))]) hD hS hA [1] rfl
  refine va_callv (va_runIN (As := []) (rest := [.ref q_1, .int (-1), .int 2, .ref y0]) ⟨hx, hb, hml, hown, hts⟩ (c_X5_init l  dC dI H.size q_1) ⟨va_cnB 0 hts gX6_init_X5_init_n7 rfl rfl rfl hN.n6 hw2_ (by decide +kernel) ⟨(Nat.le_of_ble_eq_true rfl), (Nat.le_of_ble_eq_true rfl)⟩, rfl, hts (.instanceMethod yX5_init) (by decide +kernel)⟩ ⟨pk_blind, pk_call hPc hKc hDc⟩ rfl rfl hl.1 rfl (lv_room (Nat.le_of_ble_eq_true rfl)) dX6_init_7 ⟨(Nat.le_of_ble_eq_true rfl), (Nat.le_of_ble_eq_true rfl)⟩) hS (fun q _ h => hFc q h) hFc (fun ur_2 t H1 locs ht hvm hw hB hz1 hk1 hS => ?_)
  try dsimp only at hw
  have jr_2 := hw
  obtain ⟨hP1, hK1, hD1⟩ := hB
  rw [ht] at hP1
  have hK1 := va_K.moved hvm.symm hK1
  obtain ⟨hP, hD⟩ := va_join (wr := [(y0, .inr (6, [.null, .int 0, .int 0, .int 0, .int 0, .long 0, .long 0]))]) (w1 := [(q_1, .inr (5, [.ref ur_2.1, .ref ur_2.2.1, .int (nI 0), .int 0])), (ur_2.1, .inl (ur_2.2.2.1, 16, .inl (fun _ => (0 : Int32)))), (ur_2.2.1, .inl (ur_2.2.2.2, 16, .inl (fun _ => (0 : Int32))))]) hP hD [1] [0] rfl rfl (by decide) (by decide) hk1 hFc hP1 hD1
  have hK := hK.app hK1
  have hK : va_K (dC, dI) vwCl [(ur_2.2.2.1, .int), (ur_2.2.2.2, .int)] s := hK
  clear hk1 hz1 ht hPc hDc hKc hFc
  generalize H1 = H at hP hS ⊢
  replace hP : va_P (dC, dI) vwCl [(y0, .inr (6, [.null, .int 0, .int 0, .int 0, .int 0, .long 0, .long 0])), (q_1, .inr (5, [.ref ur_2.1, .ref ur_2.2.1, .int (nI 0), .int 0])), (ur_2.1, .inl (ur_2.2.2.1, 16, .inl (fun _ => (0 : Int32)))), (ur_2.2.1, .inl (ur_2.2.2.2, 16, .inl (fun _ => (0 : Int32))))] H := hP
  replace hD : va_D A [(y0, .inr (6, [.null, .int 0, .int 0, .int 0, .int 0, .long 0, .long 0])), (q_1, .inr (5, [.ref ur_2.1, .ref ur_2.2.1, .int (nI 0), .int 0])), (ur_2.1, .inl (ur_2.2.2.1, 16, .inl (fun _ => (0 : Int32)))), (ur_2.2.1, .inl (ur_2.2.2.2, 16, .inl (fun _ => (0 : Int32))))] := hD
  refine W.widen (k := 3) (n := 36) (Nat.le_of_ble_eq_true rfl) (Nat.le_of_ble_eq_true rfl) ?_
  refine W.eq (g2 := F0 m 10 ls [.ref q_1, .int (-1), .int 2, .ref y0]) rfl ?_
  have hPc := hP.sub (ws' := [(y0, .inr (6, [.null, .int 0, .int 0, .int 0, .int 0, .long 0, .long 0]))]) [0] rfl
  have hDc := hD.sub (ws' := [(y0, .inr (6, [.null, .int 0, .int 0, .int 0, .int 0, .long 0, .long 0]))]) [0] (by decide) rfl
  have hKc := hK.sub (tys' := []) [] rfl
  have hFc := va_free (wc := [(y0, .inr (6, [.null, .int 0, .int 0, .int 0, .int 0, .long 0, .long 0]))]) hD hS hA [0] rfl
  refine va_callv (va_runI (As := [.int 2, .int (-1), .ref q_1]) (rest := []) ⟨hx, hb, hml, hown, hts⟩ (c_X3_init_X6 l  dC dI H.size y0 2 (-1) q_1 .null (.int 0) (.int 0) (.int 0) (.int 0) (.long 0) (.long 0)) (cwI 3 hts gX6_init_X3_init rfl rfl rfl hw3_ hw4_ hw5_ rfl (by decide +kernel) ⟨(Nat.le_of_ble_eq_true rfl), (Nat.le_of_ble_eq_true rfl)⟩) ⟨pk_blind, pk_call hPc hKc hDc⟩ rfl rfl hl.1 rfl (lv_room (Nat.le_of_ble_eq_true rfl)) dX6_init_10 ⟨(Nat.le_of_ble_eq_true rfl), (Nat.le_of_ble_eq_true rfl)⟩) hS (fun q _ h => hFc q h) hFc (fun ur_3 t H1 locs ht hvm hw hB hz1 hk1 hS => ?_)
  try dsimp only at hw
  have jr_3 := hw
  obtain ⟨hP1, hK1, hD1⟩ := hB
  rw [ht] at hP1
  have hK1 := va_K.moved hvm.symm hK1
  obtain ⟨hP, hD⟩ := va_join (wr := [(q_1, .inr (5, [.ref ur_2.1, .ref ur_2.2.1, .int (nI 0), .int 0])), (ur_2.1, .inl (ur_2.2.2.1, 16, .inl (fun _ => (0 : Int32)))), (ur_2.2.1, .inl (ur_2.2.2.2, 16, .inl (fun _ => (0 : Int32))))]) (w1 := [(y0, .inr (6, [.ref q_1, .int 2, .int (-1), .int 0, .int 0, .long 0, .long 0]))]) hP hD [0] [1, 2, 3] rfl rfl (by decide) (by decide) hk1 hFc hP1 hD1
  clear hk1 hz1 ht hPc hDc hKc hFc
  generalize H1 = H at hP hS ⊢
  replace hP : va_P (dC, dI) vwCl [(q_1, .inr (5, [.ref ur_2.1, .ref ur_2.2.1, .int (nI 0), .int 0])), (ur_2.1, .inl (ur_2.2.2.1, 16, .inl (fun _ => (0 : Int32)))), (ur_2.2.1, .inl (ur_2.2.2.2, 16, .inl (fun _ => (0 : Int32)))), (y0, .inr (6, [.ref q_1, .int 2, .int (-1), .int 0, .int 0, .long 0, .long 0]))] H := hP
  replace hD : va_D A [(q_1, .inr (5, [.ref ur_2.1, .ref ur_2.2.1, .int (nI 0), .int 0])), (ur_2.1, .inl (ur_2.2.2.1, 16, .inl (fun _ => (0 : Int32)))), (ur_2.2.1, .inl (ur_2.2.2.2, 16, .inl (fun _ => (0 : Int32)))), (y0, .inr (6, [.ref q_1, .int 2, .int (-1), .int 0, .int 0, .long 0, .long 0]))] := hD
  refine W.widen (k := 3) (n := 36) (Nat.le_of_ble_eq_true rfl) (Nat.le_of_ble_eq_true rfl) ?_
  refine W.eq (g2 := F0 m 13 ls []) rfl ?_
  refine lv_aload_n hx hb dX6_init_13 rfl (lv_at hl 0 rfl) ?_
  refine lv_iload_n hx hb dX6_init_14 rfl (lv_at hl 1 rfl) ?_
  refine va_putF (D := (dC, dI)) (ci := 6) (v := .int p0) (ty := .int) (C := RX6) (T := TX6) (N := 7) hx hb hts hi1_ tyX6 tyX6_ok nmX6 hown hK hP hD hS 3 rfl rfl 3 (by decide) hw6_ (fun _ h9 => h9) rfl hin rfl (by decide +kernel) rfl rfl (Nat.le_of_ble_eq_true rfl) dX6_init_15 (fun H locs hP hD hS => ?_)
  replace hP : va_P (dC, dI) vwCl [(q_1, .inr (5, [.ref ur_2.1, .ref ur_2.2.1, .int (nI 0), .int 0])), (ur_2.1, .inl (ur_2.2.2.1, 16, .inl (fun _ => (0 : Int32)))), (ur_2.2.1, .inl (ur_2.2.2.2, 16, .inl (fun _ => (0 : Int32)))), (y0, .inr (6, [.ref q_1, .int 2, .int (-1), .int p0, .int 0, .long 0, .long 0]))] H := hP
  replace hD : va_D A [(q_1, .inr (5, [.ref ur_2.1, .ref ur_2.2.1, .int (nI 0), .int 0])), (ur_2.1, .inl (ur_2.2.2.1, 16, .inl (fun _ => (0 : Int32)))), (ur_2.2.1, .inl (ur_2.2.2.2, 16, .inl (fun _ => (0 : Int32)))), (y0, .inr (6, [.ref q_1, .int 2, .int (-1), .int p0, .int 0, .long 0, .long 0]))] := hD
  refine lv_aload_n hx hb dX6_init_18 rfl (lv_at hl 0 rfl) ?_
  refine lv_iconst (v := 0) hx hb dX6_init_19 (by decide) ?_
  refine va_putF (D := (dC, dI)) (ci := 6) (v := .int 0) (ty := .boolean) (C := RX6) (T := TX6) (N := 7) hx hb hts hi1_ tyX6 tyX6_ok nmX6 hown hK hP hD hS 3 rfl rfl 4 (by decide) hw7_ (fun _ h9 => h9) rfl hin rfl (by decide +kernel) rfl rfl (Nat.le_of_ble_eq_true rfl) dX6_init_20 (fun H locs hP hD hS => ?_)
  replace hP : va_P (dC, dI) vwCl [(q_1, .inr (5, [.ref ur_2.1, .ref ur_2.2.1, .int (nI 0), .int 0])), (ur_2.1, .inl (ur_2.2.2.1, 16, .inl (fun _ => (0 : Int32)))), (ur_2.2.1, .inl (ur_2.2.2.2, 16, .inl (fun _ => (0 : Int32)))), (y0, .inr (6, [.ref q_1, .int 2, .int (-1), .int p0, .int 0, .long 0, .long 0]))] H := hP
  replace hD : va_D A [(q_1, .inr (5, [.ref ur_2.1, .ref ur_2.2.1, .int (nI 0), .int 0])), (ur_2.1, .inl (ur_2.2.2.1, 16, .inl (fun _ => (0 : Int32)))), (ur_2.2.1, .inl (ur_2.2.2.2, 16, .inl (fun _ => (0 : Int32)))), (y0, .inr (6, [.ref q_1, .int 2, .int (-1), .int p0, .int 0, .long 0, .long 0]))] := hD
  refine lv_aload_n hx hb dX6_init_23 rfl (lv_at hl 0 rfl) ?_
  refine lv_ldc2 (v := (-9223372036854775808)) hx hb hown hw8_ dX6_init_24 ?_
  refine va_putF (D := (dC, dI)) (ci := 6) (v := .long (-9223372036854775808)) (ty := .long) (C := RX6) (T := TX6) (N := 7) hx hb hts hi1_ tyX6 tyX6_ok nmX6 hown hK hP hD hS 3 rfl rfl 5 (by decide) hw9_ (fun _ h9 => h9) rfl hin rfl (by decide +kernel) rfl rfl (Nat.le_of_ble_eq_true rfl) dX6_init_27 (fun H locs hP hD hS => ?_)
  replace hP : va_P (dC, dI) vwCl [(q_1, .inr (5, [.ref ur_2.1, .ref ur_2.2.1, .int (nI 0), .int 0])), (ur_2.1, .inl (ur_2.2.2.1, 16, .inl (fun _ => (0 : Int32)))), (ur_2.2.1, .inl (ur_2.2.2.2, 16, .inl (fun _ => (0 : Int32)))), (y0, .inr (6, [.ref q_1, .int 2, .int (-1), .int p0, .int 0, .long (-9223372036854775808), .long 0]))] H := hP
  replace hD : va_D A [(q_1, .inr (5, [.ref ur_2.1, .ref ur_2.2.1, .int (nI 0), .int 0])), (ur_2.1, .inl (ur_2.2.2.1, 16, .inl (fun _ => (0 : Int32)))), (ur_2.2.1, .inl (ur_2.2.2.2, 16, .inl (fun _ => (0 : Int32)))), (y0, .inr (6, [.ref q_1, .int 2, .int (-1), .int p0, .int 0, .long (-9223372036854775808), .long 0]))] := hD
  refine lv_aload_n hx hb dX6_init_30 rfl (lv_at hl 0 rfl) ?_
  refine lv_ldc2 (v := 9223372036854775807) hx hb hown hw10_ dX6_init_31 ?_
  refine va_putF (D := (dC, dI)) (ci := 6) (v := .long 9223372036854775807) (ty := .long) (C := RX6) (T := TX6) (N := 7) hx hb hts hi1_ tyX6 tyX6_ok nmX6 hown hK hP hD hS 3 rfl rfl 6 (by decide) hw11_ (fun _ h9 => h9) rfl hin rfl (by decide +kernel) rfl rfl (Nat.le_of_ble_eq_true rfl) dX6_init_34 (fun H locs hP hD hS => ?_)
  replace hP : va_P (dC, dI) vwCl [(q_1, .inr (5, [.ref ur_2.1, .ref ur_2.2.1, .int (nI 0), .int 0])), (ur_2.1, .inl (ur_2.2.2.1, 16, .inl (fun _ => (0 : Int32)))), (ur_2.2.1, .inl (ur_2.2.2.2, 16, .inl (fun _ => (0 : Int32)))), (y0, .inr (6, [.ref q_1, .int 2, .int (-1), .int p0, .int 0, .long (-9223372036854775808), .long 9223372036854775807]))] H := hP
  replace hD : va_D A [(q_1, .inr (5, [.ref ur_2.1, .ref ur_2.2.1, .int (nI 0), .int 0])), (ur_2.1, .inl (ur_2.2.2.1, 16, .inl (fun _ => (0 : Int32)))), (ur_2.2.1, .inl (ur_2.2.2.2, 16, .inl (fun _ => (0 : Int32)))), (y0, .inr (6, [.ref q_1, .int 2, .int (-1), .int p0, .int 0, .long (-9223372036854775808), .long 9223372036854775807]))] := hD
  have hP9 := hP.sub (ws' := [(y0, .inr (6, [.ref q_1, .int 2, .int (-1), .int p0, .int 0, .long (-9223372036854775808), .long 9223372036854775807])), (q_1, .inr (5, [.ref ur_2.1, .ref ur_2.2.1, .int (nI 0), .int 0])), (ur_2.1, .inl (ur_2.2.2.1, 16, .inl (fun _ => (0 : Int32)))), (ur_2.2.1, .inl (ur_2.2.2.2, 16, .inl (fun _ => (0 : Int32))))]) [3, 0, 1, 2] rfl
  have hD9 := hD.sub (ws' := [(y0, .inr (6, [.ref q_1, .int 2, .int (-1), .int p0, .int 0, .long (-9223372036854775808), .long 9223372036854775807])), (q_1, .inr (5, [.ref ur_2.1, .ref ur_2.2.1, .int (nI 0), .int 0])), (ur_2.1, .inl (ur_2.2.2.1, 16, .inl (fun _ => (0 : Int32)))), (ur_2.2.1, .inl (ur_2.2.2.2, 16, .inl (fun _ => (0 : Int32))))]) [3, 0, 1, 2] (by decide) rfl
  have hK9 := hK.sub (tys' := [(ur_2.2.2.1, .int), (ur_2.2.2.2, .int)]) [0, 1] rfl
  refine W.widen (k := 4) (n := 36) (Nat.le_of_ble_eq_true rfl) (Nat.le_of_ble_eq_true rfl) ?_
  exact W.vret hx hb hr (fun t ht hW => ⟨⟨(q_1, ur_2.1, ur_2.2.1, ur_2.2.2.1, ur_2.2.2.2), rfl, trivial, by rw [ht]; exact hP9, va_K.moved hW.alike hK9, hD9⟩, hS.F ht⟩) hS.2.2 dX6_init_37
set_option maxHeartbeats 4000000 in
set_option maxRecDepth 100000 in
/-- Sorted(number, whole, ..) -/
theorem c_X6_init_ (l : Launch) (dC : Nat → ClassId) (dI : Nat → Nat → Nat) (sz : Nat) (y0 : Nat) (z0 : Nat) (x0 : Nat) (kd : Int32) (wh : Int32) (od : Int32) (tu : Int32) (lo : Int64) (hi : Int64) (p0 : Int32) (p3 : Int32) (l1 : Int64) (l2 : Int64) (hz : p3 = 0 ∨ p3 = 1) : Met l yX6_init_ wsX6_init_ ({ frames := 3, cells := 0, slots := 0, locals := 64 }) (va_Pc [.ref y0, .int p0, .ref z0, .int p3, .long l1, .long l2] (pk_Pre (dC, dI) [(y0, .inr (6, [.null, .int 0, .int 0, .int 0, .int 0, .long 0, .long 0])), (z0, .inr (6, [.ref x0, .int kd, .int wh, .int od, .int tu, .long lo, .long hi]))] [] sz)) (va_Qv (fun (_ : Unit) => True) (fun (_ : Unit) (t : State) => va_P (dC, dI) vwCl [(y0, .inr (6, [.ref x0, .int 3, .int p0, .int od, .int p3, .long l1, .long l2])), (z0, .inr (6, [.ref x0, .int kd, .int wh, .int od, .int tu, .long lo, .long hi]))] t.heap ∧ va_K (dC, dI) vwCl [] t ∧ va_D (va_A [(y0, .inr (6, [.null, .int 0, .int 0, .int 0, .int 0, .long 0, .long 0])), (z0, .inr (6, [.ref x0, .int kd, .int wh, .int od, .int tu, .long lo, .long hi]))] sz) [(y0, .inr (6, [.ref x0, .int 3, .int p0, .int od, .int p3, .long l1, .long l2])), (z0, .inr (6, [.ref x0, .int kd, .int wh, .int od, .int tu, .long lo, .long hi]))]) (va_A [(y0, .inr (6, [.null, .int 0, .int 0, .int 0, .int 0, .long 0, .long 0])), (z0, .inr (6, [.ref x0, .int kd, .int wh, .int od, .int tu, .long lo, .long hi]))] sz)) 0 0 (va_A [(y0, .inr (6, [.null, .int 0, .int 0, .int 0, .int 0, .long 0, .long 0])), (z0, .inr (6, [.ref x0, .int kd, .int wh, .int od, .int tu, .long lo, .long hi]))] sz) := by
  refine Met.ofW (cc := cX6_init_) (maxL := 8) (ret := none) (by decide) rfl ?_
  intro p e s m args below meth c s₁ B hml hv
  obtain ⟨rfl, hsz, hP, hK, hD0⟩ := hv
  have hx := B.exec
  have hb := B.bytes
  have hr := B.returns
  have hts := atoms_spec (ws := wsX6_init_) B.pre
  have hown : s.vm.findClass RX6 = some m.cls := findClass_of_methodNamed B.named
  have hlocks := B.notSynchronized
  have hin : meth.name = "<init>" := (name_of_methodNamed B.named B.method).1
  subst hsz
  have hD := hD0.self (sz := s.heap.size)
  generalize hAe : va_A [(y0, .inr (6, [.null, .int 0, .int 0, .int 0, .int 0, .long 0, .long 0])), (z0, .inr (6, [.ref x0, .int kd, .int wh, .int od, .int tu, .long lo, .long hi]))] s.heap.size = A at hD ⊢
  have hA : ∀ q : Nat, s.heap.size ≤ q → A q := fun q h => by rw [← hAe]; exact Or.inr h
  have hS : va_S A s.heap s.heap [] := va_S.rf
  have hP : va_P (dC, dI) vwCl [(y0, .inr (6, [.null, .int 0, .int 0, .int 0, .int 0, .long 0, .long 0])), (z0, .inr (6, [.ref x0, .int kd, .int wh, .int od, .int tu, .long lo, .long hi]))] s.heap := hP
  have hl := lv_entry ([.ref y0, .int p0, .ref z0, .int p3, .long l1, .long l2]) (n := 8) (Nat.le_of_ble_eq_true rfl)
  rw [lg_entry_eq]
  generalize (lg_sl ([.ref y0, .int p0, .ref z0, .int p3, .long l1, .long l2]) ++ List.replicate (8 - (lg_sl ([.ref y0, .int p0, .ref z0, .int p3, .long l1, .long l2])).length) Slot.unset).toArray = ls at hl ⊢
  have hl : lv_has ls 8 [(0, .ref y0), (1, .int p0), (2, .ref z0), (3, .int p3), (4, .long l1), (6, .long l2)] := hl
  have hw0_ := hts (.fieldLink RX6 37 "KeyAtlas$Sorted" "rows" "LKeyAtlas$Rows;") (List.mem_of_getElem? (l := wsX6_init_) (i := 1) rfl)
  have hw1_ := hts (.sameField "KeyAtlas$Sorted" "KeyAtlas$Keyed" "rows" "LKeyAtlas$Rows;") (List.mem_of_getElem? (l := wsX6_init_) (i := 2) rfl)
  have hw2_ := hts (.initialized RX3) (List.mem_of_getElem? (l := wsX6_init_) (i := 9) rfl)
  have hw3_ := hts (.methodLink RX6 11 yX3_init) (List.mem_of_getElem? (l := wsX6_init_) (i := 7) rfl)
  have hw4_ := hts (.instanceMethod yX3_init) (List.mem_of_getElem? (l := wsX6_init_) (i := 8) rfl)
  have hw5_ := hts (.fieldLink RX6 16 "KeyAtlas$Sorted" "order" "I") (List.mem_of_getElem? (l := wsX6_init_) (i := 3) rfl)
  have hw6_ := hts (.fieldLink RX6 22 "KeyAtlas$Sorted" "isTurned" "Z") (List.mem_of_getElem? (l := wsX6_init_) (i := 4) rfl)
  have hw7_ := hts (.fieldLink RX6 28 "KeyAtlas$Sorted" "low" "J") (List.mem_of_getElem? (l := wsX6_init_) (i := 5) rfl)
  have hw8_ := hts (.fieldLink RX6 34 "KeyAtlas$Sorted" "high" "J") (List.mem_of_getElem? (l := wsX6_init_) (i := 6) rfl)
  have hi0_ : ∀ w ∈ u_ws RX6 TX6 7, w ∈ wsX6_init_ := fun w h => List.mem_cons_of_mem _ (List.mem_append_left _ (List.mem_append_right _ h))
  refine lv_aload_n hx hb dX6_init__0 rfl (lv_at hl 0 rfl) ?_
  refine lv_iconst (v := 3) hx hb dX6_init__1 (by decide) ?_
  refine lv_iload_n hx hb dX6_init__2 rfl (lv_at hl 1 rfl) ?_
  refine lv_aload_n hx hb dX6_init__3 rfl (lv_at hl 2 rfl) ?_
  refine va_get (D := (dC, dI)) (ci := 6) (v := .ref x0) (C := RX6) (T := TX6) (N := 7) hx hb hts hi0_ hown hK hP 1 rfl rfl 0 (by decide) hw0_ (u_same hw1_) rfl dX6_init__4 ?_
  have hPc := hP.sub (ws' := [(y0, .inr (6, [.null, .int 0, .int 0, .int 0, .int 0, .long 0, .long 0]))]) [0] rfl
  have hDc := hD.sub (ws' := [(y0, .inr (6, [.null, .int 0, .int 0, .int 0, .int 0, .long 0, .long 0]))]) [0] (by decide) rfl
  have hKc := hK.sub (tys' := []) [] rfl
  have hFc := va_free (wc := [(y0, .inr (6, [.null, .int 0, .int 0, .int 0, .int 0, .long 0, .long 0]))]) hD hS hA [0] rfl
  refine va_callv (va_runI (As := [.int 3, .int p0, .ref x0]) (rest := []) ⟨hx, hb, hml, hown, hts⟩ (c_X3_init_X6 l  dC dI s.heap.size y0 3 p0 x0 .null (.int 0) (.int 0) (.int 0) (.int 0) (.long 0) (.long 0)) (cwI 3 hts gX6_init__X3_init rfl rfl rfl hw2_ hw3_ hw4_ rfl (by decide +kernel) ⟨(Nat.le_of_ble_eq_true rfl), (Nat.le_of_ble_eq_true rfl)⟩) ⟨pk_blind, pk_call hPc hKc hDc⟩ rfl rfl hl.1 rfl (lv_room (Nat.le_of_ble_eq_true rfl)) dX6_init__7 ⟨(Nat.le_of_ble_eq_true rfl), (Nat.le_of_ble_eq_true rfl)⟩) hS (fun q _ h => hFc q h) hFc (fun ur_1 t H1 locs ht hvm hw hB hz1 hk1 hS => ?_)
  try dsimp only at hw
  have jr_1 := hw
  obtain ⟨hP1, hK1, hD1⟩ := hB
  rw [ht] at hP1
  have hK1 := va_K.moved hvm.symm hK1
  obtain ⟨hP, hD⟩ := va_join (wr := [(z0, .inr (6, [.ref x0, .int kd, .int wh, .int od, .int tu, .long lo, .long hi]))]) (w1 := [(y0, .inr (6, [.ref x0, .int 3, .int p0, .int 0, .int 0, .long 0, .long 0]))]) hP hD [0] [1] rfl rfl (by decide) (by decide) hk1 hFc hP1 hD1
  clear hk1 hz1 ht hPc hDc hKc hFc
  generalize H1 = H at hP hS ⊢
  replace hP : va_P (dC, dI) vwCl [(z0, .inr (6, [.ref x0, .int kd, .int wh, .int od, .int tu, .long lo, .long hi])), (y0, .inr (6, [.ref x0, .int 3, .int p0, .int 0, .int 0, .long 0, .long 0]))] H := hP
  replace hD : va_D A [(z0, .inr (6, [.ref x0, .int kd, .int wh, .int od, .int tu, .long lo, .long hi])), (y0, .inr (6, [.ref x0, .int 3, .int p0, .int 0, .int 0, .long 0, .long 0]))] := hD
  refine W.widen (k := 0) (n := 0) (Nat.le_of_ble_eq_true rfl) (Nat.le_of_ble_eq_true rfl) ?_
  refine W.eq (g2 := F0 m 10 ls []) rfl ?_
  refine lv_aload_n hx hb dX6_init__10 rfl (lv_at hl 0 rfl) ?_
  refine lv_aload_n hx hb dX6_init__11 rfl (lv_at hl 2 rfl) ?_
  refine va_get (D := (dC, dI)) (ci := 6) (v := .int od) (C := RX6) (T := TX6) (N := 7) hx hb hts hi0_ hown hK hP 0 rfl rfl 3 (by decide) hw5_ (fun _ h9 => h9) rfl dX6_init__12 ?_
  refine va_putF (D := (dC, dI)) (ci := 6) (v := .int od) (ty := .int) (C := RX6) (T := TX6) (N := 7) hx hb hts hi0_ tyX6 tyX6_ok nmX6 hown hK hP hD hS 1 rfl rfl 3 (by decide) hw5_ (fun _ h9 => h9) rfl hin rfl (by decide +kernel) rfl rfl (Nat.le_of_ble_eq_true rfl) dX6_init__15 (fun H locs hP hD hS => ?_)
  replace hP : va_P (dC, dI) vwCl [(z0, .inr (6, [.ref x0, .int kd, .int wh, .int od, .int tu, .long lo, .long hi])), (y0, .inr (6, [.ref x0, .int 3, .int p0, .int od, .int 0, .long 0, .long 0]))] H := hP
  replace hD : va_D A [(z0, .inr (6, [.ref x0, .int kd, .int wh, .int od, .int tu, .long lo, .long hi])), (y0, .inr (6, [.ref x0, .int 3, .int p0, .int od, .int 0, .long 0, .long 0]))] := hD
  refine lv_aload_n hx hb dX6_init__18 rfl (lv_at hl 0 rfl) ?_
  refine lv_iload_n hx hb dX6_init__19 rfl (lv_at hl 3 rfl) ?_
  refine va_putF (D := (dC, dI)) (ci := 6) (v := .int p3) (ty := .boolean) (C := RX6) (T := TX6) (N := 7) hx hb hts hi0_ tyX6 tyX6_ok nmX6 hown hK hP hD hS 1 rfl rfl 4 (by decide) hw6_ (fun _ h9 => h9) rfl hin rfl (by decide +kernel) (by rcases hz with rfl | rfl <;> rfl) (by rcases hz with rfl | rfl <;> rfl) (Nat.le_of_ble_eq_true rfl) dX6_init__20 (fun H locs hP hD hS => ?_)
  replace hP : va_P (dC, dI) vwCl [(z0, .inr (6, [.ref x0, .int kd, .int wh, .int od, .int tu, .long lo, .long hi])), (y0, .inr (6, [.ref x0, .int 3, .int p0, .int od, .int p3, .long 0, .long 0]))] H := hP
  replace hD : va_D A [(z0, .inr (6, [.ref x0, .int kd, .int wh, .int od, .int tu, .long lo, .long hi])), (y0, .inr (6, [.ref x0, .int 3, .int p0, .int od, .int p3, .long 0, .long 0]))] := hD
  refine lv_aload_n hx hb dX6_init__23 rfl (lv_at hl 0 rfl) ?_
  refine lv_lload hx hb dX6_init__24 (lv_at hl 4 rfl) ?_
  refine va_putF (D := (dC, dI)) (ci := 6) (v := .long l1) (ty := .long) (C := RX6) (T := TX6) (N := 7) hx hb hts hi0_ tyX6 tyX6_ok nmX6 hown hK hP hD hS 1 rfl rfl 5 (by decide) hw7_ (fun _ h9 => h9) rfl hin rfl (by decide +kernel) rfl rfl (Nat.le_of_ble_eq_true rfl) dX6_init__26 (fun H locs hP hD hS => ?_)
  replace hP : va_P (dC, dI) vwCl [(z0, .inr (6, [.ref x0, .int kd, .int wh, .int od, .int tu, .long lo, .long hi])), (y0, .inr (6, [.ref x0, .int 3, .int p0, .int od, .int p3, .long l1, .long 0]))] H := hP
  replace hD : va_D A [(z0, .inr (6, [.ref x0, .int kd, .int wh, .int od, .int tu, .long lo, .long hi])), (y0, .inr (6, [.ref x0, .int 3, .int p0, .int od, .int p3, .long l1, .long 0]))] := hD
  refine lv_aload_n hx hb dX6_init__29 rfl (lv_at hl 0 rfl) ?_
  refine lv_lload hx hb dX6_init__30 (lv_at hl 5 rfl) ?_
  refine va_putF (D := (dC, dI)) (ci := 6) (v := .long l2) (ty := .long) (C := RX6) (T := TX6) (N := 7) hx hb hts hi0_ tyX6 tyX6_ok nmX6 hown hK hP hD hS 1 rfl rfl 6 (by decide) hw8_ (fun _ h9 => h9) rfl hin rfl (by decide +kernel) rfl rfl (Nat.le_of_ble_eq_true rfl) dX6_init__32 (fun H locs hP hD hS => ?_)
  replace hP : va_P (dC, dI) vwCl [(z0, .inr (6, [.ref x0, .int kd, .int wh, .int od, .int tu, .long lo, .long hi])), (y0, .inr (6, [.ref x0, .int 3, .int p0, .int od, .int p3, .long l1, .long l2]))] H := hP
  replace hD : va_D A [(z0, .inr (6, [.ref x0, .int kd, .int wh, .int od, .int tu, .long lo, .long hi])), (y0, .inr (6, [.ref x0, .int 3, .int p0, .int od, .int p3, .long l1, .long l2]))] := hD
  have hP9 := hP.sub (ws' := [(y0, .inr (6, [.ref x0, .int 3, .int p0, .int od, .int p3, .long l1, .long l2])), (z0, .inr (6, [.ref x0, .int kd, .int wh, .int od, .int tu, .long lo, .long hi]))]) [1, 0] rfl
  have hD9 := hD.sub (ws' := [(y0, .inr (6, [.ref x0, .int 3, .int p0, .int od, .int p3, .long l1, .long l2])), (z0, .inr (6, [.ref x0, .int kd, .int wh, .int od, .int tu, .long lo, .long hi]))]) [1, 0] (by decide) rfl
  have hK9 := hK.sub (tys' := []) [] rfl
  refine W.widen (k := 0) (n := 0) (Nat.le_of_ble_eq_true rfl) (Nat.le_of_ble_eq_true rfl) ?_
  exact W.vret hx hb hr (fun t ht hW => ⟨⟨(), rfl, trivial, by rw [ht]; exact hP9, va_K.moved hW.alike hK9, hD9⟩, hS.F ht⟩) hS.2.2 dX6_init__35
