theorem dX8_goes_0 : decode cX8_goes 0 = .ok (.aload_n 0, 1) := by decide +kernel
theorem dX8_goes_1 : decode cX8_goes 1 = .ok (.getfield 7, 3) := by decide +kernel
theorem dX8_goes_4 : decode cX8_goes 4 = .ok (.iload_n 1, 1) := by decide +kernel
theorem dX8_goes_5 : decode cX8_goes 5 = .ok (.iaload, 1) := by decide +kernel
theorem dX8_goes_6 : decode cX8_goes 6 = .ok (.iconst 1, 1) := by decide +kernel
theorem dX8_goes_7 : decode cX8_goes 7 = .ok (.if_icmp .ne 17, 3) := by decide +kernel
theorem dX8_goes_24 : decode cX8_goes 24 = .ok (.iconst 0, 1) := by decide +kernel
theorem dX8_goes_25 : decode cX8_goes 25 = .ok (.istore_n 3, 1) := by decide +kernel
theorem dX8_goes_26 : decode cX8_goes 26 = .ok (.iload_n 2, 1) := by decide +kernel
theorem dX8_goes_27 : decode cX8_goes 27 = .ok (.istore 4, 2) := by decide +kernel
theorem dX8_goes_29 : decode cX8_goes 29 = .ok (.iload 4, 2) := by decide +kernel
theorem dX8_goes_31 : decode cX8_goes 31 = .ok (.iconst 1, 1) := by decide +kernel
theorem dX8_goes_32 : decode cX8_goes 32 = .ok (.iadd, 1) := by decide +kernel
theorem dX8_goes_33 : decode cX8_goes 33 = .ok (.aload_n 0, 1) := by decide +kernel
theorem dX8_goes_34 : decode cX8_goes 34 = .ok (.getfield 17, 3) := by decide +kernel
theorem dX8_goes_37 : decode cX8_goes 37 = .ok (.iload_n 1, 1) := by decide +kernel
theorem dX8_goes_38 : decode cX8_goes 38 = .ok (.iaload, 1) := by decide +kernel
theorem dX8_goes_39 : decode cX8_goes 39 = .ok (.if_icmp .ge 34, 3) := by decide +kernel
theorem dX8_goes_73 : decode cX8_goes 73 = .ok (.aload_n 0, 1) := by decide +kernel
theorem dX8_goes_74 : decode cX8_goes 74 = .ok (.getfield 17, 3) := by decide +kernel
theorem dX8_goes_77 : decode cX8_goes 77 = .ok (.iload_n 1, 1) := by decide +kernel
theorem dX8_goes_78 : decode cX8_goes 78 = .ok (.dup2, 1) := by decide +kernel
theorem dX8_goes_79 : decode cX8_goes 79 = .ok (.iaload, 1) := by decide +kernel
theorem dX8_goes_80 : decode cX8_goes 80 = .ok (.iconst 1, 1) := by decide +kernel
theorem dX8_goes_81 : decode cX8_goes 81 = .ok (.isub, 1) := by decide +kernel
theorem dX8_goes_82 : decode cX8_goes 82 = .ok (.iastore, 1) := by decide +kernel
theorem dX8_goes_83 : decode cX8_goes 83 = .ok (.aload_n 0, 1) := by decide +kernel
theorem dX8_goes_84 : decode cX8_goes 84 = .ok (.getfield 29, 3) := by decide +kernel
theorem dX8_goes_87 : decode cX8_goes 87 = .ok (.iload_n 1, 1) := by decide +kernel
theorem dX8_goes_88 : decode cX8_goes 88 = .ok (.dup2, 1) := by decide +kernel
theorem dX8_goes_89 : decode cX8_goes 89 = .ok (.iaload, 1) := by decide +kernel
theorem dX8_goes_90 : decode cX8_goes 90 = .ok (.iconst 1, 1) := by decide +kernel
theorem dX8_goes_91 : decode cX8_goes 91 = .ok (.iadd, 1) := by decide +kernel
theorem dX8_goes_92 : decode cX8_goes 92 = .ok (.iastore, 1) := by decide +kernel
theorem dX8_goes_93 : decode cX8_goes 93 = .ok (.sipush 4200, 3) := by decide +kernel
theorem dX8_goes_96 : decode cX8_goes 96 = .ok (.iload_n 1, 1) := by decide +kernel
theorem dX8_goes_97 : decode cX8_goes 97 = .ok (.imul, 1) := by decide +kernel
theorem dX8_goes_98 : decode cX8_goes 98 = .ok (.sipush 2000, 3) := by decide +kernel
theorem dX8_goes_101 : decode cX8_goes 101 = .ok (.iadd, 1) := by decide +kernel
theorem dX8_goes_102 : decode cX8_goes 102 = .ok (.iload_n 3, 1) := by decide +kernel
theorem dX8_goes_103 : decode cX8_goes 103 = .ok (.iadd, 1) := by decide +kernel
theorem dX8_goes_104 : decode cX8_goes 104 = .ok (.istore 4, 2) := by decide +kernel
theorem dX8_goes_106 : decode cX8_goes 106 = .ok (.aload_n 0, 1) := by decide +kernel
theorem dX8_goes_107 : decode cX8_goes 107 = .ok (.getfield 7, 3) := by decide +kernel
theorem dX8_goes_110 : decode cX8_goes 110 = .ok (.iload_n 1, 1) := by decide +kernel
theorem dX8_goes_111 : decode cX8_goes 111 = .ok (.iaload, 1) := by decide +kernel
theorem dX8_goes_112 : decode cX8_goes 112 = .ok (.iconst 1, 1) := by decide +kernel
theorem dX8_goes_113 : decode cX8_goes 113 = .ok (.if_icmp .ne 33, 3) := by decide +kernel
theorem dX8_goes_146 : decode cX8_goes 146 = .ok (.return_, 1) := by decide +kernel
theorem dX8_goes_42 : decode cX8_goes 42 = .ok (.aload_n 0, 1) := by decide +kernel
theorem dX8_goes_43 : decode cX8_goes 43 = .ok (.iload_n 1, 1) := by decide +kernel
theorem dX8_goes_44 : decode cX8_goes 44 = .ok (.iload 4, 2) := by decide +kernel
theorem dX8_goes_46 : decode cX8_goes 46 = .ok (.aload_n 0, 1) := by decide +kernel
theorem dX8_goes_47 : decode cX8_goes 47 = .ok (.iload_n 1, 1) := by decide +kernel
theorem dX8_goes_48 : decode cX8_goes 48 = .ok (.iload 4, 2) := by decide +kernel
theorem dX8_goes_50 : decode cX8_goes 50 = .ok (.iconst 1, 1) := by decide +kernel
theorem dX8_goes_51 : decode cX8_goes 51 = .ok (.iadd, 1) := by decide +kernel
set_option maxRecDepth 20000 in
theorem ggX8_goes_X8_key : GoodIn wsX8_goes wsX8_key := goodIn_r _ [9, 4, 32, 33, 34, 35, 36, 37, 38, 39, 40, 41, 42, 43, 44, 45, 46, 47, 48] rfl (by decide +kernel)
set_option maxRecDepth 20000 in
theorem gX8_goes_X8_key : GoodIn wsX8_goes (wsV RX8 111 RX8 yX8_key wsX8_key) := goodIn_app (goodIn_of _ (by decide +kernel)) ggX8_goes_X8_key
theorem dX8_goes_52 : decode cX8_goes 52 = .ok (.invokevirtual 111, 3) := by decide +kernel
theorem dX8_goes_55 : decode cX8_goes 55 = .ok (.aload_n 0, 1) := by decide +kernel
theorem dX8_goes_56 : decode cX8_goes 56 = .ok (.iload_n 1, 1) := by decide +kernel
theorem dX8_goes_57 : decode cX8_goes 57 = .ok (.iload 4, 2) := by decide +kernel
theorem dX8_goes_59 : decode cX8_goes 59 = .ok (.iconst 1, 1) := by decide +kernel
theorem dX8_goes_60 : decode cX8_goes 60 = .ok (.iadd, 1) := by decide +kernel
set_option maxRecDepth 20000 in
theorem ggX8_goes_X8_value : GoodIn wsX8_goes wsX8_value := goodIn_r _ [23, 4, 32, 33, 34, 35, 36, 37, 38, 39, 40, 41, 42, 43, 44, 45, 46, 47, 48] rfl (by decide +kernel)
set_option maxRecDepth 20000 in
theorem gX8_goes_X8_value : GoodIn wsX8_goes (wsV RX8 118 RX8 yX8_value wsX8_value) := goodIn_app (goodIn_of _ (by decide +kernel)) ggX8_goes_X8_value
theorem dX8_goes_61 : decode cX8_goes 61 = .ok (.invokevirtual 118, 3) := by decide +kernel
set_option maxRecDepth 20000 in
theorem ggX8_goes_X8_set : GoodIn wsX8_goes wsX8_set := goodIn_r _ [27, 4, 32, 33, 34, 35, 36, 37, 38, 39, 40, 41, 42, 43, 44, 45, 46, 47, 48] rfl (by decide +kernel)
set_option maxRecDepth 20000 in
theorem gX8_goes_X8_set : GoodIn wsX8_goes (wsV RX8 121 RX8 yX8_set wsX8_set) := goodIn_app (goodIn_of _ (by decide +kernel)) ggX8_goes_X8_set
theorem dX8_goes_64 : decode cX8_goes 64 = .ok (.invokevirtual 121, 3) := by decide +kernel
theorem dX8_goes_67 : decode cX8_goes 67 = .ok (.iinc 4 1, 3) := by decide +kernel
theorem dX8_goes_70 : decode cX8_goes 70 = .ok (.goto (-41), 3) := by decide +kernel
theorem dX8_goes_10 : decode cX8_goes 10 = .ok (.aload_n 0, 1) := by decide +kernel
theorem dX8_goes_11 : decode cX8_goes 11 = .ok (.iload_n 1, 1) := by decide +kernel
theorem dX8_goes_12 : decode cX8_goes 12 = .ok (.aload_n 0, 1) := by decide +kernel
theorem dX8_goes_13 : decode cX8_goes 13 = .ok (.iload_n 1, 1) := by decide +kernel
theorem dX8_goes_14 : decode cX8_goes 14 = .ok (.iload_n 2, 1) := by decide +kernel
theorem dX8_goes_15 : decode cX8_goes 15 = .ok (.invokevirtual 111, 3) := by decide +kernel
set_option maxRecDepth 20000 in
theorem ggX8_goes_X8_bin : GoodIn wsX8_goes wsX8_bin := goodIn_r _ [13, 14, 15, 16, 17, 18, 8, 19, 32, 33, 34, 35, 36, 37, 38, 39, 40, 41, 42, 43, 44, 45, 46, 47, 48] rfl (by decide +kernel)
set_option maxRecDepth 20000 in
theorem gX8_goes_X8_bin : GoodIn wsX8_goes (wsV RX8 115 RX8 yX8_bin wsX8_bin) := goodIn_app (goodIn_of _ (by decide +kernel)) ggX8_goes_X8_bin
theorem dX8_goes_18 : decode cX8_goes 18 = .ok (.invokevirtual 115, 3) := by decide +kernel
theorem dX8_goes_21 : decode cX8_goes 21 = .ok (.goto 4, 3) := by decide +kernel
theorem dX8_goes_116 : decode cX8_goes 116 = .ok (.aload_n 0, 1) := by decide +kernel
theorem dX8_goes_117 : decode cX8_goes 117 = .ok (.getfield 14, 3) := by decide +kernel
theorem dX8_goes_120 : decode cX8_goes 120 = .ok (.iload 4, 2) := by decide +kernel
theorem dX8_goes_122 : decode cX8_goes 122 = .ok (.iaload, 1) := by decide +kernel
theorem dX8_goes_123 : decode cX8_goes 123 = .ok (.iconst 1, 1) := by decide +kernel
theorem dX8_goes_124 : decode cX8_goes 124 = .ok (.if_icmp .ne 22, 3) := by decide +kernel
theorem dX8_goes_127 : decode cX8_goes 127 = .ok (.aload_n 0, 1) := by decide +kernel
theorem dX8_goes_128 : decode cX8_goes 128 = .ok (.iload_n 1, 1) := by decide +kernel
theorem dX8_goes_129 : decode cX8_goes 129 = .ok (.iload_n 3, 1) := by decide +kernel
set_option maxRecDepth 20000 in
theorem ggX8_goes_X8_inBin : GoodIn wsX8_goes wsX8_inBin := goodIn_r _ [31, 2, 5, 6, 7, 8, 9, 4, 10, 11, 12, 13, 14, 15, 16, 17, 18, 19, 32, 33, 34, 35, 36, 37, 38, 39, 40, 41, 42, 43, 44, 45, 46, 47, 48] rfl (by decide +kernel)
set_option maxRecDepth 20000 in
theorem gX8_goes_X8_inBin : GoodIn wsX8_goes (wsV RX8 125 RX8 yX8_inBin wsX8_inBin) := goodIn_app (goodIn_of _ (by decide +kernel)) ggX8_goes_X8_inBin
theorem dX8_goes_130 : decode cX8_goes 130 = .ok (.invokevirtual 125, 3) := by decide +kernel
theorem dX8_goes_133 : decode cX8_goes 133 = .ok (.bipush 6, 2) := by decide +kernel
theorem dX8_goes_135 : decode cX8_goes 135 = .ok (.if_icmp .gt 11, 3) := by decide +kernel
theorem dX8_goes_138 : decode cX8_goes 138 = .ok (.aload_n 0, 1) := by decide +kernel
theorem dX8_goes_139 : decode cX8_goes 139 = .ok (.getfield 14, 3) := by decide +kernel
theorem dX8_goes_142 : decode cX8_goes 142 = .ok (.iload 4, 2) := by decide +kernel
theorem dX8_goes_144 : decode cX8_goes 144 = .ok (.iconst 0, 1) := by decide +kernel
theorem dX8_goes_145 : decode cX8_goes 145 = .ok (.iastore, 1) := by decide +kernel
set_option maxHeartbeats 4000000 in
set_option maxRecDepth 100000 in
/-- a key goes -/
theorem c_X8_goes (l : Launch) (dC : Nat → ClassId) (dI : Nat → Nat → Nat) (sz : Nat) (h0 : Nat) (th : Int32) (q1 : Nat) (q2 : Nat) (q3 : Nat) (q5 : Nat) (q6 : Nat) (q7 : Nat) (c1 : ClassId) (c2 : ClassId) (c3 : ClassId) (c5 : ClassId) (c6 : ClassId) (c7 : ClassId) (a1 : Nat → Int32) (a2 : Nat → Int32) (a3 : Nat → Int32) (a5 : Nat → Int32) (a6 : Nat → Int32) (a7 : Nat → Int32) (v4 : Value) (v8 : Value) (v9 : Value) (v10 : Value) (v11 : Value) (v12 : Value) (v13 : Value) (v14 : Value) (v15 : Value) (v16 : Value) (r : Nat) (k9 : Nat) (tb : Nat) (nz : Nat) (hr9 : r < 16) (hk9 : k9 < nz) (hs9 : a3 r = nI nz) (hz9 : nz ≤ 1000) (hT9 : (a1 r).toInt = 1 → 1 ≤ tb ∧ tb ≤ 2048 ∧ (∃ j : Nat, tb = 2 ^ j) ∧ a6 r = nI tb) : Met l yX8_goes wsX8_goes ({ frames := 3, cells := 0, slots := 0, locals := 120 }) (va_Pc [.ref h0, .int (nI r), .int (nI k9)] (pk_Pre (dC, dI) [(h0, .inr (8, [.int th, .ref q1, .ref q2, .ref q3, v4, .ref q5, .ref q6, .ref q7, v8, v9, v10, v11, v12, v13, v14, v15, v16])), (q1, .inl (c1, 16, .inl a1)), (q2, .inl (c2, 67200, .inl a2)), (q3, .inl (c3, 16, .inl a3)), (q5, .inl (c5, 16, .inl a5)), (q6, .inl (c6, 16, .inl a6)), (q7, .inl (c7, 16, .inl a7))] [(c1, .int), (c2, .int), (c3, .int), (c5, .int), (c6, .int), (c7, .int)] sz)) (va_Qv (fun (b2 : Nat → Int32) => outR a2 b2 r ∧ shR a2 b2 r k9 (nz - 1)) (fun (b2 : Nat → Int32) (t : State) => va_P (dC, dI) vwCl [(h0, .inr (8, [.int th, .ref q1, .ref q2, .ref q3, v4, .ref q5, .ref q6, .ref q7, v8, v9, v10, v11, v12, v13, v14, v15, v16])), (q1, .inl (c1, 16, .inl a1)), (q2, .inl (c2, 67200, .inl b2)), (q3, .inl (c3, 16, .inl (upd a3 r (nI (nz - 1))))), (q5, .inl (c5, 16, .inl a5)), (q6, .inl (c6, 16, .inl a6)), (q7, .inl (c7, 16, .inl (upd a7 r (a7 r + 1))))] t.heap ∧ va_K (dC, dI) vwCl [(c1, .int), (c2, .int), (c3, .int), (c5, .int), (c6, .int), (c7, .int)] t ∧ va_D (va_A [(h0, .inr (8, [.int th, .ref q1, .ref q2, .ref q3, v4, .ref q5, .ref q6, .ref q7, v8, v9, v10, v11, v12, v13, v14, v15, v16])), (q1, .inl (c1, 16, .inl a1)), (q2, .inl (c2, 67200, .inl a2)), (q3, .inl (c3, 16, .inl a3)), (q5, .inl (c5, 16, .inl a5)), (q6, .inl (c6, 16, .inl a6)), (q7, .inl (c7, 16, .inl a7))] sz) [(h0, .inr (8, [.int th, .ref q1, .ref q2, .ref q3, v4, .ref q5, .ref q6, .ref q7, v8, v9, v10, v11, v12, v13, v14, v15, v16])), (q1, .inl (c1, 16, .inl a1)), (q2, .inl (c2, 67200, .inl b2)), (q3, .inl (c3, 16, .inl (upd a3 r (nI (nz - 1))))), (q5, .inl (c5, 16, .inl a5)), (q6, .inl (c6, 16, .inl a6)), (q7, .inl (c7, 16, .inl (upd a7 r (a7 r + 1))))]) (va_A [(h0, .inr (8, [.int th, .ref q1, .ref q2, .ref q3, v4, .ref q5, .ref q6, .ref q7, v8, v9, v10, v11, v12, v13, v14, v15, v16])), (q1, .inl (c1, 16, .inl a1)), (q2, .inl (c2, 67200, .inl a2)), (q3, .inl (c3, 16, .inl a3)), (q5, .inl (c5, 16, .inl a5)), (q6, .inl (c6, 16, .inl a6)), (q7, .inl (c7, 16, .inl a7))] sz)) 0 0 (va_A [(h0, .inr (8, [.int th, .ref q1, .ref q2, .ref q3, v4, .ref q5, .ref q6, .ref q7, v8, v9, v10, v11, v12, v13, v14, v15, v16])), (q1, .inl (c1, 16, .inl a1)), (q2, .inl (c2, 67200, .inl a2)), (q3, .inl (c3, 16, .inl a3)), (q5, .inl (c5, 16, .inl a5)), (q6, .inl (c6, 16, .inl a6)), (q7, .inl (c7, 16, .inl a7))] sz) := by
  refine Met.ofW (cc := cX8_goes) (maxL := 5) (ret := none) (by decide) rfl ?_
  intro p e s m args below meth c s₁ B hml hv
  obtain ⟨rfl, hsz, hP, hK, hD0⟩ := hv
  have hx := B.exec
  have hb := B.bytes
  have hr := B.returns
  have hts := atoms_spec (ws := wsX8_goes) B.pre
  have hown : s.vm.findClass RX8 = some m.cls := findClass_of_methodNamed B.named
  have hlocks := B.notSynchronized
  subst hsz
  have hD := hD0.self (sz := s.heap.size)
  generalize hAe : va_A [(h0, .inr (8, [.int th, .ref q1, .ref q2, .ref q3, v4, .ref q5, .ref q6, .ref q7, v8, v9, v10, v11, v12, v13, v14, v15, v16])), (q1, .inl (c1, 16, .inl a1)), (q2, .inl (c2, 67200, .inl a2)), (q3, .inl (c3, 16, .inl a3)), (q5, .inl (c5, 16, .inl a5)), (q6, .inl (c6, 16, .inl a6)), (q7, .inl (c7, 16, .inl a7))] s.heap.size = A at hD ⊢
  have hA : ∀ q : Nat, s.heap.size ≤ q → A q := fun q h => by rw [← hAe]; exact Or.inr h
  have hS : va_S A s.heap s.heap [] := va_S.rf
  have hP : va_P (dC, dI) vwCl [(h0, .inr (8, [.int th, .ref q1, .ref q2, .ref q3, v4, .ref q5, .ref q6, .ref q7, v8, v9, v10, v11, v12, v13, v14, v15, v16])), (q1, .inl (c1, 16, .inl a1)), (q2, .inl (c2, 67200, .inl a2)), (q3, .inl (c3, 16, .inl a3)), (q5, .inl (c5, 16, .inl a5)), (q6, .inl (c6, 16, .inl a6)), (q7, .inl (c7, 16, .inl a7))] s.heap := hP
  have hl := lv_entry ([.ref h0, .int (nI r), .int (nI k9)]) (n := 5) (Nat.le_of_ble_eq_true rfl)
  rw [lg_entry_eq]
  generalize (lg_sl ([.ref h0, .int (nI r), .int (nI k9)]) ++ List.replicate (5 - (lg_sl ([.ref h0, .int (nI r), .int (nI k9)])).length) Slot.unset).toArray = ls at hl ⊢
  have hl : lv_has ls 5 [(0, .ref h0), (1, .int (nI r)), (2, .int (nI k9))] := hl
  have hw0_ := hts (.fieldLink RX8 7 "KeyAtlasModel" "kind" "[I") (List.mem_of_getElem? (l := wsX8_goes) (i := 1) rfl)
  have hw1_ := hts (.fieldLink RX8 17 "KeyAtlasModel" "size" "[I") (List.mem_of_getElem? (l := wsX8_goes) (i := 2) rfl)
  have hw2_ := hts (.fieldLink RX8 29 "KeyAtlasModel" "changes" "[I") (List.mem_of_getElem? (l := wsX8_goes) (i := 3) rfl)
  have hw3_ := hts (.fieldLink RX8 14 "KeyAtlasModel" "cell" "[I") (List.mem_of_getElem? (l := wsX8_goes) (i := 4) rfl)
  have hi0_ : ∀ w ∈ u_ws RX8 TX8 17, w ∈ wsX8_goes := fun w h => List.mem_cons_of_mem _ (List.mem_append_right _ h)
  refine lv_aload_n hx hb dX8_goes_0 rfl (lv_at hl 0 rfl) ?_
  refine va_get (D := (dC, dI)) (ci := 8) (v := .ref q1) (C := RX8) (T := TX8) (N := 17) hx hb hts hi0_ hown hK hP 0 rfl rfl 1 (by decide) hw0_ (fun _ h9 => h9) rfl dX8_goes_1 ?_
  refine lv_iload_n hx hb dX8_goes_4 rfl (lv_at hl 1 rfl) ?_
  refine va_iald (i := nI r) hx hb hK hP 1 0 rfl rfl (vp_in_nI (by omega) (by omega)) dX8_goes_5 ?_
  refine W.eq (g2 := F0 m 6 ls [.int (a1 r)]) (by rw [nI_clamp (by omega)]) ?_
  refine lv_iconst (v := 1) hx hb dX8_goes_6 (by decide) ?_
  refine lv_icmp_ne (tgt := 24) hx hb dX8_goes_7 (by decide) (fun c_1 => ?_) (fun c_1 => ?_)
  ·
    have ic_1 : ¬ (a1 r).toInt = 1 := tx_ne rfl (by decide) c_1
    refine lv_iconst (v := 0) hx hb dX8_goes_24 (by decide) ?_
    refine lv_istore_n (lv' := [(3, .int 0), (0, .ref h0), (1, .int (nI r)), (2, .int (nI k9))]) hx hb dX8_goes_25 rfl hl (by decide) rfl (fun ls hl => ?_)
    refine lv_iload_n hx hb dX8_goes_26 rfl (lv_at hl 3 rfl) ?_
    refine lv_istore (lv' := [(4, .int (nI k9)), (3, .int 0), (0, .ref h0), (1, .int (nI r)), (2, .int (nI k9))]) hx hb dX8_goes_27 hl (by decide) rfl (fun ls hl => ?_)
    obtain ⟨H, hH9⟩ : ∃ H : Heap, H = s.heap := ⟨_, rfl⟩
    obtain ⟨locs, hlo9⟩ : ∃ z : List Loc, z = [] := ⟨_, rfl⟩
    refine tx_hv hH9 hlo9 ?_
    have hP : va_P (dC, dI) vwCl [(h0, .inr (8, [.int th, .ref q1, .ref q2, .ref q3, v4, .ref q5, .ref q6, .ref q7, v8, v9, v10, v11, v12, v13, v14, v15, v16])), (q1, .inl (c1, 16, .inl a1)), (q2, .inl (c2, 67200, .inl a2)), (q3, .inl (c3, 16, .inl a3)), (q5, .inl (c5, 16, .inl a5)), (q6, .inl (c6, 16, .inl a6)), (q7, .inl (c7, 16, .inl a7))] H := by rw [hH9]; exact hP
    have hS : va_S A s.heap H locs := by rw [hH9, hlo9]; exact hS
    clear hH9 hlo9
    obtain ⟨i, es_i⟩ : ∃ z : Nat, z = k9 := ⟨_, rfl⟩
    obtain ⟨x9, ex9⟩ : ∃ y : Int32, y = nI i := ⟨_, rfl⟩
    obtain ⟨f9, ef_f9⟩ : ∃ z : Nat → Int32, z = a2 := ⟨_, rfl⟩
    obtain ⟨n9, en9⟩ : ∃ n : Nat, n = nz + 1 := ⟨_, rfl⟩
    replace hl : lv_has ls 5 [(4, .int x9), (3, .int 0), (0, .ref h0), (1, .int (nI r)), (2, .int (nI k9))] := by subst ex9; subst es_i; exact hl
    replace hP : va_P (dC, dI) vwCl [(h0, .inr (8, [.int th, .ref q1, .ref q2, .ref q3, v4, .ref q5, .ref q6, .ref q7, v8, v9, v10, v11, v12, v13, v14, v15, v16])), (q1, .inl (c1, 16, .inl a1)), (q2, .inl (c2, 67200, .inl f9)), (q3, .inl (c3, 16, .inl a3)), (q5, .inl (c5, 16, .inl a5)), (q6, .inl (c6, 16, .inl a6)), (q7, .inl (c7, 16, .inl a7))] H := by subst ef_f9; exact hP
    replace hD : va_D A [(h0, .inr (8, [.int th, .ref q1, .ref q2, .ref q3, v4, .ref q5, .ref q6, .ref q7, v8, v9, v10, v11, v12, v13, v14, v15, v16])), (q1, .inl (c1, 16, .inl a1)), (q2, .inl (c2, 67200, .inl f9)), (q3, .inl (c3, 16, .inl a3)), (q5, .inl (c5, 16, .inl a5)), (q6, .inl (c6, 16, .inl a6)), (q7, .inl (c7, 16, .inl a7))] := by subst ef_f9; exact hD
    have hi9 : i < nz := by subst ex9; subst es_i; subst ef_f9; subst en9; exact hk9
    have hn9 : nz + 1 ≤ i + n9 := by subst ex9; subst es_i; subst ef_f9; subst en9; exact by omega
    have hv9 : outR a2 f9 r := by subst ex9; subst es_i; subst ef_f9; subst en9; exact outR_rf
    have hj9 : k9 ≤ i := by subst ex9; subst es_i; subst ef_f9; subst en9; exact Nat.le_refl _
    have hw9 : shR a2 f9 r k9 i := by subst ex9; subst es_i; subst ef_f9; subst en9; exact shR_rf
    clear en9 es_i ef_f9
    induction n9 generalizing i x9 ls H locs f9 with
    | zero => exact absurd hn9 (by omega)
    | succ n9 ih =>
      subst ex9
      refine lv_iload hx hb dX8_goes_29 (lv_at hl 0 rfl) ?_
      refine lv_iconst (v := 1) hx hb dX8_goes_31 (by decide) ?_
      refine lv_iadd hx hb dX8_goes_32 ?_
      refine lv_topi (fun z_2 ez_2 => ?_)
      obtain rfl : z_2 = nI (i + 1) := ez_2.trans (by rw [show (1 : Int32) = nI 1 from rfl, nI_add])
      refine lv_aload_n hx hb dX8_goes_33 rfl (lv_at hl 2 rfl) ?_
      refine va_get (D := (dC, dI)) (ci := 8) (v := .ref q3) (C := RX8) (T := TX8) (N := 17) hx hb hts hi0_ hown hK hP 0 rfl rfl 3 (by decide) hw1_ (fun _ h9 => h9) rfl dX8_goes_34 ?_
      refine lv_iload_n hx hb dX8_goes_37 rfl (lv_at hl 3 rfl) ?_
      refine va_iald (i := nI r) hx hb hK hP 3 2 rfl rfl (vp_in_nI (by omega) (by omega)) dX8_goes_38 ?_
      refine W.eq (g2 := F0 m 39 ls [.int (a3 r), .int (nI (i + 1))]) (by rw [nI_clamp (by omega)]) ?_
      refine W.eq (g2 := F0 m 39 ls [.int (nI nz), .int (nI (i + 1))]) (by rw [hs9]) ?_
      refine lv_icmp_ge (tgt := 73) hx hb dX8_goes_39 (by decide) (fun c_3 => ?_) (fun c_3 => ?_)
      ·
        have ic_3 : ((nz : Nat) : Int) ≤ ((i + 1 : Nat) : Int) := tx_le (nI_toInt (by omega)) (nI_toInt (by omega)) c_3
        refine lv_aload_n hx hb dX8_goes_73 rfl (lv_at hl 2 rfl) ?_
        refine va_get (D := (dC, dI)) (ci := 8) (v := .ref q3) (C := RX8) (T := TX8) (N := 17) hx hb hts hi0_ hown hK hP 0 rfl rfl 3 (by decide) hw1_ (fun _ h9 => h9) rfl dX8_goes_74 ?_
        refine lv_iload_n hx hb dX8_goes_77 rfl (lv_at hl 3 rfl) ?_
        refine lv_dup2_11 hx hb dX8_goes_78 rfl rfl ?_
        refine va_iald (i := nI r) hx hb hK hP 3 2 rfl rfl (vp_in_nI (by omega) (by omega)) dX8_goes_79 ?_
        refine W.eq (g2 := F0 m 80 ls [.int (a3 r), .int (nI r), .ref q3]) (by rw [nI_clamp (by omega)]) ?_
        refine W.eq (g2 := F0 m 80 ls [.int (nI nz), .int (nI r), .ref q3]) (by rw [hs9]) ?_
        refine lv_iconst (v := 1) hx hb dX8_goes_80 (by decide) ?_
        refine lv_isub hx hb dX8_goes_81 ?_
        refine lv_topi (fun z_4 ez_4 => ?_)
        obtain rfl : z_4 = nI (nz - 1) := ez_4.trans (by rw [show (1 : Int32) = nI 1 from rfl, pk_sub (by omega)])
        refine va_iast (i := nI r) hx hb hK hP hD hS 3 2 rfl rfl (vp_in_nI (by omega) (by omega)) dX8_goes_82 (fun H locs hP hD hS => ?_)
        rw [nI_clamp (by omega)] at hP hD
        replace hP : va_P (dC, dI) vwCl [(h0, .inr (8, [.int th, .ref q1, .ref q2, .ref q3, v4, .ref q5, .ref q6, .ref q7, v8, v9, v10, v11, v12, v13, v14, v15, v16])), (q1, .inl (c1, 16, .inl a1)), (q2, .inl (c2, 67200, .inl f9)), (q3, .inl (c3, 16, .inl (upd a3 r (nI (nz - 1))))), (q5, .inl (c5, 16, .inl a5)), (q6, .inl (c6, 16, .inl a6)), (q7, .inl (c7, 16, .inl a7))] H := hP
        replace hD : va_D A [(h0, .inr (8, [.int th, .ref q1, .ref q2, .ref q3, v4, .ref q5, .ref q6, .ref q7, v8, v9, v10, v11, v12, v13, v14, v15, v16])), (q1, .inl (c1, 16, .inl a1)), (q2, .inl (c2, 67200, .inl f9)), (q3, .inl (c3, 16, .inl (upd a3 r (nI (nz - 1))))), (q5, .inl (c5, 16, .inl a5)), (q6, .inl (c6, 16, .inl a6)), (q7, .inl (c7, 16, .inl a7))] := hD
        refine lv_aload_n hx hb dX8_goes_83 rfl (lv_at hl 2 rfl) ?_
        refine va_get (D := (dC, dI)) (ci := 8) (v := .ref q7) (C := RX8) (T := TX8) (N := 17) hx hb hts hi0_ hown hK hP 0 rfl rfl 7 (by decide) hw2_ (fun _ h9 => h9) rfl dX8_goes_84 ?_
        refine lv_iload_n hx hb dX8_goes_87 rfl (lv_at hl 3 rfl) ?_
        refine lv_dup2_11 hx hb dX8_goes_88 rfl rfl ?_
        refine va_iald (i := nI r) hx hb hK hP 6 5 rfl rfl (vp_in_nI (by omega) (by omega)) dX8_goes_89 ?_
        refine W.eq (g2 := F0 m 90 ls [.int (a7 r), .int (nI r), .ref q7]) (by rw [nI_clamp (by omega)]) ?_
        refine lv_iconst (v := 1) hx hb dX8_goes_90 (by decide) ?_
        refine lv_iadd hx hb dX8_goes_91 ?_
        refine va_iast (i := nI r) hx hb hK hP hD hS 6 5 rfl rfl (vp_in_nI (by omega) (by omega)) dX8_goes_92 (fun H locs hP hD hS => ?_)
        rw [nI_clamp (by omega)] at hP hD
        replace hP : va_P (dC, dI) vwCl [(h0, .inr (8, [.int th, .ref q1, .ref q2, .ref q3, v4, .ref q5, .ref q6, .ref q7, v8, v9, v10, v11, v12, v13, v14, v15, v16])), (q1, .inl (c1, 16, .inl a1)), (q2, .inl (c2, 67200, .inl f9)), (q3, .inl (c3, 16, .inl (upd a3 r (nI (nz - 1))))), (q5, .inl (c5, 16, .inl a5)), (q6, .inl (c6, 16, .inl a6)), (q7, .inl (c7, 16, .inl (upd a7 r ((a7 r) + 1))))] H := hP
        replace hD : va_D A [(h0, .inr (8, [.int th, .ref q1, .ref q2, .ref q3, v4, .ref q5, .ref q6, .ref q7, v8, v9, v10, v11, v12, v13, v14, v15, v16])), (q1, .inl (c1, 16, .inl a1)), (q2, .inl (c2, 67200, .inl f9)), (q3, .inl (c3, 16, .inl (upd a3 r (nI (nz - 1))))), (q5, .inl (c5, 16, .inl a5)), (q6, .inl (c6, 16, .inl a6)), (q7, .inl (c7, 16, .inl (upd a7 r ((a7 r) + 1))))] := hD
        refine lv_sipush (v := 4200) hx hb dX8_goes_93 (by decide) ?_
        refine lv_iload_n hx hb dX8_goes_96 rfl (lv_at hl 3 rfl) ?_
        refine lv_imul hx hb dX8_goes_97 ?_
        refine lv_topi (fun z_5 ez_5 => ?_)
        obtain rfl : z_5 = nI (4200 * r) := ez_5.trans (by rw [show (4200 : Int32) = nI 4200 from rfl, pk_mul])
        refine lv_sipush (v := 2000) hx hb dX8_goes_98 (by decide) ?_
        refine lv_iadd hx hb dX8_goes_101 ?_
        refine lv_topi (fun z_6 ez_6 => ?_)
        obtain rfl : z_6 = nI ((4200 * r) + 2000) := ez_6.trans (by rw [show (2000 : Int32) = nI 2000 from rfl, nI_add])
        refine lv_iload_n hx hb dX8_goes_102 rfl (lv_at hl 1 rfl) ?_
        refine lv_iadd hx hb dX8_goes_103 ?_
        refine lv_topi (fun z_7 ez_7 => ?_)
        obtain rfl : z_7 = nI (((4200 * r) + 2000) + 0) := ez_7.trans (by rw [show (0 : Int32) = nI 0 from rfl, nI_add])
        refine lv_istore (lv' := [(4, .int (nI (((4200 * r) + 2000) + 0))), (3, .int 0), (0, .ref h0), (1, .int (nI r)), (2, .int (nI k9))]) hx hb dX8_goes_104 hl (by decide) rfl (fun ls hl => ?_)
        refine lv_aload_n hx hb dX8_goes_106 rfl (lv_at hl 2 rfl) ?_
        refine va_get (D := (dC, dI)) (ci := 8) (v := .ref q1) (C := RX8) (T := TX8) (N := 17) hx hb hts hi0_ hown hK hP 0 rfl rfl 1 (by decide) hw0_ (fun _ h9 => h9) rfl dX8_goes_107 ?_
        refine lv_iload_n hx hb dX8_goes_110 rfl (lv_at hl 3 rfl) ?_
        refine va_iald (i := nI r) hx hb hK hP 1 0 rfl rfl (vp_in_nI (by omega) (by omega)) dX8_goes_111 ?_
        refine W.eq (g2 := F0 m 112 ls [.int (a1 r)]) (by rw [nI_clamp (by omega)]) ?_
        refine lv_iconst (v := 1) hx hb dX8_goes_112 (by decide) ?_
        refine lv_icmp_ne (tgt := 146) hx hb dX8_goes_113 (by decide) (fun c_8 => ?_) (fun c_8 => absurd c_8 (c_1))
        rw [show i = nz - 1 by omega] at hw9
        have hP9 := hP.sub (ws' := [(h0, .inr (8, [.int th, .ref q1, .ref q2, .ref q3, v4, .ref q5, .ref q6, .ref q7, v8, v9, v10, v11, v12, v13, v14, v15, v16])), (q1, .inl (c1, 16, .inl a1)), (q2, .inl (c2, 67200, .inl f9)), (q3, .inl (c3, 16, .inl (upd a3 r (nI (nz - 1))))), (q5, .inl (c5, 16, .inl a5)), (q6, .inl (c6, 16, .inl a6)), (q7, .inl (c7, 16, .inl (upd a7 r ((a7 r) + 1))))]) [0, 1, 2, 3, 4, 5, 6] rfl
        have hD9 := hD.sub (ws' := [(h0, .inr (8, [.int th, .ref q1, .ref q2, .ref q3, v4, .ref q5, .ref q6, .ref q7, v8, v9, v10, v11, v12, v13, v14, v15, v16])), (q1, .inl (c1, 16, .inl a1)), (q2, .inl (c2, 67200, .inl f9)), (q3, .inl (c3, 16, .inl (upd a3 r (nI (nz - 1))))), (q5, .inl (c5, 16, .inl a5)), (q6, .inl (c6, 16, .inl a6)), (q7, .inl (c7, 16, .inl (upd a7 r ((a7 r) + 1))))]) [0, 1, 2, 3, 4, 5, 6] (by decide) rfl
        have hK9 := hK.sub (tys' := [(c1, .int), (c2, .int), (c3, .int), (c5, .int), (c6, .int), (c7, .int)]) [0, 1, 2, 3, 4, 5] rfl
        refine W.widen (k := 0) (n := 0) (Nat.le_of_ble_eq_true rfl) (Nat.le_of_ble_eq_true rfl) ?_
        exact W.vret hx hb hr (fun t ht hW => ⟨⟨f9, rfl, ⟨hv9, hw9⟩, by rw [ht]; exact hP9, va_K.moved hW.alike hK9, hD9⟩, hS.F ht⟩) hS.2.2 dX8_goes_146
      ·
        have ic_3 : ((i + 1 : Nat) : Int) < ((nz : Nat) : Int) := tx_nle (nI_toInt (by omega)) (nI_toInt (by omega)) c_3
        refine lv_aload_n hx hb dX8_goes_42 rfl (lv_at hl 2 rfl) ?_
        refine lv_iload_n hx hb dX8_goes_43 rfl (lv_at hl 3 rfl) ?_
        refine lv_iload hx hb dX8_goes_44 (lv_at hl 0 rfl) ?_
        refine lv_aload_n hx hb dX8_goes_46 rfl (lv_at hl 2 rfl) ?_
        refine lv_iload_n hx hb dX8_goes_47 rfl (lv_at hl 3 rfl) ?_
        refine lv_iload hx hb dX8_goes_48 (lv_at hl 0 rfl) ?_
        refine lv_iconst (v := 1) hx hb dX8_goes_50 (by decide) ?_
        refine lv_iadd hx hb dX8_goes_51 ?_
        refine lv_topi (fun z_9 ez_9 => ?_)
        obtain rfl : z_9 = nI (i + 1) := ez_9.trans (by rw [show (1 : Int32) = nI 1 from rfl, nI_add])
        have hPc := hP.sub (ws' := [(h0, .inr (8, [.int th, .ref q1, .ref q2, .ref q3, v4, .ref q5, .ref q6, .ref q7, v8, v9, v10, v11, v12, v13, v14, v15, v16])), (q2, .inl (c2, 67200, .inl f9))]) [0, 2] rfl
        have hDc := hD.sub (ws' := [(h0, .inr (8, [.int th, .ref q1, .ref q2, .ref q3, v4, .ref q5, .ref q6, .ref q7, v8, v9, v10, v11, v12, v13, v14, v15, v16])), (q2, .inl (c2, 67200, .inl f9))]) [0, 2] (by decide) rfl
        have hKc := hK.sub (tys' := [(c2, .int)]) [1] rfl
        have hFc := va_free (wc := [(h0, .inr (8, [.int th, .ref q1, .ref q2, .ref q3, v4, .ref q5, .ref q6, .ref q7, v8, v9, v10, v11, v12, v13, v14, v15, v16])), (q2, .inl (c2, 67200, .inl f9))]) hD hS hA [0, 2] rfl
        refine va_calli (va_runV (As := [.int (nI r), .int (nI (i + 1))]) (rest := [.int (nI i), .int (nI r), .ref h0]) ⟨hx, hb, hml, hown, hts⟩ (c_X8_key l  dC dI H.size h0 th q2 c2 f9 (.ref q1) (.ref q3) v4 (.ref q5) (.ref q6) (.ref q7) v8 v9 v10 v11 v12 v13 v14 v15 v16 r (i + 1) hr9 (by omega)) (cwV 2 hts gX8_goes_X8_key rfl rfl rfl (by decide +kernel) ⟨(Nat.le_of_ble_eq_true rfl), (Nat.le_of_ble_eq_true rfl)⟩) ⟨pk_blind, va_recv hKc hPc (ci := 8) (q0 := 0) rfl rfl, pk_call hPc hKc hDc⟩ rfl rfl hl.1 rfl (lv_room (Nat.le_of_ble_eq_true rfl)) dX8_goes_52 ⟨(Nat.le_of_ble_eq_true rfl), (Nat.le_of_ble_eq_true rfl)⟩) hS (fun q _ h => hFc q h) hFc (fun r_10 ur_10 t H1 locs ht hvm hw hB hz1 hk1 hS => ?_)
        try dsimp only at hw
        obtain ⟨hP1, hK1, hD1⟩ := hB
        rw [ht] at hP1
        have hK1 := va_K.moved hvm.symm hK1
        obtain ⟨hP, hD⟩ := va_join (wr := [(q1, .inl (c1, 16, .inl a1)), (q3, .inl (c3, 16, .inl a3)), (q5, .inl (c5, 16, .inl a5)), (q6, .inl (c6, 16, .inl a6)), (q7, .inl (c7, 16, .inl a7))]) (w1 := [(h0, .inr (8, [.int th, .ref q1, .ref q2, .ref q3, v4, .ref q5, .ref q6, .ref q7, v8, v9, v10, v11, v12, v13, v14, v15, v16])), (q2, .inl (c2, 67200, .inl f9))]) hP hD [0, 2] [1, 3, 4, 5, 6] rfl rfl (by decide) (by decide) hk1 hFc hP1 hD1
        clear hk1 hz1 ht hPc hDc hKc hFc
        generalize H1 = H at hP hS ⊢
        replace hP : va_P (dC, dI) vwCl [(q1, .inl (c1, 16, .inl a1)), (q3, .inl (c3, 16, .inl a3)), (q5, .inl (c5, 16, .inl a5)), (q6, .inl (c6, 16, .inl a6)), (q7, .inl (c7, 16, .inl a7)), (h0, .inr (8, [.int th, .ref q1, .ref q2, .ref q3, v4, .ref q5, .ref q6, .ref q7, v8, v9, v10, v11, v12, v13, v14, v15, v16])), (q2, .inl (c2, 67200, .inl f9))] H := hP
        replace hD : va_D A [(q1, .inl (c1, 16, .inl a1)), (q3, .inl (c3, 16, .inl a3)), (q5, .inl (c5, 16, .inl a5)), (q6, .inl (c6, 16, .inl a6)), (q7, .inl (c7, 16, .inl a7)), (h0, .inr (8, [.int th, .ref q1, .ref q2, .ref q3, v4, .ref q5, .ref q6, .ref q7, v8, v9, v10, v11, v12, v13, v14, v15, v16])), (q2, .inl (c2, 67200, .inl f9))] := hD
        refine W.widen (k := 0) (n := 0) (Nat.le_of_ble_eq_true rfl) (Nat.le_of_ble_eq_true rfl) ?_
        obtain rfl : r_10 = f9 (4200 * r + (i + 1)) := hw
        refine W.eq (g2 := F0 m 55 ls [.int (f9 (4200 * r + (i + 1))), .int (nI i), .int (nI r), .ref h0]) rfl ?_
        refine lv_aload_n hx hb dX8_goes_55 rfl (lv_at hl 2 rfl) ?_
        refine lv_iload_n hx hb dX8_goes_56 rfl (lv_at hl 3 rfl) ?_
        refine lv_iload hx hb dX8_goes_57 (lv_at hl 0 rfl) ?_
        refine lv_iconst (v := 1) hx hb dX8_goes_59 (by decide) ?_
        refine lv_iadd hx hb dX8_goes_60 ?_
        refine lv_topi (fun z_11 ez_11 => ?_)
        obtain rfl : z_11 = nI (i + 1) := ez_11.trans (by rw [show (1 : Int32) = nI 1 from rfl, nI_add])
        have hPc := hP.sub (ws' := [(h0, .inr (8, [.int th, .ref q1, .ref q2, .ref q3, v4, .ref q5, .ref q6, .ref q7, v8, v9, v10, v11, v12, v13, v14, v15, v16])), (q2, .inl (c2, 67200, .inl f9))]) [5, 6] rfl
        have hDc := hD.sub (ws' := [(h0, .inr (8, [.int th, .ref q1, .ref q2, .ref q3, v4, .ref q5, .ref q6, .ref q7, v8, v9, v10, v11, v12, v13, v14, v15, v16])), (q2, .inl (c2, 67200, .inl f9))]) [5, 6] (by decide) rfl
        have hKc := hK.sub (tys' := [(c2, .int)]) [1] rfl
        have hFc := va_free (wc := [(h0, .inr (8, [.int th, .ref q1, .ref q2, .ref q3, v4, .ref q5, .ref q6, .ref q7, v8, v9, v10, v11, v12, v13, v14, v15, v16])), (q2, .inl (c2, 67200, .inl f9))]) hD hS hA [5, 6] rfl
        refine va_calli (va_runV (As := [.int (nI r), .int (nI (i + 1))]) (rest := [.int (f9 (4200 * r + (i + 1))), .int (nI i), .int (nI r), .ref h0]) ⟨hx, hb, hml, hown, hts⟩ (c_X8_value l  dC dI H.size h0 th q2 c2 f9 (.ref q1) (.ref q3) v4 (.ref q5) (.ref q6) (.ref q7) v8 v9 v10 v11 v12 v13 v14 v15 v16 r (i + 1) hr9 (by omega)) (cwV 2 hts gX8_goes_X8_value rfl rfl rfl (by decide +kernel) ⟨(Nat.le_of_ble_eq_true rfl), (Nat.le_of_ble_eq_true rfl)⟩) ⟨pk_blind, va_recv hKc hPc (ci := 8) (q0 := 0) rfl rfl, pk_call hPc hKc hDc⟩ rfl rfl hl.1 rfl (lv_room (Nat.le_of_ble_eq_true rfl)) dX8_goes_61 ⟨(Nat.le_of_ble_eq_true rfl), (Nat.le_of_ble_eq_true rfl)⟩) hS (fun q _ h => hFc q h) hFc (fun r_12 ur_12 t H1 locs ht hvm hw hB hz1 hk1 hS => ?_)
        try dsimp only at hw
        obtain ⟨hP1, hK1, hD1⟩ := hB
        rw [ht] at hP1
        have hK1 := va_K.moved hvm.symm hK1
        obtain ⟨hP, hD⟩ := va_join (wr := [(q1, .inl (c1, 16, .inl a1)), (q3, .inl (c3, 16, .inl a3)), (q5, .inl (c5, 16, .inl a5)), (q6, .inl (c6, 16, .inl a6)), (q7, .inl (c7, 16, .inl a7))]) (w1 := [(h0, .inr (8, [.int th, .ref q1, .ref q2, .ref q3, v4, .ref q5, .ref q6, .ref q7, v8, v9, v10, v11, v12, v13, v14, v15, v16])), (q2, .inl (c2, 67200, .inl f9))]) hP hD [5, 6] [0, 1, 2, 3, 4] rfl rfl (by decide) (by decide) hk1 hFc hP1 hD1
        clear hk1 hz1 ht hPc hDc hKc hFc
        generalize H1 = H at hP hS ⊢
        replace hP : va_P (dC, dI) vwCl [(q1, .inl (c1, 16, .inl a1)), (q3, .inl (c3, 16, .inl a3)), (q5, .inl (c5, 16, .inl a5)), (q6, .inl (c6, 16, .inl a6)), (q7, .inl (c7, 16, .inl a7)), (h0, .inr (8, [.int th, .ref q1, .ref q2, .ref q3, v4, .ref q5, .ref q6, .ref q7, v8, v9, v10, v11, v12, v13, v14, v15, v16])), (q2, .inl (c2, 67200, .inl f9))] H := hP
        replace hD : va_D A [(q1, .inl (c1, 16, .inl a1)), (q3, .inl (c3, 16, .inl a3)), (q5, .inl (c5, 16, .inl a5)), (q6, .inl (c6, 16, .inl a6)), (q7, .inl (c7, 16, .inl a7)), (h0, .inr (8, [.int th, .ref q1, .ref q2, .ref q3, v4, .ref q5, .ref q6, .ref q7, v8, v9, v10, v11, v12, v13, v14, v15, v16])), (q2, .inl (c2, 67200, .inl f9))] := hD
        refine W.widen (k := 0) (n := 0) (Nat.le_of_ble_eq_true rfl) (Nat.le_of_ble_eq_true rfl) ?_
        obtain rfl : r_12 = f9 (4200 * r + 1000 + (i + 1)) := hw
        refine W.eq (g2 := F0 m 64 ls [.int (f9 (4200 * r + 1000 + (i + 1))), .int (f9 (4200 * r + (i + 1))), .int (nI i), .int (nI r), .ref h0]) rfl ?_
        have hPc := hP.sub (ws' := [(h0, .inr (8, [.int th, .ref q1, .ref q2, .ref q3, v4, .ref q5, .ref q6, .ref q7, v8, v9, v10, v11, v12, v13, v14, v15, v16])), (q2, .inl (c2, 67200, .inl f9))]) [5, 6] rfl
        have hDc := hD.sub (ws' := [(h0, .inr (8, [.int th, .ref q1, .ref q2, .ref q3, v4, .ref q5, .ref q6, .ref q7, v8, v9, v10, v11, v12, v13, v14, v15, v16])), (q2, .inl (c2, 67200, .inl f9))]) [5, 6] (by decide) rfl
        have hKc := hK.sub (tys' := [(c2, .int)]) [1] rfl
        have hFc := va_free (wc := [(h0, .inr (8, [.int th, .ref q1, .ref q2, .ref q3, v4, .ref q5, .ref q6, .ref q7, v8, v9, v10, v11, v12, v13, v14, v15, v16])), (q2, .inl (c2, 67200, .inl f9))]) hD hS hA [5, 6] rfl
        refine va_callv (va_runV (As := [.int (nI r), .int (nI i), .int (f9 (4200 * r + (i + 1))), .int (f9 (4200 * r + 1000 + (i + 1)))]) (rest := []) ⟨hx, hb, hml, hown, hts⟩ (c_X8_set l  dC dI H.size h0 th q2 c2 f9 (.ref q1) (.ref q3) v4 (.ref q5) (.ref q6) (.ref q7) v8 v9 v10 v11 v12 v13 v14 v15 v16 r i (f9 (4200 * r + (i + 1))) (f9 (4200 * r + 1000 + (i + 1))) hr9 (by omega)) (cwV 4 hts gX8_goes_X8_set rfl rfl rfl (by decide +kernel) ⟨(Nat.le_of_ble_eq_true rfl), (Nat.le_of_ble_eq_true rfl)⟩) ⟨pk_blind, va_recv hKc hPc (ci := 8) (q0 := 0) rfl rfl, pk_call hPc hKc hDc⟩ rfl rfl hl.1 rfl (lv_room (Nat.le_of_ble_eq_true rfl)) dX8_goes_64 ⟨(Nat.le_of_ble_eq_true rfl), (Nat.le_of_ble_eq_true rfl)⟩) hS (fun q _ h => hFc q h) hFc (fun ur_13 t H1 locs ht hvm hw hB hz1 hk1 hS => ?_)
        try dsimp only at hw
        have jr_13 := hw
        obtain ⟨hP1, hK1, hD1⟩ := hB
        rw [ht] at hP1
        have hK1 := va_K.moved hvm.symm hK1
        obtain ⟨hP, hD⟩ := va_join (wr := [(q1, .inl (c1, 16, .inl a1)), (q3, .inl (c3, 16, .inl a3)), (q5, .inl (c5, 16, .inl a5)), (q6, .inl (c6, 16, .inl a6)), (q7, .inl (c7, 16, .inl a7))]) (w1 := [(h0, .inr (8, [.int th, .ref q1, .ref q2, .ref q3, v4, .ref q5, .ref q6, .ref q7, v8, v9, v10, v11, v12, v13, v14, v15, v16])), (q2, .inl (c2, 67200, .inl (upd (upd f9 (4200 * r + i) (f9 (4200 * r + (i + 1)))) (4200 * r + 1000 + i) (f9 (4200 * r + 1000 + (i + 1))))))]) hP hD [5, 6] [0, 1, 2, 3, 4] rfl rfl (by decide) (by decide) hk1 hFc hP1 hD1
        clear hk1 hz1 ht hPc hDc hKc hFc
        generalize H1 = H at hP hS ⊢
        replace hP : va_P (dC, dI) vwCl [(q1, .inl (c1, 16, .inl a1)), (q3, .inl (c3, 16, .inl a3)), (q5, .inl (c5, 16, .inl a5)), (q6, .inl (c6, 16, .inl a6)), (q7, .inl (c7, 16, .inl a7)), (h0, .inr (8, [.int th, .ref q1, .ref q2, .ref q3, v4, .ref q5, .ref q6, .ref q7, v8, v9, v10, v11, v12, v13, v14, v15, v16])), (q2, .inl (c2, 67200, .inl (upd (upd f9 (4200 * r + i) (f9 (4200 * r + (i + 1)))) (4200 * r + 1000 + i) (f9 (4200 * r + 1000 + (i + 1))))))] H := hP
        replace hD : va_D A [(q1, .inl (c1, 16, .inl a1)), (q3, .inl (c3, 16, .inl a3)), (q5, .inl (c5, 16, .inl a5)), (q6, .inl (c6, 16, .inl a6)), (q7, .inl (c7, 16, .inl a7)), (h0, .inr (8, [.int th, .ref q1, .ref q2, .ref q3, v4, .ref q5, .ref q6, .ref q7, v8, v9, v10, v11, v12, v13, v14, v15, v16])), (q2, .inl (c2, 67200, .inl (upd (upd f9 (4200 * r + i) (f9 (4200 * r + (i + 1)))) (4200 * r + 1000 + i) (f9 (4200 * r + 1000 + (i + 1))))))] := hD
        refine W.widen (k := 0) (n := 0) (Nat.le_of_ble_eq_true rfl) (Nat.le_of_ble_eq_true rfl) ?_
        refine W.eq (g2 := F0 m 67 ls []) rfl ?_
        refine lv_iinc (v := nI (i + 1)) (lv' := [(4, .int (nI (i + 1))), (3, .int 0), (0, .ref h0), (1, .int (nI r)), (2, .int (nI k9))]) hx hb dX8_goes_67 hl (k := 0) rfl (by rw [show Int32.ofInt 1 = nI 1 from rfl, nI_add]) (by decide) rfl (fun ls hl => ?_)
        refine lv_goto (tgt := 29) hx hb dX8_goes_70 (by decide) ?_
        exact ih (i := i + 1) (x9 := nI (i + 1)) (ex9 := rfl) (ls := ls) (f9 := (upd (upd f9 (4200 * r + i) (f9 (4200 * r + (i + 1)))) (4200 * r + 1000 + i) (f9 (4200 * r + 1000 + (i + 1))))) (H := H) (locs := locs) (hP := hP.sub (ws' := [(h0, .inr (8, [.int th, .ref q1, .ref q2, .ref q3, v4, .ref q5, .ref q6, .ref q7, v8, v9, v10, v11, v12, v13, v14, v15, v16])), (q1, .inl (c1, 16, .inl a1)), (q2, .inl (c2, 67200, .inl (upd (upd f9 (4200 * r + i) (f9 (4200 * r + (i + 1)))) (4200 * r + 1000 + i) (f9 (4200 * r + 1000 + (i + 1)))))), (q3, .inl (c3, 16, .inl a3)), (q5, .inl (c5, 16, .inl a5)), (q6, .inl (c6, 16, .inl a6)), (q7, .inl (c7, 16, .inl a7))]) [5, 0, 6, 1, 2, 3, 4] rfl) (hS := hS) (hD := hD.sub (ws' := [(h0, .inr (8, [.int th, .ref q1, .ref q2, .ref q3, v4, .ref q5, .ref q6, .ref q7, v8, v9, v10, v11, v12, v13, v14, v15, v16])), (q1, .inl (c1, 16, .inl a1)), (q2, .inl (c2, 67200, .inl (upd (upd f9 (4200 * r + i) (f9 (4200 * r + (i + 1)))) (4200 * r + 1000 + i) (f9 (4200 * r + 1000 + (i + 1)))))), (q3, .inl (c3, 16, .inl a3)), (q5, .inl (c5, 16, .inl a5)), (q6, .inl (c6, 16, .inl a6)), (q7, .inl (c7, 16, .inl a7))]) [5, 0, 6, 1, 2, 3, 4] (by decide) rfl) (hi9 := by omega) (hn9 := by omega) (hv9 := outR_up' (outR_up hv9 (by omega)) (k := 1000 + i) (by omega) (by omega)) (hj9 := by omega) (hw9 := shR_up hw9 hj9 (by omega)) (hl := lv_sub hl [0, 1, 2, 3, 4] rfl)
  ·
    have ic_1 : (a1 r).toInt = 1 := tx_eq rfl (by decide) c_1
    refine lv_aload_n hx hb dX8_goes_10 rfl (lv_at hl 0 rfl) ?_
    refine lv_iload_n hx hb dX8_goes_11 rfl (lv_at hl 1 rfl) ?_
    refine lv_aload_n hx hb dX8_goes_12 rfl (lv_at hl 0 rfl) ?_
    refine lv_iload_n hx hb dX8_goes_13 rfl (lv_at hl 1 rfl) ?_
    refine lv_iload_n hx hb dX8_goes_14 rfl (lv_at hl 2 rfl) ?_
    have hPc := hP.sub (ws' := [(h0, .inr (8, [.int th, .ref q1, .ref q2, .ref q3, v4, .ref q5, .ref q6, .ref q7, v8, v9, v10, v11, v12, v13, v14, v15, v16])), (q2, .inl (c2, 67200, .inl a2))]) [0, 2] rfl
    have hDc := hD.sub (ws' := [(h0, .inr (8, [.int th, .ref q1, .ref q2, .ref q3, v4, .ref q5, .ref q6, .ref q7, v8, v9, v10, v11, v12, v13, v14, v15, v16])), (q2, .inl (c2, 67200, .inl a2))]) [0, 2] (by decide) rfl
    have hKc := hK.sub (tys' := [(c2, .int)]) [1] rfl
    have hFc := va_free (wc := [(h0, .inr (8, [.int th, .ref q1, .ref q2, .ref q3, v4, .ref q5, .ref q6, .ref q7, v8, v9, v10, v11, v12, v13, v14, v15, v16])), (q2, .inl (c2, 67200, .inl a2))]) hD hS hA [0, 2] rfl
    refine va_calli (va_runV (As := [.int (nI r), .int (nI k9)]) (rest := [.int (nI r), .ref h0]) ⟨hx, hb, hml, hown, hts⟩ (c_X8_key l  dC dI s.heap.size h0 th q2 c2 a2 (.ref q1) (.ref q3) v4 (.ref q5) (.ref q6) (.ref q7) v8 v9 v10 v11 v12 v13 v14 v15 v16 r k9 hr9 (by omega)) (cwV 2 hts gX8_goes_X8_key rfl rfl rfl (by decide +kernel) ⟨(Nat.le_of_ble_eq_true rfl), (Nat.le_of_ble_eq_true rfl)⟩) ⟨pk_blind, va_recv hKc hPc (ci := 8) (q0 := 0) rfl rfl, pk_call hPc hKc hDc⟩ rfl rfl hl.1 rfl (lv_room (Nat.le_of_ble_eq_true rfl)) dX8_goes_15 ⟨(Nat.le_of_ble_eq_true rfl), (Nat.le_of_ble_eq_true rfl)⟩) hS (fun q _ h => hFc q h) hFc (fun r_14 ur_14 t H1 locs ht hvm hw hB hz1 hk1 hS => ?_)
    try dsimp only at hw
    obtain ⟨hP1, hK1, hD1⟩ := hB
    rw [ht] at hP1
    have hK1 := va_K.moved hvm.symm hK1
    obtain ⟨hP, hD⟩ := va_join (wr := [(q1, .inl (c1, 16, .inl a1)), (q3, .inl (c3, 16, .inl a3)), (q5, .inl (c5, 16, .inl a5)), (q6, .inl (c6, 16, .inl a6)), (q7, .inl (c7, 16, .inl a7))]) (w1 := [(h0, .inr (8, [.int th, .ref q1, .ref q2, .ref q3, v4, .ref q5, .ref q6, .ref q7, v8, v9, v10, v11, v12, v13, v14, v15, v16])), (q2, .inl (c2, 67200, .inl a2))]) hP hD [0, 2] [1, 3, 4, 5, 6] rfl rfl (by decide) (by decide) hk1 hFc hP1 hD1
    clear hk1 hz1 ht hPc hDc hKc hFc
    generalize H1 = H at hP hS ⊢
    replace hP : va_P (dC, dI) vwCl [(q1, .inl (c1, 16, .inl a1)), (q3, .inl (c3, 16, .inl a3)), (q5, .inl (c5, 16, .inl a5)), (q6, .inl (c6, 16, .inl a6)), (q7, .inl (c7, 16, .inl a7)), (h0, .inr (8, [.int th, .ref q1, .ref q2, .ref q3, v4, .ref q5, .ref q6, .ref q7, v8, v9, v10, v11, v12, v13, v14, v15, v16])), (q2, .inl (c2, 67200, .inl a2))] H := hP
    replace hD : va_D A [(q1, .inl (c1, 16, .inl a1)), (q3, .inl (c3, 16, .inl a3)), (q5, .inl (c5, 16, .inl a5)), (q6, .inl (c6, 16, .inl a6)), (q7, .inl (c7, 16, .inl a7)), (h0, .inr (8, [.int th, .ref q1, .ref q2, .ref q3, v4, .ref q5, .ref q6, .ref q7, v8, v9, v10, v11, v12, v13, v14, v15, v16])), (q2, .inl (c2, 67200, .inl a2))] := hD
    refine W.widen (k := 0) (n := 0) (Nat.le_of_ble_eq_true rfl) (Nat.le_of_ble_eq_true rfl) ?_
    obtain rfl : r_14 = a2 (4200 * r + k9) := hw
    refine W.eq (g2 := F0 m 18 ls [.int (a2 (4200 * r + k9)), .int (nI r), .ref h0]) rfl ?_
    have hPc := hP.sub (ws' := [(h0, .inr (8, [.int th, .ref q1, .ref q2, .ref q3, v4, .ref q5, .ref q6, .ref q7, v8, v9, v10, v11, v12, v13, v14, v15, v16])), (q5, .inl (c5, 16, .inl a5)), (q6, .inl (c6, 16, .inl a6))]) [5, 2, 3] rfl
    have hDc := hD.sub (ws' := [(h0, .inr (8, [.int th, .ref q1, .ref q2, .ref q3, v4, .ref q5, .ref q6, .ref q7, v8, v9, v10, v11, v12, v13, v14, v15, v16])), (q5, .inl (c5, 16, .inl a5)), (q6, .inl (c6, 16, .inl a6))]) [5, 2, 3] (by decide) rfl
    have hKc := hK.sub (tys' := [(c5, .int), (c6, .int)]) [3, 4] rfl
    have hFc := va_free (wc := [(h0, .inr (8, [.int th, .ref q1, .ref q2, .ref q3, v4, .ref q5, .ref q6, .ref q7, v8, v9, v10, v11, v12, v13, v14, v15, v16])), (q5, .inl (c5, 16, .inl a5)), (q6, .inl (c6, 16, .inl a6))]) hD hS hA [5, 2, 3] rfl
    refine va_calli (va_runV (As := [.int (nI r), .int (a2 (4200 * r + k9))]) (rest := []) ⟨hx, hb, hml, hown, hts⟩ (c_X8_bin l  dC dI H.size h0 th q5 q6 c5 c6 a5 a6 (.ref q1) (.ref q2) (.ref q3) v4 (.ref q7) v8 v9 v10 v11 v12 v13 v14 v15 v16 r (a2 (4200 * r + k9)) tb hr9 ((hT9 ic_1).1) ((hT9 ic_1).2.1) ((hT9 ic_1).2.2.1) ((hT9 ic_1).2.2.2)) (cwV 2 hts gX8_goes_X8_bin rfl rfl rfl (by decide +kernel) ⟨(Nat.le_of_ble_eq_true rfl), (Nat.le_of_ble_eq_true rfl)⟩) ⟨pk_blind, va_recv hKc hPc (ci := 8) (q0 := 0) rfl rfl, pk_call hPc hKc hDc⟩ rfl rfl hl.1 rfl (lv_room (Nat.le_of_ble_eq_true rfl)) dX8_goes_18 ⟨(Nat.le_of_ble_eq_true rfl), (Nat.le_of_ble_eq_true rfl)⟩) hS (fun q _ h => hFc q h) hFc (fun r_15 ur_15 t H1 locs ht hvm hw hB hz1 hk1 hS => ?_)
    try dsimp only at hw
    have jr_15 := hw
    obtain ⟨hP1, hK1, hD1⟩ := hB
    rw [ht] at hP1
    have hK1 := va_K.moved hvm.symm hK1
    obtain ⟨hP, hD⟩ := va_join (wr := [(q1, .inl (c1, 16, .inl a1)), (q3, .inl (c3, 16, .inl a3)), (q7, .inl (c7, 16, .inl a7)), (q2, .inl (c2, 67200, .inl a2))]) (w1 := [(h0, .inr (8, [.int th, .ref q1, .ref q2, .ref q3, v4, .ref q5, .ref q6, .ref q7, v8, v9, v10, v11, v12, v13, v14, v15, v16])), (q5, .inl (c5, 16, .inl a5)), (q6, .inl (c6, 16, .inl a6))]) hP hD [5, 2, 3] [0, 1, 4, 6] rfl rfl (by decide) (by decide) hk1 hFc hP1 hD1
    clear hk1 hz1 ht hPc hDc hKc hFc
    generalize H1 = H at hP hS ⊢
    replace hP : va_P (dC, dI) vwCl [(q1, .inl (c1, 16, .inl a1)), (q3, .inl (c3, 16, .inl a3)), (q7, .inl (c7, 16, .inl a7)), (q2, .inl (c2, 67200, .inl a2)), (h0, .inr (8, [.int th, .ref q1, .ref q2, .ref q3, v4, .ref q5, .ref q6, .ref q7, v8, v9, v10, v11, v12, v13, v14, v15, v16])), (q5, .inl (c5, 16, .inl a5)), (q6, .inl (c6, 16, .inl a6))] H := hP
    replace hD : va_D A [(q1, .inl (c1, 16, .inl a1)), (q3, .inl (c3, 16, .inl a3)), (q7, .inl (c7, 16, .inl a7)), (q2, .inl (c2, 67200, .inl a2)), (h0, .inr (8, [.int th, .ref q1, .ref q2, .ref q3, v4, .ref q5, .ref q6, .ref q7, v8, v9, v10, v11, v12, v13, v14, v15, v16])), (q5, .inl (c5, 16, .inl a5)), (q6, .inl (c6, 16, .inl a6))] := hD
    refine W.widen (k := 0) (n := 0) (Nat.le_of_ble_eq_true rfl) (Nat.le_of_ble_eq_true rfl) ?_
    obtain ⟨b9, hb9, rfl⟩ := jr_15
    refine W.eq (g2 := F0 m 21 ls [.int (nI b9)]) rfl ?_
    have hb8 := (hT9 ic_1).2.1
    refine lv_goto (tgt := 25) hx hb dX8_goes_21 (by decide) ?_
    refine lv_istore_n (lv' := [(3, .int (nI b9)), (0, .ref h0), (1, .int (nI r)), (2, .int (nI k9))]) hx hb dX8_goes_25 rfl hl (by decide) rfl (fun ls hl => ?_)
    refine lv_iload_n hx hb dX8_goes_26 rfl (lv_at hl 3 rfl) ?_
    refine lv_istore (lv' := [(4, .int (nI k9)), (3, .int (nI b9)), (0, .ref h0), (1, .int (nI r)), (2, .int (nI k9))]) hx hb dX8_goes_27 hl (by decide) rfl (fun ls hl => ?_)
    obtain ⟨i, es_i⟩ : ∃ z : Nat, z = k9 := ⟨_, rfl⟩
    obtain ⟨x9, ex9⟩ : ∃ y : Int32, y = nI i := ⟨_, rfl⟩
    obtain ⟨f9, ef_f9⟩ : ∃ z : Nat → Int32, z = a2 := ⟨_, rfl⟩
    obtain ⟨n9, en9⟩ : ∃ n : Nat, n = nz + 1 := ⟨_, rfl⟩
    replace hl : lv_has ls 5 [(4, .int x9), (3, .int (nI b9)), (0, .ref h0), (1, .int (nI r)), (2, .int (nI k9))] := by subst ex9; subst es_i; exact hl
    replace hP : va_P (dC, dI) vwCl [(q1, .inl (c1, 16, .inl a1)), (q3, .inl (c3, 16, .inl a3)), (q7, .inl (c7, 16, .inl a7)), (q2, .inl (c2, 67200, .inl f9)), (h0, .inr (8, [.int th, .ref q1, .ref q2, .ref q3, v4, .ref q5, .ref q6, .ref q7, v8, v9, v10, v11, v12, v13, v14, v15, v16])), (q5, .inl (c5, 16, .inl a5)), (q6, .inl (c6, 16, .inl a6))] H := by subst ef_f9; exact hP
    replace hD : va_D A [(q1, .inl (c1, 16, .inl a1)), (q3, .inl (c3, 16, .inl a3)), (q7, .inl (c7, 16, .inl a7)), (q2, .inl (c2, 67200, .inl f9)), (h0, .inr (8, [.int th, .ref q1, .ref q2, .ref q3, v4, .ref q5, .ref q6, .ref q7, v8, v9, v10, v11, v12, v13, v14, v15, v16])), (q5, .inl (c5, 16, .inl a5)), (q6, .inl (c6, 16, .inl a6))] := by subst ef_f9; exact hD
    have hi9 : i < nz := by subst ex9; subst es_i; subst ef_f9; subst en9; exact hk9
    have hn9 : nz + 1 ≤ i + n9 := by subst ex9; subst es_i; subst ef_f9; subst en9; exact by omega
    have hv9 : outR a2 f9 r := by subst ex9; subst es_i; subst ef_f9; subst en9; exact outR_rf
    have hj9 : k9 ≤ i := by subst ex9; subst es_i; subst ef_f9; subst en9; exact Nat.le_refl _
    have hw9 : shR a2 f9 r k9 i := by subst ex9; subst es_i; subst ef_f9; subst en9; exact shR_rf
    clear en9 es_i ef_f9
    induction n9 generalizing i x9 ls H locs f9 with
    | zero => exact absurd hn9 (by omega)
    | succ n9 ih =>
      subst ex9
      refine lv_iload hx hb dX8_goes_29 (lv_at hl 0 rfl) ?_
      refine lv_iconst (v := 1) hx hb dX8_goes_31 (by decide) ?_
      refine lv_iadd hx hb dX8_goes_32 ?_
      refine lv_topi (fun z_16 ez_16 => ?_)
      obtain rfl : z_16 = nI (i + 1) := ez_16.trans (by rw [show (1 : Int32) = nI 1 from rfl, nI_add])
      refine lv_aload_n hx hb dX8_goes_33 rfl (lv_at hl 2 rfl) ?_
      refine va_get (D := (dC, dI)) (ci := 8) (v := .ref q3) (C := RX8) (T := TX8) (N := 17) hx hb hts hi0_ hown hK hP 4 rfl rfl 3 (by decide) hw1_ (fun _ h9 => h9) rfl dX8_goes_34 ?_
      refine lv_iload_n hx hb dX8_goes_37 rfl (lv_at hl 3 rfl) ?_
      refine va_iald (i := nI r) hx hb hK hP 1 2 rfl rfl (vp_in_nI (by omega) (by omega)) dX8_goes_38 ?_
      refine W.eq (g2 := F0 m 39 ls [.int (a3 r), .int (nI (i + 1))]) (by rw [nI_clamp (by omega)]) ?_
      refine W.eq (g2 := F0 m 39 ls [.int (nI nz), .int (nI (i + 1))]) (by rw [hs9]) ?_
      refine lv_icmp_ge (tgt := 73) hx hb dX8_goes_39 (by decide) (fun c_17 => ?_) (fun c_17 => ?_)
      ·
        have ic_17 : ((nz : Nat) : Int) ≤ ((i + 1 : Nat) : Int) := tx_le (nI_toInt (by omega)) (nI_toInt (by omega)) c_17
        refine lv_aload_n hx hb dX8_goes_73 rfl (lv_at hl 2 rfl) ?_
        refine va_get (D := (dC, dI)) (ci := 8) (v := .ref q3) (C := RX8) (T := TX8) (N := 17) hx hb hts hi0_ hown hK hP 4 rfl rfl 3 (by decide) hw1_ (fun _ h9 => h9) rfl dX8_goes_74 ?_
        refine lv_iload_n hx hb dX8_goes_77 rfl (lv_at hl 3 rfl) ?_
        refine lv_dup2_11 hx hb dX8_goes_78 rfl rfl ?_
        refine va_iald (i := nI r) hx hb hK hP 1 2 rfl rfl (vp_in_nI (by omega) (by omega)) dX8_goes_79 ?_
        refine W.eq (g2 := F0 m 80 ls [.int (a3 r), .int (nI r), .ref q3]) (by rw [nI_clamp (by omega)]) ?_
        refine W.eq (g2 := F0 m 80 ls [.int (nI nz), .int (nI r), .ref q3]) (by rw [hs9]) ?_
        refine lv_iconst (v := 1) hx hb dX8_goes_80 (by decide) ?_
        refine lv_isub hx hb dX8_goes_81 ?_
        refine lv_topi (fun z_18 ez_18 => ?_)
        obtain rfl : z_18 = nI (nz - 1) := ez_18.trans (by rw [show (1 : Int32) = nI 1 from rfl, pk_sub (by omega)])
        refine va_iast (i := nI r) hx hb hK hP hD hS 1 2 rfl rfl (vp_in_nI (by omega) (by omega)) dX8_goes_82 (fun H locs hP hD hS => ?_)
        rw [nI_clamp (by omega)] at hP hD
        replace hP : va_P (dC, dI) vwCl [(q1, .inl (c1, 16, .inl a1)), (q3, .inl (c3, 16, .inl (upd a3 r (nI (nz - 1))))), (q7, .inl (c7, 16, .inl a7)), (q2, .inl (c2, 67200, .inl f9)), (h0, .inr (8, [.int th, .ref q1, .ref q2, .ref q3, v4, .ref q5, .ref q6, .ref q7, v8, v9, v10, v11, v12, v13, v14, v15, v16])), (q5, .inl (c5, 16, .inl a5)), (q6, .inl (c6, 16, .inl a6))] H := hP
        replace hD : va_D A [(q1, .inl (c1, 16, .inl a1)), (q3, .inl (c3, 16, .inl (upd a3 r (nI (nz - 1))))), (q7, .inl (c7, 16, .inl a7)), (q2, .inl (c2, 67200, .inl f9)), (h0, .inr (8, [.int th, .ref q1, .ref q2, .ref q3, v4, .ref q5, .ref q6, .ref q7, v8, v9, v10, v11, v12, v13, v14, v15, v16])), (q5, .inl (c5, 16, .inl a5)), (q6, .inl (c6, 16, .inl a6))] := hD
        refine lv_aload_n hx hb dX8_goes_83 rfl (lv_at hl 2 rfl) ?_
        refine va_get (D := (dC, dI)) (ci := 8) (v := .ref q7) (C := RX8) (T := TX8) (N := 17) hx hb hts hi0_ hown hK hP 4 rfl rfl 7 (by decide) hw2_ (fun _ h9 => h9) rfl dX8_goes_84 ?_
        refine lv_iload_n hx hb dX8_goes_87 rfl (lv_at hl 3 rfl) ?_
        refine lv_dup2_11 hx hb dX8_goes_88 rfl rfl ?_
        refine va_iald (i := nI r) hx hb hK hP 2 5 rfl rfl (vp_in_nI (by omega) (by omega)) dX8_goes_89 ?_
        refine W.eq (g2 := F0 m 90 ls [.int (a7 r), .int (nI r), .ref q7]) (by rw [nI_clamp (by omega)]) ?_
        refine lv_iconst (v := 1) hx hb dX8_goes_90 (by decide) ?_
        refine lv_iadd hx hb dX8_goes_91 ?_
        refine va_iast (i := nI r) hx hb hK hP hD hS 2 5 rfl rfl (vp_in_nI (by omega) (by omega)) dX8_goes_92 (fun H locs hP hD hS => ?_)
        rw [nI_clamp (by omega)] at hP hD
        replace hP : va_P (dC, dI) vwCl [(q1, .inl (c1, 16, .inl a1)), (q3, .inl (c3, 16, .inl (upd a3 r (nI (nz - 1))))), (q7, .inl (c7, 16, .inl (upd a7 r ((a7 r) + 1)))), (q2, .inl (c2, 67200, .inl f9)), (h0, .inr (8, [.int th, .ref q1, .ref q2, .ref q3, v4, .ref q5, .ref q6, .ref q7, v8, v9, v10, v11, v12, v13, v14, v15, v16])), (q5, .inl (c5, 16, .inl a5)), (q6, .inl (c6, 16, .inl a6))] H := hP
        replace hD : va_D A [(q1, .inl (c1, 16, .inl a1)), (q3, .inl (c3, 16, .inl (upd a3 r (nI (nz - 1))))), (q7, .inl (c7, 16, .inl (upd a7 r ((a7 r) + 1)))), (q2, .inl (c2, 67200, .inl f9)), (h0, .inr (8, [.int th, .ref q1, .ref q2, .ref q3, v4, .ref q5, .ref q6, .ref q7, v8, v9, v10, v11, v12, v13, v14, v15, v16])), (q5, .inl (c5, 16, .inl a5)), (q6, .inl (c6, 16, .inl a6))] := hD
        refine lv_sipush (v := 4200) hx hb dX8_goes_93 (by decide) ?_
        refine lv_iload_n hx hb dX8_goes_96 rfl (lv_at hl 3 rfl) ?_
        refine lv_imul hx hb dX8_goes_97 ?_
        refine lv_topi (fun z_19 ez_19 => ?_)
        obtain rfl : z_19 = nI (4200 * r) := ez_19.trans (by rw [show (4200 : Int32) = nI 4200 from rfl, pk_mul])
        refine lv_sipush (v := 2000) hx hb dX8_goes_98 (by decide) ?_
        refine lv_iadd hx hb dX8_goes_101 ?_
        refine lv_topi (fun z_20 ez_20 => ?_)
        obtain rfl : z_20 = nI ((4200 * r) + 2000) := ez_20.trans (by rw [show (2000 : Int32) = nI 2000 from rfl, nI_add])
        refine lv_iload_n hx hb dX8_goes_102 rfl (lv_at hl 1 rfl) ?_
        refine lv_iadd hx hb dX8_goes_103 ?_
        refine lv_topi (fun z_21 ez_21 => ?_)
        obtain rfl : z_21 = nI (((4200 * r) + 2000) + b9) := ez_21.trans (by rw [nI_add])
        refine lv_istore (lv' := [(4, .int (nI (((4200 * r) + 2000) + b9))), (3, .int (nI b9)), (0, .ref h0), (1, .int (nI r)), (2, .int (nI k9))]) hx hb dX8_goes_104 hl (by decide) rfl (fun ls hl => ?_)
        refine lv_aload_n hx hb dX8_goes_106 rfl (lv_at hl 2 rfl) ?_
        refine va_get (D := (dC, dI)) (ci := 8) (v := .ref q1) (C := RX8) (T := TX8) (N := 17) hx hb hts hi0_ hown hK hP 4 rfl rfl 1 (by decide) hw0_ (fun _ h9 => h9) rfl dX8_goes_107 ?_
        refine lv_iload_n hx hb dX8_goes_110 rfl (lv_at hl 3 rfl) ?_
        refine va_iald (i := nI r) hx hb hK hP 0 0 rfl rfl (vp_in_nI (by omega) (by omega)) dX8_goes_111 ?_
        refine W.eq (g2 := F0 m 112 ls [.int (a1 r)]) (by rw [nI_clamp (by omega)]) ?_
        refine lv_iconst (v := 1) hx hb dX8_goes_112 (by decide) ?_
        refine lv_icmp_ne (tgt := 146) hx hb dX8_goes_113 (by decide) (fun c_22 => absurd (c_1) c_22) (fun c_22 => ?_)
        refine lv_aload_n hx hb dX8_goes_116 rfl (lv_at hl 2 rfl) ?_
        refine va_get (D := (dC, dI)) (ci := 8) (v := .ref q2) (C := RX8) (T := TX8) (N := 17) hx hb hts hi0_ hown hK hP 4 rfl rfl 2 (by decide) hw3_ (fun _ h9 => h9) rfl dX8_goes_117 ?_
        refine lv_iload hx hb dX8_goes_120 (lv_at hl 0 rfl) ?_
        refine va_iald (i := nI (((4200 * r) + 2000) + b9)) hx hb hK hP 3 1 rfl rfl (vp_in_nI (by omega) (by omega)) dX8_goes_122 ?_
        refine W.eq (g2 := F0 m 123 ls [.int (f9 (((4200 * r) + 2000) + b9))]) (by rw [nI_clamp (by omega)]) ?_
        refine lv_iconst (v := 1) hx hb dX8_goes_123 (by decide) ?_
        refine lv_icmp_ne (tgt := 146) hx hb dX8_goes_124 (by decide) (fun c_23 => ?_) (fun c_23 => ?_)
        ·
          have ic_23 : ¬ (f9 (((4200 * r) + 2000) + b9)).toInt = 1 := tx_ne rfl (by decide) c_23
          rw [show i = nz - 1 by omega] at hw9
          have hP9 := hP.sub (ws' := [(h0, .inr (8, [.int th, .ref q1, .ref q2, .ref q3, v4, .ref q5, .ref q6, .ref q7, v8, v9, v10, v11, v12, v13, v14, v15, v16])), (q1, .inl (c1, 16, .inl a1)), (q2, .inl (c2, 67200, .inl f9)), (q3, .inl (c3, 16, .inl (upd a3 r (nI (nz - 1))))), (q5, .inl (c5, 16, .inl a5)), (q6, .inl (c6, 16, .inl a6)), (q7, .inl (c7, 16, .inl (upd a7 r ((a7 r) + 1))))]) [4, 0, 3, 1, 5, 6, 2] rfl
          have hD9 := hD.sub (ws' := [(h0, .inr (8, [.int th, .ref q1, .ref q2, .ref q3, v4, .ref q5, .ref q6, .ref q7, v8, v9, v10, v11, v12, v13, v14, v15, v16])), (q1, .inl (c1, 16, .inl a1)), (q2, .inl (c2, 67200, .inl f9)), (q3, .inl (c3, 16, .inl (upd a3 r (nI (nz - 1))))), (q5, .inl (c5, 16, .inl a5)), (q6, .inl (c6, 16, .inl a6)), (q7, .inl (c7, 16, .inl (upd a7 r ((a7 r) + 1))))]) [4, 0, 3, 1, 5, 6, 2] (by decide) rfl
          have hK9 := hK.sub (tys' := [(c1, .int), (c2, .int), (c3, .int), (c5, .int), (c6, .int), (c7, .int)]) [0, 1, 2, 3, 4, 5] rfl
          refine W.widen (k := 0) (n := 0) (Nat.le_of_ble_eq_true rfl) (Nat.le_of_ble_eq_true rfl) ?_
          exact W.vret hx hb hr (fun t ht hW => ⟨⟨f9, rfl, ⟨hv9, hw9⟩, by rw [ht]; exact hP9, va_K.moved hW.alike hK9, hD9⟩, hS.F ht⟩) hS.2.2 dX8_goes_146
        ·
          have ic_23 : (f9 (((4200 * r) + 2000) + b9)).toInt = 1 := tx_eq rfl (by decide) c_23
          refine lv_aload_n hx hb dX8_goes_127 rfl (lv_at hl 2 rfl) ?_
          refine lv_iload_n hx hb dX8_goes_128 rfl (lv_at hl 3 rfl) ?_
          refine lv_iload_n hx hb dX8_goes_129 rfl (lv_at hl 1 rfl) ?_
          have hPc := hP.sub (ws' := [(h0, .inr (8, [.int th, .ref q1, .ref q2, .ref q3, v4, .ref q5, .ref q6, .ref q7, v8, v9, v10, v11, v12, v13, v14, v15, v16])), (q2, .inl (c2, 67200, .inl f9)), (q3, .inl (c3, 16, .inl (upd a3 r (nI (nz - 1))))), (q5, .inl (c5, 16, .inl a5)), (q6, .inl (c6, 16, .inl a6))]) [4, 3, 1, 5, 6] rfl
          have hDc := hD.sub (ws' := [(h0, .inr (8, [.int th, .ref q1, .ref q2, .ref q3, v4, .ref q5, .ref q6, .ref q7, v8, v9, v10, v11, v12, v13, v14, v15, v16])), (q2, .inl (c2, 67200, .inl f9)), (q3, .inl (c3, 16, .inl (upd a3 r (nI (nz - 1))))), (q5, .inl (c5, 16, .inl a5)), (q6, .inl (c6, 16, .inl a6))]) [4, 3, 1, 5, 6] (by decide) rfl
          have hKc := hK.sub (tys' := [(c2, .int), (c3, .int), (c5, .int), (c6, .int)]) [1, 2, 3, 4] rfl
          have hFc := va_free (wc := [(h0, .inr (8, [.int th, .ref q1, .ref q2, .ref q3, v4, .ref q5, .ref q6, .ref q7, v8, v9, v10, v11, v12, v13, v14, v15, v16])), (q2, .inl (c2, 67200, .inl f9)), (q3, .inl (c3, 16, .inl (upd a3 r (nI (nz - 1))))), (q5, .inl (c5, 16, .inl a5)), (q6, .inl (c6, 16, .inl a6))]) hD hS hA [4, 3, 1, 5, 6] rfl
          refine va_calli (va_runV (As := [.int (nI r), .int (nI b9)]) (rest := []) ⟨hx, hb, hml, hown, hts⟩ (c_X8_inBin l  dC dI H.size h0 th q2 q3 q5 q6 c2 c3 c5 c6 f9 (upd a3 r (nI (nz - 1))) a5 a6 (.ref q1) v4 (.ref q7) v8 v9 v10 v11 v12 v13 v14 v15 v16 r (nI b9) tb (nz - 1) hr9 ((hT9 ic_1).1) ((hT9 ic_1).2.1) ((hT9 ic_1).2.2.1) ((hT9 ic_1).2.2.2) pk_us (by omega)) (cwV 2 hts gX8_goes_X8_inBin rfl rfl rfl (by decide +kernel) ⟨(Nat.le_of_ble_eq_true rfl), (Nat.le_of_ble_eq_true rfl)⟩) ⟨pk_blind, va_recv hKc hPc (ci := 8) (q0 := 0) rfl rfl, pk_call hPc hKc hDc⟩ rfl rfl hl.1 rfl (lv_room (Nat.le_of_ble_eq_true rfl)) dX8_goes_130 ⟨(Nat.le_of_ble_eq_true rfl), (Nat.le_of_ble_eq_true rfl)⟩) hS (fun q _ h => hFc q h) hFc (fun r_24 ur_24 t H1 locs ht hvm hw hB hz1 hk1 hS => ?_)
          try dsimp only at hw
          have jr_24 := hw
          obtain ⟨hP1, hK1, hD1⟩ := hB
          rw [ht] at hP1
          have hK1 := va_K.moved hvm.symm hK1
          obtain ⟨hP, hD⟩ := va_join (wr := [(q1, .inl (c1, 16, .inl a1)), (q7, .inl (c7, 16, .inl (upd a7 r ((a7 r) + 1))))]) (w1 := [(h0, .inr (8, [.int th, .ref q1, .ref q2, .ref q3, v4, .ref q5, .ref q6, .ref q7, v8, v9, v10, v11, v12, v13, v14, v15, v16])), (q2, .inl (c2, 67200, .inl f9)), (q3, .inl (c3, 16, .inl (upd a3 r (nI (nz - 1))))), (q5, .inl (c5, 16, .inl a5)), (q6, .inl (c6, 16, .inl a6))]) hP hD [4, 3, 1, 5, 6] [0, 2] rfl rfl (by decide) (by decide) hk1 hFc hP1 hD1
          clear hk1 hz1 ht hPc hDc hKc hFc
          generalize H1 = H at hP hS ⊢
          replace hP : va_P (dC, dI) vwCl [(q1, .inl (c1, 16, .inl a1)), (q7, .inl (c7, 16, .inl (upd a7 r ((a7 r) + 1)))), (h0, .inr (8, [.int th, .ref q1, .ref q2, .ref q3, v4, .ref q5, .ref q6, .ref q7, v8, v9, v10, v11, v12, v13, v14, v15, v16])), (q2, .inl (c2, 67200, .inl f9)), (q3, .inl (c3, 16, .inl (upd a3 r (nI (nz - 1))))), (q5, .inl (c5, 16, .inl a5)), (q6, .inl (c6, 16, .inl a6))] H := hP
          replace hD : va_D A [(q1, .inl (c1, 16, .inl a1)), (q7, .inl (c7, 16, .inl (upd a7 r ((a7 r) + 1)))), (h0, .inr (8, [.int th, .ref q1, .ref q2, .ref q3, v4, .ref q5, .ref q6, .ref q7, v8, v9, v10, v11, v12, v13, v14, v15, v16])), (q2, .inl (c2, 67200, .inl f9)), (q3, .inl (c3, 16, .inl (upd a3 r (nI (nz - 1))))), (q5, .inl (c5, 16, .inl a5)), (q6, .inl (c6, 16, .inl a6))] := hD
          refine W.widen (k := 0) (n := 0) (Nat.le_of_ble_eq_true rfl) (Nat.le_of_ble_eq_true rfl) ?_
          refine W.eq (g2 := F0 m 133 ls [.int r_24]) rfl ?_
          refine lv_bipush (v := 6) hx hb dX8_goes_133 (by decide) ?_
          refine lv_icmp_gt (tgt := 146) hx hb dX8_goes_135 (by decide) (fun c_25 => ?_) (fun c_25 => ?_)
          ·
            have ic_25 : 6 < r_24.toInt := tx_lt (by decide) rfl c_25
            rw [show i = nz - 1 by omega] at hw9
            have hP9 := hP.sub (ws' := [(h0, .inr (8, [.int th, .ref q1, .ref q2, .ref q3, v4, .ref q5, .ref q6, .ref q7, v8, v9, v10, v11, v12, v13, v14, v15, v16])), (q1, .inl (c1, 16, .inl a1)), (q2, .inl (c2, 67200, .inl f9)), (q3, .inl (c3, 16, .inl (upd a3 r (nI (nz - 1))))), (q5, .inl (c5, 16, .inl a5)), (q6, .inl (c6, 16, .inl a6)), (q7, .inl (c7, 16, .inl (upd a7 r ((a7 r) + 1))))]) [2, 0, 3, 4, 5, 6, 1] rfl
            have hD9 := hD.sub (ws' := [(h0, .inr (8, [.int th, .ref q1, .ref q2, .ref q3, v4, .ref q5, .ref q6, .ref q7, v8, v9, v10, v11, v12, v13, v14, v15, v16])), (q1, .inl (c1, 16, .inl a1)), (q2, .inl (c2, 67200, .inl f9)), (q3, .inl (c3, 16, .inl (upd a3 r (nI (nz - 1))))), (q5, .inl (c5, 16, .inl a5)), (q6, .inl (c6, 16, .inl a6)), (q7, .inl (c7, 16, .inl (upd a7 r ((a7 r) + 1))))]) [2, 0, 3, 4, 5, 6, 1] (by decide) rfl
            have hK9 := hK.sub (tys' := [(c1, .int), (c2, .int), (c3, .int), (c5, .int), (c6, .int), (c7, .int)]) [0, 1, 2, 3, 4, 5] rfl
            refine W.widen (k := 0) (n := 0) (Nat.le_of_ble_eq_true rfl) (Nat.le_of_ble_eq_true rfl) ?_
            exact W.vret hx hb hr (fun t ht hW => ⟨⟨f9, rfl, ⟨hv9, hw9⟩, by rw [ht]; exact hP9, va_K.moved hW.alike hK9, hD9⟩, hS.F ht⟩) hS.2.2 dX8_goes_146
          ·
            have ic_25 : r_24.toInt ≤ 6 := tx_nlt (by decide) rfl c_25
            refine lv_aload_n hx hb dX8_goes_138 rfl (lv_at hl 2 rfl) ?_
            refine va_get (D := (dC, dI)) (ci := 8) (v := .ref q2) (C := RX8) (T := TX8) (N := 17) hx hb hts hi0_ hown hK hP 2 rfl rfl 2 (by decide) hw3_ (fun _ h9 => h9) rfl dX8_goes_139 ?_
            refine lv_iload hx hb dX8_goes_142 (lv_at hl 0 rfl) ?_
            refine lv_iconst (v := 0) hx hb dX8_goes_144 (by decide) ?_
            refine va_iast (i := nI (((4200 * r) + 2000) + b9)) hx hb hK hP hD hS 3 1 rfl rfl (vp_in_nI (by omega) (by omega)) dX8_goes_145 (fun H locs hP hD hS => ?_)
            rw [nI_clamp (by omega)] at hP hD
            replace hP : va_P (dC, dI) vwCl [(q1, .inl (c1, 16, .inl a1)), (q7, .inl (c7, 16, .inl (upd a7 r ((a7 r) + 1)))), (h0, .inr (8, [.int th, .ref q1, .ref q2, .ref q3, v4, .ref q5, .ref q6, .ref q7, v8, v9, v10, v11, v12, v13, v14, v15, v16])), (q2, .inl (c2, 67200, .inl (upd f9 (((4200 * r) + 2000) + b9) 0))), (q3, .inl (c3, 16, .inl (upd a3 r (nI (nz - 1))))), (q5, .inl (c5, 16, .inl a5)), (q6, .inl (c6, 16, .inl a6))] H := hP
            replace hD : va_D A [(q1, .inl (c1, 16, .inl a1)), (q7, .inl (c7, 16, .inl (upd a7 r ((a7 r) + 1)))), (h0, .inr (8, [.int th, .ref q1, .ref q2, .ref q3, v4, .ref q5, .ref q6, .ref q7, v8, v9, v10, v11, v12, v13, v14, v15, v16])), (q2, .inl (c2, 67200, .inl (upd f9 (((4200 * r) + 2000) + b9) 0))), (q3, .inl (c3, 16, .inl (upd a3 r (nI (nz - 1))))), (q5, .inl (c5, 16, .inl a5)), (q6, .inl (c6, 16, .inl a6))] := hD
            rw [show i = nz - 1 by omega] at hw9
            have hP9 := hP.sub (ws' := [(h0, .inr (8, [.int th, .ref q1, .ref q2, .ref q3, v4, .ref q5, .ref q6, .ref q7, v8, v9, v10, v11, v12, v13, v14, v15, v16])), (q1, .inl (c1, 16, .inl a1)), (q2, .inl (c2, 67200, .inl (upd f9 (((4200 * r) + 2000) + b9) 0))), (q3, .inl (c3, 16, .inl (upd a3 r (nI (nz - 1))))), (q5, .inl (c5, 16, .inl a5)), (q6, .inl (c6, 16, .inl a6)), (q7, .inl (c7, 16, .inl (upd a7 r ((a7 r) + 1))))]) [2, 0, 3, 4, 5, 6, 1] rfl
            have hD9 := hD.sub (ws' := [(h0, .inr (8, [.int th, .ref q1, .ref q2, .ref q3, v4, .ref q5, .ref q6, .ref q7, v8, v9, v10, v11, v12, v13, v14, v15, v16])), (q1, .inl (c1, 16, .inl a1)), (q2, .inl (c2, 67200, .inl (upd f9 (((4200 * r) + 2000) + b9) 0))), (q3, .inl (c3, 16, .inl (upd a3 r (nI (nz - 1))))), (q5, .inl (c5, 16, .inl a5)), (q6, .inl (c6, 16, .inl a6)), (q7, .inl (c7, 16, .inl (upd a7 r ((a7 r) + 1))))]) [2, 0, 3, 4, 5, 6, 1] (by decide) rfl
            have hK9 := hK.sub (tys' := [(c1, .int), (c2, .int), (c3, .int), (c5, .int), (c6, .int), (c7, .int)]) [0, 1, 2, 3, 4, 5] rfl
            refine W.widen (k := 0) (n := 0) (Nat.le_of_ble_eq_true rfl) (Nat.le_of_ble_eq_true rfl) ?_
            exact W.vret hx hb hr (fun t ht hW => ⟨⟨(upd f9 (((4200 * r) + 2000) + b9) 0), rfl, ⟨outR_up' hv9 (k := 2000 + b9) (by omega) (by omega), shR_hi hw9 (m := 2000 + b9) (by omega) (by omega)⟩, by rw [ht]; exact hP9, va_K.moved hW.alike hK9, hD9⟩, hS.F ht⟩) hS.2.2 dX8_goes_146
      ·
        have ic_17 : ((i + 1 : Nat) : Int) < ((nz : Nat) : Int) := tx_nle (nI_toInt (by omega)) (nI_toInt (by omega)) c_17
        refine lv_aload_n hx hb dX8_goes_42 rfl (lv_at hl 2 rfl) ?_
        refine lv_iload_n hx hb dX8_goes_43 rfl (lv_at hl 3 rfl) ?_
        refine lv_iload hx hb dX8_goes_44 (lv_at hl 0 rfl) ?_
        refine lv_aload_n hx hb dX8_goes_46 rfl (lv_at hl 2 rfl) ?_
        refine lv_iload_n hx hb dX8_goes_47 rfl (lv_at hl 3 rfl) ?_
        refine lv_iload hx hb dX8_goes_48 (lv_at hl 0 rfl) ?_
        refine lv_iconst (v := 1) hx hb dX8_goes_50 (by decide) ?_
        refine lv_iadd hx hb dX8_goes_51 ?_
        refine lv_topi (fun z_26 ez_26 => ?_)
        obtain rfl : z_26 = nI (i + 1) := ez_26.trans (by rw [show (1 : Int32) = nI 1 from rfl, nI_add])
        have hPc := hP.sub (ws' := [(h0, .inr (8, [.int th, .ref q1, .ref q2, .ref q3, v4, .ref q5, .ref q6, .ref q7, v8, v9, v10, v11, v12, v13, v14, v15, v16])), (q2, .inl (c2, 67200, .inl f9))]) [4, 3] rfl
        have hDc := hD.sub (ws' := [(h0, .inr (8, [.int th, .ref q1, .ref q2, .ref q3, v4, .ref q5, .ref q6, .ref q7, v8, v9, v10, v11, v12, v13, v14, v15, v16])), (q2, .inl (c2, 67200, .inl f9))]) [4, 3] (by decide) rfl
        have hKc := hK.sub (tys' := [(c2, .int)]) [1] rfl
        have hFc := va_free (wc := [(h0, .inr (8, [.int th, .ref q1, .ref q2, .ref q3, v4, .ref q5, .ref q6, .ref q7, v8, v9, v10, v11, v12, v13, v14, v15, v16])), (q2, .inl (c2, 67200, .inl f9))]) hD hS hA [4, 3] rfl
        refine va_calli (va_runV (As := [.int (nI r), .int (nI (i + 1))]) (rest := [.int (nI i), .int (nI r), .ref h0]) ⟨hx, hb, hml, hown, hts⟩ (c_X8_key l  dC dI H.size h0 th q2 c2 f9 (.ref q1) (.ref q3) v4 (.ref q5) (.ref q6) (.ref q7) v8 v9 v10 v11 v12 v13 v14 v15 v16 r (i + 1) hr9 (by omega)) (cwV 2 hts gX8_goes_X8_key rfl rfl rfl (by decide +kernel) ⟨(Nat.le_of_ble_eq_true rfl), (Nat.le_of_ble_eq_true rfl)⟩) ⟨pk_blind, va_recv hKc hPc (ci := 8) (q0 := 0) rfl rfl, pk_call hPc hKc hDc⟩ rfl rfl hl.1 rfl (lv_room (Nat.le_of_ble_eq_true rfl)) dX8_goes_52 ⟨(Nat.le_of_ble_eq_true rfl), (Nat.le_of_ble_eq_true rfl)⟩) hS (fun q _ h => hFc q h) hFc (fun r_27 ur_27 t H1 locs ht hvm hw hB hz1 hk1 hS => ?_)
        try dsimp only at hw
        obtain ⟨hP1, hK1, hD1⟩ := hB
        rw [ht] at hP1
        have hK1 := va_K.moved hvm.symm hK1
        obtain ⟨hP, hD⟩ := va_join (wr := [(q1, .inl (c1, 16, .inl a1)), (q3, .inl (c3, 16, .inl a3)), (q7, .inl (c7, 16, .inl a7)), (q5, .inl (c5, 16, .inl a5)), (q6, .inl (c6, 16, .inl a6))]) (w1 := [(h0, .inr (8, [.int th, .ref q1, .ref q2, .ref q3, v4, .ref q5, .ref q6, .ref q7, v8, v9, v10, v11, v12, v13, v14, v15, v16])), (q2, .inl (c2, 67200, .inl f9))]) hP hD [4, 3] [0, 1, 2, 5, 6] rfl rfl (by decide) (by decide) hk1 hFc hP1 hD1
        clear hk1 hz1 ht hPc hDc hKc hFc
        generalize H1 = H at hP hS ⊢
        replace hP : va_P (dC, dI) vwCl [(q1, .inl (c1, 16, .inl a1)), (q3, .inl (c3, 16, .inl a3)), (q7, .inl (c7, 16, .inl a7)), (q5, .inl (c5, 16, .inl a5)), (q6, .inl (c6, 16, .inl a6)), (h0, .inr (8, [.int th, .ref q1, .ref q2, .ref q3, v4, .ref q5, .ref q6, .ref q7, v8, v9, v10, v11, v12, v13, v14, v15, v16])), (q2, .inl (c2, 67200, .inl f9))] H := hP
        replace hD : va_D A [(q1, .inl (c1, 16, .inl a1)), (q3, .inl (c3, 16, .inl a3)), (q7, .inl (c7, 16, .inl a7)), (q5, .inl (c5, 16, .inl a5)), (q6, .inl (c6, 16, .inl a6)), (h0, .inr (8, [.int th, .ref q1, .ref q2, .ref q3, v4, .ref q5, .ref q6, .ref q7, v8, v9, v10, v11, v12, v13, v14, v15, v16])), (q2, .inl (c2, 67200, .inl f9))] := hD
        refine W.widen (k := 0) (n := 0) (Nat.le_of_ble_eq_true rfl) (Nat.le_of_ble_eq_true rfl) ?_
        obtain rfl : r_27 = f9 (4200 * r + (i + 1)) := hw
        refine W.eq (g2 := F0 m 55 ls [.int (f9 (4200 * r + (i + 1))), .int (nI i), .int (nI r), .ref h0]) rfl ?_
        refine lv_aload_n hx hb dX8_goes_55 rfl (lv_at hl 2 rfl) ?_
        refine lv_iload_n hx hb dX8_goes_56 rfl (lv_at hl 3 rfl) ?_
        refine lv_iload hx hb dX8_goes_57 (lv_at hl 0 rfl) ?_
        refine lv_iconst (v := 1) hx hb dX8_goes_59 (by decide) ?_
        refine lv_iadd hx hb dX8_goes_60 ?_
        refine lv_topi (fun z_28 ez_28 => ?_)
        obtain rfl : z_28 = nI (i + 1) := ez_28.trans (by rw [show (1 : Int32) = nI 1 from rfl, nI_add])
        have hPc := hP.sub (ws' := [(h0, .inr (8, [.int th, .ref q1, .ref q2, .ref q3, v4, .ref q5, .ref q6, .ref q7, v8, v9, v10, v11, v12, v13, v14, v15, v16])), (q2, .inl (c2, 67200, .inl f9))]) [5, 6] rfl
        have hDc := hD.sub (ws' := [(h0, .inr (8, [.int th, .ref q1, .ref q2, .ref q3, v4, .ref q5, .ref q6, .ref q7, v8, v9, v10, v11, v12, v13, v14, v15, v16])), (q2, .inl (c2, 67200, .inl f9))]) [5, 6] (by decide) rfl
        have hKc := hK.sub (tys' := [(c2, .int)]) [1] rfl
        have hFc := va_free (wc := [(h0, .inr (8, [.int th, .ref q1, .ref q2, .ref q3, v4, .ref q5, .ref q6, .ref q7, v8, v9, v10, v11, v12, v13, v14, v15, v16])), (q2, .inl (c2, 67200, .inl f9))]) hD hS hA [5, 6] rfl
        refine va_calli (va_runV (As := [.int (nI r), .int (nI (i + 1))]) (rest := [.int (f9 (4200 * r + (i + 1))), .int (nI i), .int (nI r), .ref h0]) ⟨hx, hb, hml, hown, hts⟩ (c_X8_value l  dC dI H.size h0 th q2 c2 f9 (.ref q1) (.ref q3) v4 (.ref q5) (.ref q6) (.ref q7) v8 v9 v10 v11 v12 v13 v14 v15 v16 r (i + 1) hr9 (by omega)) (cwV 2 hts gX8_goes_X8_value rfl rfl rfl (by decide +kernel) ⟨(Nat.le_of_ble_eq_true rfl), (Nat.le_of_ble_eq_true rfl)⟩) ⟨pk_blind, va_recv hKc hPc (ci := 8) (q0 := 0) rfl rfl, pk_call hPc hKc hDc⟩ rfl rfl hl.1 rfl (lv_room (Nat.le_of_ble_eq_true rfl)) dX8_goes_61 ⟨(Nat.le_of_ble_eq_true rfl), (Nat.le_of_ble_eq_true rfl)⟩) hS (fun q _ h => hFc q h) hFc (fun r_29 ur_29 t H1 locs ht hvm hw hB hz1 hk1 hS => ?_)
        try dsimp only at hw
        obtain ⟨hP1, hK1, hD1⟩ := hB
        rw [ht] at hP1
        have hK1 := va_K.moved hvm.symm hK1
        obtain ⟨hP, hD⟩ := va_join (wr := [(q1, .inl (c1, 16, .inl a1)), (q3, .inl (c3, 16, .inl a3)), (q7, .inl (c7, 16, .inl a7)), (q5, .inl (c5, 16, .inl a5)), (q6, .inl (c6, 16, .inl a6))]) (w1 := [(h0, .inr (8, [.int th, .ref q1, .ref q2, .ref q3, v4, .ref q5, .ref q6, .ref q7, v8, v9, v10, v11, v12, v13, v14, v15, v16])), (q2, .inl (c2, 67200, .inl f9))]) hP hD [5, 6] [0, 1, 2, 3, 4] rfl rfl (by decide) (by decide) hk1 hFc hP1 hD1
        clear hk1 hz1 ht hPc hDc hKc hFc
        generalize H1 = H at hP hS ⊢
        replace hP : va_P (dC, dI) vwCl [(q1, .inl (c1, 16, .inl a1)), (q3, .inl (c3, 16, .inl a3)), (q7, .inl (c7, 16, .inl a7)), (q5, .inl (c5, 16, .inl a5)), (q6, .inl (c6, 16, .inl a6)), (h0, .inr (8, [.int th, .ref q1, .ref q2, .ref q3, v4, .ref q5, .ref q6, .ref q7, v8, v9, v10, v11, v12, v13, v14, v15, v16])), (q2, .inl (c2, 67200, .inl f9))] H := hP
        replace hD : va_D A [(q1, .inl (c1, 16, .inl a1)), (q3, .inl (c3, 16, .inl a3)), (q7, .inl (c7, 16, .inl a7)), (q5, .inl (c5, 16, .inl a5)), (q6, .inl (c6, 16, .inl a6)), (h0, .inr (8, [.int th, .ref q1, .ref q2, .ref q3, v4, .ref q5, .ref q6, .ref q7, v8, v9, v10, v11, v12, v13, v14, v15, v16])), (q2, .inl (c2, 67200, .inl f9))] := hD
        refine W.widen (k := 0) (n := 0) (Nat.le_of_ble_eq_true rfl) (Nat.le_of_ble_eq_true rfl) ?_
        obtain rfl : r_29 = f9 (4200 * r + 1000 + (i + 1)) := hw
        refine W.eq (g2 := F0 m 64 ls [.int (f9 (4200 * r + 1000 + (i + 1))), .int (f9 (4200 * r + (i + 1))), .int (nI i), .int (nI r), .ref h0]) rfl ?_
        have hPc := hP.sub (ws' := [(h0, .inr (8, [.int th, .ref q1, .ref q2, .ref q3, v4, .ref q5, .ref q6, .ref q7, v8, v9, v10, v11, v12, v13, v14, v15, v16])), (q2, .inl (c2, 67200, .inl f9))]) [5, 6] rfl
        have hDc := hD.sub (ws' := [(h0, .inr (8, [.int th, .ref q1, .ref q2, .ref q3, v4, .ref q5, .ref q6, .ref q7, v8, v9, v10, v11, v12, v13, v14, v15, v16])), (q2, .inl (c2, 67200, .inl f9))]) [5, 6] (by decide) rfl
        have hKc := hK.sub (tys' := [(c2, .int)]) [1] rfl
        have hFc := va_free (wc := [(h0, .inr (8, [.int th, .ref q1, .ref q2, .ref q3, v4, .ref q5, .ref q6, .ref q7, v8, v9, v10, v11, v12, v13, v14, v15, v16])), (q2, .inl (c2, 67200, .inl f9))]) hD hS hA [5, 6] rfl
        refine va_callv (va_runV (As := [.int (nI r), .int (nI i), .int (f9 (4200 * r + (i + 1))), .int (f9 (4200 * r + 1000 + (i + 1)))]) (rest := []) ⟨hx, hb, hml, hown, hts⟩ (c_X8_set l  dC dI H.size h0 th q2 c2 f9 (.ref q1) (.ref q3) v4 (.ref q5) (.ref q6) (.ref q7) v8 v9 v10 v11 v12 v13 v14 v15 v16 r i (f9 (4200 * r + (i + 1))) (f9 (4200 * r + 1000 + (i + 1))) hr9 (by omega)) (cwV 4 hts gX8_goes_X8_set rfl rfl rfl (by decide +kernel) ⟨(Nat.le_of_ble_eq_true rfl), (Nat.le_of_ble_eq_true rfl)⟩) ⟨pk_blind, va_recv hKc hPc (ci := 8) (q0 := 0) rfl rfl, pk_call hPc hKc hDc⟩ rfl rfl hl.1 rfl (lv_room (Nat.le_of_ble_eq_true rfl)) dX8_goes_64 ⟨(Nat.le_of_ble_eq_true rfl), (Nat.le_of_ble_eq_true rfl)⟩) hS (fun q _ h => hFc q h) hFc (fun ur_30 t H1 locs ht hvm hw hB hz1 hk1 hS => ?_)
        try dsimp only at hw
        have jr_30 := hw
        obtain ⟨hP1, hK1, hD1⟩ := hB
        rw [ht] at hP1
        have hK1 := va_K.moved hvm.symm hK1
        obtain ⟨hP, hD⟩ := va_join (wr := [(q1, .inl (c1, 16, .inl a1)), (q3, .inl (c3, 16, .inl a3)), (q7, .inl (c7, 16, .inl a7)), (q5, .inl (c5, 16, .inl a5)), (q6, .inl (c6, 16, .inl a6))]) (w1 := [(h0, .inr (8, [.int th, .ref q1, .ref q2, .ref q3, v4, .ref q5, .ref q6, .ref q7, v8, v9, v10, v11, v12, v13, v14, v15, v16])), (q2, .inl (c2, 67200, .inl (upd (upd f9 (4200 * r + i) (f9 (4200 * r + (i + 1)))) (4200 * r + 1000 + i) (f9 (4200 * r + 1000 + (i + 1))))))]) hP hD [5, 6] [0, 1, 2, 3, 4] rfl rfl (by decide) (by decide) hk1 hFc hP1 hD1
        clear hk1 hz1 ht hPc hDc hKc hFc
        generalize H1 = H at hP hS ⊢
        replace hP : va_P (dC, dI) vwCl [(q1, .inl (c1, 16, .inl a1)), (q3, .inl (c3, 16, .inl a3)), (q7, .inl (c7, 16, .inl a7)), (q5, .inl (c5, 16, .inl a5)), (q6, .inl (c6, 16, .inl a6)), (h0, .inr (8, [.int th, .ref q1, .ref q2, .ref q3, v4, .ref q5, .ref q6, .ref q7, v8, v9, v10, v11, v12, v13, v14, v15, v16])), (q2, .inl (c2, 67200, .inl (upd (upd f9 (4200 * r + i) (f9 (4200 * r + (i + 1)))) (4200 * r + 1000 + i) (f9 (4200 * r + 1000 + (i + 1))))))] H := hP
        replace hD : va_D A [(q1, .inl (c1, 16, .inl a1)), (q3, .inl (c3, 16, .inl a3)), (q7, .inl (c7, 16, .inl a7)), (q5, .inl (c5, 16, .inl a5)), (q6, .inl (c6, 16, .inl a6)), (h0, .inr (8, [.int th, .ref q1, .ref q2, .ref q3, v4, .ref q5, .ref q6, .ref q7, v8, v9, v10, v11, v12, v13, v14, v15, v16])), (q2, .inl (c2, 67200, .inl (upd (upd f9 (4200 * r + i) (f9 (4200 * r + (i + 1)))) (4200 * r + 1000 + i) (f9 (4200 * r + 1000 + (i + 1))))))] := hD
        refine W.widen (k := 0) (n := 0) (Nat.le_of_ble_eq_true rfl) (Nat.le_of_ble_eq_true rfl) ?_
        refine W.eq (g2 := F0 m 67 ls []) rfl ?_
        refine lv_iinc (v := nI (i + 1)) (lv' := [(4, .int (nI (i + 1))), (3, .int (nI b9)), (0, .ref h0), (1, .int (nI r)), (2, .int (nI k9))]) hx hb dX8_goes_67 hl (k := 0) rfl (by rw [show Int32.ofInt 1 = nI 1 from rfl, nI_add]) (by decide) rfl (fun ls hl => ?_)
        refine lv_goto (tgt := 29) hx hb dX8_goes_70 (by decide) ?_
        exact ih (i := i + 1) (x9 := nI (i + 1)) (ex9 := rfl) (ls := ls) (f9 := (upd (upd f9 (4200 * r + i) (f9 (4200 * r + (i + 1)))) (4200 * r + 1000 + i) (f9 (4200 * r + 1000 + (i + 1))))) (H := H) (locs := locs) (hP := hP.sub (ws' := [(q1, .inl (c1, 16, .inl a1)), (q3, .inl (c3, 16, .inl a3)), (q7, .inl (c7, 16, .inl a7)), (q2, .inl (c2, 67200, .inl (upd (upd f9 (4200 * r + i) (f9 (4200 * r + (i + 1)))) (4200 * r + 1000 + i) (f9 (4200 * r + 1000 + (i + 1)))))), (h0, .inr (8, [.int th, .ref q1, .ref q2, .ref q3, v4, .ref q5, .ref q6, .ref q7, v8, v9, v10, v11, v12, v13, v14, v15, v16])), (q5, .inl (c5, 16, .inl a5)), (q6, .inl (c6, 16, .inl a6))]) [0, 1, 2, 6, 5, 3, 4] rfl) (hS := hS) (hD := hD.sub (ws' := [(q1, .inl (c1, 16, .inl a1)), (q3, .inl (c3, 16, .inl a3)), (q7, .inl (c7, 16, .inl a7)), (q2, .inl (c2, 67200, .inl (upd (upd f9 (4200 * r + i) (f9 (4200 * r + (i + 1)))) (4200 * r + 1000 + i) (f9 (4200 * r + 1000 + (i + 1)))))), (h0, .inr (8, [.int th, .ref q1, .ref q2, .ref q3, v4, .ref q5, .ref q6, .ref q7, v8, v9, v10, v11, v12, v13, v14, v15, v16])), (q5, .inl (c5, 16, .inl a5)), (q6, .inl (c6, 16, .inl a6))]) [0, 1, 2, 6, 5, 3, 4] (by decide) rfl) (hi9 := by omega) (hn9 := by omega) (hv9 := outR_up' (outR_up hv9 (by omega)) (k := 1000 + i) (by omega) (by omega)) (hj9 := by omega) (hw9 := shR_up hw9 hj9 (by omega)) (hl := lv_sub hl [0, 1, 2, 3, 4] rfl)
