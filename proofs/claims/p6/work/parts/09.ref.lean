theorem dX8_isWithin_0 : decode cX8_isWithin 0 = .ok (.iload_n 1, 1) := by decide +kernel
theorem dX8_isWithin_1 : decode cX8_isWithin 1 = .ok (.istore_n 3, 1) := by decide +kernel
theorem dX8_isWithin_2 : decode cX8_isWithin 2 = .ok (.aload_n 0, 1) := by decide +kernel
theorem dX8_isWithin_3 : decode cX8_isWithin 3 = .ok (.getfield 7, 3) := by decide +kernel
theorem dX8_isWithin_6 : decode cX8_isWithin 6 = .ok (.iload_n 3, 1) := by decide +kernel
theorem dX8_isWithin_7 : decode cX8_isWithin 7 = .ok (.iaload, 1) := by decide +kernel
theorem dX8_isWithin_8 : decode cX8_isWithin 8 = .ok (.iconst 4, 1) := by decide +kernel
theorem dX8_isWithin_9 : decode cX8_isWithin 9 = .ok (.if_icmp .ne 121, 3) := by decide +kernel
theorem dX8_isWithin_130 : decode cX8_isWithin 130 = .ok (.iconst 1, 1) := by decide +kernel
theorem dX8_isWithin_131 : decode cX8_isWithin 131 = .ok (.ireturn, 1) := by decide +kernel
theorem dX8_isWithin_12 : decode cX8_isWithin 12 = .ok (.aload_n 0, 1) := by decide +kernel
theorem dX8_isWithin_13 : decode cX8_isWithin 13 = .ok (.getfield 32, 3) := by decide +kernel
theorem dX8_isWithin_16 : decode cX8_isWithin 16 = .ok (.iload_n 3, 1) := by decide +kernel
theorem dX8_isWithin_17 : decode cX8_isWithin 17 = .ok (.iaload, 1) := by decide +kernel
theorem dX8_isWithin_18 : decode cX8_isWithin 18 = .ok (.istore 4, 2) := by decide +kernel
theorem dX8_isWithin_20 : decode cX8_isWithin 20 = .ok (.aload_n 0, 1) := by decide +kernel
theorem dX8_isWithin_21 : decode cX8_isWithin 21 = .ok (.getfield 41, 3) := by decide +kernel
theorem dX8_isWithin_24 : decode cX8_isWithin 24 = .ok (.iload_n 3, 1) := by decide +kernel
theorem dX8_isWithin_25 : decode cX8_isWithin 25 = .ok (.iaload, 1) := by decide +kernel
theorem dX8_isWithin_26 : decode cX8_isWithin 26 = .ok (.iconst 1, 1) := by decide +kernel
theorem dX8_isWithin_27 : decode cX8_isWithin 27 = .ok (.if_icmp .ne 37, 3) := by decide +kernel
theorem dX8_isWithin_64 : decode cX8_isWithin 64 = .ok (.aload_n 0, 1) := by decide +kernel
theorem dX8_isWithin_65 : decode cX8_isWithin 65 = .ok (.getfield 41, 3) := by decide +kernel
theorem dX8_isWithin_68 : decode cX8_isWithin 68 = .ok (.iload_n 3, 1) := by decide +kernel
theorem dX8_isWithin_69 : decode cX8_isWithin 69 = .ok (.iaload, 1) := by decide +kernel
theorem dX8_isWithin_70 : decode cX8_isWithin 70 = .ok (.iconst 2, 1) := by decide +kernel
theorem dX8_isWithin_71 : decode cX8_isWithin 71 = .ok (.if_icmp .ne 21, 3) := by decide +kernel
theorem dX8_isWithin_92 : decode cX8_isWithin 92 = .ok (.aload_n 0, 1) := by decide +kernel
theorem dX8_isWithin_93 : decode cX8_isWithin 93 = .ok (.getfield 41, 3) := by decide +kernel
theorem dX8_isWithin_96 : decode cX8_isWithin 96 = .ok (.iload_n 3, 1) := by decide +kernel
theorem dX8_isWithin_97 : decode cX8_isWithin 97 = .ok (.iaload, 1) := by decide +kernel
theorem dX8_isWithin_98 : decode cX8_isWithin 98 = .ok (.iconst 3, 1) := by decide +kernel
theorem dX8_isWithin_99 : decode cX8_isWithin 99 = .ok (.if_icmp .ne 21, 3) := by decide +kernel
theorem dX8_isWithin_120 : decode cX8_isWithin 120 = .ok (.aload_n 0, 1) := by decide +kernel
theorem dX8_isWithin_121 : decode cX8_isWithin 121 = .ok (.getfield 32, 3) := by decide +kernel
theorem dX8_isWithin_124 : decode cX8_isWithin 124 = .ok (.iload_n 3, 1) := by decide +kernel
theorem dX8_isWithin_125 : decode cX8_isWithin 125 = .ok (.iaload, 1) := by decide +kernel
theorem dX8_isWithin_126 : decode cX8_isWithin 126 = .ok (.istore_n 3, 1) := by decide +kernel
theorem dX8_isWithin_127 : decode cX8_isWithin 127 = .ok (.goto (-125), 3) := by decide +kernel
theorem dX8_isWithin_102 : decode cX8_isWithin 102 = .ok (.aload_n 0, 1) := by decide +kernel
theorem dX8_isWithin_103 : decode cX8_isWithin 103 = .ok (.iload 4, 2) := by decide +kernel
theorem dX8_isWithin_105 : decode cX8_isWithin 105 = .ok (.iload_n 2, 1) := by decide +kernel
theorem dX8_isWithin_106 : decode cX8_isWithin 106 = .ok (.aload_n 0, 1) := by decide +kernel
theorem dX8_isWithin_107 : decode cX8_isWithin 107 = .ok (.getfield 35, 3) := by decide +kernel
theorem dX8_isWithin_110 : decode cX8_isWithin 110 = .ok (.iload_n 3, 1) := by decide +kernel
theorem dX8_isWithin_111 : decode cX8_isWithin 111 = .ok (.iaload, 1) := by decide +kernel
set_option maxRecDepth 20000 in
theorem ggX8_isWithin_X8_ordered : GoodIn wsX8_isWithin wsX8_ordered := goodIn_r _ [10, 11, 12, 13, 14, 9, 15, 1, 2, 16, 17, 18, 19, 20, 21, 22, 23, 24, 25, 26, 27, 28, 3, 29, 30, 31, 32, 33, 34, 35, 36, 37, 38, 39, 40, 41, 42, 43, 44, 45] rfl (by decide +kernel)
set_option maxRecDepth 20000 in
theorem gX8_isWithin_X8_ordered : GoodIn wsX8_isWithin (wsV RX8 105 RX8 yX8_ordered wsX8_ordered) := goodIn_app (goodIn_of _ (by decide +kernel)) ggX8_isWithin_X8_ordered
theorem dX8_isWithin_112 : decode cX8_isWithin 112 = .ok (.invokevirtual 105, 3) := by decide +kernel
theorem dX8_isWithin_115 : decode cX8_isWithin 115 = .ok (.ifCond .ge 5, 3) := by decide +kernel
theorem dX8_isWithin_118 : decode cX8_isWithin 118 = .ok (.iconst 0, 1) := by decide +kernel
theorem dX8_isWithin_119 : decode cX8_isWithin 119 = .ok (.ireturn, 1) := by decide +kernel
theorem dX8_isWithin_74 : decode cX8_isWithin 74 = .ok (.aload_n 0, 1) := by decide +kernel
theorem dX8_isWithin_75 : decode cX8_isWithin 75 = .ok (.iload 4, 2) := by decide +kernel
theorem dX8_isWithin_77 : decode cX8_isWithin 77 = .ok (.iload_n 2, 1) := by decide +kernel
theorem dX8_isWithin_78 : decode cX8_isWithin 78 = .ok (.aload_n 0, 1) := by decide +kernel
theorem dX8_isWithin_79 : decode cX8_isWithin 79 = .ok (.getfield 35, 3) := by decide +kernel
theorem dX8_isWithin_82 : decode cX8_isWithin 82 = .ok (.iload_n 3, 1) := by decide +kernel
theorem dX8_isWithin_83 : decode cX8_isWithin 83 = .ok (.iaload, 1) := by decide +kernel
theorem dX8_isWithin_84 : decode cX8_isWithin 84 = .ok (.invokevirtual 105, 3) := by decide +kernel
theorem dX8_isWithin_87 : decode cX8_isWithin 87 = .ok (.ifCond .lt 5, 3) := by decide +kernel
theorem dX8_isWithin_90 : decode cX8_isWithin 90 = .ok (.iconst 0, 1) := by decide +kernel
theorem dX8_isWithin_91 : decode cX8_isWithin 91 = .ok (.ireturn, 1) := by decide +kernel
theorem dX8_isWithin_30 : decode cX8_isWithin 30 = .ok (.aload_n 0, 1) := by decide +kernel
theorem dX8_isWithin_31 : decode cX8_isWithin 31 = .ok (.iload 4, 2) := by decide +kernel
theorem dX8_isWithin_33 : decode cX8_isWithin 33 = .ok (.iload_n 2, 1) := by decide +kernel
theorem dX8_isWithin_34 : decode cX8_isWithin 34 = .ok (.aload_n 0, 1) := by decide +kernel
theorem dX8_isWithin_35 : decode cX8_isWithin 35 = .ok (.getfield 35, 3) := by decide +kernel
theorem dX8_isWithin_38 : decode cX8_isWithin 38 = .ok (.iload_n 3, 1) := by decide +kernel
theorem dX8_isWithin_39 : decode cX8_isWithin 39 = .ok (.iaload, 1) := by decide +kernel
theorem dX8_isWithin_40 : decode cX8_isWithin 40 = .ok (.invokevirtual 105, 3) := by decide +kernel
theorem dX8_isWithin_43 : decode cX8_isWithin 43 = .ok (.ifCond .lt 19, 3) := by decide +kernel
theorem dX8_isWithin_62 : decode cX8_isWithin 62 = .ok (.iconst 0, 1) := by decide +kernel
theorem dX8_isWithin_63 : decode cX8_isWithin 63 = .ok (.ireturn, 1) := by decide +kernel
theorem dX8_isWithin_46 : decode cX8_isWithin 46 = .ok (.aload_n 0, 1) := by decide +kernel
theorem dX8_isWithin_47 : decode cX8_isWithin 47 = .ok (.iload 4, 2) := by decide +kernel
theorem dX8_isWithin_49 : decode cX8_isWithin 49 = .ok (.iload_n 2, 1) := by decide +kernel
theorem dX8_isWithin_50 : decode cX8_isWithin 50 = .ok (.aload_n 0, 1) := by decide +kernel
theorem dX8_isWithin_51 : decode cX8_isWithin 51 = .ok (.getfield 38, 3) := by decide +kernel
theorem dX8_isWithin_54 : decode cX8_isWithin 54 = .ok (.iload_n 3, 1) := by decide +kernel
theorem dX8_isWithin_55 : decode cX8_isWithin 55 = .ok (.iaload, 1) := by decide +kernel
theorem dX8_isWithin_56 : decode cX8_isWithin 56 = .ok (.invokevirtual 105, 3) := by decide +kernel
theorem dX8_isWithin_59 : decode cX8_isWithin 59 = .ok (.ifCond .lt 5, 3) := by decide +kernel
set_option maxHeartbeats 4000000 in
set_option maxRecDepth 100000 in
/-- isWithin -/
theorem c_X8_isWithin (l : Launch) (dC : Nat → ClassId) (dI : Nat → Nat → Nat) (sz : Nat) (h0 : Nat) (th : Int32) (q1 : Nat) (q4 : Nat) (q8 : Nat) (q9 : Nat) (q10 : Nat) (q11 : Nat) (c1 : ClassId) (c4 : ClassId) (c8 : ClassId) (c9 : ClassId) (c10 : ClassId) (c11 : ClassId) (a1 : Nat → Int32) (a4 : Nat → Int32) (a8 : Nat → Int32) (a9 : Nat → Int32) (a10 : Nat → Int32) (a11 : Nat → Int32) (v2 : Value) (v3 : Value) (v5 : Value) (v6 : Value) (v7 : Value) (v12 : Value) (v13 : Value) (v14 : Value) (v15 : Value) (v16 : Value) (o : Nat) (dep : Nat → Nat) (p1 : Int32) (ho9 : o < 16) (hF9 : rF a1 a8 dep) (hd9 : dep o < 17) : Met l yX8_isWithin wsX8_isWithin ({ frames := 3, cells := 0, slots := 0, locals := 110 }) (va_Pc [.ref h0, .int (nI o), .int p1] (pk_Pre (dC, dI) [(h0, .inr (8, [.int th, .ref q1, v2, v3, .ref q4, v5, v6, v7, .ref q8, .ref q9, .ref q10, .ref q11, v12, v13, v14, v15, v16])), (q1, .inl (c1, 16, .inl a1)), (q4, .inl (c4, 16, .inl a4)), (q8, .inl (c8, 16, .inl a8)), (q9, .inl (c9, 16, .inl a9)), (q10, .inl (c10, 16, .inl a10)), (q11, .inl (c11, 16, .inl a11))] [(c1, .int), (c4, .int), (c8, .int), (c9, .int), (c10, .int), (c11, .int)] sz)) (va_Qi (fun (x : Int32) (_ : Unit) => x = tz (winN a1 a8 a11 a9 a10 a4 17 o p1)) (fun (_ : Unit) (t : State) => va_P (dC, dI) vwCl [(h0, .inr (8, [.int th, .ref q1, v2, v3, .ref q4, v5, v6, v7, .ref q8, .ref q9, .ref q10, .ref q11, v12, v13, v14, v15, v16])), (q1, .inl (c1, 16, .inl a1)), (q4, .inl (c4, 16, .inl a4)), (q8, .inl (c8, 16, .inl a8)), (q9, .inl (c9, 16, .inl a9)), (q10, .inl (c10, 16, .inl a10)), (q11, .inl (c11, 16, .inl a11))] t.heap ∧ va_K (dC, dI) vwCl [(c1, .int), (c4, .int), (c8, .int), (c9, .int), (c10, .int), (c11, .int)] t ∧ va_D (va_A [(h0, .inr (8, [.int th, .ref q1, v2, v3, .ref q4, v5, v6, v7, .ref q8, .ref q9, .ref q10, .ref q11, v12, v13, v14, v15, v16])), (q1, .inl (c1, 16, .inl a1)), (q4, .inl (c4, 16, .inl a4)), (q8, .inl (c8, 16, .inl a8)), (q9, .inl (c9, 16, .inl a9)), (q10, .inl (c10, 16, .inl a10)), (q11, .inl (c11, 16, .inl a11))] sz) [(h0, .inr (8, [.int th, .ref q1, v2, v3, .ref q4, v5, v6, v7, .ref q8, .ref q9, .ref q10, .ref q11, v12, v13, v14, v15, v16])), (q1, .inl (c1, 16, .inl a1)), (q4, .inl (c4, 16, .inl a4)), (q8, .inl (c8, 16, .inl a8)), (q9, .inl (c9, 16, .inl a9)), (q10, .inl (c10, 16, .inl a10)), (q11, .inl (c11, 16, .inl a11))]) (va_A [(h0, .inr (8, [.int th, .ref q1, v2, v3, .ref q4, v5, v6, v7, .ref q8, .ref q9, .ref q10, .ref q11, v12, v13, v14, v15, v16])), (q1, .inl (c1, 16, .inl a1)), (q4, .inl (c4, 16, .inl a4)), (q8, .inl (c8, 16, .inl a8)), (q9, .inl (c9, 16, .inl a9)), (q10, .inl (c10, 16, .inl a10)), (q11, .inl (c11, 16, .inl a11))] sz)) 0 0 (va_A [(h0, .inr (8, [.int th, .ref q1, v2, v3, .ref q4, v5, v6, v7, .ref q8, .ref q9, .ref q10, .ref q11, v12, v13, v14, v15, v16])), (q1, .inl (c1, 16, .inl a1)), (q4, .inl (c4, 16, .inl a4)), (q8, .inl (c8, 16, .inl a8)), (q9, .inl (c9, 16, .inl a9)), (q10, .inl (c10, 16, .inl a10)), (q11, .inl (c11, 16, .inl a11))] sz) := by
  refine Met.ofW (cc := cX8_isWithin) (maxL := 5) (ret := (some .boolean)) (by decide) rfl ?_
  intro p e s m args below meth c s₁ B hml hv
  obtain ⟨rfl, hsz, hP, hK, hD0⟩ := hv
  have hx := B.exec
  have hb := B.bytes
  have hr := B.returns
  have hts := atoms_spec (ws := wsX8_isWithin) B.pre
  have hown : s.vm.findClass RX8 = some m.cls := findClass_of_methodNamed B.named
  have hlocks := B.notSynchronized
  subst hsz
  have hD := hD0.self (sz := s.heap.size)
  generalize hAe : va_A [(h0, .inr (8, [.int th, .ref q1, v2, v3, .ref q4, v5, v6, v7, .ref q8, .ref q9, .ref q10, .ref q11, v12, v13, v14, v15, v16])), (q1, .inl (c1, 16, .inl a1)), (q4, .inl (c4, 16, .inl a4)), (q8, .inl (c8, 16, .inl a8)), (q9, .inl (c9, 16, .inl a9)), (q10, .inl (c10, 16, .inl a10)), (q11, .inl (c11, 16, .inl a11))] s.heap.size = A at hD ⊢
  have hA : ∀ q : Nat, s.heap.size ≤ q → A q := fun q h => by rw [← hAe]; exact Or.inr h
  have hS : va_S A s.heap s.heap [] := va_S.rf
  have hP : va_P (dC, dI) vwCl [(h0, .inr (8, [.int th, .ref q1, v2, v3, .ref q4, v5, v6, v7, .ref q8, .ref q9, .ref q10, .ref q11, v12, v13, v14, v15, v16])), (q1, .inl (c1, 16, .inl a1)), (q4, .inl (c4, 16, .inl a4)), (q8, .inl (c8, 16, .inl a8)), (q9, .inl (c9, 16, .inl a9)), (q10, .inl (c10, 16, .inl a10)), (q11, .inl (c11, 16, .inl a11))] s.heap := hP
  have hl := lv_entry ([.ref h0, .int (nI o), .int p1]) (n := 5) (Nat.le_of_ble_eq_true rfl)
  rw [lg_entry_eq]
  generalize (lg_sl ([.ref h0, .int (nI o), .int p1]) ++ List.replicate (5 - (lg_sl ([.ref h0, .int (nI o), .int p1])).length) Slot.unset).toArray = ls at hl ⊢
  have hl : lv_has ls 5 [(0, .ref h0), (1, .int (nI o)), (2, .int p1)] := hl
  have hw0_ := hts (.fieldLink RX8 7 "KeyAtlasModel" "kind" "[I") (List.mem_of_getElem? (l := wsX8_isWithin) (i := 1) rfl)
  have hw1_ := hts (.fieldLink RX8 32 "KeyAtlasModel" "parent" "[I") (List.mem_of_getElem? (l := wsX8_isWithin) (i := 2) rfl)
  have hw2_ := hts (.fieldLink RX8 41 "KeyAtlasModel" "way" "[I") (List.mem_of_getElem? (l := wsX8_isWithin) (i := 3) rfl)
  have hw3_ := hts (.fieldLink RX8 35 "KeyAtlasModel" "from" "[I") (List.mem_of_getElem? (l := wsX8_isWithin) (i := 4) rfl)
  have hw4_ := hts (.fieldLink RX8 38 "KeyAtlasModel" "to" "[I") (List.mem_of_getElem? (l := wsX8_isWithin) (i := 5) rfl)
  have hi0_ : ∀ w ∈ u_ws RX8 TX8 17, w ∈ wsX8_isWithin := fun w h => List.mem_cons_of_mem _ (List.mem_append_right _ h)
  refine lv_iload_n hx hb dX8_isWithin_0 rfl (lv_at hl 1 rfl) ?_
  refine lv_istore_n (lv' := [(3, .int (nI o)), (0, .ref h0), (1, .int (nI o)), (2, .int p1)]) hx hb dX8_isWithin_1 rfl hl (by decide) rfl (fun ls hl => ?_)
  obtain ⟨H, hH9⟩ : ∃ H : Heap, H = s.heap := ⟨_, rfl⟩
  obtain ⟨locs, hlo9⟩ : ∃ z : List Loc, z = [] := ⟨_, rfl⟩
  refine tx_hv hH9 hlo9 ?_
  have hP : va_P (dC, dI) vwCl [(h0, .inr (8, [.int th, .ref q1, v2, v3, .ref q4, v5, v6, v7, .ref q8, .ref q9, .ref q10, .ref q11, v12, v13, v14, v15, v16])), (q1, .inl (c1, 16, .inl a1)), (q4, .inl (c4, 16, .inl a4)), (q8, .inl (c8, 16, .inl a8)), (q9, .inl (c9, 16, .inl a9)), (q10, .inl (c10, 16, .inl a10)), (q11, .inl (c11, 16, .inl a11))] H := by rw [hH9]; exact hP
  have hS : va_S A s.heap H locs := by rw [hH9, hlo9]; exact hS
  clear hH9 hlo9
  obtain ⟨k, es_k⟩ : ∃ z : Nat, z = o := ⟨_, rfl⟩
  obtain ⟨x9, ex9⟩ : ∃ y : Int32, y = nI k := ⟨_, rfl⟩
  obtain ⟨n9, en9⟩ : ∃ n : Nat, n = 17 := ⟨_, rfl⟩
  replace hl : lv_has ls 5 [(3, .int x9), (0, .ref h0), (1, .int (nI o)), (2, .int p1)] := by subst ex9; subst es_k; exact hl
  have hk9 : k < 16 := by subst ex9; subst es_k; subst en9; exact ho9
  have hn9 : dep k < n9 := by subst ex9; subst es_k; subst en9; exact hd9
  have hx9 : dep k < 17 := by subst ex9; subst es_k; subst en9; exact hd9
  have hv9 : winN a1 a8 a11 a9 a10 a4 n9 k p1 = winN a1 a8 a11 a9 a10 a4 17 o p1 := by subst ex9; subst es_k; subst en9; exact rfl
  clear en9 es_k
  induction n9 generalizing k x9 ls H locs with
  | zero => exact absurd hn9 (Nat.not_lt_zero _)
  | succ n9 ih =>
    subst ex9
    refine lv_aload_n hx hb dX8_isWithin_2 rfl (lv_at hl 1 rfl) ?_
    refine va_get (D := (dC, dI)) (ci := 8) (v := .ref q1) (C := RX8) (T := TX8) (N := 17) hx hb hts hi0_ hown hK hP 0 rfl rfl 1 (by decide) hw0_ (fun _ h9 => h9) rfl dX8_isWithin_3 ?_
    refine lv_iload_n hx hb dX8_isWithin_6 rfl (lv_at hl 0 rfl) ?_
    refine va_iald (i := nI k) hx hb hK hP 1 0 rfl rfl (vp_in_nI (by omega) (by omega)) dX8_isWithin_7 ?_
    refine W.eq (g2 := F0 m 8 ls [.int (a1 k)]) (by rw [nI_clamp (by omega)]) ?_
    refine lv_iconst (v := 4) hx hb dX8_isWithin_8 (by decide) ?_
    refine lv_icmp_ne (tgt := 130) hx hb dX8_isWithin_9 (by decide) (fun c_1 => ?_) (fun c_1 => ?_)
    ·
      have ic_1 : ¬ (a1 k).toInt = 4 := tx_ne rfl (by decide) c_1
      refine lv_iconst (v := 1) hx hb dX8_isWithin_130 (by decide) ?_
      have hP9 := hP.sub (ws' := [(h0, .inr (8, [.int th, .ref q1, v2, v3, .ref q4, v5, v6, v7, .ref q8, .ref q9, .ref q10, .ref q11, v12, v13, v14, v15, v16])), (q1, .inl (c1, 16, .inl a1)), (q4, .inl (c4, 16, .inl a4)), (q8, .inl (c8, 16, .inl a8)), (q9, .inl (c9, 16, .inl a9)), (q10, .inl (c10, 16, .inl a10)), (q11, .inl (c11, 16, .inl a11))]) [0, 1, 2, 3, 4, 5, 6] rfl
      have hD9 := hD.sub (ws' := [(h0, .inr (8, [.int th, .ref q1, v2, v3, .ref q4, v5, v6, v7, .ref q8, .ref q9, .ref q10, .ref q11, v12, v13, v14, v15, v16])), (q1, .inl (c1, 16, .inl a1)), (q4, .inl (c4, 16, .inl a4)), (q8, .inl (c8, 16, .inl a8)), (q9, .inl (c9, 16, .inl a9)), (q10, .inl (c10, 16, .inl a10)), (q11, .inl (c11, 16, .inl a11))]) [0, 1, 2, 3, 4, 5, 6] (by decide) rfl
      have hK9 := hK.sub (tys' := [(c1, .int), (c4, .int), (c8, .int), (c9, .int), (c10, .int), (c11, .int)]) [0, 1, 2, 3, 4, 5] rfl
      refine W.widen (k := 0) (n := 0) (Nat.le_of_ble_eq_true rfl) (Nat.le_of_ble_eq_true rfl) ?_
      exact W.zret (v := 1) hx hb hr rfl (fun t ht hW => ⟨⟨1, (), rfl, by show (1 : Int32) = tz _; rw [← hv9, win_top ic_1]; rfl, by rw [ht]; exact hP9, va_K.moved hW.alike hK9, hD9⟩, hS.F ht⟩) hS.2.2 dX8_isWithin_131
    ·
      have ic_1 : (a1 k).toInt = 4 := tx_eq rfl (by decide) c_1
      refine lv_aload_n hx hb dX8_isWithin_12 rfl (lv_at hl 1 rfl) ?_
      refine va_get (D := (dC, dI)) (ci := 8) (v := .ref q8) (C := RX8) (T := TX8) (N := 17) hx hb hts hi0_ hown hK hP 0 rfl rfl 8 (by decide) hw1_ (fun _ h9 => h9) rfl dX8_isWithin_13 ?_
      refine lv_iload_n hx hb dX8_isWithin_16 rfl (lv_at hl 0 rfl) ?_
      refine va_iald (i := nI k) hx hb hK hP 3 2 rfl rfl (vp_in_nI (by omega) (by omega)) dX8_isWithin_17 ?_
      refine W.eq (g2 := F0 m 18 ls [.int (a8 k)]) (by rw [nI_clamp (by omega)]) ?_
      obtain ⟨p9, hp9, ep9, hq9, -, -, -⟩ := hF9 k hk9 (Or.inl ic_1)
      refine W.eq (g2 := F0 m 18 ls [.int (nI p9)]) (by rw [ep9]) ?_
      refine lv_istore (lv' := [(4, .int (nI p9)), (3, .int (nI k)), (0, .ref h0), (1, .int (nI o)), (2, .int p1)]) hx hb dX8_isWithin_18 hl (by decide) rfl (fun ls hl => ?_)
      refine lv_aload_n hx hb dX8_isWithin_20 rfl (lv_at hl 2 rfl) ?_
      refine va_get (D := (dC, dI)) (ci := 8) (v := .ref q11) (C := RX8) (T := TX8) (N := 17) hx hb hts hi0_ hown hK hP 0 rfl rfl 11 (by decide) hw2_ (fun _ h9 => h9) rfl dX8_isWithin_21 ?_
      refine lv_iload_n hx hb dX8_isWithin_24 rfl (lv_at hl 1 rfl) ?_
      refine va_iald (i := nI k) hx hb hK hP 6 5 rfl rfl (vp_in_nI (by omega) (by omega)) dX8_isWithin_25 ?_
      refine W.eq (g2 := F0 m 26 ls [.int (a11 k)]) (by rw [nI_clamp (by omega)]) ?_
      refine lv_iconst (v := 1) hx hb dX8_isWithin_26 (by decide) ?_
      refine lv_icmp_ne (tgt := 64) hx hb dX8_isWithin_27 (by decide) (fun c_2 => ?_) (fun c_2 => ?_)
      ·
        have ic_2 : ¬ (a11 k).toInt = 1 := tx_ne rfl (by decide) c_2
        refine lv_aload_n hx hb dX8_isWithin_64 rfl (lv_at hl 2 rfl) ?_
        refine va_get (D := (dC, dI)) (ci := 8) (v := .ref q11) (C := RX8) (T := TX8) (N := 17) hx hb hts hi0_ hown hK hP 0 rfl rfl 11 (by decide) hw2_ (fun _ h9 => h9) rfl dX8_isWithin_65 ?_
        refine lv_iload_n hx hb dX8_isWithin_68 rfl (lv_at hl 1 rfl) ?_
        refine va_iald (i := nI k) hx hb hK hP 6 5 rfl rfl (vp_in_nI (by omega) (by omega)) dX8_isWithin_69 ?_
        refine W.eq (g2 := F0 m 70 ls [.int (a11 k)]) (by rw [nI_clamp (by omega)]) ?_
        refine lv_iconst (v := 2) hx hb dX8_isWithin_70 (by decide) ?_
        refine lv_icmp_ne (tgt := 92) hx hb dX8_isWithin_71 (by decide) (fun c_3 => ?_) (fun c_3 => ?_)
        ·
          have ic_3 : ¬ (a11 k).toInt = 2 := tx_ne rfl (by decide) c_3
          refine lv_aload_n hx hb dX8_isWithin_92 rfl (lv_at hl 2 rfl) ?_
          refine va_get (D := (dC, dI)) (ci := 8) (v := .ref q11) (C := RX8) (T := TX8) (N := 17) hx hb hts hi0_ hown hK hP 0 rfl rfl 11 (by decide) hw2_ (fun _ h9 => h9) rfl dX8_isWithin_93 ?_
          refine lv_iload_n hx hb dX8_isWithin_96 rfl (lv_at hl 1 rfl) ?_
          refine va_iald (i := nI k) hx hb hK hP 6 5 rfl rfl (vp_in_nI (by omega) (by omega)) dX8_isWithin_97 ?_
          refine W.eq (g2 := F0 m 98 ls [.int (a11 k)]) (by rw [nI_clamp (by omega)]) ?_
          refine lv_iconst (v := 3) hx hb dX8_isWithin_98 (by decide) ?_
          refine lv_icmp_ne (tgt := 120) hx hb dX8_isWithin_99 (by decide) (fun c_4 => ?_) (fun c_4 => ?_)
          ·
            have ic_4 : ¬ (a11 k).toInt = 3 := tx_ne rfl (by decide) c_4
            refine lv_aload_n hx hb dX8_isWithin_120 rfl (lv_at hl 2 rfl) ?_
            refine va_get (D := (dC, dI)) (ci := 8) (v := .ref q8) (C := RX8) (T := TX8) (N := 17) hx hb hts hi0_ hown hK hP 0 rfl rfl 8 (by decide) hw1_ (fun _ h9 => h9) rfl dX8_isWithin_121 ?_
            refine lv_iload_n hx hb dX8_isWithin_124 rfl (lv_at hl 1 rfl) ?_
            refine va_iald (i := nI k) hx hb hK hP 3 2 rfl rfl (vp_in_nI (by omega) (by omega)) dX8_isWithin_125 ?_
            refine W.eq (g2 := F0 m 126 ls [.int (a8 k)]) (by rw [nI_clamp (by omega)]) ?_
            refine W.eq (g2 := F0 m 126 ls [.int (nI p9)]) (by rw [ep9]) ?_
            refine lv_istore_n (lv' := [(3, .int (nI p9)), (4, .int (nI p9)), (0, .ref h0), (1, .int (nI o)), (2, .int p1)]) hx hb dX8_isWithin_126 rfl hl (by decide) rfl (fun ls hl => ?_)
            refine lv_goto (tgt := 2) hx hb dX8_isWithin_127 (by decide) ?_
            exact ih (k := p9) (x9 := nI p9) (ex9 := rfl) (ls := ls) (H := H) (locs := locs) (hP := hP.sub (ws' := [(h0, .inr (8, [.int th, .ref q1, v2, v3, .ref q4, v5, v6, v7, .ref q8, .ref q9, .ref q10, .ref q11, v12, v13, v14, v15, v16])), (q1, .inl (c1, 16, .inl a1)), (q4, .inl (c4, 16, .inl a4)), (q8, .inl (c8, 16, .inl a8)), (q9, .inl (c9, 16, .inl a9)), (q10, .inl (c10, 16, .inl a10)), (q11, .inl (c11, 16, .inl a11))]) [0, 1, 2, 3, 4, 5, 6] rfl) (hS := hS) (hk9 := hp9) (hn9 := by omega) (hx9 := by omega) (hv9 := (win_up ic_1 ep9 hp9 (wi_4 ic_2 ic_3 ic_4)).symm.trans hv9) (hl := lv_sub hl [0, 2, 3, 4] rfl)
          ·
            have ic_4 : (a11 k).toInt = 3 := tx_eq rfl (by decide) c_4
            refine lv_aload_n hx hb dX8_isWithin_102 rfl (lv_at hl 2 rfl) ?_
            refine lv_iload hx hb dX8_isWithin_103 (lv_at hl 0 rfl) ?_
            refine lv_iload_n hx hb dX8_isWithin_105 rfl (lv_at hl 4 rfl) ?_
            refine lv_aload_n hx hb dX8_isWithin_106 rfl (lv_at hl 2 rfl) ?_
            refine va_get (D := (dC, dI)) (ci := 8) (v := .ref q9) (C := RX8) (T := TX8) (N := 17) hx hb hts hi0_ hown hK hP 0 rfl rfl 9 (by decide) hw3_ (fun _ h9 => h9) rfl dX8_isWithin_107 ?_
            refine lv_iload_n hx hb dX8_isWithin_110 rfl (lv_at hl 1 rfl) ?_
            refine va_iald (i := nI k) hx hb hK hP 4 3 rfl rfl (vp_in_nI (by omega) (by omega)) dX8_isWithin_111 ?_
            refine W.eq (g2 := F0 m 112 ls [.int (a9 k), .int p1, .int (nI p9), .ref h0]) (by rw [nI_clamp (by omega)]) ?_
            have hPc := hP.sub (ws' := [(h0, .inr (8, [.int th, .ref q1, v2, v3, .ref q4, v5, v6, v7, .ref q8, .ref q9, .ref q10, .ref q11, v12, v13, v14, v15, v16])), (q1, .inl (c1, 16, .inl a1)), (q4, .inl (c4, 16, .inl a4)), (q8, .inl (c8, 16, .inl a8)), (q11, .inl (c11, 16, .inl a11))]) [0, 1, 2, 3, 6] rfl
            have hDc := hD.sub (ws' := [(h0, .inr (8, [.int th, .ref q1, v2, v3, .ref q4, v5, v6, v7, .ref q8, .ref q9, .ref q10, .ref q11, v12, v13, v14, v15, v16])), (q1, .inl (c1, 16, .inl a1)), (q4, .inl (c4, 16, .inl a4)), (q8, .inl (c8, 16, .inl a8)), (q11, .inl (c11, 16, .inl a11))]) [0, 1, 2, 3, 6] (by decide) rfl
            have hKc := hK.sub (tys' := [(c1, .int), (c4, .int), (c8, .int), (c11, .int)]) [0, 1, 2, 5] rfl
            have hFc := va_free (wc := [(h0, .inr (8, [.int th, .ref q1, v2, v3, .ref q4, v5, v6, v7, .ref q8, .ref q9, .ref q10, .ref q11, v12, v13, v14, v15, v16])), (q1, .inl (c1, 16, .inl a1)), (q4, .inl (c4, 16, .inl a4)), (q8, .inl (c8, 16, .inl a8)), (q11, .inl (c11, 16, .inl a11))]) hD hS hA [0, 1, 2, 3, 6] rfl
            refine va_calli (va_runV (As := [.int (nI p9), .int p1, .int (a9 k)]) (rest := []) ⟨hx, hb, hml, hown, hts⟩ (c_X8_ordered l  dC dI H.size h0 th q1 q4 q8 q11 c1 c4 c8 c11 a1 a4 a8 a11 v2 v3 v5 v6 v7 (.ref q9) (.ref q10) v12 v13 v14 v15 v16 p9 dep p1 (a9 k) hp9 hF9 (by omega)) (cwV 3 hts gX8_isWithin_X8_ordered rfl rfl rfl (by decide +kernel) ⟨(Nat.le_of_ble_eq_true rfl), (Nat.le_of_ble_eq_true rfl)⟩) ⟨pk_blind, va_recv hKc hPc (ci := 8) (q0 := 0) rfl rfl, pk_call hPc hKc hDc⟩ rfl rfl hl.1 rfl (lv_room (Nat.le_of_ble_eq_true rfl)) dX8_isWithin_112 ⟨(Nat.le_of_ble_eq_true rfl), (Nat.le_of_ble_eq_true rfl)⟩) hS (fun q _ h => hFc q h) hFc (fun r_5 ur_5 t H1 locs ht hvm hw hB hz1 hk1 hS => ?_)
            try dsimp only at hw
            have jr_5 := hw
            obtain ⟨hP1, hK1, hD1⟩ := hB
            rw [ht] at hP1
            have hK1 := va_K.moved hvm.symm hK1
            obtain ⟨hP, hD⟩ := va_join (wr := [(q9, .inl (c9, 16, .inl a9)), (q10, .inl (c10, 16, .inl a10))]) (w1 := [(h0, .inr (8, [.int th, .ref q1, v2, v3, .ref q4, v5, v6, v7, .ref q8, .ref q9, .ref q10, .ref q11, v12, v13, v14, v15, v16])), (q1, .inl (c1, 16, .inl a1)), (q4, .inl (c4, 16, .inl a4)), (q8, .inl (c8, 16, .inl a8)), (q11, .inl (c11, 16, .inl a11))]) hP hD [0, 1, 2, 3, 6] [4, 5] rfl rfl (by decide) (by decide) hk1 hFc hP1 hD1
            clear hk1 hz1 ht hPc hDc hKc hFc
            generalize H1 = H at hP hS ⊢
            replace hP : va_P (dC, dI) vwCl [(q9, .inl (c9, 16, .inl a9)), (q10, .inl (c10, 16, .inl a10)), (h0, .inr (8, [.int th, .ref q1, v2, v3, .ref q4, v5, v6, v7, .ref q8, .ref q9, .ref q10, .ref q11, v12, v13, v14, v15, v16])), (q1, .inl (c1, 16, .inl a1)), (q4, .inl (c4, 16, .inl a4)), (q8, .inl (c8, 16, .inl a8)), (q11, .inl (c11, 16, .inl a11))] H := hP
            replace hD : va_D A [(q9, .inl (c9, 16, .inl a9)), (q10, .inl (c10, 16, .inl a10)), (h0, .inr (8, [.int th, .ref q1, v2, v3, .ref q4, v5, v6, v7, .ref q8, .ref q9, .ref q10, .ref q11, v12, v13, v14, v15, v16])), (q1, .inl (c1, 16, .inl a1)), (q4, .inl (c4, 16, .inl a4)), (q8, .inl (c8, 16, .inl a8)), (q11, .inl (c11, 16, .inl a11))] := hD
            refine W.widen (k := 0) (n := 0) (Nat.le_of_ble_eq_true rfl) (Nat.le_of_ble_eq_true rfl) ?_
            refine W.eq (g2 := F0 m 115 ls [.int r_5]) rfl ?_
            refine lv_if_ge (tgt := 120) hx hb dX8_isWithin_115 (by decide) (fun c_6 => ?_) (fun c_6 => ?_)
            ·
              have ic_6 : 0 ≤ r_5.toInt := tx_le (by decide) rfl c_6
              refine lv_aload_n hx hb dX8_isWithin_120 rfl (lv_at hl 2 rfl) ?_
              refine va_get (D := (dC, dI)) (ci := 8) (v := .ref q8) (C := RX8) (T := TX8) (N := 17) hx hb hts hi0_ hown hK hP 2 rfl rfl 8 (by decide) hw1_ (fun _ h9 => h9) rfl dX8_isWithin_121 ?_
              refine lv_iload_n hx hb dX8_isWithin_124 rfl (lv_at hl 1 rfl) ?_
              refine va_iald (i := nI k) hx hb hK hP 5 2 rfl rfl (vp_in_nI (by omega) (by omega)) dX8_isWithin_125 ?_
              refine W.eq (g2 := F0 m 126 ls [.int (a8 k)]) (by rw [nI_clamp (by omega)]) ?_
              refine W.eq (g2 := F0 m 126 ls [.int (nI p9)]) (by rw [ep9]) ?_
              refine lv_istore_n (lv' := [(3, .int (nI p9)), (4, .int (nI p9)), (0, .ref h0), (1, .int (nI o)), (2, .int p1)]) hx hb dX8_isWithin_126 rfl hl (by decide) rfl (fun ls hl => ?_)
              refine lv_goto (tgt := 2) hx hb dX8_isWithin_127 (by decide) ?_
              exact ih (k := p9) (x9 := nI p9) (ex9 := rfl) (ls := ls) (H := H) (locs := locs) (hP := hP.sub (ws' := [(h0, .inr (8, [.int th, .ref q1, v2, v3, .ref q4, v5, v6, v7, .ref q8, .ref q9, .ref q10, .ref q11, v12, v13, v14, v15, v16])), (q1, .inl (c1, 16, .inl a1)), (q4, .inl (c4, 16, .inl a4)), (q8, .inl (c8, 16, .inl a8)), (q9, .inl (c9, 16, .inl a9)), (q10, .inl (c10, 16, .inl a10)), (q11, .inl (c11, 16, .inl a11))]) [2, 3, 4, 5, 0, 1, 6] rfl) (hS := hS) (hk9 := hp9) (hn9 := by omega) (hx9 := by omega) (hv9 := (win_up ic_1 ep9 hp9 (wi_3t ic_4 (by rw [← jr_5]; exact ic_6))).symm.trans hv9) (hl := lv_sub hl [0, 2, 3, 4] rfl)
            ·
              have ic_6 : r_5.toInt < 0 := tx_nle (by decide) rfl c_6
              refine lv_iconst (v := 0) hx hb dX8_isWithin_118 (by decide) ?_
              have hP9 := hP.sub (ws' := [(h0, .inr (8, [.int th, .ref q1, v2, v3, .ref q4, v5, v6, v7, .ref q8, .ref q9, .ref q10, .ref q11, v12, v13, v14, v15, v16])), (q1, .inl (c1, 16, .inl a1)), (q4, .inl (c4, 16, .inl a4)), (q8, .inl (c8, 16, .inl a8)), (q9, .inl (c9, 16, .inl a9)), (q10, .inl (c10, 16, .inl a10)), (q11, .inl (c11, 16, .inl a11))]) [2, 3, 4, 5, 0, 1, 6] rfl
              have hD9 := hD.sub (ws' := [(h0, .inr (8, [.int th, .ref q1, v2, v3, .ref q4, v5, v6, v7, .ref q8, .ref q9, .ref q10, .ref q11, v12, v13, v14, v15, v16])), (q1, .inl (c1, 16, .inl a1)), (q4, .inl (c4, 16, .inl a4)), (q8, .inl (c8, 16, .inl a8)), (q9, .inl (c9, 16, .inl a9)), (q10, .inl (c10, 16, .inl a10)), (q11, .inl (c11, 16, .inl a11))]) [2, 3, 4, 5, 0, 1, 6] (by decide) rfl
              have hK9 := hK.sub (tys' := [(c1, .int), (c4, .int), (c8, .int), (c9, .int), (c10, .int), (c11, .int)]) [0, 1, 2, 3, 4, 5] rfl
              refine W.widen (k := 0) (n := 0) (Nat.le_of_ble_eq_true rfl) (Nat.le_of_ble_eq_true rfl) ?_
              exact W.zret (v := 0) hx hb hr rfl (fun t ht hW => ⟨⟨0, (), rfl, by show (0 : Int32) = tz _; rw [← hv9, win_no ic_1 ep9 hp9 (wi_3f ic_4 (by rw [← jr_5]; exact ic_6))]; rfl, by rw [ht]; exact hP9, va_K.moved hW.alike hK9, hD9⟩, hS.F ht⟩) hS.2.2 dX8_isWithin_119
        ·
          have ic_3 : (a11 k).toInt = 2 := tx_eq rfl (by decide) c_3
          refine lv_aload_n hx hb dX8_isWithin_74 rfl (lv_at hl 2 rfl) ?_
          refine lv_iload hx hb dX8_isWithin_75 (lv_at hl 0 rfl) ?_
          refine lv_iload_n hx hb dX8_isWithin_77 rfl (lv_at hl 4 rfl) ?_
          refine lv_aload_n hx hb dX8_isWithin_78 rfl (lv_at hl 2 rfl) ?_
          refine va_get (D := (dC, dI)) (ci := 8) (v := .ref q9) (C := RX8) (T := TX8) (N := 17) hx hb hts hi0_ hown hK hP 0 rfl rfl 9 (by decide) hw3_ (fun _ h9 => h9) rfl dX8_isWithin_79 ?_
          refine lv_iload_n hx hb dX8_isWithin_82 rfl (lv_at hl 1 rfl) ?_
          refine va_iald (i := nI k) hx hb hK hP 4 3 rfl rfl (vp_in_nI (by omega) (by omega)) dX8_isWithin_83 ?_
          refine W.eq (g2 := F0 m 84 ls [.int (a9 k), .int p1, .int (nI p9), .ref h0]) (by rw [nI_clamp (by omega)]) ?_
          have hPc := hP.sub (ws' := [(h0, .inr (8, [.int th, .ref q1, v2, v3, .ref q4, v5, v6, v7, .ref q8, .ref q9, .ref q10, .ref q11, v12, v13, v14, v15, v16])), (q1, .inl (c1, 16, .inl a1)), (q4, .inl (c4, 16, .inl a4)), (q8, .inl (c8, 16, .inl a8)), (q11, .inl (c11, 16, .inl a11))]) [0, 1, 2, 3, 6] rfl
          have hDc := hD.sub (ws' := [(h0, .inr (8, [.int th, .ref q1, v2, v3, .ref q4, v5, v6, v7, .ref q8, .ref q9, .ref q10, .ref q11, v12, v13, v14, v15, v16])), (q1, .inl (c1, 16, .inl a1)), (q4, .inl (c4, 16, .inl a4)), (q8, .inl (c8, 16, .inl a8)), (q11, .inl (c11, 16, .inl a11))]) [0, 1, 2, 3, 6] (by decide) rfl
          have hKc := hK.sub (tys' := [(c1, .int), (c4, .int), (c8, .int), (c11, .int)]) [0, 1, 2, 5] rfl
          have hFc := va_free (wc := [(h0, .inr (8, [.int th, .ref q1, v2, v3, .ref q4, v5, v6, v7, .ref q8, .ref q9, .ref q10, .ref q11, v12, v13, v14, v15, v16])), (q1, .inl (c1, 16, .inl a1)), (q4, .inl (c4, 16, .inl a4)), (q8, .inl (c8, 16, .inl a8)), (q11, .inl (c11, 16, .inl a11))]) hD hS hA [0, 1, 2, 3, 6] rfl
          refine va_calli (va_runV (As := [.int (nI p9), .int p1, .int (a9 k)]) (rest := []) ⟨hx, hb, hml, hown, hts⟩ (c_X8_ordered l  dC dI H.size h0 th q1 q4 q8 q11 c1 c4 c8 c11 a1 a4 a8 a11 v2 v3 v5 v6 v7 (.ref q9) (.ref q10) v12 v13 v14 v15 v16 p9 dep p1 (a9 k) hp9 hF9 (by omega)) (cwV 3 hts gX8_isWithin_X8_ordered rfl rfl rfl (by decide +kernel) ⟨(Nat.le_of_ble_eq_true rfl), (Nat.le_of_ble_eq_true rfl)⟩) ⟨pk_blind, va_recv hKc hPc (ci := 8) (q0 := 0) rfl rfl, pk_call hPc hKc hDc⟩ rfl rfl hl.1 rfl (lv_room (Nat.le_of_ble_eq_true rfl)) dX8_isWithin_84 ⟨(Nat.le_of_ble_eq_true rfl), (Nat.le_of_ble_eq_true rfl)⟩) hS (fun q _ h => hFc q h) hFc (fun r_7 ur_7 t H1 locs ht hvm hw hB hz1 hk1 hS => ?_)
          try dsimp only at hw
          have jr_7 := hw
          obtain ⟨hP1, hK1, hD1⟩ := hB
          rw [ht] at hP1
          have hK1 := va_K.moved hvm.symm hK1
          obtain ⟨hP, hD⟩ := va_join (wr := [(q9, .inl (c9, 16, .inl a9)), (q10, .inl (c10, 16, .inl a10))]) (w1 := [(h0, .inr (8, [.int th, .ref q1, v2, v3, .ref q4, v5, v6, v7, .ref q8, .ref q9, .ref q10, .ref q11, v12, v13, v14, v15, v16])), (q1, .inl (c1, 16, .inl a1)), (q4, .inl (c4, 16, .inl a4)), (q8, .inl (c8, 16, .inl a8)), (q11, .inl (c11, 16, .inl a11))]) hP hD [0, 1, 2, 3, 6] [4, 5] rfl rfl (by decide) (by decide) hk1 hFc hP1 hD1
          clear hk1 hz1 ht hPc hDc hKc hFc
          generalize H1 = H at hP hS ⊢
          replace hP : va_P (dC, dI) vwCl [(q9, .inl (c9, 16, .inl a9)), (q10, .inl (c10, 16, .inl a10)), (h0, .inr (8, [.int th, .ref q1, v2, v3, .ref q4, v5, v6, v7, .ref q8, .ref q9, .ref q10, .ref q11, v12, v13, v14, v15, v16])), (q1, .inl (c1, 16, .inl a1)), (q4, .inl (c4, 16, .inl a4)), (q8, .inl (c8, 16, .inl a8)), (q11, .inl (c11, 16, .inl a11))] H := hP
          replace hD : va_D A [(q9, .inl (c9, 16, .inl a9)), (q10, .inl (c10, 16, .inl a10)), (h0, .inr (8, [.int th, .ref q1, v2, v3, .ref q4, v5, v6, v7, .ref q8, .ref q9, .ref q10, .ref q11, v12, v13, v14, v15, v16])), (q1, .inl (c1, 16, .inl a1)), (q4, .inl (c4, 16, .inl a4)), (q8, .inl (c8, 16, .inl a8)), (q11, .inl (c11, 16, .inl a11))] := hD
          refine W.widen (k := 0) (n := 0) (Nat.le_of_ble_eq_true rfl) (Nat.le_of_ble_eq_true rfl) ?_
          refine W.eq (g2 := F0 m 87 ls [.int r_7]) rfl ?_
          refine lv_if_lt (tgt := 92) hx hb dX8_isWithin_87 (by decide) (fun c_8 => ?_) (fun c_8 => ?_)
          ·
            have ic_8 : r_7.toInt < 0 := tx_lt rfl (by decide) c_8
            refine lv_aload_n hx hb dX8_isWithin_92 rfl (lv_at hl 2 rfl) ?_
            refine va_get (D := (dC, dI)) (ci := 8) (v := .ref q11) (C := RX8) (T := TX8) (N := 17) hx hb hts hi0_ hown hK hP 2 rfl rfl 11 (by decide) hw2_ (fun _ h9 => h9) rfl dX8_isWithin_93 ?_
            refine lv_iload_n hx hb dX8_isWithin_96 rfl (lv_at hl 1 rfl) ?_
            refine va_iald (i := nI k) hx hb hK hP 6 5 rfl rfl (vp_in_nI (by omega) (by omega)) dX8_isWithin_97 ?_
            refine W.eq (g2 := F0 m 98 ls [.int (a11 k)]) (by rw [nI_clamp (by omega)]) ?_
            refine lv_iconst (v := 3) hx hb dX8_isWithin_98 (by decide) ?_
            refine lv_icmp_ne (tgt := 120) hx hb dX8_isWithin_99 (by decide) (fun c_9 => ?_) (fun c_9 => absurd c_9 (fun h9 => absurd ic_3 (by rw [h9]; decide)))
            refine lv_aload_n hx hb dX8_isWithin_120 rfl (lv_at hl 2 rfl) ?_
            refine va_get (D := (dC, dI)) (ci := 8) (v := .ref q8) (C := RX8) (T := TX8) (N := 17) hx hb hts hi0_ hown hK hP 2 rfl rfl 8 (by decide) hw1_ (fun _ h9 => h9) rfl dX8_isWithin_121 ?_
            refine lv_iload_n hx hb dX8_isWithin_124 rfl (lv_at hl 1 rfl) ?_
            refine va_iald (i := nI k) hx hb hK hP 5 2 rfl rfl (vp_in_nI (by omega) (by omega)) dX8_isWithin_125 ?_
            refine W.eq (g2 := F0 m 126 ls [.int (a8 k)]) (by rw [nI_clamp (by omega)]) ?_
            refine W.eq (g2 := F0 m 126 ls [.int (nI p9)]) (by rw [ep9]) ?_
            refine lv_istore_n (lv' := [(3, .int (nI p9)), (4, .int (nI p9)), (0, .ref h0), (1, .int (nI o)), (2, .int p1)]) hx hb dX8_isWithin_126 rfl hl (by decide) rfl (fun ls hl => ?_)
            refine lv_goto (tgt := 2) hx hb dX8_isWithin_127 (by decide) ?_
            exact ih (k := p9) (x9 := nI p9) (ex9 := rfl) (ls := ls) (H := H) (locs := locs) (hP := hP.sub (ws' := [(h0, .inr (8, [.int th, .ref q1, v2, v3, .ref q4, v5, v6, v7, .ref q8, .ref q9, .ref q10, .ref q11, v12, v13, v14, v15, v16])), (q1, .inl (c1, 16, .inl a1)), (q4, .inl (c4, 16, .inl a4)), (q8, .inl (c8, 16, .inl a8)), (q9, .inl (c9, 16, .inl a9)), (q10, .inl (c10, 16, .inl a10)), (q11, .inl (c11, 16, .inl a11))]) [2, 3, 4, 5, 0, 1, 6] rfl) (hS := hS) (hk9 := hp9) (hn9 := by omega) (hx9 := by omega) (hv9 := (win_up ic_1 ep9 hp9 (wi_2t ic_3 (by rw [← jr_7]; exact ic_8))).symm.trans hv9) (hl := lv_sub hl [0, 2, 3, 4] rfl)
          ·
            have ic_8 : 0 ≤ r_7.toInt := tx_nlt rfl (by decide) c_8
            refine lv_iconst (v := 0) hx hb dX8_isWithin_90 (by decide) ?_
            have hP9 := hP.sub (ws' := [(h0, .inr (8, [.int th, .ref q1, v2, v3, .ref q4, v5, v6, v7, .ref q8, .ref q9, .ref q10, .ref q11, v12, v13, v14, v15, v16])), (q1, .inl (c1, 16, .inl a1)), (q4, .inl (c4, 16, .inl a4)), (q8, .inl (c8, 16, .inl a8)), (q9, .inl (c9, 16, .inl a9)), (q10, .inl (c10, 16, .inl a10)), (q11, .inl (c11, 16, .inl a11))]) [2, 3, 4, 5, 0, 1, 6] rfl
            have hD9 := hD.sub (ws' := [(h0, .inr (8, [.int th, .ref q1, v2, v3, .ref q4, v5, v6, v7, .ref q8, .ref q9, .ref q10, .ref q11, v12, v13, v14, v15, v16])), (q1, .inl (c1, 16, .inl a1)), (q4, .inl (c4, 16, .inl a4)), (q8, .inl (c8, 16, .inl a8)), (q9, .inl (c9, 16, .inl a9)), (q10, .inl (c10, 16, .inl a10)), (q11, .inl (c11, 16, .inl a11))]) [2, 3, 4, 5, 0, 1, 6] (by decide) rfl
            have hK9 := hK.sub (tys' := [(c1, .int), (c4, .int), (c8, .int), (c9, .int), (c10, .int), (c11, .int)]) [0, 1, 2, 3, 4, 5] rfl
            refine W.widen (k := 0) (n := 0) (Nat.le_of_ble_eq_true rfl) (Nat.le_of_ble_eq_true rfl) ?_
            exact W.zret (v := 0) hx hb hr rfl (fun t ht hW => ⟨⟨0, (), rfl, by show (0 : Int32) = tz _; rw [← hv9, win_no ic_1 ep9 hp9 (wi_2f ic_3 (by rw [← jr_7]; exact ic_8))]; rfl, by rw [ht]; exact hP9, va_K.moved hW.alike hK9, hD9⟩, hS.F ht⟩) hS.2.2 dX8_isWithin_91
      ·
        have ic_2 : (a11 k).toInt = 1 := tx_eq rfl (by decide) c_2
        refine lv_aload_n hx hb dX8_isWithin_30 rfl (lv_at hl 2 rfl) ?_
        refine lv_iload hx hb dX8_isWithin_31 (lv_at hl 0 rfl) ?_
        refine lv_iload_n hx hb dX8_isWithin_33 rfl (lv_at hl 4 rfl) ?_
        refine lv_aload_n hx hb dX8_isWithin_34 rfl (lv_at hl 2 rfl) ?_
        refine va_get (D := (dC, dI)) (ci := 8) (v := .ref q9) (C := RX8) (T := TX8) (N := 17) hx hb hts hi0_ hown hK hP 0 rfl rfl 9 (by decide) hw3_ (fun _ h9 => h9) rfl dX8_isWithin_35 ?_
        refine lv_iload_n hx hb dX8_isWithin_38 rfl (lv_at hl 1 rfl) ?_
        refine va_iald (i := nI k) hx hb hK hP 4 3 rfl rfl (vp_in_nI (by omega) (by omega)) dX8_isWithin_39 ?_
        refine W.eq (g2 := F0 m 40 ls [.int (a9 k), .int p1, .int (nI p9), .ref h0]) (by rw [nI_clamp (by omega)]) ?_
        have hPc := hP.sub (ws' := [(h0, .inr (8, [.int th, .ref q1, v2, v3, .ref q4, v5, v6, v7, .ref q8, .ref q9, .ref q10, .ref q11, v12, v13, v14, v15, v16])), (q1, .inl (c1, 16, .inl a1)), (q4, .inl (c4, 16, .inl a4)), (q8, .inl (c8, 16, .inl a8)), (q11, .inl (c11, 16, .inl a11))]) [0, 1, 2, 3, 6] rfl
        have hDc := hD.sub (ws' := [(h0, .inr (8, [.int th, .ref q1, v2, v3, .ref q4, v5, v6, v7, .ref q8, .ref q9, .ref q10, .ref q11, v12, v13, v14, v15, v16])), (q1, .inl (c1, 16, .inl a1)), (q4, .inl (c4, 16, .inl a4)), (q8, .inl (c8, 16, .inl a8)), (q11, .inl (c11, 16, .inl a11))]) [0, 1, 2, 3, 6] (by decide) rfl
        have hKc := hK.sub (tys' := [(c1, .int), (c4, .int), (c8, .int), (c11, .int)]) [0, 1, 2, 5] rfl
        have hFc := va_free (wc := [(h0, .inr (8, [.int th, .ref q1, v2, v3, .ref q4, v5, v6, v7, .ref q8, .ref q9, .ref q10, .ref q11, v12, v13, v14, v15, v16])), (q1, .inl (c1, 16, .inl a1)), (q4, .inl (c4, 16, .inl a4)), (q8, .inl (c8, 16, .inl a8)), (q11, .inl (c11, 16, .inl a11))]) hD hS hA [0, 1, 2, 3, 6] rfl
        refine va_calli (va_runV (As := [.int (nI p9), .int p1, .int (a9 k)]) (rest := []) ⟨hx, hb, hml, hown, hts⟩ (c_X8_ordered l  dC dI H.size h0 th q1 q4 q8 q11 c1 c4 c8 c11 a1 a4 a8 a11 v2 v3 v5 v6 v7 (.ref q9) (.ref q10) v12 v13 v14 v15 v16 p9 dep p1 (a9 k) hp9 hF9 (by omega)) (cwV 3 hts gX8_isWithin_X8_ordered rfl rfl rfl (by decide +kernel) ⟨(Nat.le_of_ble_eq_true rfl), (Nat.le_of_ble_eq_true rfl)⟩) ⟨pk_blind, va_recv hKc hPc (ci := 8) (q0 := 0) rfl rfl, pk_call hPc hKc hDc⟩ rfl rfl hl.1 rfl (lv_room (Nat.le_of_ble_eq_true rfl)) dX8_isWithin_40 ⟨(Nat.le_of_ble_eq_true rfl), (Nat.le_of_ble_eq_true rfl)⟩) hS (fun q _ h => hFc q h) hFc (fun r_10 ur_10 t H1 locs ht hvm hw hB hz1 hk1 hS => ?_)
        try dsimp only at hw
        have jr_10 := hw
        obtain ⟨hP1, hK1, hD1⟩ := hB
        rw [ht] at hP1
        have hK1 := va_K.moved hvm.symm hK1
        obtain ⟨hP, hD⟩ := va_join (wr := [(q9, .inl (c9, 16, .inl a9)), (q10, .inl (c10, 16, .inl a10))]) (w1 := [(h0, .inr (8, [.int th, .ref q1, v2, v3, .ref q4, v5, v6, v7, .ref q8, .ref q9, .ref q10, .ref q11, v12, v13, v14, v15, v16])), (q1, .inl (c1, 16, .inl a1)), (q4, .inl (c4, 16, .inl a4)), (q8, .inl (c8, 16, .inl a8)), (q11, .inl (c11, 16, .inl a11))]) hP hD [0, 1, 2, 3, 6] [4, 5] rfl rfl (by decide) (by decide) hk1 hFc hP1 hD1
        clear hk1 hz1 ht hPc hDc hKc hFc
        generalize H1 = H at hP hS ⊢
        replace hP : va_P (dC, dI) vwCl [(q9, .inl (c9, 16, .inl a9)), (q10, .inl (c10, 16, .inl a10)), (h0, .inr (8, [.int th, .ref q1, v2, v3, .ref q4, v5, v6, v7, .ref q8, .ref q9, .ref q10, .ref q11, v12, v13, v14, v15, v16])), (q1, .inl (c1, 16, .inl a1)), (q4, .inl (c4, 16, .inl a4)), (q8, .inl (c8, 16, .inl a8)), (q11, .inl (c11, 16, .inl a11))] H := hP
        replace hD : va_D A [(q9, .inl (c9, 16, .inl a9)), (q10, .inl (c10, 16, .inl a10)), (h0, .inr (8, [.int th, .ref q1, v2, v3, .ref q4, v5, v6, v7, .ref q8, .ref q9, .ref q10, .ref q11, v12, v13, v14, v15, v16])), (q1, .inl (c1, 16, .inl a1)), (q4, .inl (c4, 16, .inl a4)), (q8, .inl (c8, 16, .inl a8)), (q11, .inl (c11, 16, .inl a11))] := hD
        refine W.widen (k := 0) (n := 0) (Nat.le_of_ble_eq_true rfl) (Nat.le_of_ble_eq_true rfl) ?_
        refine W.eq (g2 := F0 m 43 ls [.int r_10]) rfl ?_
        refine lv_if_lt (tgt := 62) hx hb dX8_isWithin_43 (by decide) (fun c_11 => ?_) (fun c_11 => ?_)
        ·
          have ic_11 : r_10.toInt < 0 := tx_lt rfl (by decide) c_11
          refine lv_iconst (v := 0) hx hb dX8_isWithin_62 (by decide) ?_
          have hP9 := hP.sub (ws' := [(h0, .inr (8, [.int th, .ref q1, v2, v3, .ref q4, v5, v6, v7, .ref q8, .ref q9, .ref q10, .ref q11, v12, v13, v14, v15, v16])), (q1, .inl (c1, 16, .inl a1)), (q4, .inl (c4, 16, .inl a4)), (q8, .inl (c8, 16, .inl a8)), (q9, .inl (c9, 16, .inl a9)), (q10, .inl (c10, 16, .inl a10)), (q11, .inl (c11, 16, .inl a11))]) [2, 3, 4, 5, 0, 1, 6] rfl
          have hD9 := hD.sub (ws' := [(h0, .inr (8, [.int th, .ref q1, v2, v3, .ref q4, v5, v6, v7, .ref q8, .ref q9, .ref q10, .ref q11, v12, v13, v14, v15, v16])), (q1, .inl (c1, 16, .inl a1)), (q4, .inl (c4, 16, .inl a4)), (q8, .inl (c8, 16, .inl a8)), (q9, .inl (c9, 16, .inl a9)), (q10, .inl (c10, 16, .inl a10)), (q11, .inl (c11, 16, .inl a11))]) [2, 3, 4, 5, 0, 1, 6] (by decide) rfl
          have hK9 := hK.sub (tys' := [(c1, .int), (c4, .int), (c8, .int), (c9, .int), (c10, .int), (c11, .int)]) [0, 1, 2, 3, 4, 5] rfl
          refine W.widen (k := 0) (n := 0) (Nat.le_of_ble_eq_true rfl) (Nat.le_of_ble_eq_true rfl) ?_
          exact W.zret (v := 0) hx hb hr rfl (fun t ht hW => ⟨⟨0, (), rfl, by show (0 : Int32) = tz _; rw [← hv9, win_no ic_1 ep9 hp9 (wi_1f ic_2 (by rw [← jr_10]; exact ic_11))]; rfl, by rw [ht]; exact hP9, va_K.moved hW.alike hK9, hD9⟩, hS.F ht⟩) hS.2.2 dX8_isWithin_63
        ·
          have ic_11 : 0 ≤ r_10.toInt := tx_nlt rfl (by decide) c_11
          refine lv_aload_n hx hb dX8_isWithin_46 rfl (lv_at hl 2 rfl) ?_
          refine lv_iload hx hb dX8_isWithin_47 (lv_at hl 0 rfl) ?_
          refine lv_iload_n hx hb dX8_isWithin_49 rfl (lv_at hl 4 rfl) ?_
          refine lv_aload_n hx hb dX8_isWithin_50 rfl (lv_at hl 2 rfl) ?_
          refine va_get (D := (dC, dI)) (ci := 8) (v := .ref q10) (C := RX8) (T := TX8) (N := 17) hx hb hts hi0_ hown hK hP 2 rfl rfl 10 (by decide) hw4_ (fun _ h9 => h9) rfl dX8_isWithin_51 ?_
          refine lv_iload_n hx hb dX8_isWithin_54 rfl (lv_at hl 1 rfl) ?_
          refine va_iald (i := nI k) hx hb hK hP 1 4 rfl rfl (vp_in_nI (by omega) (by omega)) dX8_isWithin_55 ?_
          refine W.eq (g2 := F0 m 56 ls [.int (a10 k), .int p1, .int (nI p9), .ref h0]) (by rw [nI_clamp (by omega)]) ?_
          have hPc := hP.sub (ws' := [(h0, .inr (8, [.int th, .ref q1, v2, v3, .ref q4, v5, v6, v7, .ref q8, .ref q9, .ref q10, .ref q11, v12, v13, v14, v15, v16])), (q1, .inl (c1, 16, .inl a1)), (q4, .inl (c4, 16, .inl a4)), (q8, .inl (c8, 16, .inl a8)), (q11, .inl (c11, 16, .inl a11))]) [2, 3, 4, 5, 6] rfl
          have hDc := hD.sub (ws' := [(h0, .inr (8, [.int th, .ref q1, v2, v3, .ref q4, v5, v6, v7, .ref q8, .ref q9, .ref q10, .ref q11, v12, v13, v14, v15, v16])), (q1, .inl (c1, 16, .inl a1)), (q4, .inl (c4, 16, .inl a4)), (q8, .inl (c8, 16, .inl a8)), (q11, .inl (c11, 16, .inl a11))]) [2, 3, 4, 5, 6] (by decide) rfl
          have hKc := hK.sub (tys' := [(c1, .int), (c4, .int), (c8, .int), (c11, .int)]) [0, 1, 2, 5] rfl
          have hFc := va_free (wc := [(h0, .inr (8, [.int th, .ref q1, v2, v3, .ref q4, v5, v6, v7, .ref q8, .ref q9, .ref q10, .ref q11, v12, v13, v14, v15, v16])), (q1, .inl (c1, 16, .inl a1)), (q4, .inl (c4, 16, .inl a4)), (q8, .inl (c8, 16, .inl a8)), (q11, .inl (c11, 16, .inl a11))]) hD hS hA [2, 3, 4, 5, 6] rfl
          refine va_calli (va_runV (As := [.int (nI p9), .int p1, .int (a10 k)]) (rest := []) ⟨hx, hb, hml, hown, hts⟩ (c_X8_ordered l  dC dI H.size h0 th q1 q4 q8 q11 c1 c4 c8 c11 a1 a4 a8 a11 v2 v3 v5 v6 v7 (.ref q9) (.ref q10) v12 v13 v14 v15 v16 p9 dep p1 (a10 k) hp9 hF9 (by omega)) (cwV 3 hts gX8_isWithin_X8_ordered rfl rfl rfl (by decide +kernel) ⟨(Nat.le_of_ble_eq_true rfl), (Nat.le_of_ble_eq_true rfl)⟩) ⟨pk_blind, va_recv hKc hPc (ci := 8) (q0 := 0) rfl rfl, pk_call hPc hKc hDc⟩ rfl rfl hl.1 rfl (lv_room (Nat.le_of_ble_eq_true rfl)) dX8_isWithin_56 ⟨(Nat.le_of_ble_eq_true rfl), (Nat.le_of_ble_eq_true rfl)⟩) hS (fun q _ h => hFc q h) hFc (fun r_12 ur_12 t H1 locs ht hvm hw hB hz1 hk1 hS => ?_)
          try dsimp only at hw
          have jr_12 := hw
          obtain ⟨hP1, hK1, hD1⟩ := hB
          rw [ht] at hP1
          have hK1 := va_K.moved hvm.symm hK1
          obtain ⟨hP, hD⟩ := va_join (wr := [(q9, .inl (c9, 16, .inl a9)), (q10, .inl (c10, 16, .inl a10))]) (w1 := [(h0, .inr (8, [.int th, .ref q1, v2, v3, .ref q4, v5, v6, v7, .ref q8, .ref q9, .ref q10, .ref q11, v12, v13, v14, v15, v16])), (q1, .inl (c1, 16, .inl a1)), (q4, .inl (c4, 16, .inl a4)), (q8, .inl (c8, 16, .inl a8)), (q11, .inl (c11, 16, .inl a11))]) hP hD [2, 3, 4, 5, 6] [0, 1] rfl rfl (by decide) (by decide) hk1 hFc hP1 hD1
          clear hk1 hz1 ht hPc hDc hKc hFc
          generalize H1 = H at hP hS ⊢
          replace hP : va_P (dC, dI) vwCl [(q9, .inl (c9, 16, .inl a9)), (q10, .inl (c10, 16, .inl a10)), (h0, .inr (8, [.int th, .ref q1, v2, v3, .ref q4, v5, v6, v7, .ref q8, .ref q9, .ref q10, .ref q11, v12, v13, v14, v15, v16])), (q1, .inl (c1, 16, .inl a1)), (q4, .inl (c4, 16, .inl a4)), (q8, .inl (c8, 16, .inl a8)), (q11, .inl (c11, 16, .inl a11))] H := hP
          replace hD : va_D A [(q9, .inl (c9, 16, .inl a9)), (q10, .inl (c10, 16, .inl a10)), (h0, .inr (8, [.int th, .ref q1, v2, v3, .ref q4, v5, v6, v7, .ref q8, .ref q9, .ref q10, .ref q11, v12, v13, v14, v15, v16])), (q1, .inl (c1, 16, .inl a1)), (q4, .inl (c4, 16, .inl a4)), (q8, .inl (c8, 16, .inl a8)), (q11, .inl (c11, 16, .inl a11))] := hD
          refine W.widen (k := 0) (n := 0) (Nat.le_of_ble_eq_true rfl) (Nat.le_of_ble_eq_true rfl) ?_
          refine W.eq (g2 := F0 m 59 ls [.int r_12]) rfl ?_
          refine lv_if_lt (tgt := 64) hx hb dX8_isWithin_59 (by decide) (fun c_13 => ?_) (fun c_13 => ?_)
          ·
            have ic_13 : r_12.toInt < 0 := tx_lt rfl (by decide) c_13
            refine lv_aload_n hx hb dX8_isWithin_64 rfl (lv_at hl 2 rfl) ?_
            refine va_get (D := (dC, dI)) (ci := 8) (v := .ref q11) (C := RX8) (T := TX8) (N := 17) hx hb hts hi0_ hown hK hP 2 rfl rfl 11 (by decide) hw2_ (fun _ h9 => h9) rfl dX8_isWithin_65 ?_
            refine lv_iload_n hx hb dX8_isWithin_68 rfl (lv_at hl 1 rfl) ?_
            refine va_iald (i := nI k) hx hb hK hP 6 5 rfl rfl (vp_in_nI (by omega) (by omega)) dX8_isWithin_69 ?_
            refine W.eq (g2 := F0 m 70 ls [.int (a11 k)]) (by rw [nI_clamp (by omega)]) ?_
            refine lv_iconst (v := 2) hx hb dX8_isWithin_70 (by decide) ?_
            refine lv_icmp_ne (tgt := 92) hx hb dX8_isWithin_71 (by decide) (fun c_14 => ?_) (fun c_14 => absurd c_14 (fun h9 => absurd ic_2 (by rw [h9]; decide)))
            refine lv_aload_n hx hb dX8_isWithin_92 rfl (lv_at hl 2 rfl) ?_
            refine va_get (D := (dC, dI)) (ci := 8) (v := .ref q11) (C := RX8) (T := TX8) (N := 17) hx hb hts hi0_ hown hK hP 2 rfl rfl 11 (by decide) hw2_ (fun _ h9 => h9) rfl dX8_isWithin_93 ?_
            refine lv_iload_n hx hb dX8_isWithin_96 rfl (lv_at hl 1 rfl) ?_
            refine va_iald (i := nI k) hx hb hK hP 6 5 rfl rfl (vp_in_nI (by omega) (by omega)) dX8_isWithin_97 ?_
            refine W.eq (g2 := F0 m 98 ls [.int (a11 k)]) (by rw [nI_clamp (by omega)]) ?_
            refine lv_iconst (v := 3) hx hb dX8_isWithin_98 (by decide) ?_
            refine lv_icmp_ne (tgt := 120) hx hb dX8_isWithin_99 (by decide) (fun c_15 => ?_) (fun c_15 => absurd c_15 (fun h9 => absurd ic_2 (by rw [h9]; decide)))
            refine lv_aload_n hx hb dX8_isWithin_120 rfl (lv_at hl 2 rfl) ?_
            refine va_get (D := (dC, dI)) (ci := 8) (v := .ref q8) (C := RX8) (T := TX8) (N := 17) hx hb hts hi0_ hown hK hP 2 rfl rfl 8 (by decide) hw1_ (fun _ h9 => h9) rfl dX8_isWithin_121 ?_
            refine lv_iload_n hx hb dX8_isWithin_124 rfl (lv_at hl 1 rfl) ?_
            refine va_iald (i := nI k) hx hb hK hP 5 2 rfl rfl (vp_in_nI (by omega) (by omega)) dX8_isWithin_125 ?_
            refine W.eq (g2 := F0 m 126 ls [.int (a8 k)]) (by rw [nI_clamp (by omega)]) ?_
            refine W.eq (g2 := F0 m 126 ls [.int (nI p9)]) (by rw [ep9]) ?_
            refine lv_istore_n (lv' := [(3, .int (nI p9)), (4, .int (nI p9)), (0, .ref h0), (1, .int (nI o)), (2, .int p1)]) hx hb dX8_isWithin_126 rfl hl (by decide) rfl (fun ls hl => ?_)
            refine lv_goto (tgt := 2) hx hb dX8_isWithin_127 (by decide) ?_
            exact ih (k := p9) (x9 := nI p9) (ex9 := rfl) (ls := ls) (H := H) (locs := locs) (hP := hP.sub (ws' := [(h0, .inr (8, [.int th, .ref q1, v2, v3, .ref q4, v5, v6, v7, .ref q8, .ref q9, .ref q10, .ref q11, v12, v13, v14, v15, v16])), (q1, .inl (c1, 16, .inl a1)), (q4, .inl (c4, 16, .inl a4)), (q8, .inl (c8, 16, .inl a8)), (q9, .inl (c9, 16, .inl a9)), (q10, .inl (c10, 16, .inl a10)), (q11, .inl (c11, 16, .inl a11))]) [2, 3, 4, 5, 0, 1, 6] rfl) (hS := hS) (hk9 := hp9) (hn9 := by omega) (hx9 := by omega) (hv9 := (win_up ic_1 ep9 hp9 (wi_1t ic_2 (by rw [← jr_10]; exact ic_11) (by rw [← jr_12]; exact ic_13))).symm.trans hv9) (hl := lv_sub hl [0, 2, 3, 4] rfl)
          ·
            have ic_13 : 0 ≤ r_12.toInt := tx_nlt rfl (by decide) c_13
            refine lv_iconst (v := 0) hx hb dX8_isWithin_62 (by decide) ?_
            have hP9 := hP.sub (ws' := [(h0, .inr (8, [.int th, .ref q1, v2, v3, .ref q4, v5, v6, v7, .ref q8, .ref q9, .ref q10, .ref q11, v12, v13, v14, v15, v16])), (q1, .inl (c1, 16, .inl a1)), (q4, .inl (c4, 16, .inl a4)), (q8, .inl (c8, 16, .inl a8)), (q9, .inl (c9, 16, .inl a9)), (q10, .inl (c10, 16, .inl a10)), (q11, .inl (c11, 16, .inl a11))]) [2, 3, 4, 5, 0, 1, 6] rfl
            have hD9 := hD.sub (ws' := [(h0, .inr (8, [.int th, .ref q1, v2, v3, .ref q4, v5, v6, v7, .ref q8, .ref q9, .ref q10, .ref q11, v12, v13, v14, v15, v16])), (q1, .inl (c1, 16, .inl a1)), (q4, .inl (c4, 16, .inl a4)), (q8, .inl (c8, 16, .inl a8)), (q9, .inl (c9, 16, .inl a9)), (q10, .inl (c10, 16, .inl a10)), (q11, .inl (c11, 16, .inl a11))]) [2, 3, 4, 5, 0, 1, 6] (by decide) rfl
            have hK9 := hK.sub (tys' := [(c1, .int), (c4, .int), (c8, .int), (c9, .int), (c10, .int), (c11, .int)]) [0, 1, 2, 3, 4, 5] rfl
            refine W.widen (k := 0) (n := 0) (Nat.le_of_ble_eq_true rfl) (Nat.le_of_ble_eq_true rfl) ?_
            exact W.zret (v := 0) hx hb hr rfl (fun t ht hW => ⟨⟨0, (), rfl, by show (0 : Int32) = tz _; rw [← hv9, win_no ic_1 ep9 hp9 (wi_1g ic_2 (by rw [← jr_12]; exact ic_13))]; rfl, by rw [ht]; exact hP9, va_K.moved hW.alike hK9, hD9⟩, hS.F ht⟩) hS.2.2 dX8_isWithin_63
