theorem dX5_moveBehind_0 : decode cX5_moveBehind 0 = .ok (.aload_n 0, 1) := by decide +kernel
theorem dX5_moveBehind_1 : decode cX5_moveBehind 1 = .ok (.getfield 9, 3) := by decide +kernel
theorem dX5_moveBehind_4 : decode cX5_moveBehind 4 = .ok (.arraylength, 1) := by decide +kernel
theorem dX5_moveBehind_5 : decode cX5_moveBehind 5 = .ok (.newarray .int, 2) := by decide +kernel
theorem dX5_moveBehind_7 : decode cX5_moveBehind 7 = .ok (.astore_n 2, 1) := by decide +kernel
theorem dX5_moveBehind_8 : decode cX5_moveBehind 8 = .ok (.aload_n 0, 1) := by decide +kernel
theorem dX5_moveBehind_9 : decode cX5_moveBehind 9 = .ok (.getfield 9, 3) := by decide +kernel
theorem dX5_moveBehind_12 : decode cX5_moveBehind 12 = .ok (.arraylength, 1) := by decide +kernel
theorem dX5_moveBehind_13 : decode cX5_moveBehind 13 = .ok (.newarray .int, 2) := by decide +kernel
theorem dX5_moveBehind_15 : decode cX5_moveBehind 15 = .ok (.astore_n 3, 1) := by decide +kernel
theorem dX5_moveBehind_16 : decode cX5_moveBehind 16 = .ok (.iconst 0, 1) := by decide +kernel
theorem dX5_moveBehind_17 : decode cX5_moveBehind 17 = .ok (.istore 4, 2) := by decide +kernel
theorem dX5_moveBehind_19 : decode cX5_moveBehind 19 = .ok (.iconst 0, 1) := by decide +kernel
theorem dX5_moveBehind_20 : decode cX5_moveBehind 20 = .ok (.istore 5, 2) := by decide +kernel
theorem dX5_moveBehind_22 : decode cX5_moveBehind 22 = .ok (.iload 5, 2) := by decide +kernel
theorem dX5_moveBehind_24 : decode cX5_moveBehind 24 = .ok (.iconst 2, 1) := by decide +kernel
theorem dX5_moveBehind_25 : decode cX5_moveBehind 25 = .ok (.if_icmp .ge 84, 3) := by decide +kernel
theorem dX5_moveBehind_109 : decode cX5_moveBehind 109 = .ok (.aload_n 0, 1) := by decide +kernel
theorem dX5_moveBehind_110 : decode cX5_moveBehind 110 = .ok (.aload_n 2, 1) := by decide +kernel
theorem dX5_moveBehind_111 : decode cX5_moveBehind 111 = .ok (.putfield 9, 3) := by decide +kernel
theorem dX5_moveBehind_114 : decode cX5_moveBehind 114 = .ok (.aload_n 0, 1) := by decide +kernel
theorem dX5_moveBehind_115 : decode cX5_moveBehind 115 = .ok (.aload_n 3, 1) := by decide +kernel
theorem dX5_moveBehind_116 : decode cX5_moveBehind 116 = .ok (.putfield 15, 3) := by decide +kernel
theorem dX5_moveBehind_119 : decode cX5_moveBehind 119 = .ok (.return_, 1) := by decide +kernel
theorem dX5_moveBehind_28 : decode cX5_moveBehind 28 = .ok (.iconst 0, 1) := by decide +kernel
theorem dX5_moveBehind_29 : decode cX5_moveBehind 29 = .ok (.istore 6, 2) := by decide +kernel
theorem dX5_moveBehind_31 : decode cX5_moveBehind 31 = .ok (.iload 6, 2) := by decide +kernel
theorem dX5_moveBehind_33 : decode cX5_moveBehind 33 = .ok (.aload_n 0, 1) := by decide +kernel
theorem dX5_moveBehind_34 : decode cX5_moveBehind 34 = .ok (.getfield 18, 3) := by decide +kernel
theorem dX5_moveBehind_37 : decode cX5_moveBehind 37 = .ok (.if_icmp .ge 66, 3) := by decide +kernel
theorem dX5_moveBehind_103 : decode cX5_moveBehind 103 = .ok (.iinc 5 1, 3) := by decide +kernel
theorem dX5_moveBehind_106 : decode cX5_moveBehind 106 = .ok (.goto (-84), 3) := by decide +kernel
theorem dX5_moveBehind_40 : decode cX5_moveBehind 40 = .ok (.iload 6, 2) := by decide +kernel
theorem dX5_moveBehind_42 : decode cX5_moveBehind 42 = .ok (.aload_n 1, 1) := by decide +kernel
theorem dX5_moveBehind_43 : decode cX5_moveBehind 43 = .ok (.arraylength, 1) := by decide +kernel
theorem dX5_moveBehind_44 : decode cX5_moveBehind 44 = .ok (.if_icmp .ge 59, 3) := by decide +kernel
theorem dX5_moveBehind_47 : decode cX5_moveBehind 47 = .ok (.aload_n 1, 1) := by decide +kernel
theorem dX5_moveBehind_48 : decode cX5_moveBehind 48 = .ok (.iload 6, 2) := by decide +kernel
theorem dX5_moveBehind_50 : decode cX5_moveBehind 50 = .ok (.baload, 1) := by decide +kernel
theorem dX5_moveBehind_51 : decode cX5_moveBehind 51 = .ok (.iload 5, 2) := by decide +kernel
theorem dX5_moveBehind_53 : decode cX5_moveBehind 53 = .ok (.iconst 1, 1) := by decide +kernel
theorem dX5_moveBehind_54 : decode cX5_moveBehind 54 = .ok (.if_icmp .ne 7, 3) := by decide +kernel
theorem dX5_moveBehind_61 : decode cX5_moveBehind 61 = .ok (.iconst 0, 1) := by decide +kernel
theorem dX5_moveBehind_62 : decode cX5_moveBehind 62 = .ok (.if_icmp .ne 35, 3) := by decide +kernel
theorem dX5_moveBehind_97 : decode cX5_moveBehind 97 = .ok (.iinc 6 1, 3) := by decide +kernel
theorem dX5_moveBehind_100 : decode cX5_moveBehind 100 = .ok (.goto (-69), 3) := by decide +kernel
theorem dX5_moveBehind_65 : decode cX5_moveBehind 65 = .ok (.iload 4, 2) := by decide +kernel
theorem dX5_moveBehind_67 : decode cX5_moveBehind 67 = .ok (.aload_n 2, 1) := by decide +kernel
theorem dX5_moveBehind_68 : decode cX5_moveBehind 68 = .ok (.arraylength, 1) := by decide +kernel
theorem dX5_moveBehind_69 : decode cX5_moveBehind 69 = .ok (.if_icmp .ge 28, 3) := by decide +kernel
theorem dX5_moveBehind_72 : decode cX5_moveBehind 72 = .ok (.aload_n 2, 1) := by decide +kernel
theorem dX5_moveBehind_73 : decode cX5_moveBehind 73 = .ok (.iload 4, 2) := by decide +kernel
theorem dX5_moveBehind_75 : decode cX5_moveBehind 75 = .ok (.aload_n 0, 1) := by decide +kernel
theorem dX5_moveBehind_76 : decode cX5_moveBehind 76 = .ok (.getfield 9, 3) := by decide +kernel
theorem dX5_moveBehind_79 : decode cX5_moveBehind 79 = .ok (.iload 6, 2) := by decide +kernel
theorem dX5_moveBehind_81 : decode cX5_moveBehind 81 = .ok (.iaload, 1) := by decide +kernel
theorem dX5_moveBehind_82 : decode cX5_moveBehind 82 = .ok (.iastore, 1) := by decide +kernel
theorem dX5_moveBehind_83 : decode cX5_moveBehind 83 = .ok (.aload_n 3, 1) := by decide +kernel
theorem dX5_moveBehind_84 : decode cX5_moveBehind 84 = .ok (.iload 4, 2) := by decide +kernel
theorem dX5_moveBehind_86 : decode cX5_moveBehind 86 = .ok (.aload_n 0, 1) := by decide +kernel
theorem dX5_moveBehind_87 : decode cX5_moveBehind 87 = .ok (.getfield 15, 3) := by decide +kernel
theorem dX5_moveBehind_90 : decode cX5_moveBehind 90 = .ok (.iload 6, 2) := by decide +kernel
theorem dX5_moveBehind_92 : decode cX5_moveBehind 92 = .ok (.iaload, 1) := by decide +kernel
theorem dX5_moveBehind_93 : decode cX5_moveBehind 93 = .ok (.iastore, 1) := by decide +kernel
theorem dX5_moveBehind_94 : decode cX5_moveBehind 94 = .ok (.iinc 4 1, 3) := by decide +kernel
theorem dX5_moveBehind_57 : decode cX5_moveBehind 57 = .ok (.iconst 1, 1) := by decide +kernel
theorem dX5_moveBehind_58 : decode cX5_moveBehind 58 = .ok (.goto 4, 3) := by decide +kernel
set_option maxHeartbeats 4000000 in
set_option maxRecDepth 100000 in
/-- Rows.moveBehind -/
theorem c_X5_moveBehind (l : Launch) (dC : Nat → ClassId) (dI : Nat → Nat → Nat) (sz : Nat) (x0 : Nat) (k0 : Nat) (w0 : Nat) (ck : ClassId) (cw : ClassId) (L : Nat) (f : Nat → Int32) (g : Nat → Int32) (nz : Nat) (ch : Int32) (m0 : Nat) (cm : ClassId) (nm : Nat) (mf : Nat → Int32) (hR9 : rOK L nz) (hnm : nm ≤ 2000) : Met l yX5_moveBehind wsX5_moveBehind ({ frames := 1, cells := 2, slots := 2 * L, locals := 60 }) (va_Pc [.ref x0, .ref m0] (pk_Pre (dC, dI) [(x0, .inr (5, [.ref k0, .ref w0, .int (nI nz), .int ch])), (k0, .inl (ck, L, .inl f)), (w0, .inl (cw, L, .inl g)), (m0, .inl (cm, nm, .inl mf))] [(ck, .int), (cw, .int), (cm, .boolean)] sz)) (va_Qv (fun (u : Nat × Nat × ClassId × ClassId × (Nat → Int32) × (Nat → Int32)) => True) (fun (u : Nat × Nat × ClassId × ClassId × (Nat → Int32) × (Nat → Int32)) (t : State) => va_P (dC, dI) vwCl [(x0, .inr (5, [.ref u.1, .ref u.2.1, .int (nI nz), .int ch])), (u.1, .inl (u.2.2.1, L, .inl u.2.2.2.2.1)), (u.2.1, .inl (u.2.2.2.1, L, .inl u.2.2.2.2.2)), (m0, .inl (cm, nm, .inl mf))] t.heap ∧ va_K (dC, dI) vwCl [(u.2.2.1, .int), (u.2.2.2.1, .int), (cm, .boolean)] t ∧ va_D (va_A [(x0, .inr (5, [.ref k0, .ref w0, .int (nI nz), .int ch])), (k0, .inl (ck, L, .inl f)), (w0, .inl (cw, L, .inl g)), (m0, .inl (cm, nm, .inl mf))] sz) [(x0, .inr (5, [.ref u.1, .ref u.2.1, .int (nI nz), .int ch])), (u.1, .inl (u.2.2.1, L, .inl u.2.2.2.2.1)), (u.2.1, .inl (u.2.2.2.1, L, .inl u.2.2.2.2.2)), (m0, .inl (cm, nm, .inl mf))]) (va_A [(x0, .inr (5, [.ref k0, .ref w0, .int (nI nz), .int ch])), (k0, .inl (ck, L, .inl f)), (w0, .inl (cw, L, .inl g)), (m0, .inl (cm, nm, .inl mf))] sz)) 2 (2 * L) (va_A [(x0, .inr (5, [.ref k0, .ref w0, .int (nI nz), .int ch])), (k0, .inl (ck, L, .inl f)), (w0, .inl (cw, L, .inl g)), (m0, .inl (cm, nm, .inl mf))] sz) := by
  refine Met.ofW (cc := cX5_moveBehind) (maxL := 7) (ret := none) (by decide) rfl ?_
  intro p e s m args below meth c s₁ B hml hv
  obtain ⟨rfl, hsz, hP, hK, hD0⟩ := hv
  have hx := B.exec
  have hb := B.bytes
  have hr := B.returns
  have hts := atoms_spec (ws := wsX5_moveBehind) B.pre
  have hown : s.vm.findClass RX5 = some m.cls := findClass_of_methodNamed B.named
  have hlocks := B.notSynchronized
  subst hsz
  have hD := hD0.self (sz := s.heap.size)
  generalize hAe : va_A [(x0, .inr (5, [.ref k0, .ref w0, .int (nI nz), .int ch])), (k0, .inl (ck, L, .inl f)), (w0, .inl (cw, L, .inl g)), (m0, .inl (cm, nm, .inl mf))] s.heap.size = A at hD ⊢
  have hA : ∀ q : Nat, s.heap.size ≤ q → A q := fun q h => by rw [← hAe]; exact Or.inr h
  have hS : va_S A s.heap s.heap [] := va_S.rf
  have hP : va_P (dC, dI) vwCl [(x0, .inr (5, [.ref k0, .ref w0, .int (nI nz), .int ch])), (k0, .inl (ck, L, .inl f)), (w0, .inl (cw, L, .inl g)), (m0, .inl (cm, nm, .inl mf))] s.heap := hP
  have hl := lv_entry ([.ref x0, .ref m0]) (n := 7) (Nat.le_of_ble_eq_true rfl)
  rw [lg_entry_eq]
  generalize (lg_sl ([.ref x0, .ref m0]) ++ List.replicate (7 - (lg_sl ([.ref x0, .ref m0])).length) Slot.unset).toArray = ls at hl ⊢
  have hl : lv_has ls 7 [(0, .ref x0), (1, .ref m0)] := hl
  have hw0_ := hts (.fieldLink RX5 9 "KeyAtlas$Rows" "keys" "[I") (List.mem_of_getElem? (l := wsX5_moveBehind) (i := 1) rfl)
  have hw1_ := hts (.arrayClass .int) (List.mem_of_getElem? (l := wsX5_moveBehind) (i := 2) rfl)
  have hw2_ := hts (.fieldLink RX5 15 "KeyAtlas$Rows" "values" "[I") (List.mem_of_getElem? (l := wsX5_moveBehind) (i := 4) rfl)
  have hw3_ := hts (.fieldLink RX5 18 "KeyAtlas$Rows" "size" "I") (List.mem_of_getElem? (l := wsX5_moveBehind) (i := 3) rfl)
  have hi0_ : ∀ w ∈ u_ws RX5 TX5 4, w ∈ wsX5_moveBehind := fun w h => List.mem_cons_of_mem _ (List.mem_append_right _ h)
  obtain ⟨hL1, hL2, hz1, hz2⟩ := hR9
  refine lv_aload_n hx hb dX5_moveBehind_0 rfl (lv_at hl 0 rfl) ?_
  refine va_get (D := (dC, dI)) (ci := 5) (v := .ref k0) (C := RX5) (T := TX5) (N := 4) hx hb hts hi0_ hown hK hP 0 rfl rfl 0 (by decide) hw0_ (fun _ h9 => h9) rfl dX5_moveBehind_1 ?_
  refine va_alen (v := nI L) hx hb hK hP 1 0 rfl rfl rfl dX5_moveBehind_4 ?_
  refine va_newa (atype := .int) (ty := .int) (n := nI L) (N' := L) (a0 := (L, .inl (fun _ => (0 : Int32)))) hx hb hw1_ rfl hK hP hD hS hA (fun _ => rfl) (Int32.not_lt.mpr (Int32.le_iff_toInt_le.mpr (by rw [nI_toInt (by omega)]; exact Int.ofNat_nonneg _))) (nI_clamp (by omega)) (by show L * 4 ≤ 536870912; omega) (Nat.le_of_ble_eq_true rfl) (show 0 + L ≤ 2 * L by omega) dX5_moveBehind_5 (fun q_1 cA_2 H hK hP hD hS => ?_)
  have hK : va_K (dC, dI) vwCl [(ck, .int), (cw, .int), (cm, .boolean), (cA_2, .int)] s := hK
  replace hP : va_P (dC, dI) vwCl [(x0, .inr (5, [.ref k0, .ref w0, .int (nI nz), .int ch])), (k0, .inl (ck, L, .inl f)), (w0, .inl (cw, L, .inl g)), (m0, .inl (cm, nm, .inl mf)), (q_1, .inl (cA_2, L, .inl (fun _ => (0 : Int32))))] H := hP
  replace hD : va_D A [(x0, .inr (5, [.ref k0, .ref w0, .int (nI nz), .int ch])), (k0, .inl (ck, L, .inl f)), (w0, .inl (cw, L, .inl g)), (m0, .inl (cm, nm, .inl mf)), (q_1, .inl (cA_2, L, .inl (fun _ => (0 : Int32))))] := hD
  refine W.widen (k := 1) (n := L) (by omega) (by omega) ?_
  refine lv_astore_n (lv' := [(2, .ref q_1), (0, .ref x0), (1, .ref m0)]) hx hb dX5_moveBehind_7 rfl hl (by decide) rfl (fun ls hl => ?_)
  refine lv_aload_n hx hb dX5_moveBehind_8 rfl (lv_at hl 1 rfl) ?_
  refine va_get (D := (dC, dI)) (ci := 5) (v := .ref k0) (C := RX5) (T := TX5) (N := 4) hx hb hts hi0_ hown hK hP 0 rfl rfl 0 (by decide) hw0_ (fun _ h9 => h9) rfl dX5_moveBehind_9 ?_
  refine va_alen (v := nI L) hx hb hK hP 1 0 rfl rfl rfl dX5_moveBehind_12 ?_
  refine va_newa (atype := .int) (ty := .int) (n := nI L) (N' := L) (a0 := (L, .inl (fun _ => (0 : Int32)))) hx hb hw1_ rfl hK hP hD hS hA (fun _ => rfl) (Int32.not_lt.mpr (Int32.le_iff_toInt_le.mpr (by rw [nI_toInt (by omega)]; exact Int.ofNat_nonneg _))) (nI_clamp (by omega)) (by show L * 4 ≤ 536870912; omega) (Nat.le_of_ble_eq_true rfl) (show L + L ≤ 2 * L by omega) dX5_moveBehind_13 (fun q_3 cA_4 H hK hP hD hS => ?_)
  have hK : va_K (dC, dI) vwCl [(ck, .int), (cw, .int), (cm, .boolean), (cA_2, .int), (cA_4, .int)] s := hK
  replace hP : va_P (dC, dI) vwCl [(x0, .inr (5, [.ref k0, .ref w0, .int (nI nz), .int ch])), (k0, .inl (ck, L, .inl f)), (w0, .inl (cw, L, .inl g)), (m0, .inl (cm, nm, .inl mf)), (q_1, .inl (cA_2, L, .inl (fun _ => (0 : Int32)))), (q_3, .inl (cA_4, L, .inl (fun _ => (0 : Int32))))] H := hP
  replace hD : va_D A [(x0, .inr (5, [.ref k0, .ref w0, .int (nI nz), .int ch])), (k0, .inl (ck, L, .inl f)), (w0, .inl (cw, L, .inl g)), (m0, .inl (cm, nm, .inl mf)), (q_1, .inl (cA_2, L, .inl (fun _ => (0 : Int32)))), (q_3, .inl (cA_4, L, .inl (fun _ => (0 : Int32))))] := hD
  refine W.widen (k := 2) (n := L + L) (by omega) (by omega) ?_
  refine lv_astore_n (lv' := [(3, .ref q_3), (2, .ref q_1), (0, .ref x0), (1, .ref m0)]) hx hb dX5_moveBehind_15 rfl hl (by decide) rfl (fun ls hl => ?_)
  refine lv_iconst (v := 0) hx hb dX5_moveBehind_16 (by decide) ?_
  refine lv_istore (lv' := [(4, .int 0), (3, .ref q_3), (2, .ref q_1), (0, .ref x0), (1, .ref m0)]) hx hb dX5_moveBehind_17 hl (by decide) rfl (fun ls hl => ?_)
  refine lv_iconst (v := 0) hx hb dX5_moveBehind_19 (by decide) ?_
  refine lv_istore (lv' := [(5, .int 0), (4, .int 0), (3, .ref q_3), (2, .ref q_1), (0, .ref x0), (1, .ref m0)]) hx hb dX5_moveBehind_20 hl (by decide) rfl (fun ls hl => ?_)
  obtain ⟨locs, hlo9⟩ : ∃ z : List Loc, z = [] := ⟨_, rfl⟩
  refine tx_hv (rfl : H = H) hlo9 ?_
  replace hS : va_S A s.heap H locs := by rw [hlo9]; exact hS
  clear hlo9
  obtain ⟨i5, es_i5⟩ : ∃ z : Nat, z = 0 := ⟨_, rfl⟩
  obtain ⟨x5, ex5⟩ : ∃ y : Int32, y = nI i5 := ⟨_, rfl⟩
  obtain ⟨e4, es_e4⟩ : ∃ z : Nat, z = 0 := ⟨_, rfl⟩
  obtain ⟨y4, ey4⟩ : ∃ y : Int32, y = nI e4 := ⟨_, rfl⟩
  obtain ⟨fa, ef_fa⟩ : ∃ z : Nat → Int32, z = (fun _ => (0 : Int32)) := ⟨_, rfl⟩
  obtain ⟨fb, ef_fb⟩ : ∃ z : Nat → Int32, z = (fun _ => (0 : Int32)) := ⟨_, rfl⟩
  obtain ⟨n9A, en9⟩ : ∃ n : Nat, n = 3 := ⟨_, rfl⟩
  replace hl : lv_has ls 7 [(5, .int x5), (4, .int y4), (3, .ref q_3), (2, .ref q_1), (0, .ref x0), (1, .ref m0)] := by subst ex5; subst es_i5; subst ey4; subst es_e4; exact hl
  replace hP : va_P (dC, dI) vwCl [(x0, .inr (5, [.ref k0, .ref w0, .int (nI nz), .int ch])), (k0, .inl (ck, L, .inl f)), (w0, .inl (cw, L, .inl g)), (m0, .inl (cm, nm, .inl mf)), (q_1, .inl (cA_2, L, .inl fa)), (q_3, .inl (cA_4, L, .inl fb))] H := by subst ef_fa; subst ef_fb; exact hP
  replace hD : va_D A [(x0, .inr (5, [.ref k0, .ref w0, .int (nI nz), .int ch])), (k0, .inl (ck, L, .inl f)), (w0, .inl (cw, L, .inl g)), (m0, .inl (cm, nm, .inl mf)), (q_1, .inl (cA_2, L, .inl fa)), (q_3, .inl (cA_4, L, .inl fb))] := by subst ef_fa; subst ef_fb; exact hD
  have hi5 : i5 ≤ 2 := by subst ex5; subst es_i5; subst ey4; subst es_e4; subst ef_fa; subst ef_fb; subst en9; exact by omega
  have he4 : e4 ≤ 1000 * i5 := by subst ex5; subst es_i5; subst ey4; subst es_e4; subst ef_fa; subst ef_fb; subst en9; exact by omega
  have hn5 : 3 ≤ i5 + n9A := by subst ex5; subst es_i5; subst ey4; subst es_e4; subst ef_fa; subst ef_fb; subst en9; exact by omega
  clear en9 es_i5 es_e4 ef_fa ef_fb
  induction n9A generalizing i5 x5 e4 y4 ls H locs fa fb with
  | zero => exact absurd hn5 (by omega)
  | succ n9A ihA =>
    subst ex5
    subst ey4
    refine lv_iload hx hb dX5_moveBehind_22 (lv_at hl 0 rfl) ?_
    refine lv_iconst (v := 2) hx hb dX5_moveBehind_24 (by decide) ?_
    refine lv_icmp_ge (tgt := 109) hx hb dX5_moveBehind_25 (by decide) (fun c_5 => ?_) (fun c_5 => ?_)
    ·
      have ic_5 : 2 ≤ ((i5 : Nat) : Int) := tx_le (by decide) (nI_toInt (by omega)) c_5
      refine lv_aload_n hx hb dX5_moveBehind_109 rfl (lv_at hl 4 rfl) ?_
      refine lv_aload_n hx hb dX5_moveBehind_110 rfl (lv_at hl 3 rfl) ?_
      refine va_put (D := (dC, dI)) (ci := 5) (v := .ref q_1) (ty := .array .int) (C := RX5) (T := TX5) (N := 4) hx hb hts hi0_ tyX5 tyX5_ok nmX5 hown hK hP hD hS 0 rfl rfl 0 (by decide) hw0_ (fun _ h9 => h9) rfl (by decide +kernel) rfl rfl (Nat.le_of_ble_eq_true rfl) dX5_moveBehind_111 (fun H locs hP hD hS => ?_)
      replace hP : va_P (dC, dI) vwCl [(x0, .inr (5, [.ref q_1, .ref w0, .int (nI nz), .int ch])), (k0, .inl (ck, L, .inl f)), (w0, .inl (cw, L, .inl g)), (m0, .inl (cm, nm, .inl mf)), (q_1, .inl (cA_2, L, .inl fa)), (q_3, .inl (cA_4, L, .inl fb))] H := hP
      replace hD : va_D A [(x0, .inr (5, [.ref q_1, .ref w0, .int (nI nz), .int ch])), (k0, .inl (ck, L, .inl f)), (w0, .inl (cw, L, .inl g)), (m0, .inl (cm, nm, .inl mf)), (q_1, .inl (cA_2, L, .inl fa)), (q_3, .inl (cA_4, L, .inl fb))] := hD
      refine lv_aload_n hx hb dX5_moveBehind_114 rfl (lv_at hl 4 rfl) ?_
      refine lv_aload_n hx hb dX5_moveBehind_115 rfl (lv_at hl 2 rfl) ?_
      refine va_put (D := (dC, dI)) (ci := 5) (v := .ref q_3) (ty := .array .int) (C := RX5) (T := TX5) (N := 4) hx hb hts hi0_ tyX5 tyX5_ok nmX5 hown hK hP hD hS 0 rfl rfl 1 (by decide) hw2_ (fun _ h9 => h9) rfl (by decide +kernel) rfl rfl (Nat.le_of_ble_eq_true rfl) dX5_moveBehind_116 (fun H locs hP hD hS => ?_)
      replace hP : va_P (dC, dI) vwCl [(x0, .inr (5, [.ref q_1, .ref q_3, .int (nI nz), .int ch])), (k0, .inl (ck, L, .inl f)), (w0, .inl (cw, L, .inl g)), (m0, .inl (cm, nm, .inl mf)), (q_1, .inl (cA_2, L, .inl fa)), (q_3, .inl (cA_4, L, .inl fb))] H := hP
      replace hD : va_D A [(x0, .inr (5, [.ref q_1, .ref q_3, .int (nI nz), .int ch])), (k0, .inl (ck, L, .inl f)), (w0, .inl (cw, L, .inl g)), (m0, .inl (cm, nm, .inl mf)), (q_1, .inl (cA_2, L, .inl fa)), (q_3, .inl (cA_4, L, .inl fb))] := hD
      have hP9 := hP.sub (ws' := [(x0, .inr (5, [.ref q_1, .ref q_3, .int (nI nz), .int ch])), (q_1, .inl (cA_2, L, .inl fa)), (q_3, .inl (cA_4, L, .inl fb)), (m0, .inl (cm, nm, .inl mf))]) [0, 4, 5, 3] rfl
      have hD9 := hD.sub (ws' := [(x0, .inr (5, [.ref q_1, .ref q_3, .int (nI nz), .int ch])), (q_1, .inl (cA_2, L, .inl fa)), (q_3, .inl (cA_4, L, .inl fb)), (m0, .inl (cm, nm, .inl mf))]) [0, 4, 5, 3] (by decide) rfl
      have hK9 := hK.sub (tys' := [(cA_2, .int), (cA_4, .int), (cm, .boolean)]) [3, 4, 2] rfl
      refine W.widen (k := 2) (n := 2 * L) (by omega) (by omega) ?_
      exact W.vret hx hb hr (fun t ht hW => ⟨⟨(q_1, q_3, cA_2, cA_4, fa, fb), rfl, trivial, by rw [ht]; exact hP9, va_K.moved hW.alike hK9, hD9⟩, hS.F ht⟩) hS.2.2 dX5_moveBehind_119
    ·
      have ic_5 : ((i5 : Nat) : Int) < 2 := tx_nle (by decide) (nI_toInt (by omega)) c_5
      refine lv_iconst (v := 0) hx hb dX5_moveBehind_28 (by decide) ?_
      refine lv_istore (lv' := [(6, .int 0), (5, .int (nI i5)), (4, .int (nI e4)), (3, .ref q_3), (2, .ref q_1), (0, .ref x0), (1, .ref m0)]) hx hb dX5_moveBehind_29 hl (by decide) rfl (fun ls hl => ?_)
      obtain ⟨i6, es_i6⟩ : ∃ z : Nat, z = 0 := ⟨_, rfl⟩
      obtain ⟨x6, ex6⟩ : ∃ y : Int32, y = nI i6 := ⟨_, rfl⟩
      obtain ⟨e5, es_e5⟩ : ∃ z : Nat, z = e4 := ⟨_, rfl⟩
      obtain ⟨y5, ey5⟩ : ∃ y : Int32, y = nI e5 := ⟨_, rfl⟩
      obtain ⟨fc, ef_fc⟩ : ∃ z : Nat → Int32, z = fa := ⟨_, rfl⟩
      obtain ⟨fd, ef_fd⟩ : ∃ z : Nat → Int32, z = fb := ⟨_, rfl⟩
      obtain ⟨n9B, en9⟩ : ∃ n : Nat, n = nz + 1 := ⟨_, rfl⟩
      replace hl : lv_has ls 7 [(6, .int x6), (5, .int (nI i5)), (4, .int y5), (3, .ref q_3), (2, .ref q_1), (0, .ref x0), (1, .ref m0)] := by subst ex6; subst es_i6; subst ey5; subst es_e5; exact hl
      replace hP : va_P (dC, dI) vwCl [(x0, .inr (5, [.ref k0, .ref w0, .int (nI nz), .int ch])), (k0, .inl (ck, L, .inl f)), (w0, .inl (cw, L, .inl g)), (m0, .inl (cm, nm, .inl mf)), (q_1, .inl (cA_2, L, .inl fc)), (q_3, .inl (cA_4, L, .inl fd))] H := by subst ef_fc; subst ef_fd; exact hP
      replace hD : va_D A [(x0, .inr (5, [.ref k0, .ref w0, .int (nI nz), .int ch])), (k0, .inl (ck, L, .inl f)), (w0, .inl (cw, L, .inl g)), (m0, .inl (cm, nm, .inl mf)), (q_1, .inl (cA_2, L, .inl fc)), (q_3, .inl (cA_4, L, .inl fd))] := by subst ef_fc; subst ef_fd; exact hD
      have hi6 : i6 ≤ nz := by subst ex6; subst es_i6; subst ey5; subst es_e5; subst ef_fc; subst ef_fd; subst en9; exact Nat.zero_le _
      have he5 : e5 ≤ 1000 * i5 + i6 := by subst ex6; subst es_i6; subst ey5; subst es_e5; subst ef_fc; subst ef_fd; subst en9; exact by omega
      have hn6 : nz + 1 ≤ i6 + n9B := by subst ex6; subst es_i6; subst ey5; subst es_e5; subst ef_fc; subst ef_fd; subst en9; exact by omega
      clear en9 es_i6 es_e5 ef_fc ef_fd
      induction n9B generalizing i6 x6 e5 y5 ls H locs fc fd with
      | zero => exact absurd hn6 (by omega)
      | succ n9B ihB =>
        subst ex6
        subst ey5
        refine lv_iload hx hb dX5_moveBehind_31 (lv_at hl 0 rfl) ?_
        refine lv_aload_n hx hb dX5_moveBehind_33 rfl (lv_at hl 5 rfl) ?_
        refine va_get (D := (dC, dI)) (ci := 5) (v := .int (nI nz)) (C := RX5) (T := TX5) (N := 4) hx hb hts hi0_ hown hK hP 0 rfl rfl 2 (by decide) hw3_ (fun _ h9 => h9) rfl dX5_moveBehind_34 ?_
        refine lv_icmp_ge (tgt := 103) hx hb dX5_moveBehind_37 (by decide) (fun c_6 => ?_) (fun c_6 => ?_)
        ·
          have ic_6 : ((nz : Nat) : Int) ≤ ((i6 : Nat) : Int) := tx_le (nI_toInt (by omega)) (nI_toInt (by omega)) c_6
          refine lv_iinc (v := nI (i5 + 1)) (lv' := [(5, .int (nI (i5 + 1))), (6, .int (nI i6)), (4, .int (nI e5)), (3, .ref q_3), (2, .ref q_1), (0, .ref x0), (1, .ref m0)]) hx hb dX5_moveBehind_103 hl (k := 1) rfl (by rw [show Int32.ofInt 1 = nI 1 from rfl, nI_add]) (by decide) rfl (fun ls hl => ?_)
          refine lv_goto (tgt := 22) hx hb dX5_moveBehind_106 (by decide) ?_
          exact ihA (i5 := i5 + 1) (x5 := nI (i5 + 1)) (ex5 := rfl) (e4 := e5) (y4 := nI e5) (ey4 := rfl) (ls := ls) (fa := fc) (fb := fd) (H := H) (locs := locs) (hP := hP.sub (ws' := [(x0, .inr (5, [.ref k0, .ref w0, .int (nI nz), .int ch])), (k0, .inl (ck, L, .inl f)), (w0, .inl (cw, L, .inl g)), (m0, .inl (cm, nm, .inl mf)), (q_1, .inl (cA_2, L, .inl fc)), (q_3, .inl (cA_4, L, .inl fd))]) [0, 1, 2, 3, 4, 5] rfl) (hS := hS) (hD := hD.sub (ws' := [(x0, .inr (5, [.ref k0, .ref w0, .int (nI nz), .int ch])), (k0, .inl (ck, L, .inl f)), (w0, .inl (cw, L, .inl g)), (m0, .inl (cm, nm, .inl mf)), (q_1, .inl (cA_2, L, .inl fc)), (q_3, .inl (cA_4, L, .inl fd))]) [0, 1, 2, 3, 4, 5] (by decide) rfl) (hi5 := by omega) (he4 := by omega) (hn5 := by omega) (hl := lv_sub hl [0, 2, 3, 4, 5, 6] rfl)
        ·
          have ic_6 : ((i6 : Nat) : Int) < ((nz : Nat) : Int) := tx_nle (nI_toInt (by omega)) (nI_toInt (by omega)) c_6
          refine lv_iload hx hb dX5_moveBehind_40 (lv_at hl 0 rfl) ?_
          refine lv_aload_n hx hb dX5_moveBehind_42 rfl (lv_at hl 6 rfl) ?_
          refine va_alen (v := nI nm) hx hb hK hP 3 2 rfl rfl rfl dX5_moveBehind_43 ?_
          refine lv_icmp_ge (tgt := 103) hx hb dX5_moveBehind_44 (by decide) (fun c_7 => ?_) (fun c_7 => ?_)
          ·
            have ic_7 : ((nm : Nat) : Int) ≤ ((i6 : Nat) : Int) := tx_le (nI_toInt (by omega)) (nI_toInt (by omega)) c_7
            refine lv_iinc (v := nI (i5 + 1)) (lv' := [(5, .int (nI (i5 + 1))), (6, .int (nI i6)), (4, .int (nI e5)), (3, .ref q_3), (2, .ref q_1), (0, .ref x0), (1, .ref m0)]) hx hb dX5_moveBehind_103 hl (k := 1) rfl (by rw [show Int32.ofInt 1 = nI 1 from rfl, nI_add]) (by decide) rfl (fun ls hl => ?_)
            refine lv_goto (tgt := 22) hx hb dX5_moveBehind_106 (by decide) ?_
            exact ihA (i5 := i5 + 1) (x5 := nI (i5 + 1)) (ex5 := rfl) (e4 := e5) (y4 := nI e5) (ey4 := rfl) (ls := ls) (fa := fc) (fb := fd) (H := H) (locs := locs) (hP := hP.sub (ws' := [(x0, .inr (5, [.ref k0, .ref w0, .int (nI nz), .int ch])), (k0, .inl (ck, L, .inl f)), (w0, .inl (cw, L, .inl g)), (m0, .inl (cm, nm, .inl mf)), (q_1, .inl (cA_2, L, .inl fc)), (q_3, .inl (cA_4, L, .inl fd))]) [0, 1, 2, 3, 4, 5] rfl) (hS := hS) (hD := hD.sub (ws' := [(x0, .inr (5, [.ref k0, .ref w0, .int (nI nz), .int ch])), (k0, .inl (ck, L, .inl f)), (w0, .inl (cw, L, .inl g)), (m0, .inl (cm, nm, .inl mf)), (q_1, .inl (cA_2, L, .inl fc)), (q_3, .inl (cA_4, L, .inl fd))]) [0, 1, 2, 3, 4, 5] (by decide) rfl) (hi5 := by omega) (he4 := by omega) (hn5 := by omega) (hl := lv_sub hl [0, 2, 3, 4, 5, 6] rfl)
          ·
            have ic_7 : ((i6 : Nat) : Int) < ((nm : Nat) : Int) := tx_nle (nI_toInt (by omega)) (nI_toInt (by omega)) c_7
            refine lv_aload_n hx hb dX5_moveBehind_47 rfl (lv_at hl 6 rfl) ?_
            refine lv_iload hx hb dX5_moveBehind_48 (lv_at hl 0 rfl) ?_
            refine va_zald (i := nI i6) hx hb hK hP 3 2 rfl rfl (vp_in_nI (by omega) (by omega)) dX5_moveBehind_50 ?_
            refine W.eq (g2 := F0 m 51 ls [.int (mf i6)]) (by rw [nI_clamp (by omega)]) ?_
            refine lv_iload hx hb dX5_moveBehind_51 (lv_at hl 1 rfl) ?_
            refine lv_iconst (v := 1) hx hb dX5_moveBehind_53 (by decide) ?_
            refine lv_icmp_ne (tgt := 61) hx hb dX5_moveBehind_54 (by decide) (fun c_8 => ?_) (fun c_8 => ?_)
            ·
              have ic_8 : ¬ ((i5 : Nat) : Int) = 1 := tx_ne (nI_toInt (by omega)) (by decide) c_8
              refine lv_iconst (v := 0) hx hb dX5_moveBehind_61 (by decide) ?_
              refine lv_icmp_ne (tgt := 97) hx hb dX5_moveBehind_62 (by decide) (fun c_9 => ?_) (fun c_9 => ?_)
              ·
                have ic_9 : ¬ (mf i6).toInt = 0 := tx_ne rfl (by decide) c_9
                refine lv_iinc (v := nI (i6 + 1)) (lv' := [(6, .int (nI (i6 + 1))), (5, .int (nI i5)), (4, .int (nI e5)), (3, .ref q_3), (2, .ref q_1), (0, .ref x0), (1, .ref m0)]) hx hb dX5_moveBehind_97 hl (k := 0) rfl (by rw [show Int32.ofInt 1 = nI 1 from rfl, nI_add]) (by decide) rfl (fun ls hl => ?_)
                refine lv_goto (tgt := 31) hx hb dX5_moveBehind_100 (by decide) ?_
                exact ihB (i6 := i6 + 1) (x6 := nI (i6 + 1)) (ex6 := rfl) (e5 := e5) (y5 := nI e5) (ey5 := rfl) (ls := ls) (fc := fc) (fd := fd) (H := H) (locs := locs) (hP := hP.sub (ws' := [(x0, .inr (5, [.ref k0, .ref w0, .int (nI nz), .int ch])), (k0, .inl (ck, L, .inl f)), (w0, .inl (cw, L, .inl g)), (m0, .inl (cm, nm, .inl mf)), (q_1, .inl (cA_2, L, .inl fc)), (q_3, .inl (cA_4, L, .inl fd))]) [0, 1, 2, 3, 4, 5] rfl) (hS := hS) (hD := hD.sub (ws' := [(x0, .inr (5, [.ref k0, .ref w0, .int (nI nz), .int ch])), (k0, .inl (ck, L, .inl f)), (w0, .inl (cw, L, .inl g)), (m0, .inl (cm, nm, .inl mf)), (q_1, .inl (cA_2, L, .inl fc)), (q_3, .inl (cA_4, L, .inl fd))]) [0, 1, 2, 3, 4, 5] (by decide) rfl) (hi6 := by omega) (he5 := by omega) (hn6 := by omega) (hl := lv_sub hl [0, 1, 2, 3, 4, 5, 6] rfl)
              ·
                have ic_9 : (mf i6).toInt = 0 := tx_eq rfl (by decide) c_9
                refine lv_iload hx hb dX5_moveBehind_65 (lv_at hl 2 rfl) ?_
                refine lv_aload_n hx hb dX5_moveBehind_67 rfl (lv_at hl 4 rfl) ?_
                refine va_alen (v := nI L) hx hb hK hP 4 3 rfl rfl rfl dX5_moveBehind_68 ?_
                refine lv_icmp_ge (tgt := 97) hx hb dX5_moveBehind_69 (by decide) (fun c_10 => ?_) (fun c_10 => ?_)
                ·
                  have ic_10 : ((L : Nat) : Int) ≤ ((e5 : Nat) : Int) := tx_le (nI_toInt (by omega)) (nI_toInt (by omega)) c_10
                  refine lv_iinc (v := nI (i6 + 1)) (lv' := [(6, .int (nI (i6 + 1))), (5, .int (nI i5)), (4, .int (nI e5)), (3, .ref q_3), (2, .ref q_1), (0, .ref x0), (1, .ref m0)]) hx hb dX5_moveBehind_97 hl (k := 0) rfl (by rw [show Int32.ofInt 1 = nI 1 from rfl, nI_add]) (by decide) rfl (fun ls hl => ?_)
                  refine lv_goto (tgt := 31) hx hb dX5_moveBehind_100 (by decide) ?_
                  exact ihB (i6 := i6 + 1) (x6 := nI (i6 + 1)) (ex6 := rfl) (e5 := e5) (y5 := nI e5) (ey5 := rfl) (ls := ls) (fc := fc) (fd := fd) (H := H) (locs := locs) (hP := hP.sub (ws' := [(x0, .inr (5, [.ref k0, .ref w0, .int (nI nz), .int ch])), (k0, .inl (ck, L, .inl f)), (w0, .inl (cw, L, .inl g)), (m0, .inl (cm, nm, .inl mf)), (q_1, .inl (cA_2, L, .inl fc)), (q_3, .inl (cA_4, L, .inl fd))]) [0, 1, 2, 3, 4, 5] rfl) (hS := hS) (hD := hD.sub (ws' := [(x0, .inr (5, [.ref k0, .ref w0, .int (nI nz), .int ch])), (k0, .inl (ck, L, .inl f)), (w0, .inl (cw, L, .inl g)), (m0, .inl (cm, nm, .inl mf)), (q_1, .inl (cA_2, L, .inl fc)), (q_3, .inl (cA_4, L, .inl fd))]) [0, 1, 2, 3, 4, 5] (by decide) rfl) (hi6 := by omega) (he5 := by omega) (hn6 := by omega) (hl := lv_sub hl [0, 1, 2, 3, 4, 5, 6] rfl)
                ·
                  have ic_10 : ((e5 : Nat) : Int) < ((L : Nat) : Int) := tx_nle (nI_toInt (by omega)) (nI_toInt (by omega)) c_10
                  refine lv_aload_n hx hb dX5_moveBehind_72 rfl (lv_at hl 4 rfl) ?_
                  refine lv_iload hx hb dX5_moveBehind_73 (lv_at hl 2 rfl) ?_
                  refine lv_aload_n hx hb dX5_moveBehind_75 rfl (lv_at hl 5 rfl) ?_
                  refine va_get (D := (dC, dI)) (ci := 5) (v := .ref k0) (C := RX5) (T := TX5) (N := 4) hx hb hts hi0_ hown hK hP 0 rfl rfl 0 (by decide) hw0_ (fun _ h9 => h9) rfl dX5_moveBehind_76 ?_
                  refine lv_iload hx hb dX5_moveBehind_79 (lv_at hl 0 rfl) ?_
                  refine va_iald (i := nI i6) hx hb hK hP 1 0 rfl rfl (vp_in_nI (by omega) (by omega)) dX5_moveBehind_81 ?_
                  refine W.eq (g2 := F0 m 82 ls [.int (f i6), .int (nI e5), .ref q_1]) (by rw [nI_clamp (by omega)]) ?_
                  refine va_iast (i := nI e5) hx hb hK hP hD hS 4 3 rfl rfl (vp_in_nI (by omega) (by omega)) dX5_moveBehind_82 (fun H locs hP hD hS => ?_)
                  rw [nI_clamp (by omega)] at hP hD
                  replace hP : va_P (dC, dI) vwCl [(x0, .inr (5, [.ref k0, .ref w0, .int (nI nz), .int ch])), (k0, .inl (ck, L, .inl f)), (w0, .inl (cw, L, .inl g)), (m0, .inl (cm, nm, .inl mf)), (q_1, .inl (cA_2, L, .inl (upd fc e5 (f i6)))), (q_3, .inl (cA_4, L, .inl fd))] H := hP
                  replace hD : va_D A [(x0, .inr (5, [.ref k0, .ref w0, .int (nI nz), .int ch])), (k0, .inl (ck, L, .inl f)), (w0, .inl (cw, L, .inl g)), (m0, .inl (cm, nm, .inl mf)), (q_1, .inl (cA_2, L, .inl (upd fc e5 (f i6)))), (q_3, .inl (cA_4, L, .inl fd))] := hD
                  refine lv_aload_n hx hb dX5_moveBehind_83 rfl (lv_at hl 3 rfl) ?_
                  refine lv_iload hx hb dX5_moveBehind_84 (lv_at hl 2 rfl) ?_
                  refine lv_aload_n hx hb dX5_moveBehind_86 rfl (lv_at hl 5 rfl) ?_
                  refine va_get (D := (dC, dI)) (ci := 5) (v := .ref w0) (C := RX5) (T := TX5) (N := 4) hx hb hts hi0_ hown hK hP 0 rfl rfl 1 (by decide) hw2_ (fun _ h9 => h9) rfl dX5_moveBehind_87 ?_
                  refine lv_iload hx hb dX5_moveBehind_90 (lv_at hl 0 rfl) ?_
                  refine va_iald (i := nI i6) hx hb hK hP 2 1 rfl rfl (vp_in_nI (by omega) (by omega)) dX5_moveBehind_92 ?_
                  refine W.eq (g2 := F0 m 93 ls [.int (g i6), .int (nI e5), .ref q_3]) (by rw [nI_clamp (by omega)]) ?_
                  refine va_iast (i := nI e5) hx hb hK hP hD hS 5 4 rfl rfl (vp_in_nI (by omega) (by omega)) dX5_moveBehind_93 (fun H locs hP hD hS => ?_)
                  rw [nI_clamp (by omega)] at hP hD
                  replace hP : va_P (dC, dI) vwCl [(x0, .inr (5, [.ref k0, .ref w0, .int (nI nz), .int ch])), (k0, .inl (ck, L, .inl f)), (w0, .inl (cw, L, .inl g)), (m0, .inl (cm, nm, .inl mf)), (q_1, .inl (cA_2, L, .inl (upd fc e5 (f i6)))), (q_3, .inl (cA_4, L, .inl (upd fd e5 (g i6))))] H := hP
                  replace hD : va_D A [(x0, .inr (5, [.ref k0, .ref w0, .int (nI nz), .int ch])), (k0, .inl (ck, L, .inl f)), (w0, .inl (cw, L, .inl g)), (m0, .inl (cm, nm, .inl mf)), (q_1, .inl (cA_2, L, .inl (upd fc e5 (f i6)))), (q_3, .inl (cA_4, L, .inl (upd fd e5 (g i6))))] := hD
                  refine lv_iinc (v := nI (e5 + 1)) (lv' := [(4, .int (nI (e5 + 1))), (6, .int (nI i6)), (5, .int (nI i5)), (3, .ref q_3), (2, .ref q_1), (0, .ref x0), (1, .ref m0)]) hx hb dX5_moveBehind_94 hl (k := 2) rfl (by rw [show Int32.ofInt 1 = nI 1 from rfl, nI_add]) (by decide) rfl (fun ls hl => ?_)
                  refine lv_iinc (v := nI (i6 + 1)) (lv' := [(6, .int (nI (i6 + 1))), (4, .int (nI (e5 + 1))), (5, .int (nI i5)), (3, .ref q_3), (2, .ref q_1), (0, .ref x0), (1, .ref m0)]) hx hb dX5_moveBehind_97 hl (k := 1) rfl (by rw [show Int32.ofInt 1 = nI 1 from rfl, nI_add]) (by decide) rfl (fun ls hl => ?_)
                  refine lv_goto (tgt := 31) hx hb dX5_moveBehind_100 (by decide) ?_
                  exact ihB (i6 := i6 + 1) (x6 := nI (i6 + 1)) (ex6 := rfl) (e5 := e5 + 1) (y5 := nI (e5 + 1)) (ey5 := rfl) (ls := ls) (fc := (upd fc e5 (f i6))) (fd := (upd fd e5 (g i6))) (H := H) (locs := locs) (hP := hP.sub (ws' := [(x0, .inr (5, [.ref k0, .ref w0, .int (nI nz), .int ch])), (k0, .inl (ck, L, .inl f)), (w0, .inl (cw, L, .inl g)), (m0, .inl (cm, nm, .inl mf)), (q_1, .inl (cA_2, L, .inl (upd fc e5 (f i6)))), (q_3, .inl (cA_4, L, .inl (upd fd e5 (g i6))))]) [0, 1, 2, 3, 4, 5] rfl) (hS := hS) (hD := hD.sub (ws' := [(x0, .inr (5, [.ref k0, .ref w0, .int (nI nz), .int ch])), (k0, .inl (ck, L, .inl f)), (w0, .inl (cw, L, .inl g)), (m0, .inl (cm, nm, .inl mf)), (q_1, .inl (cA_2, L, .inl (upd fc e5 (f i6)))), (q_3, .inl (cA_4, L, .inl (upd fd e5 (g i6))))]) [0, 1, 2, 3, 4, 5] (by decide) rfl) (hi6 := by omega) (he5 := by omega) (hn6 := by omega) (hl := lv_sub hl [0, 2, 1, 3, 4, 5, 6] rfl)
            ·
              have ic_8 : ((i5 : Nat) : Int) = 1 := tx_eq (nI_toInt (by omega)) (by decide) c_8
              refine lv_iconst (v := 1) hx hb dX5_moveBehind_57 (by decide) ?_
              refine lv_goto (tgt := 62) hx hb dX5_moveBehind_58 (by decide) ?_
              refine lv_icmp_ne (tgt := 97) hx hb dX5_moveBehind_62 (by decide) (fun c_11 => ?_) (fun c_11 => ?_)
              ·
                have ic_11 : ¬ (mf i6).toInt = 1 := tx_ne rfl (by decide) c_11
                refine lv_iinc (v := nI (i6 + 1)) (lv' := [(6, .int (nI (i6 + 1))), (5, .int (nI i5)), (4, .int (nI e5)), (3, .ref q_3), (2, .ref q_1), (0, .ref x0), (1, .ref m0)]) hx hb dX5_moveBehind_97 hl (k := 0) rfl (by rw [show Int32.ofInt 1 = nI 1 from rfl, nI_add]) (by decide) rfl (fun ls hl => ?_)
                refine lv_goto (tgt := 31) hx hb dX5_moveBehind_100 (by decide) ?_
                exact ihB (i6 := i6 + 1) (x6 := nI (i6 + 1)) (ex6 := rfl) (e5 := e5) (y5 := nI e5) (ey5 := rfl) (ls := ls) (fc := fc) (fd := fd) (H := H) (locs := locs) (hP := hP.sub (ws' := [(x0, .inr (5, [.ref k0, .ref w0, .int (nI nz), .int ch])), (k0, .inl (ck, L, .inl f)), (w0, .inl (cw, L, .inl g)), (m0, .inl (cm, nm, .inl mf)), (q_1, .inl (cA_2, L, .inl fc)), (q_3, .inl (cA_4, L, .inl fd))]) [0, 1, 2, 3, 4, 5] rfl) (hS := hS) (hD := hD.sub (ws' := [(x0, .inr (5, [.ref k0, .ref w0, .int (nI nz), .int ch])), (k0, .inl (ck, L, .inl f)), (w0, .inl (cw, L, .inl g)), (m0, .inl (cm, nm, .inl mf)), (q_1, .inl (cA_2, L, .inl fc)), (q_3, .inl (cA_4, L, .inl fd))]) [0, 1, 2, 3, 4, 5] (by decide) rfl) (hi6 := by omega) (he5 := by omega) (hn6 := by omega) (hl := lv_sub hl [0, 1, 2, 3, 4, 5, 6] rfl)
              ·
                have ic_11 : (mf i6).toInt = 1 := tx_eq rfl (by decide) c_11
                refine lv_iload hx hb dX5_moveBehind_65 (lv_at hl 2 rfl) ?_
                refine lv_aload_n hx hb dX5_moveBehind_67 rfl (lv_at hl 4 rfl) ?_
                refine va_alen (v := nI L) hx hb hK hP 4 3 rfl rfl rfl dX5_moveBehind_68 ?_
                refine lv_icmp_ge (tgt := 97) hx hb dX5_moveBehind_69 (by decide) (fun c_12 => ?_) (fun c_12 => ?_)
                ·
                  have ic_12 : ((L : Nat) : Int) ≤ ((e5 : Nat) : Int) := tx_le (nI_toInt (by omega)) (nI_toInt (by omega)) c_12
                  refine lv_iinc (v := nI (i6 + 1)) (lv' := [(6, .int (nI (i6 + 1))), (5, .int (nI i5)), (4, .int (nI e5)), (3, .ref q_3), (2, .ref q_1), (0, .ref x0), (1, .ref m0)]) hx hb dX5_moveBehind_97 hl (k := 0) rfl (by rw [show Int32.ofInt 1 = nI 1 from rfl, nI_add]) (by decide) rfl (fun ls hl => ?_)
                  refine lv_goto (tgt := 31) hx hb dX5_moveBehind_100 (by decide) ?_
                  exact ihB (i6 := i6 + 1) (x6 := nI (i6 + 1)) (ex6 := rfl) (e5 := e5) (y5 := nI e5) (ey5 := rfl) (ls := ls) (fc := fc) (fd := fd) (H := H) (locs := locs) (hP := hP.sub (ws' := [(x0, .inr (5, [.ref k0, .ref w0, .int (nI nz), .int ch])), (k0, .inl (ck, L, .inl f)), (w0, .inl (cw, L, .inl g)), (m0, .inl (cm, nm, .inl mf)), (q_1, .inl (cA_2, L, .inl fc)), (q_3, .inl (cA_4, L, .inl fd))]) [0, 1, 2, 3, 4, 5] rfl) (hS := hS) (hD := hD.sub (ws' := [(x0, .inr (5, [.ref k0, .ref w0, .int (nI nz), .int ch])), (k0, .inl (ck, L, .inl f)), (w0, .inl (cw, L, .inl g)), (m0, .inl (cm, nm, .inl mf)), (q_1, .inl (cA_2, L, .inl fc)), (q_3, .inl (cA_4, L, .inl fd))]) [0, 1, 2, 3, 4, 5] (by decide) rfl) (hi6 := by omega) (he5 := by omega) (hn6 := by omega) (hl := lv_sub hl [0, 1, 2, 3, 4, 5, 6] rfl)
                ·
                  have ic_12 : ((e5 : Nat) : Int) < ((L : Nat) : Int) := tx_nle (nI_toInt (by omega)) (nI_toInt (by omega)) c_12
                  refine lv_aload_n hx hb dX5_moveBehind_72 rfl (lv_at hl 4 rfl) ?_
                  refine lv_iload hx hb dX5_moveBehind_73 (lv_at hl 2 rfl) ?_
                  refine lv_aload_n hx hb dX5_moveBehind_75 rfl (lv_at hl 5 rfl) ?_
                  refine va_get (D := (dC, dI)) (ci := 5) (v := .ref k0) (C := RX5) (T := TX5) (N := 4) hx hb hts hi0_ hown hK hP 0 rfl rfl 0 (by decide) hw0_ (fun _ h9 => h9) rfl dX5_moveBehind_76 ?_
                  refine lv_iload hx hb dX5_moveBehind_79 (lv_at hl 0 rfl) ?_
                  refine va_iald (i := nI i6) hx hb hK hP 1 0 rfl rfl (vp_in_nI (by omega) (by omega)) dX5_moveBehind_81 ?_
                  refine W.eq (g2 := F0 m 82 ls [.int (f i6), .int (nI e5), .ref q_1]) (by rw [nI_clamp (by omega)]) ?_
                  refine va_iast (i := nI e5) hx hb hK hP hD hS 4 3 rfl rfl (vp_in_nI (by omega) (by omega)) dX5_moveBehind_82 (fun H locs hP hD hS => ?_)
                  rw [nI_clamp (by omega)] at hP hD
                  replace hP : va_P (dC, dI) vwCl [(x0, .inr (5, [.ref k0, .ref w0, .int (nI nz), .int ch])), (k0, .inl (ck, L, .inl f)), (w0, .inl (cw, L, .inl g)), (m0, .inl (cm, nm, .inl mf)), (q_1, .inl (cA_2, L, .inl (upd fc e5 (f i6)))), (q_3, .inl (cA_4, L, .inl fd))] H := hP
                  replace hD : va_D A [(x0, .inr (5, [.ref k0, .ref w0, .int (nI nz), .int ch])), (k0, .inl (ck, L, .inl f)), (w0, .inl (cw, L, .inl g)), (m0, .inl (cm, nm, .inl mf)), (q_1, .inl (cA_2, L, .inl (upd fc e5 (f i6)))), (q_3, .inl (cA_4, L, .inl fd))] := hD
                  refine lv_aload_n hx hb dX5_moveBehind_83 rfl (lv_at hl 3 rfl) ?_
                  refine lv_iload hx hb dX5_moveBehind_84 (lv_at hl 2 rfl) ?_
                  refine lv_aload_n hx hb dX5_moveBehind_86 rfl (lv_at hl 5 rfl) ?_
                  refine va_get (D := (dC, dI)) (ci := 5) (v := .ref w0) (C := RX5) (T := TX5) (N := 4) hx hb hts hi0_ hown hK hP 0 rfl rfl 1 (by decide) hw2_ (fun _ h9 => h9) rfl dX5_moveBehind_87 ?_
                  refine lv_iload hx hb dX5_moveBehind_90 (lv_at hl 0 rfl) ?_
                  refine va_iald (i := nI i6) hx hb hK hP 2 1 rfl rfl (vp_in_nI (by omega) (by omega)) dX5_moveBehind_92 ?_
                  refine W.eq (g2 := F0 m 93 ls [.int (g i6), .int (nI e5), .ref q_3]) (by rw [nI_clamp (by omega)]) ?_
                  refine va_iast (i := nI e5) hx hb hK hP hD hS 5 4 rfl rfl (vp_in_nI (by omega) (by omega)) dX5_moveBehind_93 (fun H locs hP hD hS => ?_)
                  rw [nI_clamp (by omega)] at hP hD
                  replace hP : va_P (dC, dI) vwCl [(x0, .inr (5, [.ref k0, .ref w0, .int (nI nz), .int ch])), (k0, .inl (ck, L, .inl f)), (w0, .inl (cw, L, .inl g)), (m0, .inl (cm, nm, .inl mf)), (q_1, .inl (cA_2, L, .inl (upd fc e5 (f i6)))), (q_3, .inl (cA_4, L, .inl (upd fd e5 (g i6))))] H := hP
                  replace hD : va_D A [(x0, .inr (5, [.ref k0, .ref w0, .int (nI nz), .int ch])), (k0, .inl (ck, L, .inl f)), (w0, .inl (cw, L, .inl g)), (m0, .inl (cm, nm, .inl mf)), (q_1, .inl (cA_2, L, .inl (upd fc e5 (f i6)))), (q_3, .inl (cA_4, L, .inl (upd fd e5 (g i6))))] := hD
                  refine lv_iinc (v := nI (e5 + 1)) (lv' := [(4, .int (nI (e5 + 1))), (6, .int (nI i6)), (5, .int (nI i5)), (3, .ref q_3), (2, .ref q_1), (0, .ref x0), (1, .ref m0)]) hx hb dX5_moveBehind_94 hl (k := 2) rfl (by rw [show Int32.ofInt 1 = nI 1 from rfl, nI_add]) (by decide) rfl (fun ls hl => ?_)
                  refine lv_iinc (v := nI (i6 + 1)) (lv' := [(6, .int (nI (i6 + 1))), (4, .int (nI (e5 + 1))), (5, .int (nI i5)), (3, .ref q_3), (2, .ref q_1), (0, .ref x0), (1, .ref m0)]) hx hb dX5_moveBehind_97 hl (k := 1) rfl (by rw [show Int32.ofInt 1 = nI 1 from rfl, nI_add]) (by decide) rfl (fun ls hl => ?_)
                  refine lv_goto (tgt := 31) hx hb dX5_moveBehind_100 (by decide) ?_
                  exact ihB (i6 := i6 + 1) (x6 := nI (i6 + 1)) (ex6 := rfl) (e5 := e5 + 1) (y5 := nI (e5 + 1)) (ey5 := rfl) (ls := ls) (fc := (upd fc e5 (f i6))) (fd := (upd fd e5 (g i6))) (H := H) (locs := locs) (hP := hP.sub (ws' := [(x0, .inr (5, [.ref k0, .ref w0, .int (nI nz), .int ch])), (k0, .inl (ck, L, .inl f)), (w0, .inl (cw, L, .inl g)), (m0, .inl (cm, nm, .inl mf)), (q_1, .inl (cA_2, L, .inl (upd fc e5 (f i6)))), (q_3, .inl (cA_4, L, .inl (upd fd e5 (g i6))))]) [0, 1, 2, 3, 4, 5] rfl) (hS := hS) (hD := hD.sub (ws' := [(x0, .inr (5, [.ref k0, .ref w0, .int (nI nz), .int ch])), (k0, .inl (ck, L, .inl f)), (w0, .inl (cw, L, .inl g)), (m0, .inl (cm, nm, .inl mf)), (q_1, .inl (cA_2, L, .inl (upd fc e5 (f i6)))), (q_3, .inl (cA_4, L, .inl (upd fd e5 (g i6))))]) [0, 1, 2, 3, 4, 5] (by decide) rfl) (hi6 := by omega) (he5 := by omega) (hn6 := by omega) (hl := lv_sub hl [0, 2, 1, 3, 4, 5, 6] rfl)
