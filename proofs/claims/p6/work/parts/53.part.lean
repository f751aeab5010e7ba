theorem dX6_part_104 : decode cX6_part 104 = .ok (.aload_n 0, 1) := by decide +kernel
theorem dX6_part_105 : decode cX6_part 105 = .ok (.getfield 28, 3) := by decide +kernel
theorem dX6_part_108 : decode cX6_part 108 = .ok (.lload 5, 2) := by decide +kernel
theorem dX6_part_110 : decode cX6_part 110 = .ok (.invokestatic 45, 3) := by decide +kernel
theorem dX6_part_113 : decode cX6_part 113 = .ok (.lstore 9, 2) := by decide +kernel
theorem dX6_part_115 : decode cX6_part 115 = .ok (.lload 9, 2) := by decide +kernel
theorem dX6_part_117 : decode cX6_part 117 = .ok (.aload_n 0, 1) := by decide +kernel
theorem dX6_part_118 : decode cX6_part 118 = .ok (.getfield 34, 3) := by decide +kernel
theorem dX6_part_121 : decode cX6_part 121 = .ok (.lload 7, 2) := by decide +kernel
theorem dX6_part_123 : decode cX6_part 123 = .ok (.invokestatic 51, 3) := by decide +kernel
theorem dX6_part_126 : decode cX6_part 126 = .ok (.invokestatic 45, 3) := by decide +kernel
theorem dX6_part_129 : decode cX6_part 129 = .ok (.lstore 11, 2) := by decide +kernel
theorem dX6_part_131 : decode cX6_part 131 = .ok (.new 17, 3) := by decide +kernel
theorem dX6_part_134 : decode cX6_part 134 = .ok (.dup, 1) := by decide +kernel
theorem dX6_part_135 : decode cX6_part 135 = .ok (.iload_n 1, 1) := by decide +kernel
theorem dX6_part_136 : decode cX6_part 136 = .ok (.aload_n 0, 1) := by decide +kernel
theorem dX6_part_137 : decode cX6_part 137 = .ok (.aload_n 0, 1) := by decide +kernel
theorem dX6_part_138 : decode cX6_part 138 = .ok (.getfield 22, 3) := by decide +kernel
theorem dX6_part_141 : decode cX6_part 141 = .ok (.iload_n 2, 1) := by decide +kernel
theorem dX6_part_142 : decode cX6_part 142 = .ok (.iconst 4, 1) := by decide +kernel
theorem dX6_part_143 : decode cX6_part 143 = .ok (.if_icmp .ne 7, 3) := by decide +kernel
theorem dX6_part_150 : decode cX6_part 150 = .ok (.iconst 0, 1) := by decide +kernel
theorem dX6_part_151 : decode cX6_part 151 = .ok (.if_icmp .eq 7, 3) := by decide +kernel
theorem dX6_part_158 : decode cX6_part 158 = .ok (.iconst 0, 1) := by decide +kernel
theorem dX6_part_159 : decode cX6_part 159 = .ok (.lload 9, 2) := by decide +kernel
theorem dX6_part_161 : decode cX6_part 161 = .ok (.lload 11, 2) := by decide +kernel
set_option maxRecDepth 20000 in
theorem ggX6_part_X6_init_ : GoodIn wsX6_part wsX6_init_ := goodIn_r _ [37, 38, 39, 24, 3, 4, 9, 40, 41, 42, 43, 44, 45, 46, 47, 48, 49, 50, 51, 52, 53, 61, 62, 63, 64, 65, 66, 67, 68, 69, 70, 71, 72, 54, 55, 56, 57, 58, 59, 60, 73, 74, 75, 76, 77, 78] rfl (by decide +kernel)
set_option maxRecDepth 20000 in
theorem gX6_part_X6_init_ : GoodIn wsX6_part (wsX6_init_) := ggX6_part_X6_init_
theorem dX6_part_163 : decode cX6_part 163 = .ok (.invokespecial 54, 3) := by decide +kernel
theorem dX6_part_166 : decode cX6_part 166 = .ok (.areturn, 1) := by decide +kernel
theorem dX6_part_154 : decode cX6_part 154 = .ok (.iconst 1, 1) := by decide +kernel
theorem dX6_part_155 : decode cX6_part 155 = .ok (.goto 4, 3) := by decide +kernel
theorem dX6_part_146 : decode cX6_part 146 = .ok (.iconst 1, 1) := by decide +kernel
theorem dX6_part_147 : decode cX6_part 147 = .ok (.goto 4, 3) := by decide +kernel
theorem dX6_part_0 : decode cX6_part 0 = .ok (.iload_n 2, 1) := by decide +kernel
theorem dX6_part_1 : decode cX6_part 1 = .ok (.iconst 1, 1) := by decide +kernel
theorem dX6_part_2 : decode cX6_part 2 = .ok (.if_icmp .eq 8, 3) := by decide +kernel
theorem dX6_part_10 : decode cX6_part 10 = .ok (.aload_n 0, 1) := by decide +kernel
theorem dX6_part_11 : decode cX6_part 11 = .ok (.iload_n 3, 1) := by decide +kernel
set_option maxRecDepth 20000 in
theorem ggX6_part_X6_edge : GoodIn wsX6_part wsX6_edge := goodIn_r _ [19, 3, 20, 21, 22, 15, 23, 24, 25, 26, 27, 28, 29, 7, 30, 31, 32, 33, 34, 54, 55, 56, 57, 58, 59, 60] rfl (by decide +kernel)
set_option maxRecDepth 20000 in
theorem gX6_part_X6_edge : GoodIn wsX6_part (wsV RX6 41 RX6 yX6_edge wsX6_edge) := goodIn_app (goodIn_of _ (by decide +kernel)) ggX6_part_X6_edge
theorem dX6_part_12 : decode cX6_part 12 = .ok (.invokevirtual 41, 3) := by decide +kernel
theorem dX6_part_15 : decode cX6_part 15 = .ok (.goto 6, 3) := by decide +kernel
theorem dX6_part_21 : decode cX6_part 21 = .ok (.lstore 5, 2) := by decide +kernel
theorem dX6_part_23 : decode cX6_part 23 = .ok (.iload_n 2, 1) := by decide +kernel
theorem dX6_part_24 : decode cX6_part 24 = .ok (.iconst 1, 1) := by decide +kernel
theorem dX6_part_25 : decode cX6_part 25 = .ok (.if_icmp .ne 12, 3) := by decide +kernel
theorem dX6_part_28 : decode cX6_part 28 = .ok (.aload_n 0, 1) := by decide +kernel
theorem dX6_part_29 : decode cX6_part 29 = .ok (.iload 4, 2) := by decide +kernel
theorem dX6_part_31 : decode cX6_part 31 = .ok (.invokevirtual 41, 3) := by decide +kernel
theorem dX6_part_34 : decode cX6_part 34 = .ok (.goto 19, 3) := by decide +kernel
theorem dX6_part_53 : decode cX6_part 53 = .ok (.lstore 7, 2) := by decide +kernel
theorem dX6_part_55 : decode cX6_part 55 = .ok (.aload_n 0, 1) := by decide +kernel
theorem dX6_part_56 : decode cX6_part 56 = .ok (.getfield 22, 3) := by decide +kernel
theorem dX6_part_59 : decode cX6_part 59 = .ok (.ifCond .eq 45, 3) := by decide +kernel
theorem dX6_part_62 : decode cX6_part 62 = .ok (.lload 5, 2) := by decide +kernel
theorem dX6_part_64 : decode cX6_part 64 = .ok (.lstore 9, 2) := by decide +kernel
theorem dX6_part_66 : decode cX6_part 66 = .ok (.lload 7, 2) := by decide +kernel
theorem dX6_part_68 : decode cX6_part 68 = .ok (.ldc2_w 32, 3) := by decide +kernel
theorem dX6_part_71 : decode cX6_part 71 = .ok (.lcmp, 1) := by decide +kernel
theorem dX6_part_72 : decode cX6_part 72 = .ok (.ifCond .ne 9, 3) := by decide +kernel
theorem dX6_part_81 : decode cX6_part 81 = .ok (.lload 7, 2) := by decide +kernel
theorem dX6_part_83 : decode cX6_part 83 = .ok (.lstore 5, 2) := by decide +kernel
theorem dX6_part_85 : decode cX6_part 85 = .ok (.lload 9, 2) := by decide +kernel
theorem dX6_part_87 : decode cX6_part 87 = .ok (.ldc2_w 26, 3) := by decide +kernel
theorem dX6_part_90 : decode cX6_part 90 = .ok (.lcmp, 1) := by decide +kernel
theorem dX6_part_91 : decode cX6_part 91 = .ok (.ifCond .ne 9, 3) := by decide +kernel
theorem dX6_part_100 : decode cX6_part 100 = .ok (.lload 9, 2) := by decide +kernel
theorem dX6_part_102 : decode cX6_part 102 = .ok (.lstore 7, 2) := by decide +kernel
theorem dX6_part_94 : decode cX6_part 94 = .ok (.ldc2_w 32, 3) := by decide +kernel
theorem dX6_part_97 : decode cX6_part 97 = .ok (.goto 5, 3) := by decide +kernel
theorem dX6_part_75 : decode cX6_part 75 = .ok (.ldc2_w 26, 3) := by decide +kernel
theorem dX6_part_78 : decode cX6_part 78 = .ok (.goto 5, 3) := by decide +kernel
theorem dX6_part_5 : decode cX6_part 5 = .ok (.iload_n 2, 1) := by decide +kernel
theorem dX6_part_6 : decode cX6_part 6 = .ok (.iconst 3, 1) := by decide +kernel
theorem dX6_part_7 : decode cX6_part 7 = .ok (.if_icmp .ne 11, 3) := by decide +kernel
theorem dX6_part_18 : decode cX6_part 18 = .ok (.ldc2_w 26, 3) := by decide +kernel
theorem dX6_part_37 : decode cX6_part 37 = .ok (.iload_n 2, 1) := by decide +kernel
theorem dX6_part_38 : decode cX6_part 38 = .ok (.iconst 2, 1) := by decide +kernel
theorem dX6_part_39 : decode cX6_part 39 = .ok (.if_icmp .ne 11, 3) := by decide +kernel
theorem dX6_part_50 : decode cX6_part 50 = .ok (.ldc2_w 32, 3) := by decide +kernel
theorem dX6_part_42 : decode cX6_part 42 = .ok (.aload_n 0, 1) := by decide +kernel
theorem dX6_part_43 : decode cX6_part 43 = .ok (.iload_n 3, 1) := by decide +kernel
theorem dX6_part_44 : decode cX6_part 44 = .ok (.invokevirtual 41, 3) := by decide +kernel
theorem dX6_part_47 : decode cX6_part 47 = .ok (.goto 6, 3) := by decide +kernel
set_option maxHeartbeats 4000000 in
set_option maxRecDepth 100000 in
/-- Sorted.part -/
theorem c_X6_part (l : Launch) (hlt : l.stackTraces = false) (dC : Nat → ClassId) (dI : Nat → Nat → Nat) (sz : Nat) (y0 : Nat) (kd : Int32) (wh : Int32) (od : Int32) (tu : Int32) (lo : Int64) (hi : Int64) (x0 : Nat) (k0 : Nat) (w0 : Nat) (ck : ClassId) (cw : ClassId) (L : Nat) (f : Nat → Int32) (g : Nat → Int32) (nz : Nat) (ch : Int32) (p0 : Int32) (p1 : Int32) (p2 : Int32) (p3 : Int32) (hR9 : rOK L nz) (ho1 : 0 ≤ od.toInt) (ho2 : od.toInt ≤ 3) (htu : tu.toInt = 0 ∨ tu.toInt = 1) : Met l yX6_part wsX6_part ({ frames := 4, cells := 1, slots := 7, locals := 130 }) (va_Pc [.ref y0, .int p0, .int p1, .int p2, .int p3] (pk_PreX (dC, dI) [(y0, .inr (6, [.ref x0, .int kd, .int wh, .int od, .int tu, .long lo, .long hi])), (x0, .inr (5, [.ref k0, .ref w0, .int (nI nz), .int ch])), (k0, .inl (ck, L, .inl f)), (w0, .inl (cw, L, .inl g))] [(ck, .int), (cw, .int)] sz)) (va_Qr (fun (u : Int32 × Int64 × Int64) => (u.1.toInt = 0 ∨ u.1.toInt = 1) ∧ (p1.toInt = 4 → (u.1.toInt = 0 ↔ ¬ tu.toInt = 0)) ∧ (¬ p1.toInt = 4 → (u.1.toInt = 0 ↔ tu.toInt = 0))) (fun (u : Int32 × Int64 × Int64) (a : Nat) (t : State) => va_P (dC, dI) vwCl [(y0, .inr (6, [.ref x0, .int kd, .int wh, .int od, .int tu, .long lo, .long hi])), (x0, .inr (5, [.ref k0, .ref w0, .int (nI nz), .int ch])), (k0, .inl (ck, L, .inl f)), (w0, .inl (cw, L, .inl g)), (a, .inr (6, [.ref x0, .int 3, .int p0, .int od, .int u.1, .long u.2.1, .long u.2.2]))] t.heap ∧ va_K (dC, dI) vwCl [(ck, .int), (cw, .int)] t ∧ va_D (va_A [(y0, .inr (6, [.ref x0, .int kd, .int wh, .int od, .int tu, .long lo, .long hi])), (x0, .inr (5, [.ref k0, .ref w0, .int (nI nz), .int ch])), (k0, .inl (ck, L, .inl f)), (w0, .inl (cw, L, .inl g))] sz) [(y0, .inr (6, [.ref x0, .int kd, .int wh, .int od, .int tu, .long lo, .long hi])), (x0, .inr (5, [.ref k0, .ref w0, .int (nI nz), .int ch])), (k0, .inl (ck, L, .inl f)), (w0, .inl (cw, L, .inl g)), (a, .inr (6, [.ref x0, .int 3, .int p0, .int od, .int u.1, .long u.2.1, .long u.2.2]))]) (va_A [(y0, .inr (6, [.ref x0, .int kd, .int wh, .int od, .int tu, .long lo, .long hi])), (x0, .inr (5, [.ref k0, .ref w0, .int (nI nz), .int ch])), (k0, .inl (ck, L, .inl f)), (w0, .inl (cw, L, .inl g))] sz)) 1 7 (va_A [(y0, .inr (6, [.ref x0, .int kd, .int wh, .int od, .int tu, .long lo, .long hi])), (x0, .inr (5, [.ref k0, .ref w0, .int (nI nz), .int ch])), (k0, .inl (ck, L, .inl f)), (w0, .inl (cw, L, .inl g))] sz) := by
  refine Met.ofW (cc := cX6_part) (maxL := 13) (ret := (some (.object "KeyAtlas$Sorted"))) (by decide) rfl ?_
  intro p e s m args below meth c s₁ B hml hv
  obtain ⟨rfl, hsz, hP, hK, hD0, hN, hZ⟩ := hv
  have hx := B.exec
  have hb := B.bytes
  have hr := B.returns
  have hts := atoms_spec (ws := wsX6_part) B.pre
  have hown : s.vm.findClass RX6 = some m.cls := findClass_of_methodNamed B.named
  have hlocks := B.notSynchronized
  subst hsz
  have hD := hD0.self (sz := s.heap.size)
  generalize hAe : va_A [(y0, .inr (6, [.ref x0, .int kd, .int wh, .int od, .int tu, .long lo, .long hi])), (x0, .inr (5, [.ref k0, .ref w0, .int (nI nz), .int ch])), (k0, .inl (ck, L, .inl f)), (w0, .inl (cw, L, .inl g))] s.heap.size = A at hZ hD ⊢
  have hA : ∀ q : Nat, s.heap.size ≤ q → A q := fun q h => by rw [← hAe]; exact Or.inr h
  have hS : va_S A s.heap s.heap [] := va_S.rf
  have hP : va_P (dC, dI) vwCl [(y0, .inr (6, [.ref x0, .int kd, .int wh, .int od, .int tu, .long lo, .long hi])), (x0, .inr (5, [.ref k0, .ref w0, .int (nI nz), .int ch])), (k0, .inl (ck, L, .inl f)), (w0, .inl (cw, L, .inl g))] s.heap := hP
  have hl := lv_entry ([.ref y0, .int p0, .int p1, .int p2, .int p3]) (n := 13) (Nat.le_of_ble_eq_true rfl)
  rw [lg_entry_eq]
  generalize (lg_sl ([.ref y0, .int p0, .int p1, .int p2, .int p3]) ++ List.replicate (13 - (lg_sl ([.ref y0, .int p0, .int p1, .int p2, .int p3])).length) Slot.unset).toArray = ls at hl ⊢
  have hl : lv_has ls 13 [(0, .ref y0), (1, .int p0), (2, .int p1), (3, .int p2), (4, .int p3)] := hl
  have hw0_ := hts (.fieldLink RX6 28 "KeyAtlas$Sorted" "low" "J") (List.mem_of_getElem? (l := wsX6_part) (i := 4) rfl)
  have hw1_ := hts (.methodLink RX6 45 Lib.MathLoose.max_long.x) (List.mem_of_getElem? (l := wsX6_part) (i := 5) rfl)
  have hw2_ := hts (.static Lib.MathLoose.max_long.x) (List.mem_of_getElem? (l := wsX6_part) (i := 6) rfl)
  have hw3_ := hts (.initialized "java/lang/Math") (List.mem_of_getElem? (l := wsX6_part) (i := 7) rfl)
  have hw4_ := hts (.fieldLink RX6 34 "KeyAtlas$Sorted" "high" "J") (List.mem_of_getElem? (l := wsX6_part) (i := 9) rfl)
  have hw5_ := hts (.methodLink RX6 51 Lib.MathLoose.min_long.x) (List.mem_of_getElem? (l := wsX6_part) (i := 10) rfl)
  have hw6_ := hts (.static Lib.MathLoose.min_long.x) (List.mem_of_getElem? (l := wsX6_part) (i := 11) rfl)
  have hw7_ := hts (.classLink RX6 17 RX6) (List.mem_of_getElem? (l := wsX6_part) (i := 13) rfl)
  have hw8_ := hts (.instantiable RX6 7) (List.mem_of_getElem? (l := wsX6_part) (i := 14) rfl)
  have hw9_ := hts (.initialized RX6) (List.mem_of_getElem? (l := wsX6_part) (i := 15) rfl)
  have hw10_ := hts (.fieldLink RX6 22 "KeyAtlas$Sorted" "isTurned" "Z") (List.mem_of_getElem? (l := wsX6_part) (i := 3) rfl)
  have hw11_ := hts (.methodLink RX6 54 yX6_init_) (List.mem_of_getElem? (l := wsX6_part) (i := 35) rfl)
  have hw12_ := hts (.instanceMethod yX6_init_) (List.mem_of_getElem? (l := wsX6_part) (i := 36) rfl)
  have hw13_ := hts (.constantLong RX6 32 (9223372036854775807)) (List.mem_of_getElem? (l := wsX6_part) (i := 2) rfl)
  have hw14_ := hts (.constantLong RX6 26 (-9223372036854775808)) (List.mem_of_getElem? (l := wsX6_part) (i := 1) rfl)
  have hi0_ : ∀ w ∈ u_ws RX6 TX6 7, w ∈ wsX6_part := fun w h => List.mem_cons_of_mem _ (List.mem_append_left _ (List.mem_append_left _ (List.mem_append_left _ (List.mem_append_right _ h))))
  obtain ⟨hL1, hL2, hz1, hz2⟩ := id hR9
  obtain ⟨H, hH9⟩ : ∃ H : Heap, H = s.heap := ⟨_, rfl⟩
  obtain ⟨locs, hlo9⟩ : ∃ z : List Loc, z = [] := ⟨_, rfl⟩
  refine tx_hv hH9 hlo9 ?_
  have hP : va_P (dC, dI) vwCl [(y0, .inr (6, [.ref x0, .int kd, .int wh, .int od, .int tu, .long lo, .long hi])), (x0, .inr (5, [.ref k0, .ref w0, .int (nI nz), .int ch])), (k0, .inl (ck, L, .inl f)), (w0, .inl (cw, L, .inl g))] H := by rw [hH9]; exact hP
  have hS : va_S A s.heap H locs := by rw [hH9, hlo9]; exact hS
  clear hH9 hlo9
  refine w_join (α := Array Slot × Heap × List Loc × Int64 × Int64) (hh := fun jv => jv.2.1) (lc := fun jv => jv.2.2.1) (F := fun jv => F0 m 104 (jv.1) []) (Pre := fun jv => lv_has (jv.1) 13 [(5, .long jv.2.2.2.1), (7, .long jv.2.2.2.2), (0, .ref y0), (1, .int p0), (2, .int p1), (3, .int p2), (4, .int p3)] ∧ va_P (dC, dI) vwCl [(y0, .inr (6, [.ref x0, .int kd, .int wh, .int od, .int tu, .long lo, .long hi])), (x0, .inr (5, [.ref k0, .ref w0, .int (nI nz), .int ch])), (k0, .inl (ck, L, .inl f)), (w0, .inl (cw, L, .inl g))] (jv.2.1) ∧ va_S A s.heap (jv.2.1) (jv.2.2.1)) (fun jv ha9 => ?_) (fun jn104 => ?_)
  ·
    obtain ⟨ls, H, locs, fr9, to9⟩ := jv
    obtain ⟨hl, hP, hS⟩ := ha9
    replace hl : lv_has ls 13 [(5, .long fr9), (7, .long to9), (0, .ref y0), (1, .int p0), (2, .int p1), (3, .int p2), (4, .int p3)] := hl
    replace hP : va_P (dC, dI) vwCl [(y0, .inr (6, [.ref x0, .int kd, .int wh, .int od, .int tu, .long lo, .long hi])), (x0, .inr (5, [.ref k0, .ref w0, .int (nI nz), .int ch])), (k0, .inl (ck, L, .inl f)), (w0, .inl (cw, L, .inl g))] H := hP
    replace hS : va_S A s.heap H locs := hS
    show W p l e _ s m _ below meth c H locs _ _ _ (F0 m 104 ls [])
    refine lv_aload_n hx hb dX6_part_104 rfl (lv_at hl 2 rfl) ?_
    refine va_get (D := (dC, dI)) (ci := 6) (v := .long lo) (C := RX6) (T := TX6) (N := 7) hx hb hts hi0_ hown hK hP 0 rfl rfl 5 (by decide) hw0_ (fun _ h9 => h9) rfl dX6_part_105 ?_
    refine lv_lload hx hb dX6_part_108 (lv_at hl 0 rfl) ?_
    refine va_mmax_long hx hb (hml.trans hl.1.symm) hown hw1_ hw2_ hw3_ (hts (.code Lib.MathLoose.max_long.x Lib.MathLoose.max_long.code 4 (some .long)) (List.mem_of_getElem? (l := wsX6_part) (i := 8) rfl)) (Nat.le_of_ble_eq_true rfl) (Nat.le_of_ble_eq_true rfl) (Nat.le_of_ble_eq_true rfl) (Nat.le_of_ble_eq_true rfl) dX6_part_110 ?_
    refine W.eq (g2 := F0 m 113 ls [.long (if fr9 < lo then lo else fr9)]) rfl ?_
    refine lv_topl (fun zl_1 ezl_1 => ?_)
    refine lv_lstore (lv' := [(9, .long zl_1), (5, .long fr9), (7, .long to9), (0, .ref y0), (1, .int p0), (2, .int p1), (3, .int p2), (4, .int p3)]) hx hb dX6_part_113 hl (by decide) rfl (fun ls hl => ?_)
    refine lv_lload hx hb dX6_part_115 (lv_at hl 0 rfl) ?_
    refine lv_aload_n hx hb dX6_part_117 rfl (lv_at hl 3 rfl) ?_
    refine va_get (D := (dC, dI)) (ci := 6) (v := .long hi) (C := RX6) (T := TX6) (N := 7) hx hb hts hi0_ hown hK hP 0 rfl rfl 6 (by decide) hw4_ (fun _ h9 => h9) rfl dX6_part_118 ?_
    refine lv_lload hx hb dX6_part_121 (lv_at hl 2 rfl) ?_
    refine va_mmin_long hx hb (hml.trans hl.1.symm) hown hw5_ hw6_ hw3_ (hts (.code Lib.MathLoose.min_long.x Lib.MathLoose.min_long.code 4 (some .long)) (List.mem_of_getElem? (l := wsX6_part) (i := 12) rfl)) (Nat.le_of_ble_eq_true rfl) (Nat.le_of_ble_eq_true rfl) (Nat.le_of_ble_eq_true rfl) (Nat.le_of_ble_eq_true rfl) dX6_part_123 ?_
    refine W.eq (g2 := F0 m 126 ls [.long (if to9 < hi then to9 else hi), .long zl_1]) rfl ?_
    refine lv_topl (fun zl_2 ezl_2 => ?_)
    refine va_mmax_long hx hb (hml.trans hl.1.symm) hown hw1_ hw2_ hw3_ (hts (.code Lib.MathLoose.max_long.x Lib.MathLoose.max_long.code 4 (some .long)) (List.mem_of_getElem? (l := wsX6_part) (i := 8) rfl)) (Nat.le_of_ble_eq_true rfl) (Nat.le_of_ble_eq_true rfl) (Nat.le_of_ble_eq_true rfl) (Nat.le_of_ble_eq_true rfl) dX6_part_126 ?_
    refine W.eq (g2 := F0 m 129 ls [.long (if zl_2 < zl_1 then zl_1 else zl_2)]) rfl ?_
    refine lv_topl (fun zl_3 ezl_3 => ?_)
    refine lv_lstore (lv' := [(11, .long zl_3), (9, .long zl_1), (5, .long fr9), (7, .long to9), (0, .ref y0), (1, .int p0), (2, .int p1), (3, .int p2), (4, .int p3)]) hx hb dX6_part_129 hl (by decide) rfl (fun ls hl => ?_)
    refine va_new (ci := 6) (fs := [.null, .int 0, .int 0, .int 0, .int 0, .long 0, .long 0]) (C := RX6) (T := TX6) (N := 7) hx hb hts hi0_ tyX6 tyX6_ok hown hw7_ hw8_ hw9_ hK hP hD hS hA rfl (by decide +kernel) (Nat.le_of_ble_eq_true rfl) (Nat.le_of_ble_eq_true rfl) dX6_part_131 (fun q_4 H hP hD hS => ?_)
    replace hP : va_P (dC, dI) vwCl [(y0, .inr (6, [.ref x0, .int kd, .int wh, .int od, .int tu, .long lo, .long hi])), (x0, .inr (5, [.ref k0, .ref w0, .int (nI nz), .int ch])), (k0, .inl (ck, L, .inl f)), (w0, .inl (cw, L, .inl g)), (q_4, .inr (6, [.null, .int 0, .int 0, .int 0, .int 0, .long 0, .long 0]))] H := hP
    replace hD : va_D A [(y0, .inr (6, [.ref x0, .int kd, .int wh, .int od, .int tu, .long lo, .long hi])), (x0, .inr (5, [.ref k0, .ref w0, .int (nI nz), .int ch])), (k0, .inl (ck, L, .inl f)), (w0, .inl (cw, L, .inl g)), (q_4, .inr (6, [.null, .int 0, .int 0, .int 0, .int 0, .long 0, .long 0]))] := hD
    refine W.widen (k := 1) (n := 7) (Nat.le_of_ble_eq_true rfl) (Nat.le_of_ble_eq_true rfl) ?_
    refine lv_dup hx hb dX6_part_134 rfl ?_
    refine lv_iload_n hx hb dX6_part_135 rfl (lv_at hl 5 rfl) ?_
    refine lv_aload_n hx hb dX6_part_136 rfl (lv_at hl 4 rfl) ?_
    refine lv_aload_n hx hb dX6_part_137 rfl (lv_at hl 4 rfl) ?_
    refine va_get (D := (dC, dI)) (ci := 6) (v := .int tu) (C := RX6) (T := TX6) (N := 7) hx hb hts hi0_ hown hK hP 0 rfl rfl 4 (by decide) hw10_ (fun _ h9 => h9) rfl dX6_part_138 ?_
    refine lv_iload_n hx hb dX6_part_141 rfl (lv_at hl 6 rfl) ?_
    refine lv_iconst (v := 4) hx hb dX6_part_142 (by decide) ?_
    refine lv_icmp_ne (tgt := 150) hx hb dX6_part_143 (by decide) (fun c_5 => ?_) (fun c_5 => ?_)
    ·
      have ic_5 : ¬ p1.toInt = 4 := tx_ne rfl (by decide) c_5
      refine lv_iconst (v := 0) hx hb dX6_part_150 (by decide) ?_
      refine lv_icmp_eq (tgt := 158) hx hb dX6_part_151 (by decide) (fun c_6 => ?_) (fun c_6 => ?_)
      ·
        have ic_6 : tu.toInt = 0 := tx_eq rfl (by decide) c_6
        refine lv_iconst (v := 0) hx hb dX6_part_158 (by decide) ?_
        refine lv_lload hx hb dX6_part_159 (lv_at hl 1 rfl) ?_
        refine lv_lload hx hb dX6_part_161 (lv_at hl 0 rfl) ?_
        have hPc := hP.sub (ws' := [(q_4, .inr (6, [.null, .int 0, .int 0, .int 0, .int 0, .long 0, .long 0])), (y0, .inr (6, [.ref x0, .int kd, .int wh, .int od, .int tu, .long lo, .long hi]))]) [4, 0] rfl
        have hDc := hD.sub (ws' := [(q_4, .inr (6, [.null, .int 0, .int 0, .int 0, .int 0, .long 0, .long 0])), (y0, .inr (6, [.ref x0, .int kd, .int wh, .int od, .int tu, .long lo, .long hi]))]) [4, 0] (by decide) rfl
        have hKc := hK.sub (tys' := []) [] rfl
        have hFc := va_free (wc := [(q_4, .inr (6, [.null, .int 0, .int 0, .int 0, .int 0, .long 0, .long 0])), (y0, .inr (6, [.ref x0, .int kd, .int wh, .int od, .int tu, .long lo, .long hi]))]) hD hS hA [4, 0] rfl
        refine va_callv (va_runI (As := [.int p0, .ref y0, .int 0, .long zl_1, .long zl_3]) (rest := [.ref q_4]) ⟨hx, hb, hml, hown, hts⟩ (c_X6_init_ l  dC dI H.size q_4 y0 x0 kd wh od tu lo hi p0 0 zl_1 zl_3 (Or.inl rfl)) (cwI 5 hts gX6_part_X6_init_ rfl rfl rfl hw9_ hw11_ hw12_ rfl (by decide +kernel) ⟨(Nat.le_of_ble_eq_true rfl), (Nat.le_of_ble_eq_true rfl)⟩) ⟨pk_blind, pk_call hPc hKc hDc⟩ rfl rfl hl.1 rfl (lv_room (Nat.le_of_ble_eq_true rfl)) dX6_part_163 ⟨(Nat.le_of_ble_eq_true rfl), (Nat.le_of_ble_eq_true rfl)⟩) hS (fun q _ h => hFc q h) hFc (fun ur_7 t H1 locs ht hvm hw hB hz1 hk1 hS => ?_)
        try dsimp only at hw
        have jr_7 := hw
        obtain ⟨hP1, hK1, hD1⟩ := hB
        rw [ht] at hP1
        have hK1 := va_K.moved hvm.symm hK1
        obtain ⟨hP, hD⟩ := va_join (wr := [(x0, .inr (5, [.ref k0, .ref w0, .int (nI nz), .int ch])), (k0, .inl (ck, L, .inl f)), (w0, .inl (cw, L, .inl g))]) (w1 := [(q_4, .inr (6, [.ref x0, .int 3, .int p0, .int od, .int 0, .long zl_1, .long zl_3])), (y0, .inr (6, [.ref x0, .int kd, .int wh, .int od, .int tu, .long lo, .long hi]))]) hP hD [4, 0] [1, 2, 3] rfl rfl (by decide) (by decide) hk1 hFc hP1 hD1
        clear hk1 hz1 ht hPc hDc hKc hFc
        generalize H1 = H at hP hS ⊢
        replace hP : va_P (dC, dI) vwCl [(x0, .inr (5, [.ref k0, .ref w0, .int (nI nz), .int ch])), (k0, .inl (ck, L, .inl f)), (w0, .inl (cw, L, .inl g)), (q_4, .inr (6, [.ref x0, .int 3, .int p0, .int od, .int 0, .long zl_1, .long zl_3])), (y0, .inr (6, [.ref x0, .int kd, .int wh, .int od, .int tu, .long lo, .long hi]))] H := hP
        replace hD : va_D A [(x0, .inr (5, [.ref k0, .ref w0, .int (nI nz), .int ch])), (k0, .inl (ck, L, .inl f)), (w0, .inl (cw, L, .inl g)), (q_4, .inr (6, [.ref x0, .int 3, .int p0, .int od, .int 0, .long zl_1, .long zl_3])), (y0, .inr (6, [.ref x0, .int kd, .int wh, .int od, .int tu, .long lo, .long hi]))] := hD
        refine W.widen (k := 1) (n := 7) (Nat.le_of_ble_eq_true rfl) (Nat.le_of_ble_eq_true rfl) ?_
        refine W.eq (g2 := F0 m 166 ls [.ref q_4]) rfl ?_
        have hpost : ((0 : Int32).toInt = 0 ∨ (0 : Int32).toInt = 1) ∧ (p1.toInt = 4 → ((0 : Int32).toInt = 0 ↔ ¬ tu.toInt = 0)) ∧ (¬ p1.toInt = 4 → ((0 : Int32).toInt = 0 ↔ tu.toInt = 0)) := by rw [show (0 : Int32).toInt = 0 from rfl]; omega
        have hP9 := hP.sub (ws' := [(y0, .inr (6, [.ref x0, .int kd, .int wh, .int od, .int tu, .long lo, .long hi])), (x0, .inr (5, [.ref k0, .ref w0, .int (nI nz), .int ch])), (k0, .inl (ck, L, .inl f)), (w0, .inl (cw, L, .inl g)), (q_4, .inr (6, [.ref x0, .int 3, .int p0, .int od, .int 0, .long zl_1, .long zl_3]))]) [4, 0, 1, 2, 3] rfl
        have hD9 := hD.sub (ws' := [(y0, .inr (6, [.ref x0, .int kd, .int wh, .int od, .int tu, .long lo, .long hi])), (x0, .inr (5, [.ref k0, .ref w0, .int (nI nz), .int ch])), (k0, .inl (ck, L, .inl f)), (w0, .inl (cw, L, .inl g)), (q_4, .inr (6, [.ref x0, .int 3, .int p0, .int od, .int 0, .long zl_1, .long zl_3]))]) [4, 0, 1, 2, 3] (by decide) rfl
        have hK9 := hK.sub (tys' := [(ck, .int), (cw, .int)]) [0, 1] rfl
        refine W.widen (k := 1) (n := 7) (Nat.le_of_ble_eq_true rfl) (Nat.le_of_ble_eq_true rfl) ?_
        exact W.aret (v := .ref q_4) hx hb hr (Or.inl ⟨_, rfl⟩) (Or.inr ⟨_, rfl⟩) (fun t ht hW => ⟨⟨(0, zl_1, zl_3), q_4, rfl, hpost, by rw [ht]; exact hP9, va_K.moved hW.alike hK9, hD9⟩, hS.F ht⟩) hS.2.2 dX6_part_166
      ·
        have ic_6 : ¬ tu.toInt = 0 := tx_ne rfl (by decide) c_6
        refine lv_iconst (v := 1) hx hb dX6_part_154 (by decide) ?_
        refine lv_goto (tgt := 159) hx hb dX6_part_155 (by decide) ?_
        refine lv_lload hx hb dX6_part_159 (lv_at hl 1 rfl) ?_
        refine lv_lload hx hb dX6_part_161 (lv_at hl 0 rfl) ?_
        have hPc := hP.sub (ws' := [(q_4, .inr (6, [.null, .int 0, .int 0, .int 0, .int 0, .long 0, .long 0])), (y0, .inr (6, [.ref x0, .int kd, .int wh, .int od, .int tu, .long lo, .long hi]))]) [4, 0] rfl
        have hDc := hD.sub (ws' := [(q_4, .inr (6, [.null, .int 0, .int 0, .int 0, .int 0, .long 0, .long 0])), (y0, .inr (6, [.ref x0, .int kd, .int wh, .int od, .int tu, .long lo, .long hi]))]) [4, 0] (by decide) rfl
        have hKc := hK.sub (tys' := []) [] rfl
        have hFc := va_free (wc := [(q_4, .inr (6, [.null, .int 0, .int 0, .int 0, .int 0, .long 0, .long 0])), (y0, .inr (6, [.ref x0, .int kd, .int wh, .int od, .int tu, .long lo, .long hi]))]) hD hS hA [4, 0] rfl
        refine va_callv (va_runI (As := [.int p0, .ref y0, .int 1, .long zl_1, .long zl_3]) (rest := [.ref q_4]) ⟨hx, hb, hml, hown, hts⟩ (c_X6_init_ l  dC dI H.size q_4 y0 x0 kd wh od tu lo hi p0 1 zl_1 zl_3 (Or.inr rfl)) (cwI 5 hts gX6_part_X6_init_ rfl rfl rfl hw9_ hw11_ hw12_ rfl (by decide +kernel) ⟨(Nat.le_of_ble_eq_true rfl), (Nat.le_of_ble_eq_true rfl)⟩) ⟨pk_blind, pk_call hPc hKc hDc⟩ rfl rfl hl.1 rfl (lv_room (Nat.le_of_ble_eq_true rfl)) dX6_part_163 ⟨(Nat.le_of_ble_eq_true rfl), (Nat.le_of_ble_eq_true rfl)⟩) hS (fun q _ h => hFc q h) hFc (fun ur_8 t H1 locs ht hvm hw hB hz1 hk1 hS => ?_)
        try dsimp only at hw
        have jr_8 := hw
        obtain ⟨hP1, hK1, hD1⟩ := hB
        rw [ht] at hP1
        have hK1 := va_K.moved hvm.symm hK1
        obtain ⟨hP, hD⟩ := va_join (wr := [(x0, .inr (5, [.ref k0, .ref w0, .int (nI nz), .int ch])), (k0, .inl (ck, L, .inl f)), (w0, .inl (cw, L, .inl g))]) (w1 := [(q_4, .inr (6, [.ref x0, .int 3, .int p0, .int od, .int 1, .long zl_1, .long zl_3])), (y0, .inr (6, [.ref x0, .int kd, .int wh, .int od, .int tu, .long lo, .long hi]))]) hP hD [4, 0] [1, 2, 3] rfl rfl (by decide) (by decide) hk1 hFc hP1 hD1
        clear hk1 hz1 ht hPc hDc hKc hFc
        generalize H1 = H at hP hS ⊢
        replace hP : va_P (dC, dI) vwCl [(x0, .inr (5, [.ref k0, .ref w0, .int (nI nz), .int ch])), (k0, .inl (ck, L, .inl f)), (w0, .inl (cw, L, .inl g)), (q_4, .inr (6, [.ref x0, .int 3, .int p0, .int od, .int 1, .long zl_1, .long zl_3])), (y0, .inr (6, [.ref x0, .int kd, .int wh, .int od, .int tu, .long lo, .long hi]))] H := hP
        replace hD : va_D A [(x0, .inr (5, [.ref k0, .ref w0, .int (nI nz), .int ch])), (k0, .inl (ck, L, .inl f)), (w0, .inl (cw, L, .inl g)), (q_4, .inr (6, [.ref x0, .int 3, .int p0, .int od, .int 1, .long zl_1, .long zl_3])), (y0, .inr (6, [.ref x0, .int kd, .int wh, .int od, .int tu, .long lo, .long hi]))] := hD
        refine W.widen (k := 1) (n := 7) (Nat.le_of_ble_eq_true rfl) (Nat.le_of_ble_eq_true rfl) ?_
        refine W.eq (g2 := F0 m 166 ls [.ref q_4]) rfl ?_
        have hpost : ((1 : Int32).toInt = 0 ∨ (1 : Int32).toInt = 1) ∧ (p1.toInt = 4 → ((1 : Int32).toInt = 0 ↔ ¬ tu.toInt = 0)) ∧ (¬ p1.toInt = 4 → ((1 : Int32).toInt = 0 ↔ tu.toInt = 0)) := by rw [show (1 : Int32).toInt = 1 from rfl]; omega
        have hP9 := hP.sub (ws' := [(y0, .inr (6, [.ref x0, .int kd, .int wh, .int od, .int tu, .long lo, .long hi])), (x0, .inr (5, [.ref k0, .ref w0, .int (nI nz), .int ch])), (k0, .inl (ck, L, .inl f)), (w0, .inl (cw, L, .inl g)), (q_4, .inr (6, [.ref x0, .int 3, .int p0, .int od, .int 1, .long zl_1, .long zl_3]))]) [4, 0, 1, 2, 3] rfl
        have hD9 := hD.sub (ws' := [(y0, .inr (6, [.ref x0, .int kd, .int wh, .int od, .int tu, .long lo, .long hi])), (x0, .inr (5, [.ref k0, .ref w0, .int (nI nz), .int ch])), (k0, .inl (ck, L, .inl f)), (w0, .inl (cw, L, .inl g)), (q_4, .inr (6, [.ref x0, .int 3, .int p0, .int od, .int 1, .long zl_1, .long zl_3]))]) [4, 0, 1, 2, 3] (by decide) rfl
        have hK9 := hK.sub (tys' := [(ck, .int), (cw, .int)]) [0, 1] rfl
        refine W.widen (k := 1) (n := 7) (Nat.le_of_ble_eq_true rfl) (Nat.le_of_ble_eq_true rfl) ?_
        exact W.aret (v := .ref q_4) hx hb hr (Or.inl ⟨_, rfl⟩) (Or.inr ⟨_, rfl⟩) (fun t ht hW => ⟨⟨(1, zl_1, zl_3), q_4, rfl, hpost, by rw [ht]; exact hP9, va_K.moved hW.alike hK9, hD9⟩, hS.F ht⟩) hS.2.2 dX6_part_166
    ·
      have ic_5 : p1.toInt = 4 := tx_eq rfl (by decide) c_5
      refine lv_iconst (v := 1) hx hb dX6_part_146 (by decide) ?_
      refine lv_goto (tgt := 151) hx hb dX6_part_147 (by decide) ?_
      refine lv_icmp_eq (tgt := 158) hx hb dX6_part_151 (by decide) (fun c_9 => ?_) (fun c_9 => ?_)
      ·
        have ic_9 : tu.toInt = 1 := tx_eq rfl (by decide) c_9
        refine lv_iconst (v := 0) hx hb dX6_part_158 (by decide) ?_
        refine lv_lload hx hb dX6_part_159 (lv_at hl 1 rfl) ?_
        refine lv_lload hx hb dX6_part_161 (lv_at hl 0 rfl) ?_
        have hPc := hP.sub (ws' := [(q_4, .inr (6, [.null, .int 0, .int 0, .int 0, .int 0, .long 0, .long 0])), (y0, .inr (6, [.ref x0, .int kd, .int wh, .int od, .int tu, .long lo, .long hi]))]) [4, 0] rfl
        have hDc := hD.sub (ws' := [(q_4, .inr (6, [.null, .int 0, .int 0, .int 0, .int 0, .long 0, .long 0])), (y0, .inr (6, [.ref x0, .int kd, .int wh, .int od, .int tu, .long lo, .long hi]))]) [4, 0] (by decide) rfl
        have hKc := hK.sub (tys' := []) [] rfl
        have hFc := va_free (wc := [(q_4, .inr (6, [.null, .int 0, .int 0, .int 0, .int 0, .long 0, .long 0])), (y0, .inr (6, [.ref x0, .int kd, .int wh, .int od, .int tu, .long lo, .long hi]))]) hD hS hA [4, 0] rfl
        refine va_callv (va_runI (As := [.int p0, .ref y0, .int 0, .long zl_1, .long zl_3]) (rest := [.ref q_4]) ⟨hx, hb, hml, hown, hts⟩ (c_X6_init_ l  dC dI H.size q_4 y0 x0 kd wh od tu lo hi p0 0 zl_1 zl_3 (Or.inl rfl)) (cwI 5 hts gX6_part_X6_init_ rfl rfl rfl hw9_ hw11_ hw12_ rfl (by decide +kernel) ⟨(Nat.le_of_ble_eq_true rfl), (Nat.le_of_ble_eq_true rfl)⟩) ⟨pk_blind, pk_call hPc hKc hDc⟩ rfl rfl hl.1 rfl (lv_room (Nat.le_of_ble_eq_true rfl)) dX6_part_163 ⟨(Nat.le_of_ble_eq_true rfl), (Nat.le_of_ble_eq_true rfl)⟩) hS (fun q _ h => hFc q h) hFc (fun ur_10 t H1 locs ht hvm hw hB hz1 hk1 hS => ?_)
        try dsimp only at hw
        have jr_10 := hw
        obtain ⟨hP1, hK1, hD1⟩ := hB
        rw [ht] at hP1
        have hK1 := va_K.moved hvm.symm hK1
        obtain ⟨hP, hD⟩ := va_join (wr := [(x0, .inr (5, [.ref k0, .ref w0, .int (nI nz), .int ch])), (k0, .inl (ck, L, .inl f)), (w0, .inl (cw, L, .inl g))]) (w1 := [(q_4, .inr (6, [.ref x0, .int 3, .int p0, .int od, .int 0, .long zl_1, .long zl_3])), (y0, .inr (6, [.ref x0, .int kd, .int wh, .int od, .int tu, .long lo, .long hi]))]) hP hD [4, 0] [1, 2, 3] rfl rfl (by decide) (by decide) hk1 hFc hP1 hD1
        clear hk1 hz1 ht hPc hDc hKc hFc
        generalize H1 = H at hP hS ⊢
        replace hP : va_P (dC, dI) vwCl [(x0, .inr (5, [.ref k0, .ref w0, .int (nI nz), .int ch])), (k0, .inl (ck, L, .inl f)), (w0, .inl (cw, L, .inl g)), (q_4, .inr (6, [.ref x0, .int 3, .int p0, .int od, .int 0, .long zl_1, .long zl_3])), (y0, .inr (6, [.ref x0, .int kd, .int wh, .int od, .int tu, .long lo, .long hi]))] H := hP
        replace hD : va_D A [(x0, .inr (5, [.ref k0, .ref w0, .int (nI nz), .int ch])), (k0, .inl (ck, L, .inl f)), (w0, .inl (cw, L, .inl g)), (q_4, .inr (6, [.ref x0, .int 3, .int p0, .int od, .int 0, .long zl_1, .long zl_3])), (y0, .inr (6, [.ref x0, .int kd, .int wh, .int od, .int tu, .long lo, .long hi]))] := hD
        refine W.widen (k := 1) (n := 7) (Nat.le_of_ble_eq_true rfl) (Nat.le_of_ble_eq_true rfl) ?_
        refine W.eq (g2 := F0 m 166 ls [.ref q_4]) rfl ?_
        have hpost : ((0 : Int32).toInt = 0 ∨ (0 : Int32).toInt = 1) ∧ (p1.toInt = 4 → ((0 : Int32).toInt = 0 ↔ ¬ tu.toInt = 0)) ∧ (¬ p1.toInt = 4 → ((0 : Int32).toInt = 0 ↔ tu.toInt = 0)) := by rw [show (0 : Int32).toInt = 0 from rfl]; omega
        have hP9 := hP.sub (ws' := [(y0, .inr (6, [.ref x0, .int kd, .int wh, .int od, .int tu, .long lo, .long hi])), (x0, .inr (5, [.ref k0, .ref w0, .int (nI nz), .int ch])), (k0, .inl (ck, L, .inl f)), (w0, .inl (cw, L, .inl g)), (q_4, .inr (6, [.ref x0, .int 3, .int p0, .int od, .int 0, .long zl_1, .long zl_3]))]) [4, 0, 1, 2, 3] rfl
        have hD9 := hD.sub (ws' := [(y0, .inr (6, [.ref x0, .int kd, .int wh, .int od, .int tu, .long lo, .long hi])), (x0, .inr (5, [.ref k0, .ref w0, .int (nI nz), .int ch])), (k0, .inl (ck, L, .inl f)), (w0, .inl (cw, L, .inl g)), (q_4, .inr (6, [.ref x0, .int 3, .int p0, .int od, .int 0, .long zl_1, .long zl_3]))]) [4, 0, 1, 2, 3] (by decide) rfl
        have hK9 := hK.sub (tys' := [(ck, .int), (cw, .int)]) [0, 1] rfl
        refine W.widen (k := 1) (n := 7) (Nat.le_of_ble_eq_true rfl) (Nat.le_of_ble_eq_true rfl) ?_
        exact W.aret (v := .ref q_4) hx hb hr (Or.inl ⟨_, rfl⟩) (Or.inr ⟨_, rfl⟩) (fun t ht hW => ⟨⟨(0, zl_1, zl_3), q_4, rfl, hpost, by rw [ht]; exact hP9, va_K.moved hW.alike hK9, hD9⟩, hS.F ht⟩) hS.2.2 dX6_part_166
      ·
        have ic_9 : ¬ tu.toInt = 1 := tx_ne rfl (by decide) c_9
        refine lv_iconst (v := 1) hx hb dX6_part_154 (by decide) ?_
        refine lv_goto (tgt := 159) hx hb dX6_part_155 (by decide) ?_
        refine lv_lload hx hb dX6_part_159 (lv_at hl 1 rfl) ?_
        refine lv_lload hx hb dX6_part_161 (lv_at hl 0 rfl) ?_
        have hPc := hP.sub (ws' := [(q_4, .inr (6, [.null, .int 0, .int 0, .int 0, .int 0, .long 0, .long 0])), (y0, .inr (6, [.ref x0, .int kd, .int wh, .int od, .int tu, .long lo, .long hi]))]) [4, 0] rfl
        have hDc := hD.sub (ws' := [(q_4, .inr (6, [.null, .int 0, .int 0, .int 0, .int 0, .long 0, .long 0])), (y0, .inr (6, [.ref x0, .int kd, .int wh, .int od, .int tu, .long lo, .long hi]))]) [4, 0] (by decide) rfl
        have hKc := hK.sub (tys' := []) [] rfl
        have hFc := va_free (wc := [(q_4, .inr (6, [.null, .int 0, .int 0, .int 0, .int 0, .long 0, .long 0])), (y0, .inr (6, [.ref x0, .int kd, .int wh, .int od, .int tu, .long lo, .long hi]))]) hD hS hA [4, 0] rfl
        refine va_callv (va_runI (As := [.int p0, .ref y0, .int 1, .long zl_1, .long zl_3]) (rest := [.ref q_4]) ⟨hx, hb, hml, hown, hts⟩ (c_X6_init_ l  dC dI H.size q_4 y0 x0 kd wh od tu lo hi p0 1 zl_1 zl_3 (Or.inr rfl)) (cwI 5 hts gX6_part_X6_init_ rfl rfl rfl hw9_ hw11_ hw12_ rfl (by decide +kernel) ⟨(Nat.le_of_ble_eq_true rfl), (Nat.le_of_ble_eq_true rfl)⟩) ⟨pk_blind, pk_call hPc hKc hDc⟩ rfl rfl hl.1 rfl (lv_room (Nat.le_of_ble_eq_true rfl)) dX6_part_163 ⟨(Nat.le_of_ble_eq_true rfl), (Nat.le_of_ble_eq_true rfl)⟩) hS (fun q _ h => hFc q h) hFc (fun ur_11 t H1 locs ht hvm hw hB hz1 hk1 hS => ?_)
        try dsimp only at hw
        have jr_11 := hw
        obtain ⟨hP1, hK1, hD1⟩ := hB
        rw [ht] at hP1
        have hK1 := va_K.moved hvm.symm hK1
        obtain ⟨hP, hD⟩ := va_join (wr := [(x0, .inr (5, [.ref k0, .ref w0, .int (nI nz), .int ch])), (k0, .inl (ck, L, .inl f)), (w0, .inl (cw, L, .inl g))]) (w1 := [(q_4, .inr (6, [.ref x0, .int 3, .int p0, .int od, .int 1, .long zl_1, .long zl_3])), (y0, .inr (6, [.ref x0, .int kd, .int wh, .int od, .int tu, .long lo, .long hi]))]) hP hD [4, 0] [1, 2, 3] rfl rfl (by decide) (by decide) hk1 hFc hP1 hD1
        clear hk1 hz1 ht hPc hDc hKc hFc
        generalize H1 = H at hP hS ⊢
        replace hP : va_P (dC, dI) vwCl [(x0, .inr (5, [.ref k0, .ref w0, .int (nI nz), .int ch])), (k0, .inl (ck, L, .inl f)), (w0, .inl (cw, L, .inl g)), (q_4, .inr (6, [.ref x0, .int 3, .int p0, .int od, .int 1, .long zl_1, .long zl_3])), (y0, .inr (6, [.ref x0, .int kd, .int wh, .int od, .int tu, .long lo, .long hi]))] H := hP
        replace hD : va_D A [(x0, .inr (5, [.ref k0, .ref w0, .int (nI nz), .int ch])), (k0, .inl (ck, L, .inl f)), (w0, .inl (cw, L, .inl g)), (q_4, .inr (6, [.ref x0, .int 3, .int p0, .int od, .int 1, .long zl_1, .long zl_3])), (y0, .inr (6, [.ref x0, .int kd, .int wh, .int od, .int tu, .long lo, .long hi]))] := hD
        refine W.widen (k := 1) (n := 7) (Nat.le_of_ble_eq_true rfl) (Nat.le_of_ble_eq_true rfl) ?_
        refine W.eq (g2 := F0 m 166 ls [.ref q_4]) rfl ?_
        have hpost : ((1 : Int32).toInt = 0 ∨ (1 : Int32).toInt = 1) ∧ (p1.toInt = 4 → ((1 : Int32).toInt = 0 ↔ ¬ tu.toInt = 0)) ∧ (¬ p1.toInt = 4 → ((1 : Int32).toInt = 0 ↔ tu.toInt = 0)) := by rw [show (1 : Int32).toInt = 1 from rfl]; omega
        have hP9 := hP.sub (ws' := [(y0, .inr (6, [.ref x0, .int kd, .int wh, .int od, .int tu, .long lo, .long hi])), (x0, .inr (5, [.ref k0, .ref w0, .int (nI nz), .int ch])), (k0, .inl (ck, L, .inl f)), (w0, .inl (cw, L, .inl g)), (q_4, .inr (6, [.ref x0, .int 3, .int p0, .int od, .int 1, .long zl_1, .long zl_3]))]) [4, 0, 1, 2, 3] rfl
        have hD9 := hD.sub (ws' := [(y0, .inr (6, [.ref x0, .int kd, .int wh, .int od, .int tu, .long lo, .long hi])), (x0, .inr (5, [.ref k0, .ref w0, .int (nI nz), .int ch])), (k0, .inl (ck, L, .inl f)), (w0, .inl (cw, L, .inl g)), (q_4, .inr (6, [.ref x0, .int 3, .int p0, .int od, .int 1, .long zl_1, .long zl_3]))]) [4, 0, 1, 2, 3] (by decide) rfl
        have hK9 := hK.sub (tys' := [(ck, .int), (cw, .int)]) [0, 1] rfl
        refine W.widen (k := 1) (n := 7) (Nat.le_of_ble_eq_true rfl) (Nat.le_of_ble_eq_true rfl) ?_
        exact W.aret (v := .ref q_4) hx hb hr (Or.inl ⟨_, rfl⟩) (Or.inr ⟨_, rfl⟩) (fun t ht hW => ⟨⟨(1, zl_1, zl_3), q_4, rfl, hpost, by rw [ht]; exact hP9, va_K.moved hW.alike hK9, hD9⟩, hS.F ht⟩) hS.2.2 dX6_part_166
  ·
    refine lv_iload_n hx hb dX6_part_0 rfl (lv_at hl 2 rfl) ?_
    refine lv_iconst (v := 1) hx hb dX6_part_1 (by decide) ?_
    refine lv_icmp_eq (tgt := 10) hx hb dX6_part_2 (by decide) (fun c_12 => ?_) (fun c_12 => ?_)
    ·
      have ic_12 : p1.toInt = 1 := tx_eq rfl (by decide) c_12
      refine lv_aload_n hx hb dX6_part_10 rfl (lv_at hl 0 rfl) ?_
      refine lv_iload_n hx hb dX6_part_11 rfl (lv_at hl 3 rfl) ?_
      have hPc := hP.sub (ws' := [(y0, .inr (6, [.ref x0, .int kd, .int wh, .int od, .int tu, .long lo, .long hi])), (x0, .inr (5, [.ref k0, .ref w0, .int (nI nz), .int ch])), (k0, .inl (ck, L, .inl f)), (w0, .inl (cw, L, .inl g))]) [0, 1, 2, 3] rfl
      have hKc := hK.sub (tys' := [(ck, .int), (cw, .int)]) [0, 1] rfl
      refine ro_calll (va_runV (As := [.int p2]) (rest := []) ⟨hx, hb, hml, hown, hts⟩ (c_X6_edge l  dC dI H.size y0 kd wh od tu lo hi x0 k0 w0 ck cw L f g nz ch p2 hR9 ho1 ho2) (cwV 1 hts gX6_part_X6_edge rfl rfl rfl (by decide +kernel) ⟨(Nat.le_of_ble_eq_true rfl), (Nat.le_of_ble_eq_true rfl)⟩) ⟨pk_blindR, va_recv hKc hPc (ci := 6) (q0 := 0) rfl rfl, pk_callR hPc hKc⟩ rfl rfl hl.1 rfl (lv_room (Nat.le_of_ble_eq_true rfl)) dX6_part_12 ⟨(Nat.le_of_ble_eq_true rfl), (Nat.le_of_ble_eq_true rfl)⟩) (fun r_13 ur_13 hw => ?_)
      clear hPc hKc
      try dsimp only at hw
      have jr_13 := hw
      refine W.eq (g2 := F0 m 15 ls [.long r_13]) rfl ?_
      refine lv_goto (tgt := 21) hx hb dX6_part_15 (by decide) ?_
      refine lv_lstore (lv' := [(5, .long r_13), (0, .ref y0), (1, .int p0), (2, .int p1), (3, .int p2), (4, .int p3)]) hx hb dX6_part_21 hl (by decide) rfl (fun ls hl => ?_)
      refine lv_iload_n hx hb dX6_part_23 rfl (lv_at hl 3 rfl) ?_
      refine lv_iconst (v := 1) hx hb dX6_part_24 (by decide) ?_
      refine lv_icmp_ne (tgt := 37) hx hb dX6_part_25 (by decide) (fun c_14 => absurd (c_12) c_14) (fun c_14 => ?_)
      refine lv_aload_n hx hb dX6_part_28 rfl (lv_at hl 1 rfl) ?_
      refine lv_iload hx hb dX6_part_29 (lv_at hl 5 rfl) ?_
      have hPc := hP.sub (ws' := [(y0, .inr (6, [.ref x0, .int kd, .int wh, .int od, .int tu, .long lo, .long hi])), (x0, .inr (5, [.ref k0, .ref w0, .int (nI nz), .int ch])), (k0, .inl (ck, L, .inl f)), (w0, .inl (cw, L, .inl g))]) [0, 1, 2, 3] rfl
      have hKc := hK.sub (tys' := [(ck, .int), (cw, .int)]) [0, 1] rfl
      refine ro_calll (va_runV (As := [.int p3]) (rest := []) ⟨hx, hb, hml, hown, hts⟩ (c_X6_edge l  dC dI H.size y0 kd wh od tu lo hi x0 k0 w0 ck cw L f g nz ch p3 hR9 ho1 ho2) (cwV 1 hts gX6_part_X6_edge rfl rfl rfl (by decide +kernel) ⟨(Nat.le_of_ble_eq_true rfl), (Nat.le_of_ble_eq_true rfl)⟩) ⟨pk_blindR, va_recv hKc hPc (ci := 6) (q0 := 0) rfl rfl, pk_callR hPc hKc⟩ rfl rfl hl.1 rfl (lv_room (Nat.le_of_ble_eq_true rfl)) dX6_part_31 ⟨(Nat.le_of_ble_eq_true rfl), (Nat.le_of_ble_eq_true rfl)⟩) (fun r_15 ur_15 hw => ?_)
      clear hPc hKc
      try dsimp only at hw
      have jr_15 := hw
      refine W.eq (g2 := F0 m 34 ls [.long r_15]) rfl ?_
      refine lv_goto (tgt := 53) hx hb dX6_part_34 (by decide) ?_
      refine lv_lstore (lv' := [(7, .long r_15), (5, .long r_13), (0, .ref y0), (1, .int p0), (2, .int p1), (3, .int p2), (4, .int p3)]) hx hb dX6_part_53 hl (by decide) rfl (fun ls hl => ?_)
      refine lv_aload_n hx hb dX6_part_55 rfl (lv_at hl 2 rfl) ?_
      refine va_get (D := (dC, dI)) (ci := 6) (v := .int tu) (C := RX6) (T := TX6) (N := 7) hx hb hts hi0_ hown hK hP 0 rfl rfl 4 (by decide) hw10_ (fun _ h9 => h9) rfl dX6_part_56 ?_
      refine lv_if_eq (tgt := 104) hx hb dX6_part_59 (by decide) (fun c_16 => ?_) (fun c_16 => ?_)
      ·
        have ic_16 : tu.toInt = 0 := tx_eq rfl (by decide) c_16
        exact jn104 (ls, H, locs, r_13, r_15) ⟨lv_sub hl [1, 0, 2, 3, 4, 5, 6] rfl, hP.sub [0, 1, 2, 3] rfl, hS⟩
      ·
        have ic_16 : ¬ tu.toInt = 0 := tx_ne rfl (by decide) c_16
        refine lv_lload hx hb dX6_part_62 (lv_at hl 1 rfl) ?_
        refine lv_lstore (lv' := [(9, .long r_13), (7, .long r_15), (5, .long r_13), (0, .ref y0), (1, .int p0), (2, .int p1), (3, .int p2), (4, .int p3)]) hx hb dX6_part_64 hl (by decide) rfl (fun ls hl => ?_)
        refine lv_lload hx hb dX6_part_66 (lv_at hl 1 rfl) ?_
        refine lv_ldc2 (v := 9223372036854775807) hx hb hown hw13_ dX6_part_68 ?_
        refine W.lcmp hx hb dX6_part_71 ?_
        refine lv_if_ne (tgt := 81) hx hb dX6_part_72 (by decide) (fun c_17 => ?_) (fun c_17 => ?_)
        ·
          have ic_17 := lgc_ne c_17
          refine lv_lload hx hb dX6_part_81 (lv_at hl 1 rfl) ?_
          refine lv_lstore (lv' := [(5, .long r_15), (9, .long r_13), (7, .long r_15), (0, .ref y0), (1, .int p0), (2, .int p1), (3, .int p2), (4, .int p3)]) hx hb dX6_part_83 hl (by decide) rfl (fun ls hl => ?_)
          refine lv_lload hx hb dX6_part_85 (lv_at hl 1 rfl) ?_
          refine lv_ldc2 (v := (-9223372036854775808)) hx hb hown hw14_ dX6_part_87 ?_
          refine W.lcmp hx hb dX6_part_90 ?_
          refine lv_if_ne (tgt := 100) hx hb dX6_part_91 (by decide) (fun c_18 => ?_) (fun c_18 => ?_)
          ·
            have ic_18 := lgc_ne c_18
            refine lv_lload hx hb dX6_part_100 (lv_at hl 1 rfl) ?_
            refine lv_lstore (lv' := [(7, .long r_13), (5, .long r_15), (9, .long r_13), (0, .ref y0), (1, .int p0), (2, .int p1), (3, .int p2), (4, .int p3)]) hx hb dX6_part_102 hl (by decide) rfl (fun ls hl => ?_)
            exact jn104 (ls, H, locs, r_15, r_13) ⟨lv_sub hl [1, 0, 3, 4, 5, 6, 7] rfl, hP.sub [0, 1, 2, 3] rfl, hS⟩
          ·
            have ic_18 := lgc_eq c_18
            refine lv_ldc2 (v := 9223372036854775807) hx hb hown hw13_ dX6_part_94 ?_
            refine lv_goto (tgt := 102) hx hb dX6_part_97 (by decide) ?_
            refine lv_lstore (lv' := [(7, .long 9223372036854775807), (5, .long r_15), (9, .long r_13), (0, .ref y0), (1, .int p0), (2, .int p1), (3, .int p2), (4, .int p3)]) hx hb dX6_part_102 hl (by decide) rfl (fun ls hl => ?_)
            exact jn104 (ls, H, locs, r_15, 9223372036854775807) ⟨lv_sub hl [1, 0, 3, 4, 5, 6, 7] rfl, hP.sub [0, 1, 2, 3] rfl, hS⟩
        ·
          have ic_17 := lgc_eq c_17
          refine lv_ldc2 (v := (-9223372036854775808)) hx hb hown hw14_ dX6_part_75 ?_
          refine lv_goto (tgt := 83) hx hb dX6_part_78 (by decide) ?_
          refine lv_lstore (lv' := [(5, .long (-9223372036854775808)), (9, .long r_13), (7, .long r_15), (0, .ref y0), (1, .int p0), (2, .int p1), (3, .int p2), (4, .int p3)]) hx hb dX6_part_83 hl (by decide) rfl (fun ls hl => ?_)
          refine lv_lload hx hb dX6_part_85 (lv_at hl 1 rfl) ?_
          refine lv_ldc2 (v := (-9223372036854775808)) hx hb hown hw14_ dX6_part_87 ?_
          refine W.lcmp hx hb dX6_part_90 ?_
          refine lv_if_ne (tgt := 100) hx hb dX6_part_91 (by decide) (fun c_19 => ?_) (fun c_19 => ?_)
          ·
            have ic_19 := lgc_ne c_19
            refine lv_lload hx hb dX6_part_100 (lv_at hl 1 rfl) ?_
            refine lv_lstore (lv' := [(7, .long r_13), (5, .long (-9223372036854775808)), (9, .long r_13), (0, .ref y0), (1, .int p0), (2, .int p1), (3, .int p2), (4, .int p3)]) hx hb dX6_part_102 hl (by decide) rfl (fun ls hl => ?_)
            exact jn104 (ls, H, locs, -9223372036854775808, r_13) ⟨lv_sub hl [1, 0, 3, 4, 5, 6, 7] rfl, hP.sub [0, 1, 2, 3] rfl, hS⟩
          ·
            have ic_19 := lgc_eq c_19
            refine lv_ldc2 (v := 9223372036854775807) hx hb hown hw13_ dX6_part_94 ?_
            refine lv_goto (tgt := 102) hx hb dX6_part_97 (by decide) ?_
            refine lv_lstore (lv' := [(7, .long 9223372036854775807), (5, .long (-9223372036854775808)), (9, .long r_13), (0, .ref y0), (1, .int p0), (2, .int p1), (3, .int p2), (4, .int p3)]) hx hb dX6_part_102 hl (by decide) rfl (fun ls hl => ?_)
            exact jn104 (ls, H, locs, -9223372036854775808, 9223372036854775807) ⟨lv_sub hl [1, 0, 3, 4, 5, 6, 7] rfl, hP.sub [0, 1, 2, 3] rfl, hS⟩
    ·
      have ic_12 : ¬ p1.toInt = 1 := tx_ne rfl (by decide) c_12
      refine lv_iload_n hx hb dX6_part_5 rfl (lv_at hl 2 rfl) ?_
      refine lv_iconst (v := 3) hx hb dX6_part_6 (by decide) ?_
      refine lv_icmp_ne (tgt := 18) hx hb dX6_part_7 (by decide) (fun c_20 => ?_) (fun c_20 => ?_)
      ·
        have ic_20 : ¬ p1.toInt = 3 := tx_ne rfl (by decide) c_20
        refine lv_ldc2 (v := (-9223372036854775808)) hx hb hown hw14_ dX6_part_18 ?_
        refine lv_lstore (lv' := [(5, .long (-9223372036854775808)), (0, .ref y0), (1, .int p0), (2, .int p1), (3, .int p2), (4, .int p3)]) hx hb dX6_part_21 hl (by decide) rfl (fun ls hl => ?_)
        refine lv_iload_n hx hb dX6_part_23 rfl (lv_at hl 3 rfl) ?_
        refine lv_iconst (v := 1) hx hb dX6_part_24 (by decide) ?_
        refine lv_icmp_ne (tgt := 37) hx hb dX6_part_25 (by decide) (fun c_21 => ?_) (fun c_21 => absurd c_21 (c_12))
        refine lv_iload_n hx hb dX6_part_37 rfl (lv_at hl 3 rfl) ?_
        refine lv_iconst (v := 2) hx hb dX6_part_38 (by decide) ?_
        refine lv_icmp_ne (tgt := 50) hx hb dX6_part_39 (by decide) (fun c_22 => ?_) (fun c_22 => ?_)
        ·
          have ic_22 : ¬ p1.toInt = 2 := tx_ne rfl (by decide) c_22
          refine lv_ldc2 (v := 9223372036854775807) hx hb hown hw13_ dX6_part_50 ?_
          refine lv_lstore (lv' := [(7, .long 9223372036854775807), (5, .long (-9223372036854775808)), (0, .ref y0), (1, .int p0), (2, .int p1), (3, .int p2), (4, .int p3)]) hx hb dX6_part_53 hl (by decide) rfl (fun ls hl => ?_)
          refine lv_aload_n hx hb dX6_part_55 rfl (lv_at hl 2 rfl) ?_
          refine va_get (D := (dC, dI)) (ci := 6) (v := .int tu) (C := RX6) (T := TX6) (N := 7) hx hb hts hi0_ hown hK hP 0 rfl rfl 4 (by decide) hw10_ (fun _ h9 => h9) rfl dX6_part_56 ?_
          refine lv_if_eq (tgt := 104) hx hb dX6_part_59 (by decide) (fun c_23 => ?_) (fun c_23 => ?_)
          ·
            have ic_23 : tu.toInt = 0 := tx_eq rfl (by decide) c_23
            exact jn104 (ls, H, locs, -9223372036854775808, 9223372036854775807) ⟨lv_sub hl [1, 0, 2, 3, 4, 5, 6] rfl, hP.sub [0, 1, 2, 3] rfl, hS⟩
          ·
            have ic_23 : ¬ tu.toInt = 0 := tx_ne rfl (by decide) c_23
            refine lv_lload hx hb dX6_part_62 (lv_at hl 1 rfl) ?_
            refine lv_lstore (lv' := [(9, .long (-9223372036854775808)), (7, .long 9223372036854775807), (5, .long (-9223372036854775808)), (0, .ref y0), (1, .int p0), (2, .int p1), (3, .int p2), (4, .int p3)]) hx hb dX6_part_64 hl (by decide) rfl (fun ls hl => ?_)
            refine lv_lload hx hb dX6_part_66 (lv_at hl 1 rfl) ?_
            refine lv_ldc2 (v := 9223372036854775807) hx hb hown hw13_ dX6_part_68 ?_
            refine W.lcmp hx hb dX6_part_71 ?_
            refine lv_if_ne (tgt := 81) hx hb dX6_part_72 (by decide) (fun c_24 => ?_) (fun c_24 => ?_)
            ·
              have ic_24 := lgc_ne c_24
              refine lv_lload hx hb dX6_part_81 (lv_at hl 1 rfl) ?_
              refine lv_lstore (lv' := [(5, .long 9223372036854775807), (9, .long (-9223372036854775808)), (7, .long 9223372036854775807), (0, .ref y0), (1, .int p0), (2, .int p1), (3, .int p2), (4, .int p3)]) hx hb dX6_part_83 hl (by decide) rfl (fun ls hl => ?_)
              refine lv_lload hx hb dX6_part_85 (lv_at hl 1 rfl) ?_
              refine lv_ldc2 (v := (-9223372036854775808)) hx hb hown hw14_ dX6_part_87 ?_
              refine W.lcmp hx hb dX6_part_90 ?_
              refine lv_if_ne (tgt := 100) hx hb dX6_part_91 (by decide) (fun c_25 => ?_) (fun c_25 => ?_)
              ·
                have ic_25 := lgc_ne c_25
                refine lv_lload hx hb dX6_part_100 (lv_at hl 1 rfl) ?_
                refine lv_lstore (lv' := [(7, .long (-9223372036854775808)), (5, .long 9223372036854775807), (9, .long (-9223372036854775808)), (0, .ref y0), (1, .int p0), (2, .int p1), (3, .int p2), (4, .int p3)]) hx hb dX6_part_102 hl (by decide) rfl (fun ls hl => ?_)
                exact jn104 (ls, H, locs, 9223372036854775807, -9223372036854775808) ⟨lv_sub hl [1, 0, 3, 4, 5, 6, 7] rfl, hP.sub [0, 1, 2, 3] rfl, hS⟩
              ·
                have ic_25 := lgc_eq c_25
                refine lv_ldc2 (v := 9223372036854775807) hx hb hown hw13_ dX6_part_94 ?_
                refine lv_goto (tgt := 102) hx hb dX6_part_97 (by decide) ?_
                refine lv_lstore (lv' := [(7, .long 9223372036854775807), (5, .long 9223372036854775807), (9, .long (-9223372036854775808)), (0, .ref y0), (1, .int p0), (2, .int p1), (3, .int p2), (4, .int p3)]) hx hb dX6_part_102 hl (by decide) rfl (fun ls hl => ?_)
                exact jn104 (ls, H, locs, 9223372036854775807, 9223372036854775807) ⟨lv_sub hl [1, 0, 3, 4, 5, 6, 7] rfl, hP.sub [0, 1, 2, 3] rfl, hS⟩
            ·
              have ic_24 := lgc_eq c_24
              refine lv_ldc2 (v := (-9223372036854775808)) hx hb hown hw14_ dX6_part_75 ?_
              refine lv_goto (tgt := 83) hx hb dX6_part_78 (by decide) ?_
              refine lv_lstore (lv' := [(5, .long (-9223372036854775808)), (9, .long (-9223372036854775808)), (7, .long 9223372036854775807), (0, .ref y0), (1, .int p0), (2, .int p1), (3, .int p2), (4, .int p3)]) hx hb dX6_part_83 hl (by decide) rfl (fun ls hl => ?_)
              refine lv_lload hx hb dX6_part_85 (lv_at hl 1 rfl) ?_
              refine lv_ldc2 (v := (-9223372036854775808)) hx hb hown hw14_ dX6_part_87 ?_
              refine W.lcmp hx hb dX6_part_90 ?_
              refine lv_if_ne (tgt := 100) hx hb dX6_part_91 (by decide) (fun c_26 => ?_) (fun c_26 => ?_)
              ·
                have ic_26 := lgc_ne c_26
                refine lv_lload hx hb dX6_part_100 (lv_at hl 1 rfl) ?_
                refine lv_lstore (lv' := [(7, .long (-9223372036854775808)), (5, .long (-9223372036854775808)), (9, .long (-9223372036854775808)), (0, .ref y0), (1, .int p0), (2, .int p1), (3, .int p2), (4, .int p3)]) hx hb dX6_part_102 hl (by decide) rfl (fun ls hl => ?_)
                exact jn104 (ls, H, locs, -9223372036854775808, -9223372036854775808) ⟨lv_sub hl [1, 0, 3, 4, 5, 6, 7] rfl, hP.sub [0, 1, 2, 3] rfl, hS⟩
              ·
                have ic_26 := lgc_eq c_26
                refine lv_ldc2 (v := 9223372036854775807) hx hb hown hw13_ dX6_part_94 ?_
                refine lv_goto (tgt := 102) hx hb dX6_part_97 (by decide) ?_
                refine lv_lstore (lv' := [(7, .long 9223372036854775807), (5, .long (-9223372036854775808)), (9, .long (-9223372036854775808)), (0, .ref y0), (1, .int p0), (2, .int p1), (3, .int p2), (4, .int p3)]) hx hb dX6_part_102 hl (by decide) rfl (fun ls hl => ?_)
                exact jn104 (ls, H, locs, -9223372036854775808, 9223372036854775807) ⟨lv_sub hl [1, 0, 3, 4, 5, 6, 7] rfl, hP.sub [0, 1, 2, 3] rfl, hS⟩
        ·
          have ic_22 : p1.toInt = 2 := tx_eq rfl (by decide) c_22
          refine lv_aload_n hx hb dX6_part_42 rfl (lv_at hl 1 rfl) ?_
          refine lv_iload_n hx hb dX6_part_43 rfl (lv_at hl 4 rfl) ?_
          have hPc := hP.sub (ws' := [(y0, .inr (6, [.ref x0, .int kd, .int wh, .int od, .int tu, .long lo, .long hi])), (x0, .inr (5, [.ref k0, .ref w0, .int (nI nz), .int ch])), (k0, .inl (ck, L, .inl f)), (w0, .inl (cw, L, .inl g))]) [0, 1, 2, 3] rfl
          have hKc := hK.sub (tys' := [(ck, .int), (cw, .int)]) [0, 1] rfl
          refine ro_calll (va_runV (As := [.int p2]) (rest := []) ⟨hx, hb, hml, hown, hts⟩ (c_X6_edge l  dC dI H.size y0 kd wh od tu lo hi x0 k0 w0 ck cw L f g nz ch p2 hR9 ho1 ho2) (cwV 1 hts gX6_part_X6_edge rfl rfl rfl (by decide +kernel) ⟨(Nat.le_of_ble_eq_true rfl), (Nat.le_of_ble_eq_true rfl)⟩) ⟨pk_blindR, va_recv hKc hPc (ci := 6) (q0 := 0) rfl rfl, pk_callR hPc hKc⟩ rfl rfl hl.1 rfl (lv_room (Nat.le_of_ble_eq_true rfl)) dX6_part_44 ⟨(Nat.le_of_ble_eq_true rfl), (Nat.le_of_ble_eq_true rfl)⟩) (fun r_27 ur_27 hw => ?_)
          clear hPc hKc
          try dsimp only at hw
          have jr_27 := hw
          refine W.eq (g2 := F0 m 47 ls [.long r_27]) rfl ?_
          refine lv_goto (tgt := 53) hx hb dX6_part_47 (by decide) ?_
          refine lv_lstore (lv' := [(7, .long r_27), (5, .long (-9223372036854775808)), (0, .ref y0), (1, .int p0), (2, .int p1), (3, .int p2), (4, .int p3)]) hx hb dX6_part_53 hl (by decide) rfl (fun ls hl => ?_)
          refine lv_aload_n hx hb dX6_part_55 rfl (lv_at hl 2 rfl) ?_
          refine va_get (D := (dC, dI)) (ci := 6) (v := .int tu) (C := RX6) (T := TX6) (N := 7) hx hb hts hi0_ hown hK hP 0 rfl rfl 4 (by decide) hw10_ (fun _ h9 => h9) rfl dX6_part_56 ?_
          refine lv_if_eq (tgt := 104) hx hb dX6_part_59 (by decide) (fun c_28 => ?_) (fun c_28 => ?_)
          ·
            have ic_28 : tu.toInt = 0 := tx_eq rfl (by decide) c_28
            exact jn104 (ls, H, locs, -9223372036854775808, r_27) ⟨lv_sub hl [1, 0, 2, 3, 4, 5, 6] rfl, hP.sub [0, 1, 2, 3] rfl, hS⟩
          ·
            have ic_28 : ¬ tu.toInt = 0 := tx_ne rfl (by decide) c_28
            refine lv_lload hx hb dX6_part_62 (lv_at hl 1 rfl) ?_
            refine lv_lstore (lv' := [(9, .long (-9223372036854775808)), (7, .long r_27), (5, .long (-9223372036854775808)), (0, .ref y0), (1, .int p0), (2, .int p1), (3, .int p2), (4, .int p3)]) hx hb dX6_part_64 hl (by decide) rfl (fun ls hl => ?_)
            refine lv_lload hx hb dX6_part_66 (lv_at hl 1 rfl) ?_
            refine lv_ldc2 (v := 9223372036854775807) hx hb hown hw13_ dX6_part_68 ?_
            refine W.lcmp hx hb dX6_part_71 ?_
            refine lv_if_ne (tgt := 81) hx hb dX6_part_72 (by decide) (fun c_29 => ?_) (fun c_29 => ?_)
            ·
              have ic_29 := lgc_ne c_29
              refine lv_lload hx hb dX6_part_81 (lv_at hl 1 rfl) ?_
              refine lv_lstore (lv' := [(5, .long r_27), (9, .long (-9223372036854775808)), (7, .long r_27), (0, .ref y0), (1, .int p0), (2, .int p1), (3, .int p2), (4, .int p3)]) hx hb dX6_part_83 hl (by decide) rfl (fun ls hl => ?_)
              refine lv_lload hx hb dX6_part_85 (lv_at hl 1 rfl) ?_
              refine lv_ldc2 (v := (-9223372036854775808)) hx hb hown hw14_ dX6_part_87 ?_
              refine W.lcmp hx hb dX6_part_90 ?_
              refine lv_if_ne (tgt := 100) hx hb dX6_part_91 (by decide) (fun c_30 => ?_) (fun c_30 => ?_)
              ·
                have ic_30 := lgc_ne c_30
                refine lv_lload hx hb dX6_part_100 (lv_at hl 1 rfl) ?_
                refine lv_lstore (lv' := [(7, .long (-9223372036854775808)), (5, .long r_27), (9, .long (-9223372036854775808)), (0, .ref y0), (1, .int p0), (2, .int p1), (3, .int p2), (4, .int p3)]) hx hb dX6_part_102 hl (by decide) rfl (fun ls hl => ?_)
                exact jn104 (ls, H, locs, r_27, -9223372036854775808) ⟨lv_sub hl [1, 0, 3, 4, 5, 6, 7] rfl, hP.sub [0, 1, 2, 3] rfl, hS⟩
              ·
                have ic_30 := lgc_eq c_30
                refine lv_ldc2 (v := 9223372036854775807) hx hb hown hw13_ dX6_part_94 ?_
                refine lv_goto (tgt := 102) hx hb dX6_part_97 (by decide) ?_
                refine lv_lstore (lv' := [(7, .long 9223372036854775807), (5, .long r_27), (9, .long (-9223372036854775808)), (0, .ref y0), (1, .int p0), (2, .int p1), (3, .int p2), (4, .int p3)]) hx hb dX6_part_102 hl (by decide) rfl (fun ls hl => ?_)
                exact jn104 (ls, H, locs, r_27, 9223372036854775807) ⟨lv_sub hl [1, 0, 3, 4, 5, 6, 7] rfl, hP.sub [0, 1, 2, 3] rfl, hS⟩
            ·
              have ic_29 := lgc_eq c_29
              refine lv_ldc2 (v := (-9223372036854775808)) hx hb hown hw14_ dX6_part_75 ?_
              refine lv_goto (tgt := 83) hx hb dX6_part_78 (by decide) ?_
              refine lv_lstore (lv' := [(5, .long (-9223372036854775808)), (9, .long (-9223372036854775808)), (7, .long r_27), (0, .ref y0), (1, .int p0), (2, .int p1), (3, .int p2), (4, .int p3)]) hx hb dX6_part_83 hl (by decide) rfl (fun ls hl => ?_)
              refine lv_lload hx hb dX6_part_85 (lv_at hl 1 rfl) ?_
              refine lv_ldc2 (v := (-9223372036854775808)) hx hb hown hw14_ dX6_part_87 ?_
              refine W.lcmp hx hb dX6_part_90 ?_
              refine lv_if_ne (tgt := 100) hx hb dX6_part_91 (by decide) (fun c_31 => ?_) (fun c_31 => ?_)
              ·
                have ic_31 := lgc_ne c_31
                refine lv_lload hx hb dX6_part_100 (lv_at hl 1 rfl) ?_
                refine lv_lstore (lv' := [(7, .long (-9223372036854775808)), (5, .long (-9223372036854775808)), (9, .long (-9223372036854775808)), (0, .ref y0), (1, .int p0), (2, .int p1), (3, .int p2), (4, .int p3)]) hx hb dX6_part_102 hl (by decide) rfl (fun ls hl => ?_)
                exact jn104 (ls, H, locs, -9223372036854775808, -9223372036854775808) ⟨lv_sub hl [1, 0, 3, 4, 5, 6, 7] rfl, hP.sub [0, 1, 2, 3] rfl, hS⟩
              ·
                have ic_31 := lgc_eq c_31
                refine lv_ldc2 (v := 9223372036854775807) hx hb hown hw13_ dX6_part_94 ?_
                refine lv_goto (tgt := 102) hx hb dX6_part_97 (by decide) ?_
                refine lv_lstore (lv' := [(7, .long 9223372036854775807), (5, .long (-9223372036854775808)), (9, .long (-9223372036854775808)), (0, .ref y0), (1, .int p0), (2, .int p1), (3, .int p2), (4, .int p3)]) hx hb dX6_part_102 hl (by decide) rfl (fun ls hl => ?_)
                exact jn104 (ls, H, locs, -9223372036854775808, 9223372036854775807) ⟨lv_sub hl [1, 0, 3, 4, 5, 6, 7] rfl, hP.sub [0, 1, 2, 3] rfl, hS⟩
      ·
        have ic_20 : p1.toInt = 3 := tx_eq rfl (by decide) c_20
        refine lv_aload_n hx hb dX6_part_10 rfl (lv_at hl 0 rfl) ?_
        refine lv_iload_n hx hb dX6_part_11 rfl (lv_at hl 3 rfl) ?_
        have hPc := hP.sub (ws' := [(y0, .inr (6, [.ref x0, .int kd, .int wh, .int od, .int tu, .long lo, .long hi])), (x0, .inr (5, [.ref k0, .ref w0, .int (nI nz), .int ch])), (k0, .inl (ck, L, .inl f)), (w0, .inl (cw, L, .inl g))]) [0, 1, 2, 3] rfl
        have hKc := hK.sub (tys' := [(ck, .int), (cw, .int)]) [0, 1] rfl
        refine ro_calll (va_runV (As := [.int p2]) (rest := []) ⟨hx, hb, hml, hown, hts⟩ (c_X6_edge l  dC dI H.size y0 kd wh od tu lo hi x0 k0 w0 ck cw L f g nz ch p2 hR9 ho1 ho2) (cwV 1 hts gX6_part_X6_edge rfl rfl rfl (by decide +kernel) ⟨(Nat.le_of_ble_eq_true rfl), (Nat.le_of_ble_eq_true rfl)⟩) ⟨pk_blindR, va_recv hKc hPc (ci := 6) (q0 := 0) rfl rfl, pk_callR hPc hKc⟩ rfl rfl hl.1 rfl (lv_room (Nat.le_of_ble_eq_true rfl)) dX6_part_12 ⟨(Nat.le_of_ble_eq_true rfl), (Nat.le_of_ble_eq_true rfl)⟩) (fun r_32 ur_32 hw => ?_)
        clear hPc hKc
        try dsimp only at hw
        have jr_32 := hw
        refine W.eq (g2 := F0 m 15 ls [.long r_32]) rfl ?_
        refine lv_goto (tgt := 21) hx hb dX6_part_15 (by decide) ?_
        refine lv_lstore (lv' := [(5, .long r_32), (0, .ref y0), (1, .int p0), (2, .int p1), (3, .int p2), (4, .int p3)]) hx hb dX6_part_21 hl (by decide) rfl (fun ls hl => ?_)
        refine lv_iload_n hx hb dX6_part_23 rfl (lv_at hl 3 rfl) ?_
        refine lv_iconst (v := 1) hx hb dX6_part_24 (by decide) ?_
        refine lv_icmp_ne (tgt := 37) hx hb dX6_part_25 (by decide) (fun c_33 => ?_) (fun c_33 => absurd c_33 (fun h9 => absurd (c_20.symm.trans h9) (by decide)))
        refine lv_iload_n hx hb dX6_part_37 rfl (lv_at hl 3 rfl) ?_
        refine lv_iconst (v := 2) hx hb dX6_part_38 (by decide) ?_
        refine lv_icmp_ne (tgt := 50) hx hb dX6_part_39 (by decide) (fun c_34 => ?_) (fun c_34 => absurd c_34 (fun h9 => absurd (c_20.symm.trans h9) (by decide)))
        refine lv_ldc2 (v := 9223372036854775807) hx hb hown hw13_ dX6_part_50 ?_
        refine lv_lstore (lv' := [(7, .long 9223372036854775807), (5, .long r_32), (0, .ref y0), (1, .int p0), (2, .int p1), (3, .int p2), (4, .int p3)]) hx hb dX6_part_53 hl (by decide) rfl (fun ls hl => ?_)
        refine lv_aload_n hx hb dX6_part_55 rfl (lv_at hl 2 rfl) ?_
        refine va_get (D := (dC, dI)) (ci := 6) (v := .int tu) (C := RX6) (T := TX6) (N := 7) hx hb hts hi0_ hown hK hP 0 rfl rfl 4 (by decide) hw10_ (fun _ h9 => h9) rfl dX6_part_56 ?_
        refine lv_if_eq (tgt := 104) hx hb dX6_part_59 (by decide) (fun c_35 => ?_) (fun c_35 => ?_)
        ·
          have ic_35 : tu.toInt = 0 := tx_eq rfl (by decide) c_35
          exact jn104 (ls, H, locs, r_32, 9223372036854775807) ⟨lv_sub hl [1, 0, 2, 3, 4, 5, 6] rfl, hP.sub [0, 1, 2, 3] rfl, hS⟩
        ·
          have ic_35 : ¬ tu.toInt = 0 := tx_ne rfl (by decide) c_35
          refine lv_lload hx hb dX6_part_62 (lv_at hl 1 rfl) ?_
          refine lv_lstore (lv' := [(9, .long r_32), (7, .long 9223372036854775807), (5, .long r_32), (0, .ref y0), (1, .int p0), (2, .int p1), (3, .int p2), (4, .int p3)]) hx hb dX6_part_64 hl (by decide) rfl (fun ls hl => ?_)
          refine lv_lload hx hb dX6_part_66 (lv_at hl 1 rfl) ?_
          refine lv_ldc2 (v := 9223372036854775807) hx hb hown hw13_ dX6_part_68 ?_
          refine W.lcmp hx hb dX6_part_71 ?_
          refine lv_if_ne (tgt := 81) hx hb dX6_part_72 (by decide) (fun c_36 => ?_) (fun c_36 => ?_)
          ·
            have ic_36 := lgc_ne c_36
            refine lv_lload hx hb dX6_part_81 (lv_at hl 1 rfl) ?_
            refine lv_lstore (lv' := [(5, .long 9223372036854775807), (9, .long r_32), (7, .long 9223372036854775807), (0, .ref y0), (1, .int p0), (2, .int p1), (3, .int p2), (4, .int p3)]) hx hb dX6_part_83 hl (by decide) rfl (fun ls hl => ?_)
            refine lv_lload hx hb dX6_part_85 (lv_at hl 1 rfl) ?_
            refine lv_ldc2 (v := (-9223372036854775808)) hx hb hown hw14_ dX6_part_87 ?_
            refine W.lcmp hx hb dX6_part_90 ?_
            refine lv_if_ne (tgt := 100) hx hb dX6_part_91 (by decide) (fun c_37 => ?_) (fun c_37 => ?_)
            ·
              have ic_37 := lgc_ne c_37
              refine lv_lload hx hb dX6_part_100 (lv_at hl 1 rfl) ?_
              refine lv_lstore (lv' := [(7, .long r_32), (5, .long 9223372036854775807), (9, .long r_32), (0, .ref y0), (1, .int p0), (2, .int p1), (3, .int p2), (4, .int p3)]) hx hb dX6_part_102 hl (by decide) rfl (fun ls hl => ?_)
              exact jn104 (ls, H, locs, 9223372036854775807, r_32) ⟨lv_sub hl [1, 0, 3, 4, 5, 6, 7] rfl, hP.sub [0, 1, 2, 3] rfl, hS⟩
            ·
              have ic_37 := lgc_eq c_37
              refine lv_ldc2 (v := 9223372036854775807) hx hb hown hw13_ dX6_part_94 ?_
              refine lv_goto (tgt := 102) hx hb dX6_part_97 (by decide) ?_
              refine lv_lstore (lv' := [(7, .long 9223372036854775807), (5, .long 9223372036854775807), (9, .long r_32), (0, .ref y0), (1, .int p0), (2, .int p1), (3, .int p2), (4, .int p3)]) hx hb dX6_part_102 hl (by decide) rfl (fun ls hl => ?_)
              exact jn104 (ls, H, locs, 9223372036854775807, 9223372036854775807) ⟨lv_sub hl [1, 0, 3, 4, 5, 6, 7] rfl, hP.sub [0, 1, 2, 3] rfl, hS⟩
          ·
            have ic_36 := lgc_eq c_36
            refine lv_ldc2 (v := (-9223372036854775808)) hx hb hown hw14_ dX6_part_75 ?_
            refine lv_goto (tgt := 83) hx hb dX6_part_78 (by decide) ?_
            refine lv_lstore (lv' := [(5, .long (-9223372036854775808)), (9, .long r_32), (7, .long 9223372036854775807), (0, .ref y0), (1, .int p0), (2, .int p1), (3, .int p2), (4, .int p3)]) hx hb dX6_part_83 hl (by decide) rfl (fun ls hl => ?_)
            refine lv_lload hx hb dX6_part_85 (lv_at hl 1 rfl) ?_
            refine lv_ldc2 (v := (-9223372036854775808)) hx hb hown hw14_ dX6_part_87 ?_
            refine W.lcmp hx hb dX6_part_90 ?_
            refine lv_if_ne (tgt := 100) hx hb dX6_part_91 (by decide) (fun c_38 => ?_) (fun c_38 => ?_)
            ·
              have ic_38 := lgc_ne c_38
              refine lv_lload hx hb dX6_part_100 (lv_at hl 1 rfl) ?_
              refine lv_lstore (lv' := [(7, .long r_32), (5, .long (-9223372036854775808)), (9, .long r_32), (0, .ref y0), (1, .int p0), (2, .int p1), (3, .int p2), (4, .int p3)]) hx hb dX6_part_102 hl (by decide) rfl (fun ls hl => ?_)
              exact jn104 (ls, H, locs, -9223372036854775808, r_32) ⟨lv_sub hl [1, 0, 3, 4, 5, 6, 7] rfl, hP.sub [0, 1, 2, 3] rfl, hS⟩
            ·
              have ic_38 := lgc_eq c_38
              refine lv_ldc2 (v := 9223372036854775807) hx hb hown hw13_ dX6_part_94 ?_
              refine lv_goto (tgt := 102) hx hb dX6_part_97 (by decide) ?_
              refine lv_lstore (lv' := [(7, .long 9223372036854775807), (5, .long (-9223372036854775808)), (9, .long r_32), (0, .ref y0), (1, .int p0), (2, .int p1), (3, .int p2), (4, .int p3)]) hx hb dX6_part_102 hl (by decide) rfl (fun ls hl => ?_)
              exact jn104 (ls, H, locs, -9223372036854775808, 9223372036854775807) ⟨lv_sub hl [1, 0, 3, 4, 5, 6, 7] rfl, hP.sub [0, 1, 2, 3] rfl, hS⟩
