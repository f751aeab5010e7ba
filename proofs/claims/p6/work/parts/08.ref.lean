theorem dX8_mod_0 : decode cX8_mod 0 = .ok (.iload_n 0, 1) := by decide +kernel
theorem dX8_mod_1 : decode cX8_mod 1 = .ok (.iload_n 1, 1) := by decide +kernel
theorem dX8_mod_2 : decode cX8_mod 2 = .ok (.irem, 1) := by decide +kernel
theorem dX8_mod_3 : decode cX8_mod 3 = .ok (.istore_n 2, 1) := by decide +kernel
theorem dX8_mod_4 : decode cX8_mod 4 = .ok (.iload_n 2, 1) := by decide +kernel
theorem dX8_mod_5 : decode cX8_mod 5 = .ok (.ifCond .ge 9, 3) := by decide +kernel
theorem dX8_mod_14 : decode cX8_mod 14 = .ok (.iload_n 2, 1) := by decide +kernel
theorem dX8_mod_15 : decode cX8_mod 15 = .ok (.ireturn, 1) := by decide +kernel
theorem dX8_mod_8 : decode cX8_mod 8 = .ok (.iload_n 2, 1) := by decide +kernel
theorem dX8_mod_9 : decode cX8_mod 9 = .ok (.iload_n 1, 1) := by decide +kernel
theorem dX8_mod_10 : decode cX8_mod 10 = .ok (.iadd, 1) := by decide +kernel
theorem dX8_mod_11 : decode cX8_mod 11 = .ok (.goto 4, 3) := by decide +kernel
theorem dX8_compare_0 : decode cX8_compare 0 = .ok (.iload_n 0, 1) := by decide +kernel
theorem dX8_compare_1 : decode cX8_compare 1 = .ok (.iconst 1, 1) := by decide +kernel
theorem dX8_compare_2 : decode cX8_compare 2 = .ok (.if_icmp .ne 11, 3) := by decide +kernel
theorem dX8_compare_13 : decode cX8_compare 13 = .ok (.iload_n 0, 1) := by decide +kernel
theorem dX8_compare_14 : decode cX8_compare 14 = .ok (.iconst 2, 1) := by decide +kernel
theorem dX8_compare_15 : decode cX8_compare 15 = .ok (.if_icmp .ne 54, 3) := by decide +kernel
theorem dX8_compare_69 : decode cX8_compare 69 = .ok (.iload_n 0, 1) := by decide +kernel
theorem dX8_compare_70 : decode cX8_compare 70 = .ok (.iconst 3, 1) := by decide +kernel
theorem dX8_compare_71 : decode cX8_compare 71 = .ok (.if_icmp .ne 23, 3) := by decide +kernel
theorem dX8_compare_94 : decode cX8_compare 94 = .ok (.iload_n 1, 1) := by decide +kernel
theorem dX8_compare_95 : decode cX8_compare 95 = .ok (.i2l, 1) := by decide +kernel
theorem dX8_compare_96 : decode cX8_compare 96 = .ok (.iload_n 2, 1) := by decide +kernel
theorem dX8_compare_97 : decode cX8_compare 97 = .ok (.i2l, 1) := by decide +kernel
set_option maxRecDepth 20000 in
theorem ggX8_compare_X8_two : GoodIn wsX8_compare wsX8_two := goodIn_r _ [4] rfl (by decide +kernel)
set_option maxRecDepth 20000 in
theorem gX8_compare_X8_two : GoodIn wsX8_compare (va_wsS RX8 88 yX8_two wsX8_two) := goodIn_app (goodIn_of _ (by decide +kernel)) ggX8_compare_X8_two
theorem dX8_compare_98 : decode cX8_compare 98 = .ok (.invokestatic 88, 3) := by decide +kernel
theorem dX8_compare_101 : decode cX8_compare 101 = .ok (.ireturn, 1) := by decide +kernel
theorem dX8_compare_74 : decode cX8_compare 74 = .ok (.iload_n 1, 1) := by decide +kernel
theorem dX8_compare_75 : decode cX8_compare 75 = .ok (.bipush 10, 2) := by decide +kernel
set_option maxRecDepth 20000 in
theorem ggX8_compare_X8_mod : GoodIn wsX8_compare wsX8_mod := goodIn_r _ [7] rfl (by decide +kernel)
set_option maxRecDepth 20000 in
theorem gX8_compare_X8_mod : GoodIn wsX8_compare (va_wsS RX8 92 yX8_mod wsX8_mod) := goodIn_app (goodIn_of _ (by decide +kernel)) ggX8_compare_X8_mod
theorem dX8_compare_77 : decode cX8_compare 77 = .ok (.invokestatic 92, 3) := by decide +kernel
theorem dX8_compare_80 : decode cX8_compare 80 = .ok (.i2l, 1) := by decide +kernel
theorem dX8_compare_81 : decode cX8_compare 81 = .ok (.iload_n 2, 1) := by decide +kernel
theorem dX8_compare_82 : decode cX8_compare 82 = .ok (.bipush 10, 2) := by decide +kernel
theorem dX8_compare_84 : decode cX8_compare 84 = .ok (.invokestatic 92, 3) := by decide +kernel
theorem dX8_compare_87 : decode cX8_compare 87 = .ok (.i2l, 1) := by decide +kernel
theorem dX8_compare_88 : decode cX8_compare 88 = .ok (.invokestatic 88, 3) := by decide +kernel
theorem dX8_compare_91 : decode cX8_compare 91 = .ok (.goto 10, 3) := by decide +kernel
theorem dX8_compare_18 : decode cX8_compare 18 = .ok (.iload_n 1, 1) := by decide +kernel
theorem dX8_compare_19 : decode cX8_compare 19 = .ok (.ifCond .ge 9, 3) := by decide +kernel
theorem dX8_compare_28 : decode cX8_compare 28 = .ok (.iload_n 1, 1) := by decide +kernel
theorem dX8_compare_29 : decode cX8_compare 29 = .ok (.i2l, 1) := by decide +kernel
theorem dX8_compare_30 : decode cX8_compare 30 = .ok (.lstore_n 3, 1) := by decide +kernel
theorem dX8_compare_31 : decode cX8_compare 31 = .ok (.iload_n 2, 1) := by decide +kernel
theorem dX8_compare_32 : decode cX8_compare 32 = .ok (.ifCond .ge 9, 3) := by decide +kernel
theorem dX8_compare_41 : decode cX8_compare 41 = .ok (.iload_n 2, 1) := by decide +kernel
theorem dX8_compare_42 : decode cX8_compare 42 = .ok (.i2l, 1) := by decide +kernel
theorem dX8_compare_43 : decode cX8_compare 43 = .ok (.lstore 5, 2) := by decide +kernel
theorem dX8_compare_45 : decode cX8_compare 45 = .ok (.lload_n 3, 1) := by decide +kernel
theorem dX8_compare_46 : decode cX8_compare 46 = .ok (.lload 5, 2) := by decide +kernel
theorem dX8_compare_48 : decode cX8_compare 48 = .ok (.lcmp, 1) := by decide +kernel
theorem dX8_compare_49 : decode cX8_compare 49 = .ok (.ifCond .eq 12, 3) := by decide +kernel
theorem dX8_compare_61 : decode cX8_compare 61 = .ok (.iload_n 1, 1) := by decide +kernel
theorem dX8_compare_62 : decode cX8_compare 62 = .ok (.i2l, 1) := by decide +kernel
theorem dX8_compare_63 : decode cX8_compare 63 = .ok (.iload_n 2, 1) := by decide +kernel
theorem dX8_compare_64 : decode cX8_compare 64 = .ok (.i2l, 1) := by decide +kernel
theorem dX8_compare_65 : decode cX8_compare 65 = .ok (.invokestatic 88, 3) := by decide +kernel
theorem dX8_compare_68 : decode cX8_compare 68 = .ok (.ireturn, 1) := by decide +kernel
theorem dX8_compare_52 : decode cX8_compare 52 = .ok (.lload_n 3, 1) := by decide +kernel
theorem dX8_compare_53 : decode cX8_compare 53 = .ok (.lload 5, 2) := by decide +kernel
theorem dX8_compare_55 : decode cX8_compare 55 = .ok (.invokestatic 88, 3) := by decide +kernel
theorem dX8_compare_58 : decode cX8_compare 58 = .ok (.goto 10, 3) := by decide +kernel
theorem dX8_compare_35 : decode cX8_compare 35 = .ok (.iload_n 2, 1) := by decide +kernel
theorem dX8_compare_36 : decode cX8_compare 36 = .ok (.i2l, 1) := by decide +kernel
theorem dX8_compare_37 : decode cX8_compare 37 = .ok (.lneg, 1) := by decide +kernel
theorem dX8_compare_38 : decode cX8_compare 38 = .ok (.goto 5, 3) := by decide +kernel
theorem dX8_compare_22 : decode cX8_compare 22 = .ok (.iload_n 1, 1) := by decide +kernel
theorem dX8_compare_23 : decode cX8_compare 23 = .ok (.i2l, 1) := by decide +kernel
theorem dX8_compare_24 : decode cX8_compare 24 = .ok (.lneg, 1) := by decide +kernel
theorem dX8_compare_25 : decode cX8_compare 25 = .ok (.goto 5, 3) := by decide +kernel
theorem dX8_compare_5 : decode cX8_compare 5 = .ok (.iload_n 2, 1) := by decide +kernel
theorem dX8_compare_6 : decode cX8_compare 6 = .ok (.i2l, 1) := by decide +kernel
theorem dX8_compare_7 : decode cX8_compare 7 = .ok (.iload_n 1, 1) := by decide +kernel
theorem dX8_compare_8 : decode cX8_compare 8 = .ok (.i2l, 1) := by decide +kernel
theorem dX8_compare_9 : decode cX8_compare 9 = .ok (.invokestatic 88, 3) := by decide +kernel
theorem dX8_compare_12 : decode cX8_compare 12 = .ok (.ireturn, 1) := by decide +kernel
theorem dX8_ordered_0 : decode cX8_ordered 0 = .ok (.aload_n 0, 1) := by decide +kernel
theorem dX8_ordered_1 : decode cX8_ordered 1 = .ok (.getfield 20, 3) := by decide +kernel
theorem dX8_ordered_4 : decode cX8_ordered 4 = .ok (.aload_n 0, 1) := by decide +kernel
theorem dX8_ordered_5 : decode cX8_ordered 5 = .ok (.iload_n 1, 1) := by decide +kernel
set_option maxRecDepth 20000 in
theorem ggX8_ordered_X8_root : GoodIn wsX8_ordered wsX8_root := goodIn_r _ [6, 7, 8, 23, 24, 25, 26, 27, 28, 29, 30, 31, 32, 33, 34, 35, 36, 37, 38, 39] rfl (by decide +kernel)
set_option maxRecDepth 20000 in
theorem gX8_ordered_X8_root : GoodIn wsX8_ordered (wsV RX8 95 RX8 yX8_root wsX8_root) := goodIn_app (goodIn_of _ (by decide +kernel)) ggX8_ordered_X8_root
theorem dX8_ordered_6 : decode cX8_ordered 6 = .ok (.invokevirtual 95, 3) := by decide +kernel
theorem dX8_ordered_9 : decode cX8_ordered 9 = .ok (.iaload, 1) := by decide +kernel
theorem dX8_ordered_10 : decode cX8_ordered 10 = .ok (.iload_n 2, 1) := by decide +kernel
theorem dX8_ordered_11 : decode cX8_ordered 11 = .ok (.iload_n 3, 1) := by decide +kernel
set_option maxRecDepth 20000 in
theorem ggX8_ordered_X8_compare : GoodIn wsX8_ordered wsX8_compare := goodIn_r _ [11, 12, 13, 5, 14, 15, 16, 17] rfl (by decide +kernel)
set_option maxRecDepth 20000 in
theorem gX8_ordered_X8_compare : GoodIn wsX8_ordered (va_wsS RX8 98 yX8_compare wsX8_compare) := goodIn_app (goodIn_of _ (by decide +kernel)) ggX8_ordered_X8_compare
theorem dX8_ordered_12 : decode cX8_ordered 12 = .ok (.invokestatic 98, 3) := by decide +kernel
theorem dX8_ordered_15 : decode cX8_ordered 15 = .ok (.istore 4, 2) := by decide +kernel
theorem dX8_ordered_17 : decode cX8_ordered 17 = .ok (.aload_n 0, 1) := by decide +kernel
theorem dX8_ordered_18 : decode cX8_ordered 18 = .ok (.iload_n 1, 1) := by decide +kernel
set_option maxRecDepth 20000 in
theorem ggX8_ordered_X8_isTurned : GoodIn wsX8_ordered wsX8_isTurned := goodIn_r _ [21, 7, 22, 8, 23, 24, 25, 26, 27, 28, 29, 30, 31, 32, 33, 34, 35, 36, 37, 38, 39] rfl (by decide +kernel)
set_option maxRecDepth 20000 in
theorem gX8_ordered_X8_isTurned : GoodIn wsX8_ordered (wsV RX8 102 RX8 yX8_isTurned wsX8_isTurned) := goodIn_app (goodIn_of _ (by decide +kernel)) ggX8_ordered_X8_isTurned
theorem dX8_ordered_19 : decode cX8_ordered 19 = .ok (.invokevirtual 102, 3) := by decide +kernel
theorem dX8_ordered_22 : decode cX8_ordered 22 = .ok (.ifCond .eq 9, 3) := by decide +kernel
theorem dX8_ordered_31 : decode cX8_ordered 31 = .ok (.iload 4, 2) := by decide +kernel
theorem dX8_ordered_33 : decode cX8_ordered 33 = .ok (.ireturn, 1) := by decide +kernel
theorem dX8_ordered_25 : decode cX8_ordered 25 = .ok (.iload 4, 2) := by decide +kernel
theorem dX8_ordered_27 : decode cX8_ordered 27 = .ok (.ineg, 1) := by decide +kernel
theorem dX8_ordered_28 : decode cX8_ordered 28 = .ok (.goto 5, 3) := by decide +kernel
set_option maxHeartbeats 4000000 in
set_option maxRecDepth 100000 in
/-- the rest, never below 0 -/
theorem c_X8_mod (l : Launch) (dC : Nat → ClassId) (dI : Nat → Nat → Nat) (sz : Nat) (p0 : Int32) (p1 : Int32) (n9 : Int) (hy9 : p1.toInt = n9) (h09 : 0 < n9) (h19 : n9 ≤ 16) : Met l yX8_mod wsX8_mod ({ frames := 0, cells := 0, slots := 0, locals := 0 }) (va_Pc [.int p0, .int p1] (pk_Pre (dC, dI) [] [] sz)) (va_Qi (fun (r : Int32) (_ : Unit) => r.toInt = p0.toInt % n9) (fun (_ : Unit) (_ : State) => True) (va_A [] sz)) 0 0 (va_A [] sz) := by
  refine Met.ofW (cc := cX8_mod) (maxL := 3) (ret := (some .int)) (by decide) rfl ?_
  intro p e s m args below meth c s₁ B hml hv
  obtain ⟨rfl, hsz, hP, hK, hD0⟩ := hv
  have hx := B.exec
  have hb := B.bytes
  have hr := B.returns
  have hts := atoms_spec (ws := wsX8_mod) B.pre
  have hown : s.vm.findClass RX8 = some m.cls := findClass_of_methodNamed B.named
  have hlocks := B.notSynchronized
  subst hsz
  have hD := hD0.self (sz := s.heap.size)
  generalize hAe : va_A [] s.heap.size = A at hD ⊢
  have hA : ∀ q : Nat, s.heap.size ≤ q → A q := fun q h => by rw [← hAe]; exact Or.inr h
  have hS : va_S A s.heap s.heap [] := va_S.rf
  have hP : va_P (dC, dI) vwCl [] s.heap := hP
  have hl := lv_entry ([.int p0, .int p1]) (n := 3) (Nat.le_of_ble_eq_true rfl)
  rw [lg_entry_eq]
  generalize (lg_sl ([.int p0, .int p1]) ++ List.replicate (3 - (lg_sl ([.int p0, .int p1])).length) Slot.unset).toArray = ls at hl ⊢
  have hl : lv_has ls 3 [(0, .int p0), (1, .int p1)] := hl

  refine lv_iload_n hx hb dX8_mod_0 rfl (lv_at hl 0 rfl) ?_
  refine lv_iload_n hx hb dX8_mod_1 rfl (lv_at hl 1 rfl) ?_
  refine lv_irem hx hb dX8_mod_2 (fun h9 => by rw [h9] at hy9; have : (0 : Int) = n9 := hy9; omega) ?_
  obtain ⟨q9, r9, he9, hm9, hp9, hq9⟩ := tx_rem (x := p0) hy9 h09 h19
  obtain ⟨z9, ez9⟩ : ∃ z : Int32, z = p0 - p0 / p1 * p1 := ⟨_, rfl⟩
  rw [← ez9] at he9
  refine W.eq (g2 := F0 m 3 ls [.int z9]) (by rw [ez9]) ?_
  refine lv_istore_n (lv' := [(2, .int z9), (0, .int p0), (1, .int p1)]) hx hb dX8_mod_3 rfl hl (by decide) rfl (fun ls hl => ?_)
  refine lv_iload_n hx hb dX8_mod_4 rfl (lv_at hl 0 rfl) ?_
  refine lv_if_ge (tgt := 14) hx hb dX8_mod_5 (by decide) (fun c_1 => ?_) (fun c_1 => ?_)
  ·
    have ic_1 : 0 ≤ z9.toInt := tx_le (by decide) rfl c_1
    refine lv_iload_n hx hb dX8_mod_14 rfl (lv_at hl 0 rfl) ?_
    refine W.widen (k := 0) (n := 0) (Nat.le_of_ble_eq_true rfl) (Nat.le_of_ble_eq_true rfl) ?_
    exact W.iret (v := z9) hx hb hr (fun t ht hW => ⟨⟨z9, (), rfl, by show z9.toInt = p0.toInt % n9; rw [he9]; exact (tx_em2 hm9 (by omega) (by omega)), trivial⟩, hS.F ht⟩) hS.2.2 dX8_mod_15
  ·
    have ic_1 : z9.toInt < 0 := tx_nle (by decide) rfl c_1
    refine lv_iload_n hx hb dX8_mod_8 rfl (lv_at hl 0 rfl) ?_
    refine lv_iload_n hx hb dX8_mod_9 rfl (lv_at hl 2 rfl) ?_
    refine lv_iadd hx hb dX8_mod_10 ?_
    refine lv_goto (tgt := 15) hx hb dX8_mod_11 (by decide) ?_
    refine W.widen (k := 0) (n := 0) (Nat.le_of_ble_eq_true rfl) (Nat.le_of_ble_eq_true rfl) ?_
    exact W.iret (v := z9 + p1) hx hb hr (fun t ht hW => ⟨⟨z9 + p1, (), rfl, by show (z9 + p1).toInt = p0.toInt % n9; rw [Int32.toInt_add, hy9, he9, tx_bm (by omega) (by omega)]; exact tx_em hm9 (by omega) (by omega), trivial⟩, hS.F ht⟩) hS.2.2 dX8_mod_15
set_option maxHeartbeats 4000000 in
set_option maxRecDepth 100000 in
/-- two keys in an ORDER -/
theorem c_X8_compare (l : Launch) (dC : Nat → ClassId) (dI : Nat → Nat → Nat) (sz : Nat) (p0 : Int32) (p1 : Int32) (p2 : Int32) : Met l yX8_compare wsX8_compare ({ frames := 1, cells := 0, slots := 0, locals := 40 }) (va_Pc [.int p0, .int p1, .int p2] (pk_Pre (dC, dI) [] [] sz)) (va_Qi (fun (r : Int32) (_ : Unit) => r.toInt = cmpI (rkI p0.toInt p1) (rkI p0.toInt p2)) (fun (_ : Unit) (_ : State) => True) (va_A [] sz)) 0 0 (va_A [] sz) := by
  refine Met.ofW (cc := cX8_compare) (maxL := 7) (ret := (some .int)) (by decide) rfl ?_
  intro p e s m args below meth c s₁ B hml hv
  obtain ⟨rfl, hsz, hP, hK, hD0⟩ := hv
  have hx := B.exec
  have hb := B.bytes
  have hr := B.returns
  have hts := atoms_spec (ws := wsX8_compare) B.pre
  have hown : s.vm.findClass RX8 = some m.cls := findClass_of_methodNamed B.named
  have hlocks := B.notSynchronized
  subst hsz
  have hD := hD0.self (sz := s.heap.size)
  generalize hAe : va_A [] s.heap.size = A at hD ⊢
  have hA : ∀ q : Nat, s.heap.size ≤ q → A q := fun q h => by rw [← hAe]; exact Or.inr h
  have hS : va_S A s.heap s.heap [] := va_S.rf
  have hP : va_P (dC, dI) vwCl [] s.heap := hP
  have hl := lv_entry ([.int p0, .int p1, .int p2]) (n := 7) (Nat.le_of_ble_eq_true rfl)
  rw [lg_entry_eq]
  generalize (lg_sl ([.int p0, .int p1, .int p2]) ++ List.replicate (7 - (lg_sl ([.int p0, .int p1, .int p2])).length) Slot.unset).toArray = ls at hl ⊢
  have hl : lv_has ls 7 [(0, .int p0), (1, .int p1), (2, .int p2)] := hl

  refine lv_iload_n hx hb dX8_compare_0 rfl (lv_at hl 0 rfl) ?_
  refine lv_iconst (v := 1) hx hb dX8_compare_1 (by decide) ?_
  refine lv_icmp_ne (tgt := 13) hx hb dX8_compare_2 (by decide) (fun c_1 => ?_) (fun c_1 => ?_)
  ·
    have ic_1 : ¬ p0.toInt = 1 := tx_ne rfl (by decide) c_1
    refine lv_iload_n hx hb dX8_compare_13 rfl (lv_at hl 0 rfl) ?_
    refine lv_iconst (v := 2) hx hb dX8_compare_14 (by decide) ?_
    refine lv_icmp_ne (tgt := 69) hx hb dX8_compare_15 (by decide) (fun c_2 => ?_) (fun c_2 => ?_)
    ·
      have ic_2 : ¬ p0.toInt = 2 := tx_ne rfl (by decide) c_2
      refine lv_iload_n hx hb dX8_compare_69 rfl (lv_at hl 0 rfl) ?_
      refine lv_iconst (v := 3) hx hb dX8_compare_70 (by decide) ?_
      refine lv_icmp_ne (tgt := 94) hx hb dX8_compare_71 (by decide) (fun c_3 => ?_) (fun c_3 => ?_)
      ·
        have ic_3 : ¬ p0.toInt = 3 := tx_ne rfl (by decide) c_3
        refine lv_iload_n hx hb dX8_compare_94 rfl (lv_at hl 1 rfl) ?_
        refine lv_i2l (v := p1.toInt64) hx hb dX8_compare_95 rfl ?_
        refine lv_iload_n hx hb dX8_compare_96 rfl (lv_at hl 2 rfl) ?_
        refine lv_i2l (v := p2.toInt64) hx hb dX8_compare_97 rfl ?_
        have hPc := hP.sub (ws' := []) [] rfl
        have hDc := hD.sub (ws' := []) [] (by decide) rfl
        have hKc := hK.sub (tys' := []) [] rfl
        have hFc := va_free (wc := []) hD hS hA [] rfl
        refine va_calli (va_runS (As := [.long p1.toInt64, .long p2.toInt64]) (rest := []) ⟨hx, hb, hml, hown, hts⟩ (c_X8_two l  dC dI s.heap.size p1.toInt64 p2.toInt64) (va_cwS 2 hts gX8_compare_X8_two rfl rfl rfl (by decide +kernel) ⟨(Nat.le_of_ble_eq_true rfl), (Nat.le_of_ble_eq_true rfl)⟩) ⟨pk_blind, pk_call hPc hKc hDc⟩ rfl rfl hl.1 rfl (lv_room (Nat.le_of_ble_eq_true rfl)) dX8_compare_98 ⟨(Nat.le_of_ble_eq_true rfl), (Nat.le_of_ble_eq_true rfl)⟩) hS (fun q _ h => hFc q h) hFc (fun r_4 ur_4 t H1 locs ht hvm hw hB hz1 hk1 hS => ?_)
        try dsimp only at hw
        have jr_4 := hw
        obtain ⟨hP, hD⟩ := va_join (wr := []) (w1 := []) hP hD [] [] rfl rfl (by decide) (by decide) hk1 hFc tx_P0 tx_D0
        clear hk1 hz1 ht hPc hDc hKc hFc
        generalize H1 = H at hP hS ⊢
        replace hP : va_P (dC, dI) vwCl [] H := hP
        replace hD : va_D A [] := hD
        refine W.widen (k := 0) (n := 0) (Nat.le_of_ble_eq_true rfl) (Nat.le_of_ble_eq_true rfl) ?_
        refine W.eq (g2 := F0 m 101 ls [.int r_4]) rfl ?_
        refine W.widen (k := 0) (n := 0) (Nat.le_of_ble_eq_true rfl) (Nat.le_of_ble_eq_true rfl) ?_
        exact W.iret (v := r_4) hx hb hr (fun t ht hW => ⟨⟨r_4, (), rfl, cmp_0 (by omega) (by omega) (by omega) jr_4, trivial⟩, hS.F ht⟩) hS.2.2 dX8_compare_101
      ·
        have ic_3 : p0.toInt = 3 := tx_eq rfl (by decide) c_3
        refine lv_iload_n hx hb dX8_compare_74 rfl (lv_at hl 1 rfl) ?_
        refine lv_bipush (v := 10) hx hb dX8_compare_75 (by decide) ?_
        have hPc := hP.sub (ws' := []) [] rfl
        have hDc := hD.sub (ws' := []) [] (by decide) rfl
        have hKc := hK.sub (tys' := []) [] rfl
        have hFc := va_free (wc := []) hD hS hA [] rfl
        refine va_calli (va_runS (As := [.int p1, .int 10]) (rest := []) ⟨hx, hb, hml, hown, hts⟩ (c_X8_mod l  dC dI s.heap.size p1 10 10 (by decide) (by omega) (by omega)) (va_cwS 2 hts gX8_compare_X8_mod rfl rfl rfl (by decide +kernel) ⟨(Nat.le_of_ble_eq_true rfl), (Nat.le_of_ble_eq_true rfl)⟩) ⟨pk_blind, pk_call hPc hKc hDc⟩ rfl rfl hl.1 rfl (lv_room (Nat.le_of_ble_eq_true rfl)) dX8_compare_77 ⟨(Nat.le_of_ble_eq_true rfl), (Nat.le_of_ble_eq_true rfl)⟩) hS (fun q _ h => hFc q h) hFc (fun r_5 ur_5 t H1 locs ht hvm hw hB hz1 hk1 hS => ?_)
        try dsimp only at hw
        have jr_5 := hw
        obtain ⟨hP, hD⟩ := va_join (wr := []) (w1 := []) hP hD [] [] rfl rfl (by decide) (by decide) hk1 hFc tx_P0 tx_D0
        clear hk1 hz1 ht hPc hDc hKc hFc
        generalize H1 = H at hP hS ⊢
        replace hP : va_P (dC, dI) vwCl [] H := hP
        replace hD : va_D A [] := hD
        refine W.widen (k := 0) (n := 0) (Nat.le_of_ble_eq_true rfl) (Nat.le_of_ble_eq_true rfl) ?_
        refine W.eq (g2 := F0 m 80 ls [.int r_5]) rfl ?_
        refine lv_i2l (v := r_5.toInt64) hx hb dX8_compare_80 rfl ?_
        refine lv_iload_n hx hb dX8_compare_81 rfl (lv_at hl 2 rfl) ?_
        refine lv_bipush (v := 10) hx hb dX8_compare_82 (by decide) ?_
        have hPc := hP.sub (ws' := []) [] rfl
        have hDc := hD.sub (ws' := []) [] (by decide) rfl
        have hKc := hK.sub (tys' := []) [] rfl
        have hFc := va_free (wc := []) hD hS hA [] rfl
        refine va_calli (va_runS (As := [.int p2, .int 10]) (rest := [.long r_5.toInt64]) ⟨hx, hb, hml, hown, hts⟩ (c_X8_mod l  dC dI H.size p2 10 10 (by decide) (by omega) (by omega)) (va_cwS 2 hts gX8_compare_X8_mod rfl rfl rfl (by decide +kernel) ⟨(Nat.le_of_ble_eq_true rfl), (Nat.le_of_ble_eq_true rfl)⟩) ⟨pk_blind, pk_call hPc hKc hDc⟩ rfl rfl hl.1 rfl (lv_room (Nat.le_of_ble_eq_true rfl)) dX8_compare_84 ⟨(Nat.le_of_ble_eq_true rfl), (Nat.le_of_ble_eq_true rfl)⟩) hS (fun q _ h => hFc q h) hFc (fun r_6 ur_6 t H1 locs ht hvm hw hB hz1 hk1 hS => ?_)
        try dsimp only at hw
        have jr_6 := hw
        obtain ⟨hP, hD⟩ := va_join (wr := []) (w1 := []) hP hD [] [] rfl rfl (by decide) (by decide) hk1 hFc tx_P0 tx_D0
        clear hk1 hz1 ht hPc hDc hKc hFc
        generalize H1 = H at hP hS ⊢
        replace hP : va_P (dC, dI) vwCl [] H := hP
        replace hD : va_D A [] := hD
        refine W.widen (k := 0) (n := 0) (Nat.le_of_ble_eq_true rfl) (Nat.le_of_ble_eq_true rfl) ?_
        refine W.eq (g2 := F0 m 87 ls [.int r_6, .long r_5.toInt64]) rfl ?_
        refine lv_i2l (v := r_6.toInt64) hx hb dX8_compare_87 rfl ?_
        have hPc := hP.sub (ws' := []) [] rfl
        have hDc := hD.sub (ws' := []) [] (by decide) rfl
        have hKc := hK.sub (tys' := []) [] rfl
        have hFc := va_free (wc := []) hD hS hA [] rfl
        refine va_calli (va_runS (As := [.long r_5.toInt64, .long r_6.toInt64]) (rest := []) ⟨hx, hb, hml, hown, hts⟩ (c_X8_two l  dC dI H.size r_5.toInt64 r_6.toInt64) (va_cwS 2 hts gX8_compare_X8_two rfl rfl rfl (by decide +kernel) ⟨(Nat.le_of_ble_eq_true rfl), (Nat.le_of_ble_eq_true rfl)⟩) ⟨pk_blind, pk_call hPc hKc hDc⟩ rfl rfl hl.1 rfl (lv_room (Nat.le_of_ble_eq_true rfl)) dX8_compare_88 ⟨(Nat.le_of_ble_eq_true rfl), (Nat.le_of_ble_eq_true rfl)⟩) hS (fun q _ h => hFc q h) hFc (fun r_7 ur_7 t H1 locs ht hvm hw hB hz1 hk1 hS => ?_)
        try dsimp only at hw
        have jr_7 := hw
        obtain ⟨hP, hD⟩ := va_join (wr := []) (w1 := []) hP hD [] [] rfl rfl (by decide) (by decide) hk1 hFc tx_P0 tx_D0
        clear hk1 hz1 ht hPc hDc hKc hFc
        generalize H1 = H at hP hS ⊢
        replace hP : va_P (dC, dI) vwCl [] H := hP
        replace hD : va_D A [] := hD
        refine W.widen (k := 0) (n := 0) (Nat.le_of_ble_eq_true rfl) (Nat.le_of_ble_eq_true rfl) ?_
        refine W.eq (g2 := F0 m 91 ls [.int r_7]) rfl ?_
        refine lv_goto (tgt := 101) hx hb dX8_compare_91 (by decide) ?_
        refine W.widen (k := 0) (n := 0) (Nat.le_of_ble_eq_true rfl) (Nat.le_of_ble_eq_true rfl) ?_
        exact W.iret (v := r_7) hx hb hr (fun t ht hW => ⟨⟨r_7, (), rfl, cmp_3 (by omega) jr_5 jr_6 jr_7, trivial⟩, hS.F ht⟩) hS.2.2 dX8_compare_101
    ·
      have ic_2 : p0.toInt = 2 := tx_eq rfl (by decide) c_2
      refine lv_iload_n hx hb dX8_compare_18 rfl (lv_at hl 1 rfl) ?_
      refine lv_if_ge (tgt := 28) hx hb dX8_compare_19 (by decide) (fun c_8 => ?_) (fun c_8 => ?_)
      ·
        have ic_8 : 0 ≤ p1.toInt := tx_le (by decide) rfl c_8
        refine lv_iload_n hx hb dX8_compare_28 rfl (lv_at hl 1 rfl) ?_
        refine lv_i2l (v := p1.toInt64) hx hb dX8_compare_29 rfl ?_
        refine lv_lstore_n (lv' := [(3, .long p1.toInt64), (0, .int p0), (1, .int p1), (2, .int p2)]) hx hb dX8_compare_30 rfl hl (by decide) rfl (fun ls hl => ?_)
        refine lv_iload_n hx hb dX8_compare_31 rfl (lv_at hl 3 rfl) ?_
        refine lv_if_ge (tgt := 41) hx hb dX8_compare_32 (by decide) (fun c_9 => ?_) (fun c_9 => ?_)
        ·
          have ic_9 : 0 ≤ p2.toInt := tx_le (by decide) rfl c_9
          refine lv_iload_n hx hb dX8_compare_41 rfl (lv_at hl 3 rfl) ?_
          refine lv_i2l (v := p2.toInt64) hx hb dX8_compare_42 rfl ?_
          refine lv_lstore (lv' := [(5, .long p2.toInt64), (3, .long p1.toInt64), (0, .int p0), (1, .int p1), (2, .int p2)]) hx hb dX8_compare_43 hl (by decide) rfl (fun ls hl => ?_)
          refine lv_lload_n hx hb dX8_compare_45 rfl (lv_at hl 1 rfl) ?_
          refine lv_lload hx hb dX8_compare_46 (lv_at hl 0 rfl) ?_
          refine W.lcmp hx hb dX8_compare_48 ?_
          refine lv_if_eq (tgt := 61) hx hb dX8_compare_49 (by decide) (fun c_10 => ?_) (fun c_10 => ?_)
          ·
            have ic_10 := lgc_eq c_10
            refine lv_iload_n hx hb dX8_compare_61 rfl (lv_at hl 3 rfl) ?_
            refine lv_i2l (v := p1.toInt64) hx hb dX8_compare_62 rfl ?_
            refine lv_iload_n hx hb dX8_compare_63 rfl (lv_at hl 4 rfl) ?_
            refine lv_i2l (v := p2.toInt64) hx hb dX8_compare_64 rfl ?_
            have hPc := hP.sub (ws' := []) [] rfl
            have hDc := hD.sub (ws' := []) [] (by decide) rfl
            have hKc := hK.sub (tys' := []) [] rfl
            have hFc := va_free (wc := []) hD hS hA [] rfl
            refine va_calli (va_runS (As := [.long p1.toInt64, .long p2.toInt64]) (rest := []) ⟨hx, hb, hml, hown, hts⟩ (c_X8_two l  dC dI s.heap.size p1.toInt64 p2.toInt64) (va_cwS 2 hts gX8_compare_X8_two rfl rfl rfl (by decide +kernel) ⟨(Nat.le_of_ble_eq_true rfl), (Nat.le_of_ble_eq_true rfl)⟩) ⟨pk_blind, pk_call hPc hKc hDc⟩ rfl rfl hl.1 rfl (lv_room (Nat.le_of_ble_eq_true rfl)) dX8_compare_65 ⟨(Nat.le_of_ble_eq_true rfl), (Nat.le_of_ble_eq_true rfl)⟩) hS (fun q _ h => hFc q h) hFc (fun r_11 ur_11 t H1 locs ht hvm hw hB hz1 hk1 hS => ?_)
            try dsimp only at hw
            have jr_11 := hw
            obtain ⟨hP, hD⟩ := va_join (wr := []) (w1 := []) hP hD [] [] rfl rfl (by decide) (by decide) hk1 hFc tx_P0 tx_D0
            clear hk1 hz1 ht hPc hDc hKc hFc
            generalize H1 = H at hP hS ⊢
            replace hP : va_P (dC, dI) vwCl [] H := hP
            replace hD : va_D A [] := hD
            refine W.widen (k := 0) (n := 0) (Nat.le_of_ble_eq_true rfl) (Nat.le_of_ble_eq_true rfl) ?_
            refine W.eq (g2 := F0 m 68 ls [.int r_11]) rfl ?_
            refine W.widen (k := 0) (n := 0) (Nat.le_of_ble_eq_true rfl) (Nat.le_of_ble_eq_true rfl) ?_
            exact W.iret (v := r_11) hx hb hr (fun t ht hW => ⟨⟨r_11, (), rfl, cmp_2b (by omega) (ab_p (by omega)) (ab_p (by omega)) ic_10 jr_11, trivial⟩, hS.F ht⟩) hS.2.2 dX8_compare_68
          ·
            have ic_10 := lgc_ne c_10
            refine lv_lload_n hx hb dX8_compare_52 rfl (lv_at hl 1 rfl) ?_
            refine lv_lload hx hb dX8_compare_53 (lv_at hl 0 rfl) ?_
            have hPc := hP.sub (ws' := []) [] rfl
            have hDc := hD.sub (ws' := []) [] (by decide) rfl
            have hKc := hK.sub (tys' := []) [] rfl
            have hFc := va_free (wc := []) hD hS hA [] rfl
            refine va_calli (va_runS (As := [.long p1.toInt64, .long p2.toInt64]) (rest := []) ⟨hx, hb, hml, hown, hts⟩ (c_X8_two l  dC dI s.heap.size p1.toInt64 p2.toInt64) (va_cwS 2 hts gX8_compare_X8_two rfl rfl rfl (by decide +kernel) ⟨(Nat.le_of_ble_eq_true rfl), (Nat.le_of_ble_eq_true rfl)⟩) ⟨pk_blind, pk_call hPc hKc hDc⟩ rfl rfl hl.1 rfl (lv_room (Nat.le_of_ble_eq_true rfl)) dX8_compare_55 ⟨(Nat.le_of_ble_eq_true rfl), (Nat.le_of_ble_eq_true rfl)⟩) hS (fun q _ h => hFc q h) hFc (fun r_12 ur_12 t H1 locs ht hvm hw hB hz1 hk1 hS => ?_)
            try dsimp only at hw
            have jr_12 := hw
            obtain ⟨hP, hD⟩ := va_join (wr := []) (w1 := []) hP hD [] [] rfl rfl (by decide) (by decide) hk1 hFc tx_P0 tx_D0
            clear hk1 hz1 ht hPc hDc hKc hFc
            generalize H1 = H at hP hS ⊢
            replace hP : va_P (dC, dI) vwCl [] H := hP
            replace hD : va_D A [] := hD
            refine W.widen (k := 0) (n := 0) (Nat.le_of_ble_eq_true rfl) (Nat.le_of_ble_eq_true rfl) ?_
            refine W.eq (g2 := F0 m 58 ls [.int r_12]) rfl ?_
            refine lv_goto (tgt := 68) hx hb dX8_compare_58 (by decide) ?_
            refine W.widen (k := 0) (n := 0) (Nat.le_of_ble_eq_true rfl) (Nat.le_of_ble_eq_true rfl) ?_
            exact W.iret (v := r_12) hx hb hr (fun t ht hW => ⟨⟨r_12, (), rfl, cmp_2a (by omega) (ab_p (by omega)) (ab_p (by omega)) ic_10 jr_12, trivial⟩, hS.F ht⟩) hS.2.2 dX8_compare_68
        ·
          have ic_9 : p2.toInt < 0 := tx_nle (by decide) rfl c_9
          refine lv_iload_n hx hb dX8_compare_35 rfl (lv_at hl 3 rfl) ?_
          refine lv_i2l (v := p2.toInt64) hx hb dX8_compare_36 rfl ?_
          refine lv_lneg hx hb dX8_compare_37 ?_
          refine lv_goto (tgt := 43) hx hb dX8_compare_38 (by decide) ?_
          refine lv_lstore (lv' := [(5, .long (-p2.toInt64)), (3, .long p1.toInt64), (0, .int p0), (1, .int p1), (2, .int p2)]) hx hb dX8_compare_43 hl (by decide) rfl (fun ls hl => ?_)
          refine lv_lload_n hx hb dX8_compare_45 rfl (lv_at hl 1 rfl) ?_
          refine lv_lload hx hb dX8_compare_46 (lv_at hl 0 rfl) ?_
          refine W.lcmp hx hb dX8_compare_48 ?_
          refine lv_if_eq (tgt := 61) hx hb dX8_compare_49 (by decide) (fun c_13 => ?_) (fun c_13 => ?_)
          ·
            have ic_13 := lgc_eq c_13
            refine lv_iload_n hx hb dX8_compare_61 rfl (lv_at hl 3 rfl) ?_
            refine lv_i2l (v := p1.toInt64) hx hb dX8_compare_62 rfl ?_
            refine lv_iload_n hx hb dX8_compare_63 rfl (lv_at hl 4 rfl) ?_
            refine lv_i2l (v := p2.toInt64) hx hb dX8_compare_64 rfl ?_
            have hPc := hP.sub (ws' := []) [] rfl
            have hDc := hD.sub (ws' := []) [] (by decide) rfl
            have hKc := hK.sub (tys' := []) [] rfl
            have hFc := va_free (wc := []) hD hS hA [] rfl
            refine va_calli (va_runS (As := [.long p1.toInt64, .long p2.toInt64]) (rest := []) ⟨hx, hb, hml, hown, hts⟩ (c_X8_two l  dC dI s.heap.size p1.toInt64 p2.toInt64) (va_cwS 2 hts gX8_compare_X8_two rfl rfl rfl (by decide +kernel) ⟨(Nat.le_of_ble_eq_true rfl), (Nat.le_of_ble_eq_true rfl)⟩) ⟨pk_blind, pk_call hPc hKc hDc⟩ rfl rfl hl.1 rfl (lv_room (Nat.le_of_ble_eq_true rfl)) dX8_compare_65 ⟨(Nat.le_of_ble_eq_true rfl), (Nat.le_of_ble_eq_true rfl)⟩) hS (fun q _ h => hFc q h) hFc (fun r_14 ur_14 t H1 locs ht hvm hw hB hz1 hk1 hS => ?_)
            try dsimp only at hw
            have jr_14 := hw
            obtain ⟨hP, hD⟩ := va_join (wr := []) (w1 := []) hP hD [] [] rfl rfl (by decide) (by decide) hk1 hFc tx_P0 tx_D0
            clear hk1 hz1 ht hPc hDc hKc hFc
            generalize H1 = H at hP hS ⊢
            replace hP : va_P (dC, dI) vwCl [] H := hP
            replace hD : va_D A [] := hD
            refine W.widen (k := 0) (n := 0) (Nat.le_of_ble_eq_true rfl) (Nat.le_of_ble_eq_true rfl) ?_
            refine W.eq (g2 := F0 m 68 ls [.int r_14]) rfl ?_
            refine W.widen (k := 0) (n := 0) (Nat.le_of_ble_eq_true rfl) (Nat.le_of_ble_eq_true rfl) ?_
            exact W.iret (v := r_14) hx hb hr (fun t ht hW => ⟨⟨r_14, (), rfl, cmp_2b (by omega) (ab_p (by omega)) (ab_n (by omega)) ic_13 jr_14, trivial⟩, hS.F ht⟩) hS.2.2 dX8_compare_68
          ·
            have ic_13 := lgc_ne c_13
            refine lv_lload_n hx hb dX8_compare_52 rfl (lv_at hl 1 rfl) ?_
            refine lv_lload hx hb dX8_compare_53 (lv_at hl 0 rfl) ?_
            have hPc := hP.sub (ws' := []) [] rfl
            have hDc := hD.sub (ws' := []) [] (by decide) rfl
            have hKc := hK.sub (tys' := []) [] rfl
            have hFc := va_free (wc := []) hD hS hA [] rfl
            refine va_calli (va_runS (As := [.long p1.toInt64, .long (-p2.toInt64)]) (rest := []) ⟨hx, hb, hml, hown, hts⟩ (c_X8_two l  dC dI s.heap.size p1.toInt64 (-p2.toInt64)) (va_cwS 2 hts gX8_compare_X8_two rfl rfl rfl (by decide +kernel) ⟨(Nat.le_of_ble_eq_true rfl), (Nat.le_of_ble_eq_true rfl)⟩) ⟨pk_blind, pk_call hPc hKc hDc⟩ rfl rfl hl.1 rfl (lv_room (Nat.le_of_ble_eq_true rfl)) dX8_compare_55 ⟨(Nat.le_of_ble_eq_true rfl), (Nat.le_of_ble_eq_true rfl)⟩) hS (fun q _ h => hFc q h) hFc (fun r_15 ur_15 t H1 locs ht hvm hw hB hz1 hk1 hS => ?_)
            try dsimp only at hw
            have jr_15 := hw
            obtain ⟨hP, hD⟩ := va_join (wr := []) (w1 := []) hP hD [] [] rfl rfl (by decide) (by decide) hk1 hFc tx_P0 tx_D0
            clear hk1 hz1 ht hPc hDc hKc hFc
            generalize H1 = H at hP hS ⊢
            replace hP : va_P (dC, dI) vwCl [] H := hP
            replace hD : va_D A [] := hD
            refine W.widen (k := 0) (n := 0) (Nat.le_of_ble_eq_true rfl) (Nat.le_of_ble_eq_true rfl) ?_
            refine W.eq (g2 := F0 m 58 ls [.int r_15]) rfl ?_
            refine lv_goto (tgt := 68) hx hb dX8_compare_58 (by decide) ?_
            refine W.widen (k := 0) (n := 0) (Nat.le_of_ble_eq_true rfl) (Nat.le_of_ble_eq_true rfl) ?_
            exact W.iret (v := r_15) hx hb hr (fun t ht hW => ⟨⟨r_15, (), rfl, cmp_2a (by omega) (ab_p (by omega)) (ab_n (by omega)) ic_13 jr_15, trivial⟩, hS.F ht⟩) hS.2.2 dX8_compare_68
      ·
        have ic_8 : p1.toInt < 0 := tx_nle (by decide) rfl c_8
        refine lv_iload_n hx hb dX8_compare_22 rfl (lv_at hl 1 rfl) ?_
        refine lv_i2l (v := p1.toInt64) hx hb dX8_compare_23 rfl ?_
        refine lv_lneg hx hb dX8_compare_24 ?_
        refine lv_goto (tgt := 30) hx hb dX8_compare_25 (by decide) ?_
        refine lv_lstore_n (lv' := [(3, .long (-p1.toInt64)), (0, .int p0), (1, .int p1), (2, .int p2)]) hx hb dX8_compare_30 rfl hl (by decide) rfl (fun ls hl => ?_)
        refine lv_iload_n hx hb dX8_compare_31 rfl (lv_at hl 3 rfl) ?_
        refine lv_if_ge (tgt := 41) hx hb dX8_compare_32 (by decide) (fun c_16 => ?_) (fun c_16 => ?_)
        ·
          have ic_16 : 0 ≤ p2.toInt := tx_le (by decide) rfl c_16
          refine lv_iload_n hx hb dX8_compare_41 rfl (lv_at hl 3 rfl) ?_
          refine lv_i2l (v := p2.toInt64) hx hb dX8_compare_42 rfl ?_
          refine lv_lstore (lv' := [(5, .long p2.toInt64), (3, .long (-p1.toInt64)), (0, .int p0), (1, .int p1), (2, .int p2)]) hx hb dX8_compare_43 hl (by decide) rfl (fun ls hl => ?_)
          refine lv_lload_n hx hb dX8_compare_45 rfl (lv_at hl 1 rfl) ?_
          refine lv_lload hx hb dX8_compare_46 (lv_at hl 0 rfl) ?_
          refine W.lcmp hx hb dX8_compare_48 ?_
          refine lv_if_eq (tgt := 61) hx hb dX8_compare_49 (by decide) (fun c_17 => ?_) (fun c_17 => ?_)
          ·
            have ic_17 := lgc_eq c_17
            refine lv_iload_n hx hb dX8_compare_61 rfl (lv_at hl 3 rfl) ?_
            refine lv_i2l (v := p1.toInt64) hx hb dX8_compare_62 rfl ?_
            refine lv_iload_n hx hb dX8_compare_63 rfl (lv_at hl 4 rfl) ?_
            refine lv_i2l (v := p2.toInt64) hx hb dX8_compare_64 rfl ?_
            have hPc := hP.sub (ws' := []) [] rfl
            have hDc := hD.sub (ws' := []) [] (by decide) rfl
            have hKc := hK.sub (tys' := []) [] rfl
            have hFc := va_free (wc := []) hD hS hA [] rfl
            refine va_calli (va_runS (As := [.long p1.toInt64, .long p2.toInt64]) (rest := []) ⟨hx, hb, hml, hown, hts⟩ (c_X8_two l  dC dI s.heap.size p1.toInt64 p2.toInt64) (va_cwS 2 hts gX8_compare_X8_two rfl rfl rfl (by decide +kernel) ⟨(Nat.le_of_ble_eq_true rfl), (Nat.le_of_ble_eq_true rfl)⟩) ⟨pk_blind, pk_call hPc hKc hDc⟩ rfl rfl hl.1 rfl (lv_room (Nat.le_of_ble_eq_true rfl)) dX8_compare_65 ⟨(Nat.le_of_ble_eq_true rfl), (Nat.le_of_ble_eq_true rfl)⟩) hS (fun q _ h => hFc q h) hFc (fun r_18 ur_18 t H1 locs ht hvm hw hB hz1 hk1 hS => ?_)
            try dsimp only at hw
            have jr_18 := hw
            obtain ⟨hP, hD⟩ := va_join (wr := []) (w1 := []) hP hD [] [] rfl rfl (by decide) (by decide) hk1 hFc tx_P0 tx_D0
            clear hk1 hz1 ht hPc hDc hKc hFc
            generalize H1 = H at hP hS ⊢
            replace hP : va_P (dC, dI) vwCl [] H := hP
            replace hD : va_D A [] := hD
            refine W.widen (k := 0) (n := 0) (Nat.le_of_ble_eq_true rfl) (Nat.le_of_ble_eq_true rfl) ?_
            refine W.eq (g2 := F0 m 68 ls [.int r_18]) rfl ?_
            refine W.widen (k := 0) (n := 0) (Nat.le_of_ble_eq_true rfl) (Nat.le_of_ble_eq_true rfl) ?_
            exact W.iret (v := r_18) hx hb hr (fun t ht hW => ⟨⟨r_18, (), rfl, cmp_2b (by omega) (ab_n (by omega)) (ab_p (by omega)) ic_17 jr_18, trivial⟩, hS.F ht⟩) hS.2.2 dX8_compare_68
          ·
            have ic_17 := lgc_ne c_17
            refine lv_lload_n hx hb dX8_compare_52 rfl (lv_at hl 1 rfl) ?_
            refine lv_lload hx hb dX8_compare_53 (lv_at hl 0 rfl) ?_
            have hPc := hP.sub (ws' := []) [] rfl
            have hDc := hD.sub (ws' := []) [] (by decide) rfl
            have hKc := hK.sub (tys' := []) [] rfl
            have hFc := va_free (wc := []) hD hS hA [] rfl
            refine va_calli (va_runS (As := [.long (-p1.toInt64), .long p2.toInt64]) (rest := []) ⟨hx, hb, hml, hown, hts⟩ (c_X8_two l  dC dI s.heap.size (-p1.toInt64) p2.toInt64) (va_cwS 2 hts gX8_compare_X8_two rfl rfl rfl (by decide +kernel) ⟨(Nat.le_of_ble_eq_true rfl), (Nat.le_of_ble_eq_true rfl)⟩) ⟨pk_blind, pk_call hPc hKc hDc⟩ rfl rfl hl.1 rfl (lv_room (Nat.le_of_ble_eq_true rfl)) dX8_compare_55 ⟨(Nat.le_of_ble_eq_true rfl), (Nat.le_of_ble_eq_true rfl)⟩) hS (fun q _ h => hFc q h) hFc (fun r_19 ur_19 t H1 locs ht hvm hw hB hz1 hk1 hS => ?_)
            try dsimp only at hw
            have jr_19 := hw
            obtain ⟨hP, hD⟩ := va_join (wr := []) (w1 := []) hP hD [] [] rfl rfl (by decide) (by decide) hk1 hFc tx_P0 tx_D0
            clear hk1 hz1 ht hPc hDc hKc hFc
            generalize H1 = H at hP hS ⊢
            replace hP : va_P (dC, dI) vwCl [] H := hP
            replace hD : va_D A [] := hD
            refine W.widen (k := 0) (n := 0) (Nat.le_of_ble_eq_true rfl) (Nat.le_of_ble_eq_true rfl) ?_
            refine W.eq (g2 := F0 m 58 ls [.int r_19]) rfl ?_
            refine lv_goto (tgt := 68) hx hb dX8_compare_58 (by decide) ?_
            refine W.widen (k := 0) (n := 0) (Nat.le_of_ble_eq_true rfl) (Nat.le_of_ble_eq_true rfl) ?_
            exact W.iret (v := r_19) hx hb hr (fun t ht hW => ⟨⟨r_19, (), rfl, cmp_2a (by omega) (ab_n (by omega)) (ab_p (by omega)) ic_17 jr_19, trivial⟩, hS.F ht⟩) hS.2.2 dX8_compare_68
        ·
          have ic_16 : p2.toInt < 0 := tx_nle (by decide) rfl c_16
          refine lv_iload_n hx hb dX8_compare_35 rfl (lv_at hl 3 rfl) ?_
          refine lv_i2l (v := p2.toInt64) hx hb dX8_compare_36 rfl ?_
          refine lv_lneg hx hb dX8_compare_37 ?_
          refine lv_goto (tgt := 43) hx hb dX8_compare_38 (by decide) ?_
          refine lv_lstore (lv' := [(5, .long (-p2.toInt64)), (3, .long (-p1.toInt64)), (0, .int p0), (1, .int p1), (2, .int p2)]) hx hb dX8_compare_43 hl (by decide) rfl (fun ls hl => ?_)
          refine lv_lload_n hx hb dX8_compare_45 rfl (lv_at hl 1 rfl) ?_
          refine lv_lload hx hb dX8_compare_46 (lv_at hl 0 rfl) ?_
          refine W.lcmp hx hb dX8_compare_48 ?_
          refine lv_if_eq (tgt := 61) hx hb dX8_compare_49 (by decide) (fun c_20 => ?_) (fun c_20 => ?_)
          ·
            have ic_20 := lgc_eq c_20
            refine lv_iload_n hx hb dX8_compare_61 rfl (lv_at hl 3 rfl) ?_
            refine lv_i2l (v := p1.toInt64) hx hb dX8_compare_62 rfl ?_
            refine lv_iload_n hx hb dX8_compare_63 rfl (lv_at hl 4 rfl) ?_
            refine lv_i2l (v := p2.toInt64) hx hb dX8_compare_64 rfl ?_
            have hPc := hP.sub (ws' := []) [] rfl
            have hDc := hD.sub (ws' := []) [] (by decide) rfl
            have hKc := hK.sub (tys' := []) [] rfl
            have hFc := va_free (wc := []) hD hS hA [] rfl
            refine va_calli (va_runS (As := [.long p1.toInt64, .long p2.toInt64]) (rest := []) ⟨hx, hb, hml, hown, hts⟩ (c_X8_two l  dC dI s.heap.size p1.toInt64 p2.toInt64) (va_cwS 2 hts gX8_compare_X8_two rfl rfl rfl (by decide +kernel) ⟨(Nat.le_of_ble_eq_true rfl), (Nat.le_of_ble_eq_true rfl)⟩) ⟨pk_blind, pk_call hPc hKc hDc⟩ rfl rfl hl.1 rfl (lv_room (Nat.le_of_ble_eq_true rfl)) dX8_compare_65 ⟨(Nat.le_of_ble_eq_true rfl), (Nat.le_of_ble_eq_true rfl)⟩) hS (fun q _ h => hFc q h) hFc (fun r_21 ur_21 t H1 locs ht hvm hw hB hz1 hk1 hS => ?_)
            try dsimp only at hw
            have jr_21 := hw
            obtain ⟨hP, hD⟩ := va_join (wr := []) (w1 := []) hP hD [] [] rfl rfl (by decide) (by decide) hk1 hFc tx_P0 tx_D0
            clear hk1 hz1 ht hPc hDc hKc hFc
            generalize H1 = H at hP hS ⊢
            replace hP : va_P (dC, dI) vwCl [] H := hP
            replace hD : va_D A [] := hD
            refine W.widen (k := 0) (n := 0) (Nat.le_of_ble_eq_true rfl) (Nat.le_of_ble_eq_true rfl) ?_
            refine W.eq (g2 := F0 m 68 ls [.int r_21]) rfl ?_
            refine W.widen (k := 0) (n := 0) (Nat.le_of_ble_eq_true rfl) (Nat.le_of_ble_eq_true rfl) ?_
            exact W.iret (v := r_21) hx hb hr (fun t ht hW => ⟨⟨r_21, (), rfl, cmp_2b (by omega) (ab_n (by omega)) (ab_n (by omega)) ic_20 jr_21, trivial⟩, hS.F ht⟩) hS.2.2 dX8_compare_68
          ·
            have ic_20 := lgc_ne c_20
            refine lv_lload_n hx hb dX8_compare_52 rfl (lv_at hl 1 rfl) ?_
            refine lv_lload hx hb dX8_compare_53 (lv_at hl 0 rfl) ?_
            have hPc := hP.sub (ws' := []) [] rfl
            have hDc := hD.sub (ws' := []) [] (by decide) rfl
            have hKc := hK.sub (tys' := []) [] rfl
            have hFc := va_free (wc := []) hD hS hA [] rfl
            refine va_calli (va_runS (As := [.long (-p1.toInt64), .long (-p2.toInt64)]) (rest := []) ⟨hx, hb, hml, hown, hts⟩ (c_X8_two l  dC dI s.heap.size (-p1.toInt64) (-p2.toInt64)) (va_cwS 2 hts gX8_compare_X8_two rfl rfl rfl (by decide +kernel) ⟨(Nat.le_of_ble_eq_true rfl), (Nat.le_of_ble_eq_true rfl)⟩) ⟨pk_blind, pk_call hPc hKc hDc⟩ rfl rfl hl.1 rfl (lv_room (Nat.le_of_ble_eq_true rfl)) dX8_compare_55 ⟨(Nat.le_of_ble_eq_true rfl), (Nat.le_of_ble_eq_true rfl)⟩) hS (fun q _ h => hFc q h) hFc (fun r_22 ur_22 t H1 locs ht hvm hw hB hz1 hk1 hS => ?_)
            try dsimp only at hw
            have jr_22 := hw
            obtain ⟨hP, hD⟩ := va_join (wr := []) (w1 := []) hP hD [] [] rfl rfl (by decide) (by decide) hk1 hFc tx_P0 tx_D0
            clear hk1 hz1 ht hPc hDc hKc hFc
            generalize H1 = H at hP hS ⊢
            replace hP : va_P (dC, dI) vwCl [] H := hP
            replace hD : va_D A [] := hD
            refine W.widen (k := 0) (n := 0) (Nat.le_of_ble_eq_true rfl) (Nat.le_of_ble_eq_true rfl) ?_
            refine W.eq (g2 := F0 m 58 ls [.int r_22]) rfl ?_
            refine lv_goto (tgt := 68) hx hb dX8_compare_58 (by decide) ?_
            refine W.widen (k := 0) (n := 0) (Nat.le_of_ble_eq_true rfl) (Nat.le_of_ble_eq_true rfl) ?_
            exact W.iret (v := r_22) hx hb hr (fun t ht hW => ⟨⟨r_22, (), rfl, cmp_2a (by omega) (ab_n (by omega)) (ab_n (by omega)) ic_20 jr_22, trivial⟩, hS.F ht⟩) hS.2.2 dX8_compare_68
  ·
    have ic_1 : p0.toInt = 1 := tx_eq rfl (by decide) c_1
    refine lv_iload_n hx hb dX8_compare_5 rfl (lv_at hl 2 rfl) ?_
    refine lv_i2l (v := p2.toInt64) hx hb dX8_compare_6 rfl ?_
    refine lv_iload_n hx hb dX8_compare_7 rfl (lv_at hl 1 rfl) ?_
    refine lv_i2l (v := p1.toInt64) hx hb dX8_compare_8 rfl ?_
    have hPc := hP.sub (ws' := []) [] rfl
    have hDc := hD.sub (ws' := []) [] (by decide) rfl
    have hKc := hK.sub (tys' := []) [] rfl
    have hFc := va_free (wc := []) hD hS hA [] rfl
    refine va_calli (va_runS (As := [.long p2.toInt64, .long p1.toInt64]) (rest := []) ⟨hx, hb, hml, hown, hts⟩ (c_X8_two l  dC dI s.heap.size p2.toInt64 p1.toInt64) (va_cwS 2 hts gX8_compare_X8_two rfl rfl rfl (by decide +kernel) ⟨(Nat.le_of_ble_eq_true rfl), (Nat.le_of_ble_eq_true rfl)⟩) ⟨pk_blind, pk_call hPc hKc hDc⟩ rfl rfl hl.1 rfl (lv_room (Nat.le_of_ble_eq_true rfl)) dX8_compare_9 ⟨(Nat.le_of_ble_eq_true rfl), (Nat.le_of_ble_eq_true rfl)⟩) hS (fun q _ h => hFc q h) hFc (fun r_23 ur_23 t H1 locs ht hvm hw hB hz1 hk1 hS => ?_)
    try dsimp only at hw
    have jr_23 := hw
    obtain ⟨hP, hD⟩ := va_join (wr := []) (w1 := []) hP hD [] [] rfl rfl (by decide) (by decide) hk1 hFc tx_P0 tx_D0
    clear hk1 hz1 ht hPc hDc hKc hFc
    generalize H1 = H at hP hS ⊢
    replace hP : va_P (dC, dI) vwCl [] H := hP
    replace hD : va_D A [] := hD
    refine W.widen (k := 0) (n := 0) (Nat.le_of_ble_eq_true rfl) (Nat.le_of_ble_eq_true rfl) ?_
    refine W.eq (g2 := F0 m 12 ls [.int r_23]) rfl ?_
    refine W.widen (k := 0) (n := 0) (Nat.le_of_ble_eq_true rfl) (Nat.le_of_ble_eq_true rfl) ?_
    exact W.iret (v := r_23) hx hb hr (fun t ht hW => ⟨⟨r_23, (), rfl, cmp_1 (by omega) jr_23, trivial⟩, hS.F ht⟩) hS.2.2 dX8_compare_12
set_option maxHeartbeats 4000000 in
set_option maxRecDepth 100000 in
/-- ordered -/
theorem c_X8_ordered (l : Launch) (dC : Nat → ClassId) (dI : Nat → Nat → Nat) (sz : Nat) (h0 : Nat) (th : Int32) (q1 : Nat) (q4 : Nat) (q8 : Nat) (q11 : Nat) (c1 : ClassId) (c4 : ClassId) (c8 : ClassId) (c11 : ClassId) (a1 : Nat → Int32) (a4 : Nat → Int32) (a8 : Nat → Int32) (a11 : Nat → Int32) (v2 : Value) (v3 : Value) (v5 : Value) (v6 : Value) (v7 : Value) (v9 : Value) (v10 : Value) (v12 : Value) (v13 : Value) (v14 : Value) (v15 : Value) (v16 : Value) (o : Nat) (dep : Nat → Nat) (p1 : Int32) (p2 : Int32) (ho9 : o < 16) (hF9 : rF a1 a8 dep) (hd9 : dep o < 17) : Met l yX8_ordered wsX8_ordered ({ frames := 2, cells := 0, slots := 0, locals := 70 }) (va_Pc [.ref h0, .int (nI o), .int p1, .int p2] (pk_Pre (dC, dI) [(h0, .inr (8, [.int th, .ref q1, v2, v3, .ref q4, v5, v6, v7, .ref q8, v9, v10, .ref q11, v12, v13, v14, v15, v16])), (q1, .inl (c1, 16, .inl a1)), (q4, .inl (c4, 16, .inl a4)), (q8, .inl (c8, 16, .inl a8)), (q11, .inl (c11, 16, .inl a11))] [(c1, .int), (c4, .int), (c8, .int), (c11, .int)] sz)) (va_Qi (fun (x : Int32) (_ : Unit) => x.toInt = ocI (tnN a1 a8 a11 17 o false) (a4 (rtN a1 a8 17 o)).toInt p1 p2) (fun (_ : Unit) (t : State) => va_P (dC, dI) vwCl [(h0, .inr (8, [.int th, .ref q1, v2, v3, .ref q4, v5, v6, v7, .ref q8, v9, v10, .ref q11, v12, v13, v14, v15, v16])), (q1, .inl (c1, 16, .inl a1)), (q4, .inl (c4, 16, .inl a4)), (q8, .inl (c8, 16, .inl a8)), (q11, .inl (c11, 16, .inl a11))] t.heap ∧ va_K (dC, dI) vwCl [(c1, .int), (c4, .int), (c8, .int), (c11, .int)] t ∧ va_D (va_A [(h0, .inr (8, [.int th, .ref q1, v2, v3, .ref q4, v5, v6, v7, .ref q8, v9, v10, .ref q11, v12, v13, v14, v15, v16])), (q1, .inl (c1, 16, .inl a1)), (q4, .inl (c4, 16, .inl a4)), (q8, .inl (c8, 16, .inl a8)), (q11, .inl (c11, 16, .inl a11))] sz) [(h0, .inr (8, [.int th, .ref q1, v2, v3, .ref q4, v5, v6, v7, .ref q8, v9, v10, .ref q11, v12, v13, v14, v15, v16])), (q1, .inl (c1, 16, .inl a1)), (q4, .inl (c4, 16, .inl a4)), (q8, .inl (c8, 16, .inl a8)), (q11, .inl (c11, 16, .inl a11))]) (va_A [(h0, .inr (8, [.int th, .ref q1, v2, v3, .ref q4, v5, v6, v7, .ref q8, v9, v10, .ref q11, v12, v13, v14, v15, v16])), (q1, .inl (c1, 16, .inl a1)), (q4, .inl (c4, 16, .inl a4)), (q8, .inl (c8, 16, .inl a8)), (q11, .inl (c11, 16, .inl a11))] sz)) 0 0 (va_A [(h0, .inr (8, [.int th, .ref q1, v2, v3, .ref q4, v5, v6, v7, .ref q8, v9, v10, .ref q11, v12, v13, v14, v15, v16])), (q1, .inl (c1, 16, .inl a1)), (q4, .inl (c4, 16, .inl a4)), (q8, .inl (c8, 16, .inl a8)), (q11, .inl (c11, 16, .inl a11))] sz) := by
  refine Met.ofW (cc := cX8_ordered) (maxL := 5) (ret := (some .int)) (by decide) rfl ?_
  intro p e s m args below meth c s₁ B hml hv
  obtain ⟨rfl, hsz, hP, hK, hD0⟩ := hv
  have hx := B.exec
  have hb := B.bytes
  have hr := B.returns
  have hts := atoms_spec (ws := wsX8_ordered) B.pre
  have hown : s.vm.findClass RX8 = some m.cls := findClass_of_methodNamed B.named
  have hlocks := B.notSynchronized
  subst hsz
  have hD := hD0.self (sz := s.heap.size)
  generalize hAe : va_A [(h0, .inr (8, [.int th, .ref q1, v2, v3, .ref q4, v5, v6, v7, .ref q8, v9, v10, .ref q11, v12, v13, v14, v15, v16])), (q1, .inl (c1, 16, .inl a1)), (q4, .inl (c4, 16, .inl a4)), (q8, .inl (c8, 16, .inl a8)), (q11, .inl (c11, 16, .inl a11))] s.heap.size = A at hD ⊢
  have hA : ∀ q : Nat, s.heap.size ≤ q → A q := fun q h => by rw [← hAe]; exact Or.inr h
  have hS : va_S A s.heap s.heap [] := va_S.rf
  have hP : va_P (dC, dI) vwCl [(h0, .inr (8, [.int th, .ref q1, v2, v3, .ref q4, v5, v6, v7, .ref q8, v9, v10, .ref q11, v12, v13, v14, v15, v16])), (q1, .inl (c1, 16, .inl a1)), (q4, .inl (c4, 16, .inl a4)), (q8, .inl (c8, 16, .inl a8)), (q11, .inl (c11, 16, .inl a11))] s.heap := hP
  have hl := lv_entry ([.ref h0, .int (nI o), .int p1, .int p2]) (n := 5) (Nat.le_of_ble_eq_true rfl)
  rw [lg_entry_eq]
  generalize (lg_sl ([.ref h0, .int (nI o), .int p1, .int p2]) ++ List.replicate (5 - (lg_sl ([.ref h0, .int (nI o), .int p1, .int p2])).length) Slot.unset).toArray = ls at hl ⊢
  have hl : lv_has ls 5 [(0, .ref h0), (1, .int (nI o)), (2, .int p1), (3, .int p2)] := hl
  have hw0_ := hts (.fieldLink RX8 20 "KeyAtlasModel" "first" "[I") (List.mem_of_getElem? (l := wsX8_ordered) (i := 1) rfl)
  have hi0_ : ∀ w ∈ u_ws RX8 TX8 17, w ∈ wsX8_ordered := fun w h => List.mem_cons_of_mem _ (List.mem_append_right _ h)
  refine lv_aload_n hx hb dX8_ordered_0 rfl (lv_at hl 0 rfl) ?_
  refine va_get (D := (dC, dI)) (ci := 8) (v := .ref q4) (C := RX8) (T := TX8) (N := 17) hx hb hts hi0_ hown hK hP 0 rfl rfl 4 (by decide) hw0_ (fun _ h9 => h9) rfl dX8_ordered_1 ?_
  refine lv_aload_n hx hb dX8_ordered_4 rfl (lv_at hl 0 rfl) ?_
  refine lv_iload_n hx hb dX8_ordered_5 rfl (lv_at hl 1 rfl) ?_
  have hPc := hP.sub (ws' := [(h0, .inr (8, [.int th, .ref q1, v2, v3, .ref q4, v5, v6, v7, .ref q8, v9, v10, .ref q11, v12, v13, v14, v15, v16])), (q1, .inl (c1, 16, .inl a1)), (q8, .inl (c8, 16, .inl a8))]) [0, 1, 3] rfl
  have hDc := hD.sub (ws' := [(h0, .inr (8, [.int th, .ref q1, v2, v3, .ref q4, v5, v6, v7, .ref q8, v9, v10, .ref q11, v12, v13, v14, v15, v16])), (q1, .inl (c1, 16, .inl a1)), (q8, .inl (c8, 16, .inl a8))]) [0, 1, 3] (by decide) rfl
  have hKc := hK.sub (tys' := [(c1, .int), (c8, .int)]) [0, 2] rfl
  have hFc := va_free (wc := [(h0, .inr (8, [.int th, .ref q1, v2, v3, .ref q4, v5, v6, v7, .ref q8, v9, v10, .ref q11, v12, v13, v14, v15, v16])), (q1, .inl (c1, 16, .inl a1)), (q8, .inl (c8, 16, .inl a8))]) hD hS hA [0, 1, 3] rfl
  refine va_calli (va_runV (As := [.int (nI o)]) (rest := [.ref q4]) ⟨hx, hb, hml, hown, hts⟩ (c_X8_root l  dC dI s.heap.size h0 th q1 q8 c1 c8 a1 a8 v2 v3 (.ref q4) v5 v6 v7 v9 v10 (.ref q11) v12 v13 v14 v15 v16 o dep ho9 hF9 hd9) (cwV 1 hts gX8_ordered_X8_root rfl rfl rfl (by decide +kernel) ⟨(Nat.le_of_ble_eq_true rfl), (Nat.le_of_ble_eq_true rfl)⟩) ⟨pk_blind, va_recv hKc hPc (ci := 8) (q0 := 0) rfl rfl, pk_call hPc hKc hDc⟩ rfl rfl hl.1 rfl (lv_room (Nat.le_of_ble_eq_true rfl)) dX8_ordered_6 ⟨(Nat.le_of_ble_eq_true rfl), (Nat.le_of_ble_eq_true rfl)⟩) hS (fun q _ h => hFc q h) hFc (fun r_1 ur_1 t H1 locs ht hvm hw hB hz1 hk1 hS => ?_)
  try dsimp only at hw
  have jr_1 := hw
  obtain ⟨hP1, hK1, hD1⟩ := hB
  rw [ht] at hP1
  have hK1 := va_K.moved hvm.symm hK1
  obtain ⟨hP, hD⟩ := va_join (wr := [(q4, .inl (c4, 16, .inl a4)), (q11, .inl (c11, 16, .inl a11))]) (w1 := [(h0, .inr (8, [.int th, .ref q1, v2, v3, .ref q4, v5, v6, v7, .ref q8, v9, v10, .ref q11, v12, v13, v14, v15, v16])), (q1, .inl (c1, 16, .inl a1)), (q8, .inl (c8, 16, .inl a8))]) hP hD [0, 1, 3] [2, 4] rfl rfl (by decide) (by decide) hk1 hFc hP1 hD1
  clear hk1 hz1 ht hPc hDc hKc hFc
  generalize H1 = H at hP hS ⊢
  replace hP : va_P (dC, dI) vwCl [(q4, .inl (c4, 16, .inl a4)), (q11, .inl (c11, 16, .inl a11)), (h0, .inr (8, [.int th, .ref q1, v2, v3, .ref q4, v5, v6, v7, .ref q8, v9, v10, .ref q11, v12, v13, v14, v15, v16])), (q1, .inl (c1, 16, .inl a1)), (q8, .inl (c8, 16, .inl a8))] H := hP
  replace hD : va_D A [(q4, .inl (c4, 16, .inl a4)), (q11, .inl (c11, 16, .inl a11)), (h0, .inr (8, [.int th, .ref q1, v2, v3, .ref q4, v5, v6, v7, .ref q8, v9, v10, .ref q11, v12, v13, v14, v15, v16])), (q1, .inl (c1, 16, .inl a1)), (q8, .inl (c8, 16, .inl a8))] := hD
  refine W.widen (k := 0) (n := 0) (Nat.le_of_ble_eq_true rfl) (Nat.le_of_ble_eq_true rfl) ?_
  obtain ⟨rfl, hr9, -⟩ := jr_1
  refine W.eq (g2 := F0 m 9 ls [.int (nI (rtN a1 a8 17 o)), .ref q4]) rfl ?_
  refine va_iald (i := nI (rtN a1 a8 17 o)) hx hb hK hP 0 1 rfl rfl (vp_in_nI (by omega) (by omega)) dX8_ordered_9 ?_
  refine W.eq (g2 := F0 m 10 ls [.int (a4 (rtN a1 a8 17 o))]) (by rw [nI_clamp (by omega)]) ?_
  refine lv_iload_n hx hb dX8_ordered_10 rfl (lv_at hl 2 rfl) ?_
  refine lv_iload_n hx hb dX8_ordered_11 rfl (lv_at hl 3 rfl) ?_
  have hPc := hP.sub (ws' := []) [] rfl
  have hDc := hD.sub (ws' := []) [] (by decide) rfl
  have hKc := hK.sub (tys' := []) [] rfl
  have hFc := va_free (wc := []) hD hS hA [] rfl
  refine va_calli (va_runS (As := [.int (a4 (rtN a1 a8 17 o)), .int p1, .int p2]) (rest := []) ⟨hx, hb, hml, hown, hts⟩ (c_X8_compare l  dC dI H.size (a4 (rtN a1 a8 17 o)) p1 p2) (va_cwS 3 hts gX8_ordered_X8_compare rfl rfl rfl (by decide +kernel) ⟨(Nat.le_of_ble_eq_true rfl), (Nat.le_of_ble_eq_true rfl)⟩) ⟨pk_blind, pk_call hPc hKc hDc⟩ rfl rfl hl.1 rfl (lv_room (Nat.le_of_ble_eq_true rfl)) dX8_ordered_12 ⟨(Nat.le_of_ble_eq_true rfl), (Nat.le_of_ble_eq_true rfl)⟩) hS (fun q _ h => hFc q h) hFc (fun r_2 ur_2 t H1 locs ht hvm hw hB hz1 hk1 hS => ?_)
  try dsimp only at hw
  have jr_2 := hw
  obtain ⟨hP, hD⟩ := va_join (wr := [(q4, .inl (c4, 16, .inl a4)), (q11, .inl (c11, 16, .inl a11)), (h0, .inr (8, [.int th, .ref q1, v2, v3, .ref q4, v5, v6, v7, .ref q8, v9, v10, .ref q11, v12, v13, v14, v15, v16])), (q1, .inl (c1, 16, .inl a1)), (q8, .inl (c8, 16, .inl a8))]) (w1 := []) hP hD [] [0, 1, 2, 3, 4] rfl rfl (by decide) (by decide) hk1 hFc tx_P0 tx_D0
  clear hk1 hz1 ht hPc hDc hKc hFc
  generalize H1 = H at hP hS ⊢
  replace hP : va_P (dC, dI) vwCl [(q4, .inl (c4, 16, .inl a4)), (q11, .inl (c11, 16, .inl a11)), (h0, .inr (8, [.int th, .ref q1, v2, v3, .ref q4, v5, v6, v7, .ref q8, v9, v10, .ref q11, v12, v13, v14, v15, v16])), (q1, .inl (c1, 16, .inl a1)), (q8, .inl (c8, 16, .inl a8))] H := hP
  replace hD : va_D A [(q4, .inl (c4, 16, .inl a4)), (q11, .inl (c11, 16, .inl a11)), (h0, .inr (8, [.int th, .ref q1, v2, v3, .ref q4, v5, v6, v7, .ref q8, v9, v10, .ref q11, v12, v13, v14, v15, v16])), (q1, .inl (c1, 16, .inl a1)), (q8, .inl (c8, 16, .inl a8))] := hD
  refine W.widen (k := 0) (n := 0) (Nat.le_of_ble_eq_true rfl) (Nat.le_of_ble_eq_true rfl) ?_
  refine W.eq (g2 := F0 m 15 ls [.int r_2]) rfl ?_
  refine lv_istore (lv' := [(4, .int r_2), (0, .ref h0), (1, .int (nI o)), (2, .int p1), (3, .int p2)]) hx hb dX8_ordered_15 hl (by decide) rfl (fun ls hl => ?_)
  refine lv_aload_n hx hb dX8_ordered_17 rfl (lv_at hl 1 rfl) ?_
  refine lv_iload_n hx hb dX8_ordered_18 rfl (lv_at hl 2 rfl) ?_
  have hPc := hP.sub (ws' := [(h0, .inr (8, [.int th, .ref q1, v2, v3, .ref q4, v5, v6, v7, .ref q8, v9, v10, .ref q11, v12, v13, v14, v15, v16])), (q1, .inl (c1, 16, .inl a1)), (q8, .inl (c8, 16, .inl a8)), (q11, .inl (c11, 16, .inl a11))]) [2, 3, 4, 1] rfl
  have hDc := hD.sub (ws' := [(h0, .inr (8, [.int th, .ref q1, v2, v3, .ref q4, v5, v6, v7, .ref q8, v9, v10, .ref q11, v12, v13, v14, v15, v16])), (q1, .inl (c1, 16, .inl a1)), (q8, .inl (c8, 16, .inl a8)), (q11, .inl (c11, 16, .inl a11))]) [2, 3, 4, 1] (by decide) rfl
  have hKc := hK.sub (tys' := [(c1, .int), (c8, .int), (c11, .int)]) [0, 2, 3] rfl
  have hFc := va_free (wc := [(h0, .inr (8, [.int th, .ref q1, v2, v3, .ref q4, v5, v6, v7, .ref q8, v9, v10, .ref q11, v12, v13, v14, v15, v16])), (q1, .inl (c1, 16, .inl a1)), (q8, .inl (c8, 16, .inl a8)), (q11, .inl (c11, 16, .inl a11))]) hD hS hA [2, 3, 4, 1] rfl
  refine va_calli (va_runV (As := [.int (nI o)]) (rest := []) ⟨hx, hb, hml, hown, hts⟩ (c_X8_isTurned l  dC dI H.size h0 th q1 q8 q11 c1 c8 c11 a1 a8 a11 v2 v3 (.ref q4) v5 v6 v7 v9 v10 v12 v13 v14 v15 v16 o dep ho9 hF9 hd9) (cwV 1 hts gX8_ordered_X8_isTurned rfl rfl rfl (by decide +kernel) ⟨(Nat.le_of_ble_eq_true rfl), (Nat.le_of_ble_eq_true rfl)⟩) ⟨pk_blind, va_recv hKc hPc (ci := 8) (q0 := 0) rfl rfl, pk_call hPc hKc hDc⟩ rfl rfl hl.1 rfl (lv_room (Nat.le_of_ble_eq_true rfl)) dX8_ordered_19 ⟨(Nat.le_of_ble_eq_true rfl), (Nat.le_of_ble_eq_true rfl)⟩) hS (fun q _ h => hFc q h) hFc (fun r_3 ur_3 t H1 locs ht hvm hw hB hz1 hk1 hS => ?_)
  try dsimp only at hw
  have jr_3 := hw
  obtain ⟨hP1, hK1, hD1⟩ := hB
  rw [ht] at hP1
  have hK1 := va_K.moved hvm.symm hK1
  obtain ⟨hP, hD⟩ := va_join (wr := [(q4, .inl (c4, 16, .inl a4))]) (w1 := [(h0, .inr (8, [.int th, .ref q1, v2, v3, .ref q4, v5, v6, v7, .ref q8, v9, v10, .ref q11, v12, v13, v14, v15, v16])), (q1, .inl (c1, 16, .inl a1)), (q8, .inl (c8, 16, .inl a8)), (q11, .inl (c11, 16, .inl a11))]) hP hD [2, 3, 4, 1] [0] rfl rfl (by decide) (by decide) hk1 hFc hP1 hD1
  clear hk1 hz1 ht hPc hDc hKc hFc
  generalize H1 = H at hP hS ⊢
  replace hP : va_P (dC, dI) vwCl [(q4, .inl (c4, 16, .inl a4)), (h0, .inr (8, [.int th, .ref q1, v2, v3, .ref q4, v5, v6, v7, .ref q8, v9, v10, .ref q11, v12, v13, v14, v15, v16])), (q1, .inl (c1, 16, .inl a1)), (q8, .inl (c8, 16, .inl a8)), (q11, .inl (c11, 16, .inl a11))] H := hP
  replace hD : va_D A [(q4, .inl (c4, 16, .inl a4)), (h0, .inr (8, [.int th, .ref q1, v2, v3, .ref q4, v5, v6, v7, .ref q8, v9, v10, .ref q11, v12, v13, v14, v15, v16])), (q1, .inl (c1, 16, .inl a1)), (q8, .inl (c8, 16, .inl a8)), (q11, .inl (c11, 16, .inl a11))] := hD
  refine W.widen (k := 0) (n := 0) (Nat.le_of_ble_eq_true rfl) (Nat.le_of_ble_eq_true rfl) ?_
  refine W.eq (g2 := F0 m 22 ls [.int r_3]) rfl ?_
  refine lv_if_eq (tgt := 31) hx hb dX8_ordered_22 (by decide) (fun c_4 => ?_) (fun c_4 => ?_)
  ·
    have ic_4 : r_3.toInt = 0 := tx_eq rfl (by decide) c_4
    refine lv_iload hx hb dX8_ordered_31 (lv_at hl 0 rfl) ?_
    have hP9 := hP.sub (ws' := [(h0, .inr (8, [.int th, .ref q1, v2, v3, .ref q4, v5, v6, v7, .ref q8, v9, v10, .ref q11, v12, v13, v14, v15, v16])), (q1, .inl (c1, 16, .inl a1)), (q4, .inl (c4, 16, .inl a4)), (q8, .inl (c8, 16, .inl a8)), (q11, .inl (c11, 16, .inl a11))]) [1, 2, 0, 3, 4] rfl
    have hD9 := hD.sub (ws' := [(h0, .inr (8, [.int th, .ref q1, v2, v3, .ref q4, v5, v6, v7, .ref q8, v9, v10, .ref q11, v12, v13, v14, v15, v16])), (q1, .inl (c1, 16, .inl a1)), (q4, .inl (c4, 16, .inl a4)), (q8, .inl (c8, 16, .inl a8)), (q11, .inl (c11, 16, .inl a11))]) [1, 2, 0, 3, 4] (by decide) rfl
    have hK9 := hK.sub (tys' := [(c1, .int), (c4, .int), (c8, .int), (c11, .int)]) [0, 1, 2, 3] rfl
    refine W.widen (k := 0) (n := 0) (Nat.le_of_ble_eq_true rfl) (Nat.le_of_ble_eq_true rfl) ?_
    exact W.iret (v := r_2) hx hb hr (fun t ht hW => ⟨⟨r_2, (), rfl, by show r_2.toInt = _; unfold ocI; rw [if_neg (by rw [tz_0 (b := tnN a1 a8 a11 17 o false) (by rw [← jr_3]; exact ic_4)]; decide)]; exact jr_2, by rw [ht]; exact hP9, va_K.moved hW.alike hK9, hD9⟩, hS.F ht⟩) hS.2.2 dX8_ordered_33
  ·
    have ic_4 : ¬ r_3.toInt = 0 := tx_ne rfl (by decide) c_4
    refine lv_iload hx hb dX8_ordered_25 (lv_at hl 0 rfl) ?_
    refine lv_ineg hx hb dX8_ordered_27 ?_
    refine lv_goto (tgt := 33) hx hb dX8_ordered_28 (by decide) ?_
    have hP9 := hP.sub (ws' := [(h0, .inr (8, [.int th, .ref q1, v2, v3, .ref q4, v5, v6, v7, .ref q8, v9, v10, .ref q11, v12, v13, v14, v15, v16])), (q1, .inl (c1, 16, .inl a1)), (q4, .inl (c4, 16, .inl a4)), (q8, .inl (c8, 16, .inl a8)), (q11, .inl (c11, 16, .inl a11))]) [1, 2, 0, 3, 4] rfl
    have hD9 := hD.sub (ws' := [(h0, .inr (8, [.int th, .ref q1, v2, v3, .ref q4, v5, v6, v7, .ref q8, v9, v10, .ref q11, v12, v13, v14, v15, v16])), (q1, .inl (c1, 16, .inl a1)), (q4, .inl (c4, 16, .inl a4)), (q8, .inl (c8, 16, .inl a8)), (q11, .inl (c11, 16, .inl a11))]) [1, 2, 0, 3, 4] (by decide) rfl
    have hK9 := hK.sub (tys' := [(c1, .int), (c4, .int), (c8, .int), (c11, .int)]) [0, 1, 2, 3] rfl
    refine W.widen (k := 0) (n := 0) (Nat.le_of_ble_eq_true rfl) (Nat.le_of_ble_eq_true rfl) ?_
    exact W.iret (v := -r_2) hx hb hr (fun t ht hW => ⟨⟨-r_2, (), rfl, by show (-r_2).toInt = _; unfold ocI; rw [if_pos (tz_1 (b := tnN a1 a8 a11 17 o false) (by rw [← jr_3]; exact ic_4)), ← jr_2]; exact tx_neg (by rw [jr_2]; unfold cmpI; split; omega; split <;> omega), by rw [ht]; exact hP9, va_K.moved hW.alike hK9, hD9⟩, hS.F ht⟩) hS.2.2 dX8_ordered_33
