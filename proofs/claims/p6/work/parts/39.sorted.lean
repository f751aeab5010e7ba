theorem dJ9_floorMod_7cf53_0 : decode cJ9_floorMod_7cf53 0 = .ok (.iload_n 0, 1) := by decide +kernel
theorem dJ9_floorMod_7cf53_1 : decode cJ9_floorMod_7cf53 1 = .ok (.iload_n 1, 1) := by decide +kernel
theorem dJ9_floorMod_7cf53_2 : decode cJ9_floorMod_7cf53 2 = .ok (.irem, 1) := by decide +kernel
theorem dJ9_floorMod_7cf53_3 : decode cJ9_floorMod_7cf53 3 = .ok (.istore_n 2, 1) := by decide +kernel
theorem dJ9_floorMod_7cf53_4 : decode cJ9_floorMod_7cf53 4 = .ok (.iload_n 0, 1) := by decide +kernel
theorem dJ9_floorMod_7cf53_5 : decode cJ9_floorMod_7cf53 5 = .ok (.iload_n 1, 1) := by decide +kernel
theorem dJ9_floorMod_7cf53_6 : decode cJ9_floorMod_7cf53 6 = .ok (.ixor, 1) := by decide +kernel
theorem dJ9_floorMod_7cf53_7 : decode cJ9_floorMod_7cf53 7 = .ok (.ifCond .ge 11, 3) := by decide +kernel
theorem dJ9_floorMod_7cf53_18 : decode cJ9_floorMod_7cf53 18 = .ok (.iload_n 2, 1) := by decide +kernel
theorem dJ9_floorMod_7cf53_19 : decode cJ9_floorMod_7cf53 19 = .ok (.ireturn, 1) := by decide +kernel
theorem dJ9_floorMod_7cf53_10 : decode cJ9_floorMod_7cf53 10 = .ok (.iload_n 2, 1) := by decide +kernel
theorem dJ9_floorMod_7cf53_11 : decode cJ9_floorMod_7cf53 11 = .ok (.ifCond .eq 7, 3) := by decide +kernel
theorem dJ9_floorMod_7cf53_14 : decode cJ9_floorMod_7cf53 14 = .ok (.iload_n 2, 1) := by decide +kernel
theorem dJ9_floorMod_7cf53_15 : decode cJ9_floorMod_7cf53 15 = .ok (.iload_n 1, 1) := by decide +kernel
theorem dJ9_floorMod_7cf53_16 : decode cJ9_floorMod_7cf53 16 = .ok (.iadd, 1) := by decide +kernel
theorem dJ9_floorMod_7cf53_17 : decode cJ9_floorMod_7cf53 17 = .ok (.ireturn, 1) := by decide +kernel
theorem dX6_rank_0 : decode cX6_rank 0 = .ok (.aload_n 0, 1) := by decide +kernel
theorem dX6_rank_1 : decode cX6_rank 1 = .ok (.getfield 16, 3) := by decide +kernel
theorem dX6_rank_4 : decode cX6_rank 4 = .ok (.tableswitch 63 0 2 #[28, 35, 42], 28) := by decide +kernel
theorem dX6_rank_32 : decode cX6_rank 32 = .ok (.ldc2_w 57, 3) := by decide +kernel
theorem dX6_rank_35 : decode cX6_rank 35 = .ok (.iload_n 1, 1) := by decide +kernel
theorem dX6_rank_36 : decode cX6_rank 36 = .ok (.i2l, 1) := by decide +kernel
theorem dX6_rank_37 : decode cX6_rank 37 = .ok (.lmul, 1) := by decide +kernel
theorem dX6_rank_38 : decode cX6_rank 38 = .ok (.lreturn, 1) := by decide +kernel
theorem dX6_rank_39 : decode cX6_rank 39 = .ok (.ldc2_w 59, 3) := by decide +kernel
theorem dX6_rank_42 : decode cX6_rank 42 = .ok (.iload_n 1, 1) := by decide +kernel
theorem dX6_rank_43 : decode cX6_rank 43 = .ok (.i2l, 1) := by decide +kernel
theorem dX6_rank_44 : decode cX6_rank 44 = .ok (.lmul, 1) := by decide +kernel
theorem dX6_rank_45 : decode cX6_rank 45 = .ok (.lreturn, 1) := by decide +kernel
theorem dX6_rank_46 : decode cX6_rank 46 = .ok (.ldc2_w 61, 3) := by decide +kernel
theorem dX6_rank_49 : decode cX6_rank 49 = .ok (.iload_n 1, 1) := by decide +kernel
theorem dX6_rank_50 : decode cX6_rank 50 = .ok (.i2l, 1) := by decide +kernel
theorem dX6_rank_51 : decode cX6_rank 51 = .ok (.invokestatic 63, 3) := by decide +kernel
theorem dX6_rank_54 : decode cX6_rank 54 = .ok (.lmul, 1) := by decide +kernel
theorem dX6_rank_55 : decode cX6_rank 55 = .ok (.iload_n 1, 1) := by decide +kernel
theorem dX6_rank_56 : decode cX6_rank 56 = .ok (.ifCond .le 7, 3) := by decide +kernel
theorem dX6_rank_63 : decode cX6_rank 63 = .ok (.iconst 0, 1) := by decide +kernel
theorem dX6_rank_64 : decode cX6_rank 64 = .ok (.i2l, 1) := by decide +kernel
theorem dX6_rank_65 : decode cX6_rank 65 = .ok (.ladd, 1) := by decide +kernel
theorem dX6_rank_66 : decode cX6_rank 66 = .ok (.lreturn, 1) := by decide +kernel
theorem dX6_rank_59 : decode cX6_rank 59 = .ok (.iconst 2, 1) := by decide +kernel
theorem dX6_rank_60 : decode cX6_rank 60 = .ok (.goto 4, 3) := by decide +kernel
theorem dX6_rank_67 : decode cX6_rank 67 = .ok (.ldc2_w 57, 3) := by decide +kernel
theorem dX6_rank_70 : decode cX6_rank 70 = .ok (.iload_n 1, 1) := by decide +kernel
theorem dX6_rank_71 : decode cX6_rank 71 = .ok (.bipush 10, 2) := by decide +kernel
set_option maxRecDepth 20000 in
theorem ggX6_rank_J9_floorMod_7cf53 : GoodIn wsX6_rank wsJ9_floorMod_7cf53 := goodIn_r _ [12] rfl (by decide +kernel)
set_option maxRecDepth 20000 in
theorem gX6_rank_J9_floorMod_7cf53 : GoodIn wsX6_rank (va_wsS RX6 67 yJ9_floorMod_7cf53 wsJ9_floorMod_7cf53) := goodIn_app (goodIn_of _ (by decide +kernel)) ggX6_rank_J9_floorMod_7cf53
theorem dX6_rank_73 : decode cX6_rank 73 = .ok (.invokestatic 67, 3) := by decide +kernel
theorem dX6_rank_76 : decode cX6_rank 76 = .ok (.i2l, 1) := by decide +kernel
theorem dX6_rank_77 : decode cX6_rank 77 = .ok (.lmul, 1) := by decide +kernel
theorem dX6_rank_78 : decode cX6_rank 78 = .ok (.lreturn, 1) := by decide +kernel
set_option maxHeartbeats 4000000 in
set_option maxRecDepth 100000 in
/-- Math.floorMod by 10 -/
theorem c_J9_floorMod (l : Launch) (dC : Nat → ClassId) (dI : Nat → Nat → Nat) (sz : Nat) (p0 : Int32) : Met l yJ9_floorMod_7cf53 wsJ9_floorMod_7cf53 ({ frames := 0, cells := 0, slots := 0, locals := 0 }) (va_Pc [.int p0, .int 10] (pk_PreR (dC, dI) [] [] sz)) (va_Qi (fun (r : Int32) (_ : Unit) => r.toInt = p0.toInt % 10) (fun _ (t : State) => t.heap.size = sz) ro_A) 0 0 ro_A := by
  refine Met_ofWF (cc := cJ9_floorMod_7cf53) (maxL := 3) (ret := (some .int)) (by decide +kernel) rfl ?_
  intro p e s m args below meth c s₁ B hml hv
  obtain ⟨rfl, hsz, hP, hK⟩ := hv
  have hx := B.exec
  have hb := B.bytes
  have hr := B.returns
  have hts := atoms_spec (ws := wsJ9_floorMod_7cf53) B.pre
  have hown : s.vm.findClass RJ9 = some m.cls := findClass_of_methodNamed B.named
  have hlocks := B.notSynchronized
  subst hsz
  have hS : va_S ro_A s.heap s.heap [] := va_S.rf
  have hP : va_P (dC, dI) vwCl [] s.heap := hP
  have hl := lv_entry ([.int p0, .int 10]) (n := 3) (Nat.le_of_ble_eq_true rfl)
  rw [lg_entry_eq]
  generalize (lg_sl ([.int p0, .int 10]) ++ List.replicate (3 - (lg_sl ([.int p0, .int 10])).length) Slot.unset).toArray = ls at hl ⊢
  have hl : lv_has ls 3 [(0, .int p0), (1, .int 10)] := hl

  refine lv_iload_n hx hb dJ9_floorMod_7cf53_0 rfl (lv_at hl 0 rfl) ?_
  refine lv_iload_n hx hb dJ9_floorMod_7cf53_1 rfl (lv_at hl 1 rfl) ?_
  refine lv_irem hx hb dJ9_floorMod_7cf53_2 (by decide) ?_
  obtain ⟨q9, r9, he9, hm9, hp9, hq9⟩ := tx_rem (x := p0) (y := 10) (n := 10) (by decide) (by omega) (by omega)
  obtain ⟨z9, ez9⟩ : ∃ z : Int32, z = p0 - p0 / 10 * 10 := ⟨_, rfl⟩
  rw [← ez9] at he9
  refine W.eq (g2 := F0 m 3 ls [.int z9]) (by rw [ez9]) ?_
  refine lv_istore_n (lv' := [(2, .int z9), (0, .int p0), (1, .int 10)]) hx hb dJ9_floorMod_7cf53_3 rfl hl (by decide) rfl (fun ls hl => ?_)
  refine lv_iload_n hx hb dJ9_floorMod_7cf53_4 rfl (lv_at hl 1 rfl) ?_
  refine lv_iload_n hx hb dJ9_floorMod_7cf53_5 rfl (lv_at hl 2 rfl) ?_
  refine lv_ixor hx hb dJ9_floorMod_7cf53_6 ?_
  refine lv_if_ge (tgt := 18) hx hb dJ9_floorMod_7cf53_7 (by decide) (fun c_1 => ?_) (fun c_1 => ?_)
  ·
    have ic_1 : 0 ≤ (p0 ^^^ 10).toInt := tx_le (by decide) rfl c_1
    refine lv_iload_n hx hb dJ9_floorMod_7cf53_18 rfl (lv_at hl 0 rfl) ?_
    refine W.widen (k := 0) (n := 0) (Nat.le_of_ble_eq_true rfl) (Nat.le_of_ble_eq_true rfl) ?_
    exact W.iret (v := z9) hx hb hr (fun t ht hW => ⟨⟨z9, (), rfl, by show z9.toInt = p0.toInt % 10; have h7 : 0 ≤ p0.toInt := Int.not_lt.mp (fun z => absurd (xr10.mpr z) (by omega)); have h8 := hp9 h7; rw [he9]; exact tx_em2 hm9 (by omega) (by omega), congrArg Array.size ht⟩, hS.F ht⟩) hS.2.2 dJ9_floorMod_7cf53_19
  ·
    have ic_1 : (p0 ^^^ 10).toInt < 0 := tx_nle (by decide) rfl c_1
    refine lv_iload_n hx hb dJ9_floorMod_7cf53_10 rfl (lv_at hl 0 rfl) ?_
    refine lv_if_eq (tgt := 18) hx hb dJ9_floorMod_7cf53_11 (by decide) (fun c_2 => ?_) (fun c_2 => ?_)
    ·
      have ic_2 : z9.toInt = 0 := tx_eq rfl (by decide) c_2
      refine lv_iload_n hx hb dJ9_floorMod_7cf53_18 rfl (lv_at hl 0 rfl) ?_
      refine W.widen (k := 0) (n := 0) (Nat.le_of_ble_eq_true rfl) (Nat.le_of_ble_eq_true rfl) ?_
      exact W.iret (v := z9) hx hb hr (fun t ht hW => ⟨⟨z9, (), rfl, by show z9.toInt = p0.toInt % 10; rw [he9]; exact tx_em2 hm9 (by omega) (by omega), congrArg Array.size ht⟩, hS.F ht⟩) hS.2.2 dJ9_floorMod_7cf53_19
    ·
      have ic_2 : ¬ z9.toInt = 0 := tx_ne rfl (by decide) c_2
      refine lv_iload_n hx hb dJ9_floorMod_7cf53_14 rfl (lv_at hl 0 rfl) ?_
      refine lv_iload_n hx hb dJ9_floorMod_7cf53_15 rfl (lv_at hl 2 rfl) ?_
      refine lv_iadd hx hb dJ9_floorMod_7cf53_16 ?_
      refine W.widen (k := 0) (n := 0) (Nat.le_of_ble_eq_true rfl) (Nat.le_of_ble_eq_true rfl) ?_
      exact W.iret (v := z9 + 10) hx hb hr (fun t ht hW => ⟨⟨z9 + 10, (), rfl, by show (z9 + 10).toInt = p0.toInt % 10; have h7 := xr10.mp ic_1; have h8 := hq9 h7; rw [Int32.toInt_add, show (10 : Int32).toInt = 10 from rfl, he9, tx_bm (by omega) (by omega)]; exact tx_em hm9 (by omega) (by omega), congrArg Array.size ht⟩, hS.F ht⟩) hS.2.2 dJ9_floorMod_7cf53_17
set_option maxHeartbeats 4000000 in
set_option maxRecDepth 100000 in
/-- Sorted.rank -/
theorem c_X6_rank (l : Launch) (dC : Nat → ClassId) (dI : Nat → Nat → Nat) (sz : Nat) (y0 : Nat) (od : Int32) (v0 : Value) (v1 : Value) (v2 : Value) (v4 : Value) (v5 : Value) (v6 : Value) (p0 : Int32) (ho1 : 0 ≤ od.toInt) (ho2 : od.toInt ≤ 3) : Met l yX6_rank wsX6_rank ({ frames := 1, cells := 0, slots := 0, locals := 40 }) (va_Pc [.ref y0, .int p0] (pk_PreR (dC, dI) [(y0, .inr (6, [v0, v1, v2, .int od, v4, v5, v6]))] [] sz)) (va_Ql (fun (x : Int64) (_ : Unit) => x.toInt = 2 * rkI od.toInt p0) (fun _ (t : State) => t.heap.size = sz) ro_A) 0 0 ro_A := by
  refine Met.ofW (cc := cX6_rank) (maxL := 2) (ret := (some .long)) (by decide) rfl ?_
  intro p e s m args below meth c s₁ B hml hv
  obtain ⟨rfl, hsz, hP, hK⟩ := hv
  have hx := B.exec
  have hb := B.bytes
  have hr := B.returns
  have hts := atoms_spec (ws := wsX6_rank) B.pre
  have hown : s.vm.findClass RX6 = some m.cls := findClass_of_methodNamed B.named
  have hlocks := B.notSynchronized
  subst hsz
  have hS : va_S ro_A s.heap s.heap [] := va_S.rf
  have hP : va_P (dC, dI) vwCl [(y0, .inr (6, [v0, v1, v2, .int od, v4, v5, v6]))] s.heap := hP
  have hl := lv_entry ([.ref y0, .int p0]) (n := 2) (Nat.le_of_ble_eq_true rfl)
  rw [lg_entry_eq]
  generalize (lg_sl ([.ref y0, .int p0]) ++ List.replicate (2 - (lg_sl ([.ref y0, .int p0])).length) Slot.unset).toArray = ls at hl ⊢
  have hl : lv_has ls 2 [(0, .ref y0), (1, .int p0)] := hl
  have hw0_ := hts (.fieldLink RX6 16 "KeyAtlas$Sorted" "order" "I") (List.mem_of_getElem? (l := wsX6_rank) (i := 1) rfl)
  have hw1_ := hts (.constantLong RX6 57 (2)) (List.mem_of_getElem? (l := wsX6_rank) (i := 2) rfl)
  have hw2_ := hts (.constantLong RX6 59 (-2)) (List.mem_of_getElem? (l := wsX6_rank) (i := 3) rfl)
  have hw3_ := hts (.constantLong RX6 61 (4)) (List.mem_of_getElem? (l := wsX6_rank) (i := 4) rfl)
  have hw4_ := hts (.methodLink RX6 63 Lib.MathLoose.abs_long.x) (List.mem_of_getElem? (l := wsX6_rank) (i := 5) rfl)
  have hw5_ := hts (.static Lib.MathLoose.abs_long.x) (List.mem_of_getElem? (l := wsX6_rank) (i := 6) rfl)
  have hw6_ := hts (.initialized "java/lang/Math") (List.mem_of_getElem? (l := wsX6_rank) (i := 7) rfl)
  have hi0_ : ∀ w ∈ u_ws RX6 TX6 7, w ∈ wsX6_rank := fun w h => List.mem_cons_of_mem _ (List.mem_append_right _ h)
  refine lv_aload_n hx hb dX6_rank_0 rfl (lv_at hl 0 rfl) ?_
  refine va_get (D := (dC, dI)) (ci := 6) (v := .int od) (C := RX6) (T := TX6) (N := 7) hx hb hts hi0_ hown hK hP 0 rfl rfl 3 (by decide) hw0_ (fun _ h9 => h9) rfl dX6_rank_1 ?_
  by_cases c_1 : od = 0
  ·
    have ic_1 : od.toInt = 0 := tx_eq rfl (by decide) c_1
    refine lv_tableIn (off := 28) (tgt := 32) hx hb dX6_rank_4 (by rw [c_1]; decide) (by rw [c_1]; decide) (by rw [c_1]; rfl) (by decide) ?_
    refine lv_ldc2 (v := 2) hx hb hown hw1_ dX6_rank_32 ?_
    refine lv_iload_n hx hb dX6_rank_35 rfl (lv_at hl 1 rfl) ?_
    refine lv_i2l (v := p0.toInt64) hx hb dX6_rank_36 rfl ?_
    refine lv_lmul hx hb dX6_rank_37 ?_
    refine W.widen (k := 0) (n := 0) (Nat.le_of_ble_eq_true rfl) (Nat.le_of_ble_eq_true rfl) ?_
    exact W.lret (v := 2 * p0.toInt64) hx hb hr (fun t ht hW => ⟨⟨2 * p0.toInt64, (), rfl, rk_0 (by omega), congrArg Array.size ht⟩, hS.F ht⟩) hS.2.2 dX6_rank_38
  have ic_1 : ¬ od.toInt = 0 := tx_ne rfl (by decide) c_1
  by_cases c_2 : od = 1
  ·
    have ic_2 : od.toInt = 1 := tx_eq rfl (by decide) c_2
    refine lv_tableIn (off := 35) (tgt := 39) hx hb dX6_rank_4 (by rw [c_2]; decide) (by rw [c_2]; decide) (by rw [c_2]; rfl) (by decide) ?_
    refine lv_ldc2 (v := (-2)) hx hb hown hw2_ dX6_rank_39 ?_
    refine lv_iload_n hx hb dX6_rank_42 rfl (lv_at hl 1 rfl) ?_
    refine lv_i2l (v := p0.toInt64) hx hb dX6_rank_43 rfl ?_
    refine lv_lmul hx hb dX6_rank_44 ?_
    refine W.widen (k := 0) (n := 0) (Nat.le_of_ble_eq_true rfl) (Nat.le_of_ble_eq_true rfl) ?_
    exact W.lret (v := (-2) * p0.toInt64) hx hb hr (fun t ht hW => ⟨⟨(-2) * p0.toInt64, (), rfl, rk_1 (by omega), congrArg Array.size ht⟩, hS.F ht⟩) hS.2.2 dX6_rank_45
  have ic_2 : ¬ od.toInt = 1 := tx_ne rfl (by decide) c_2
  by_cases c_3 : od = 2
  ·
    have ic_3 : od.toInt = 2 := tx_eq rfl (by decide) c_3
    refine lv_tableIn (off := 42) (tgt := 46) hx hb dX6_rank_4 (by rw [c_3]; decide) (by rw [c_3]; decide) (by rw [c_3]; rfl) (by decide) ?_
    refine lv_ldc2 (v := 4) hx hb hown hw3_ dX6_rank_46 ?_
    refine lv_iload_n hx hb dX6_rank_49 rfl (lv_at hl 1 rfl) ?_
    refine lv_i2l (v := p0.toInt64) hx hb dX6_rank_50 rfl ?_
    refine va_mabs_long hx hb (hml.trans hl.1.symm) hown hw4_ hw5_ hw6_ (hts (.code Lib.MathLoose.abs_long.x Lib.MathLoose.abs_long.code 2 (some .long)) (List.mem_of_getElem? (l := wsX6_rank) (i := 8) rfl)) (Nat.le_of_ble_eq_true rfl) (Nat.le_of_ble_eq_true rfl) (Nat.le_of_ble_eq_true rfl) (Nat.le_of_ble_eq_true rfl) dX6_rank_51 ?_
    refine W.eq (g2 := F0 m 54 ls [.long (if 0 < p0.toInt64 then p0.toInt64 else -p0.toInt64), .long 4]) rfl ?_
    refine lv_lmul hx hb dX6_rank_54 ?_
    refine lv_iload_n hx hb dX6_rank_55 rfl (lv_at hl 1 rfl) ?_
    refine lv_if_le (tgt := 63) hx hb dX6_rank_56 (by decide) (fun c_4 => ?_) (fun c_4 => ?_)
    ·
      have ic_4 : p0.toInt ≤ 0 := tx_le rfl (by decide) c_4
      refine lv_iconst (v := 0) hx hb dX6_rank_63 (by decide) ?_
      refine lv_i2l (v := (0 : Int32).toInt64) hx hb dX6_rank_64 rfl ?_
      refine lv_ladd hx hb dX6_rank_65 ?_
      refine W.widen (k := 0) (n := 0) (Nat.le_of_ble_eq_true rfl) (Nat.le_of_ble_eq_true rfl) ?_
      exact W.lret (v := (4 * (if 0 < p0.toInt64 then p0.toInt64 else -p0.toInt64)) + ((0 : Int32).toInt64)) hx hb hr (fun t ht hW => ⟨⟨(4 * (if 0 < p0.toInt64 then p0.toInt64 else -p0.toInt64)) + ((0 : Int32).toInt64), (), rfl, rk_2n (by omega) (by omega), congrArg Array.size ht⟩, hS.F ht⟩) hS.2.2 dX6_rank_66
    ·
      have ic_4 : 0 < p0.toInt := tx_nle rfl (by decide) c_4
      refine lv_iconst (v := 2) hx hb dX6_rank_59 (by decide) ?_
      refine lv_goto (tgt := 64) hx hb dX6_rank_60 (by decide) ?_
      refine lv_i2l (v := (2 : Int32).toInt64) hx hb dX6_rank_64 rfl ?_
      refine lv_ladd hx hb dX6_rank_65 ?_
      refine W.widen (k := 0) (n := 0) (Nat.le_of_ble_eq_true rfl) (Nat.le_of_ble_eq_true rfl) ?_
      exact W.lret (v := (4 * (if 0 < p0.toInt64 then p0.toInt64 else -p0.toInt64)) + ((2 : Int32).toInt64)) hx hb hr (fun t ht hW => ⟨⟨(4 * (if 0 < p0.toInt64 then p0.toInt64 else -p0.toInt64)) + ((2 : Int32).toInt64), (), rfl, rk_2p (by omega) (by omega), congrArg Array.size ht⟩, hS.F ht⟩) hS.2.2 dX6_rank_66
  have ic_3 : ¬ od.toInt = 2 := tx_ne rfl (by decide) c_3
  refine lv_tableOut (tgt := 67) hx hb dX6_rank_4 (by omega) (by decide) ?_
  refine lv_ldc2 (v := 2) hx hb hown hw1_ dX6_rank_67 ?_
  refine lv_iload_n hx hb dX6_rank_70 rfl (lv_at hl 1 rfl) ?_
  refine lv_bipush (v := 10) hx hb dX6_rank_71 (by decide) ?_
  have hPc := hP.sub (ws' := []) [] rfl
  have hKc := hK.sub (tys' := []) [] rfl
  refine ro_calli (va_runS (As := [.int p0, .int 10]) (rest := [.long 2]) ⟨hx, hb, hml, hown, hts⟩ (c_J9_floorMod l  dC dI s.heap.size p0) (va_cwS 2 hts gX6_rank_J9_floorMod_7cf53 rfl rfl rfl (by decide +kernel) ⟨(Nat.le_of_ble_eq_true rfl), (Nat.le_of_ble_eq_true rfl)⟩) ⟨pk_blindR, pk_callR hPc hKc⟩ rfl rfl hl.1 rfl (lv_room (Nat.le_of_ble_eq_true rfl)) dX6_rank_73 ⟨(Nat.le_of_ble_eq_true rfl), (Nat.le_of_ble_eq_true rfl)⟩) (fun r_5 ur_5 hw => ?_)
  clear hPc hKc
  try dsimp only at hw
  have jr_5 := hw
  refine W.eq (g2 := F0 m 76 ls [.int r_5, .long 2]) rfl ?_
  refine lv_i2l (v := r_5.toInt64) hx hb dX6_rank_76 rfl ?_
  refine lv_lmul hx hb dX6_rank_77 ?_
  refine W.widen (k := 0) (n := 0) (Nat.le_of_ble_eq_true rfl) (Nat.le_of_ble_eq_true rfl) ?_
  exact W.lret (v := 2 * r_5.toInt64) hx hb hr (fun t ht hW => ⟨⟨2 * r_5.toInt64, (), rfl, rk_3 (by omega) jr_5, congrArg Array.size ht⟩, hS.F ht⟩) hS.2.2 dX6_rank_78
