theorem dX7_howManyBodies_0 : decode cX7_howManyBodies 0 = .ok (.iconst 0, 1) := by decide +kernel
theorem dX7_howManyBodies_1 : decode cX7_howManyBodies 1 = .ok (.istore_n 1, 1) := by decide +kernel
theorem dX7_howManyBodies_2 : decode cX7_howManyBodies 2 = .ok (.iconst 0, 1) := by decide +kernel
theorem dX7_howManyBodies_3 : decode cX7_howManyBodies 3 = .ok (.istore_n 2, 1) := by decide +kernel
theorem dX7_howManyBodies_4 : decode cX7_howManyBodies 4 = .ok (.iload_n 2, 1) := by decide +kernel
theorem dX7_howManyBodies_5 : decode cX7_howManyBodies 5 = .ok (.aload_n 0, 1) := by decide +kernel
theorem dX7_howManyBodies_6 : decode cX7_howManyBodies 6 = .ok (.getfield 11, 3) := by decide +kernel
theorem dX7_howManyBodies_9 : decode cX7_howManyBodies 9 = .ok (.arraylength, 1) := by decide +kernel
theorem dX7_howManyBodies_10 : decode cX7_howManyBodies 10 = .ok (.if_icmp .ge 21, 3) := by decide +kernel
theorem dX7_howManyBodies_31 : decode cX7_howManyBodies 31 = .ok (.iload_n 1, 1) := by decide +kernel
theorem dX7_howManyBodies_32 : decode cX7_howManyBodies 32 = .ok (.ireturn, 1) := by decide +kernel
theorem dX7_howManyBodies_13 : decode cX7_howManyBodies 13 = .ok (.aload_n 0, 1) := by decide +kernel
theorem dX7_howManyBodies_14 : decode cX7_howManyBodies 14 = .ok (.getfield 11, 3) := by decide +kernel
theorem dX7_howManyBodies_17 : decode cX7_howManyBodies 17 = .ok (.iload_n 2, 1) := by decide +kernel
theorem dX7_howManyBodies_18 : decode cX7_howManyBodies 18 = .ok (.aaload, 1) := by decide +kernel
theorem dX7_howManyBodies_19 : decode cX7_howManyBodies 19 = .ok (.ifnull 6, 3) := by decide +kernel
theorem dX7_howManyBodies_25 : decode cX7_howManyBodies 25 = .ok (.iinc 2 1, 3) := by decide +kernel
theorem dX7_howManyBodies_28 : decode cX7_howManyBodies 28 = .ok (.goto (-24), 3) := by decide +kernel
theorem dX7_howManyBodies_22 : decode cX7_howManyBodies 22 = .ok (.iinc 1 1, 3) := by decide +kernel
theorem dX7_kindOf_0 : decode cX7_kindOf 0 = .ok (.aload_n 0, 1) := by decide +kernel
theorem dX7_kindOf_1 : decode cX7_kindOf 1 = .ok (.iload_n 1, 1) := by decide +kernel
set_option maxRecDepth 20000 in
theorem ggX7_kindOf_X7_bodyOrNull : GoodIn wsX7_kindOf wsX7_bodyOrNull := goodIn_r _ [6, 7, 33] rfl (by decide +kernel)
set_option maxRecDepth 20000 in
theorem gX7_kindOf_X7_bodyOrNull : GoodIn wsX7_kindOf (wsV RX7 236 RX7 yX7_bodyOrNull wsX7_bodyOrNull) := goodIn_app (goodIn_of _ (by decide +kernel)) ggX7_kindOf_X7_bodyOrNull
theorem dX7_kindOf_2 : decode cX7_kindOf 2 = .ok (.invokevirtual 236, 3) := by decide +kernel
theorem dX7_kindOf_5 : decode cX7_kindOf 5 = .ok (.astore_n 2, 1) := by decide +kernel
theorem dX7_kindOf_6 : decode cX7_kindOf 6 = .ok (.aload_n 2, 1) := by decide +kernel
theorem dX7_kindOf_7 : decode cX7_kindOf 7 = .ok (.ifnonnull 7, 3) := by decide +kernel
theorem dX7_kindOf_10 : decode cX7_kindOf 10 = .ok (.iconst (-1), 1) := by decide +kernel
theorem dX7_kindOf_11 : decode cX7_kindOf 11 = .ok (.goto 7, 3) := by decide +kernel
theorem dX7_kindOf_18 : decode cX7_kindOf 18 = .ok (.ireturn, 1) := by decide +kernel
theorem dX7_sizeOf_0 : decode cX7_sizeOf 0 = .ok (.aload_n 0, 1) := by decide +kernel
theorem dX7_sizeOf_1 : decode cX7_sizeOf 1 = .ok (.iload_n 1, 1) := by decide +kernel
set_option maxRecDepth 20000 in
theorem ggX7_sizeOf_X7_bodyOrNull : GoodIn wsX7_sizeOf wsX7_bodyOrNull := goodIn_r _ [6, 7, 67] rfl (by decide +kernel)
set_option maxRecDepth 20000 in
theorem gX7_sizeOf_X7_bodyOrNull : GoodIn wsX7_sizeOf (wsV RX7 236 RX7 yX7_bodyOrNull wsX7_bodyOrNull) := goodIn_app (goodIn_of _ (by decide +kernel)) ggX7_sizeOf_X7_bodyOrNull
theorem dX7_sizeOf_2 : decode cX7_sizeOf 2 = .ok (.invokevirtual 236, 3) := by decide +kernel
theorem dX7_sizeOf_5 : decode cX7_sizeOf 5 = .ok (.astore_n 3, 1) := by decide +kernel
theorem dX7_sizeOf_6 : decode cX7_sizeOf 6 = .ok (.aload_n 3, 1) := by decide +kernel
theorem dX7_sizeOf_7 : decode cX7_sizeOf 7 = .ok (.instanceof 56, 3) := by decide +kernel
theorem dX7_sizeOf_10 : decode cX7_sizeOf 10 = .ok (.ifCond .eq 15, 3) := by decide +kernel
theorem dX7_sizeOf_25 : decode cX7_sizeOf 25 = .ok (.iconst (-1), 1) := by decide +kernel
theorem dX7_sizeOf_26 : decode cX7_sizeOf 26 = .ok (.ireturn, 1) := by decide +kernel
theorem dX7_kindOf_14 : decode cX7_kindOf 14 = .ok (.aload_n 2, 1) := by decide +kernel
theorem dX7_kindOf_15 : decode cX7_kindOf 15 = .ok (.getfield 258, 3) := by decide +kernel
theorem dX7_sizeOf_13 : decode cX7_sizeOf 13 = .ok (.aload_n 3, 1) := by decide +kernel
theorem dX7_sizeOf_14 : decode cX7_sizeOf 14 = .ok (.checkcast 56, 3) := by decide +kernel
theorem dX7_sizeOf_17 : decode cX7_sizeOf 17 = .ok (.astore_n 2, 1) := by decide +kernel
theorem dX7_sizeOf_18 : decode cX7_sizeOf 18 = .ok (.aload_n 2, 1) := by decide +kernel
set_option maxRecDepth 20000 in
theorem ggX7_sizeOf_X3_size : GoodIn wsX7_sizeOf wsX3_size := goodIn_r _ [13, 14, 15, 16, 17, 18, 19, 20, 68, 69, 70, 71, 72, 73, 74, 75, 76, 77, 78, 79, 80, 81, 82, 83, 84, 85, 86, 87, 88, 89, 90] rfl (by decide +kernel)
set_option maxRecDepth 20000 in
theorem gX7_sizeOf_X3_size_u84X2 : GoodIn wsX7_sizeOf (va_wsU RX7 84 RX2 "KeyAtlas$Keyed" ⟨"KeyAtlas$Keyed", "size", "()I"⟩ yX3_size wsX3_size) := goodIn_app (goodIn_of _ (by decide +kernel)) ggX7_sizeOf_X3_size
theorem dX7_sizeOf_19 : decode cX7_sizeOf 19 = .ok (.invokevirtual 84, 3) := by decide +kernel
theorem dX7_sizeOf_22 : decode cX7_sizeOf 22 = .ok (.goto 4, 3) := by decide +kernel
set_option maxRecDepth 20000 in
theorem gX7_sizeOf_X3_size_u84X4 : GoodIn wsX7_sizeOf (va_wsU RX7 84 RX4 "KeyAtlas$Keyed" ⟨"KeyAtlas$Keyed", "size", "()I"⟩ yX3_size wsX3_size) := goodIn_app (goodIn_of _ (by decide +kernel)) ggX7_sizeOf_X3_size
set_option maxRecDepth 20000 in
theorem ggX7_sizeOf_X6_size : GoodIn wsX7_sizeOf wsX6_size := goodIn_r _ [26, 27, 28, 29, 25, 30, 31, 32, 33, 34, 35, 16, 17, 18, 19, 20, 36, 37, 38, 39, 40, 41, 42, 43, 44, 45, 46, 47, 48, 49, 50, 51, 52, 53, 54, 55, 56, 57, 58, 59, 60, 61, 62, 63, 64, 65, 66, 80, 81, 82, 83, 84, 85, 86, 68, 69, 70, 71, 72, 73, 74, 75, 76, 77, 78, 79, 87, 88, 89, 90] rfl (by decide +kernel)
set_option maxRecDepth 20000 in
theorem gX7_sizeOf_X6_size_u84X6 : GoodIn wsX7_sizeOf (va_wsO RX7 84 RX6 "KeyAtlas$Keyed" ⟨"KeyAtlas$Keyed", "size", "()I"⟩ yX6_size wsX6_size) := goodIn_app (goodIn_of _ (by decide +kernel)) ggX7_sizeOf_X6_size
set_option maxHeartbeats 4000000 in
set_option maxRecDepth 100000 in
/-- howManyBodies -/
theorem c_X7_howManyBodies (l : Launch) (dC : Nat → ClassId) (dI : Nat → Nat → Nat) (sz : Nat) (a0 : Nat) (qb : Nat) (cq : ClassId) (bq : Nat → Option Nat) : Met l yX7_howManyBodies wsX7_howManyBodies ({ frames := 0, cells := 0, slots := 0, locals := 0 }) (va_Pc [.ref a0] (pk_PreR (dC, dI) [(a0, .inr (7, [.ref qb])), (qb, .inl (cq, 16, .inr (.inr (.inr (.inr bq)))))] [(cq, .object "KeyAtlas$Body")] sz)) (va_Qi (fun (_ : Int32) (_ : Unit) => True) (fun _ (t : State) => t.heap.size = sz) ro_A) 0 0 ro_A := by
  refine Met.ofW (cc := cX7_howManyBodies) (maxL := 3) (ret := (some .int)) (by decide) rfl ?_
  intro p e s m args below meth c s₁ B hml hv
  obtain ⟨rfl, hsz, hP, hK⟩ := hv
  have hx := B.exec
  have hb := B.bytes
  have hr := B.returns
  have hts := atoms_spec (ws := wsX7_howManyBodies) B.pre
  have hown : s.vm.findClass RX7 = some m.cls := findClass_of_methodNamed B.named
  have hlocks := B.notSynchronized
  subst hsz
  have hS : va_S ro_A s.heap s.heap [] := va_S.rf
  have hP : va_P (dC, dI) vwCl [(a0, .inr (7, [.ref qb])), (qb, .inl (cq, 16, .inr (.inr (.inr (.inr bq)))))] s.heap := hP
  have hl := lv_entry ([.ref a0]) (n := 3) (Nat.le_of_ble_eq_true rfl)
  rw [lg_entry_eq]
  generalize (lg_sl ([.ref a0]) ++ List.replicate (3 - (lg_sl ([.ref a0])).length) Slot.unset).toArray = ls at hl ⊢
  have hl : lv_has ls 3 [(0, .ref a0)] := hl
  have hw0_ := hts (.fieldLink RX7 11 "KeyAtlas" "bodies" "[LKeyAtlas$Body;") (List.mem_of_getElem? (l := wsX7_howManyBodies) (i := 1) rfl)
  have hi0_ : ∀ w ∈ u_ws RX7 TX7 1, w ∈ wsX7_howManyBodies := fun w h => List.mem_cons_of_mem _ (List.mem_append_right _ h)
  refine lv_iconst (v := 0) hx hb dX7_howManyBodies_0 (by decide) ?_
  refine lv_istore_n (lv' := [(1, .int 0), (0, .ref a0)]) hx hb dX7_howManyBodies_1 rfl hl (by decide) rfl (fun ls hl => ?_)
  refine lv_iconst (v := 0) hx hb dX7_howManyBodies_2 (by decide) ?_
  refine lv_istore_n (lv' := [(2, .int 0), (1, .int 0), (0, .ref a0)]) hx hb dX7_howManyBodies_3 rfl hl (by decide) rfl (fun ls hl => ?_)
  obtain ⟨i, es_i⟩ : ∃ z : Nat, z = 0 := ⟨_, rfl⟩
  obtain ⟨x2, ex2⟩ : ∃ y : Int32, y = nI i := ⟨_, rfl⟩
  obtain ⟨g9, es_g9⟩ : ∃ z : Int32, z = 0 := ⟨_, rfl⟩
  obtain ⟨n9, en9⟩ : ∃ n : Nat, n = 17 := ⟨_, rfl⟩
  replace hl : lv_has ls 3 [(2, .int x2), (1, .int g9), (0, .ref a0)] := by subst ex2; subst es_i; subst es_g9; exact hl
  have hi9 : i ≤ 16 := by subst ex2; subst es_i; subst es_g9; subst en9; exact by omega
  have hn9 : 17 ≤ i + n9 := by subst ex2; subst es_i; subst es_g9; subst en9; exact by omega
  clear en9 es_i es_g9
  induction n9 generalizing i x2 g9 ls with
  | zero => exact absurd hn9 (by omega)
  | succ n9 ih =>
    subst ex2
    refine lv_iload_n hx hb dX7_howManyBodies_4 rfl (lv_at hl 0 rfl) ?_
    refine lv_aload_n hx hb dX7_howManyBodies_5 rfl (lv_at hl 2 rfl) ?_
    refine va_get (D := (dC, dI)) (ci := 7) (v := .ref qb) (C := RX7) (T := TX7) (N := 1) hx hb hts hi0_ hown hK hP 0 rfl rfl 0 (by decide) hw0_ (fun _ h9 => h9) rfl dX7_howManyBodies_6 ?_
    refine va_alen (v := 16) hx hb hK hP 1 0 rfl rfl rfl dX7_howManyBodies_9 ?_
    refine lv_icmp_ge (tgt := 31) hx hb dX7_howManyBodies_10 (by decide) (fun c_1 => ?_) (fun c_1 => ?_)
    ·
      have ic_1 : 16 ≤ ((i : Nat) : Int) := tx_le (by decide) (nI_toInt (by omega)) c_1
      refine lv_iload_n hx hb dX7_howManyBodies_31 rfl (lv_at hl 1 rfl) ?_
      refine W.widen (k := 0) (n := 0) (Nat.le_of_ble_eq_true rfl) (Nat.le_of_ble_eq_true rfl) ?_
      exact W.iret (v := g9) hx hb hr (fun t ht hW => ⟨⟨g9, (), rfl, trivial, congrArg Array.size ht⟩, hS.F ht⟩) hS.2.2 dX7_howManyBodies_32
    ·
      have ic_1 : ((i : Nat) : Int) < 16 := tx_nle (by decide) (nI_toInt (by omega)) c_1
      refine lv_aload_n hx hb dX7_howManyBodies_13 rfl (lv_at hl 2 rfl) ?_
      refine va_get (D := (dC, dI)) (ci := 7) (v := .ref qb) (C := RX7) (T := TX7) (N := 1) hx hb hts hi0_ hown hK hP 0 rfl rfl 0 (by decide) hw0_ (fun _ h9 => h9) rfl dX7_howManyBodies_14 ?_
      refine lv_iload_n hx hb dX7_howManyBodies_17 rfl (lv_at hl 0 rfl) ?_
      refine va_aldq (i := nI i) hx hb hK hP 1 0 rfl rfl (vp_in_nI (by omega) (by omega)) dX7_howManyBodies_18 ?_
      refine W.eq (g2 := F0 m 19 ls [va_rf (bq i)]) (by rw [nI_clamp (by omega)]) ?_
      rcases hb_3 : bq i with _ | yb_2
      ·
        refine W.eq (g2 := F0 m 19 ls [.null]) rfl ?_
        refine lv_ifnullN (tgt := 25) hx hb dX7_howManyBodies_19 (by decide) ?_
        refine lv_iinc (v := nI (i + 1)) (lv' := [(2, .int (nI (i + 1))), (1, .int g9), (0, .ref a0)]) hx hb dX7_howManyBodies_25 hl (k := 0) rfl (by rw [show Int32.ofInt 1 = nI 1 from rfl, nI_add]) (by decide) rfl (fun ls hl => ?_)
        refine lv_goto (tgt := 4) hx hb dX7_howManyBodies_28 (by decide) ?_
        exact ih (i := i + 1) (x2 := nI (i + 1)) (ex2 := rfl) (g9 := g9) (ls := ls) (hi9 := by omega) (hn9 := by omega) (hl := lv_sub hl [0, 1, 2] rfl)
      ·
        refine W.eq (g2 := F0 m 19 ls [.ref yb_2]) rfl ?_
        refine lv_ifnull hx hb dX7_howManyBodies_19 ?_
        refine lv_iinc (v := g9 + 1) (lv' := [(1, .int (g9 + 1)), (2, .int (nI i)), (0, .ref a0)]) hx hb dX7_howManyBodies_22 hl (k := 1) rfl rfl (by decide) rfl (fun ls hl => ?_)
        refine lv_iinc (v := nI (i + 1)) (lv' := [(2, .int (nI (i + 1))), (1, .int (g9 + 1)), (0, .ref a0)]) hx hb dX7_howManyBodies_25 hl (k := 1) rfl (by rw [show Int32.ofInt 1 = nI 1 from rfl, nI_add]) (by decide) rfl (fun ls hl => ?_)
        refine lv_goto (tgt := 4) hx hb dX7_howManyBodies_28 (by decide) ?_
        exact ih (i := i + 1) (x2 := nI (i + 1)) (ex2 := rfl) (g9 := g9 + 1) (ls := ls) (hi9 := by omega) (hn9 := by omega) (hl := lv_sub hl [0, 1, 2] rfl)
set_option maxHeartbeats 4000000 in
set_option maxRecDepth 100000 in
/-- kindOf: none -/
theorem c_X7_kindOf_none (l : Launch) (hlt : l.stackTraces = false) (dC : Nat → ClassId) (dI : Nat → Nat → Nat) (sz : Nat) (a0 : Nat) (qb : Nat) (cq : ClassId) (bq : Nat → Option Nat) (p0 : Int32) (hno : ∀ j : Nat, j < 16 → p0 = nI j → bq j = none) : Met l yX7_kindOf wsX7_kindOf ({ frames := 1, cells := 0, slots := 0, locals := 30 }) (va_Pc [.ref a0, .int p0] (pk_PreRX (dC, dI) [(a0, .inr (7, [.ref qb])), (qb, .inl (cq, 16, .inr (.inr (.inr (.inr bq)))))] [(cq, .object "KeyAtlas$Body")] sz)) (va_Qi (fun (_ : Int32) (_ : Unit) => True) (fun _ (t : State) => t.heap.size = sz) ro_A) 0 0 ro_A := by
  refine Met.ofW (cc := cX7_kindOf) (maxL := 3) (ret := (some .int)) (by decide) rfl ?_
  intro p e s m args below meth c s₁ B hml hv
  obtain ⟨rfl, ⟨hsz, hP, hK⟩, hN⟩ := hv
  have hx := B.exec
  have hb := B.bytes
  have hr := B.returns
  have hts := atoms_spec (ws := wsX7_kindOf) B.pre
  have hown : s.vm.findClass RX7 = some m.cls := findClass_of_methodNamed B.named
  have hlocks := B.notSynchronized
  subst hsz
  have hS : va_S ro_A s.heap s.heap [] := va_S.rf
  have hP : va_P (dC, dI) vwCl [(a0, .inr (7, [.ref qb])), (qb, .inl (cq, 16, .inr (.inr (.inr (.inr bq)))))] s.heap := hP
  have hl := lv_entry ([.ref a0, .int p0]) (n := 3) (Nat.le_of_ble_eq_true rfl)
  rw [lg_entry_eq]
  generalize (lg_sl ([.ref a0, .int p0]) ++ List.replicate (3 - (lg_sl ([.ref a0, .int p0])).length) Slot.unset).toArray = ls at hl ⊢
  have hl : lv_has ls 3 [(0, .ref a0), (1, .int p0)] := hl

  refine lv_aload_n hx hb dX7_kindOf_0 rfl (lv_at hl 0 rfl) ?_
  refine lv_iload_n hx hb dX7_kindOf_1 rfl (lv_at hl 1 rfl) ?_
  have hPc := hP.sub (ws' := [(a0, .inr (7, [.ref qb])), (qb, .inl (cq, 16, .inr (.inr (.inr (.inr bq)))))]) [0, 1] rfl
  have hKc := hK.sub (tys' := [(cq, .object "KeyAtlas$Body")]) [0] rfl
  refine ro_callq (va_runV (As := [.int p0]) (rest := []) ⟨hx, hb, hml, hown, hts⟩ (c_X7_bodyOrNull l  dC dI s.heap.size a0 qb cq bq p0) (cwV 1 hts gX7_kindOf_X7_bodyOrNull rfl rfl rfl (by decide +kernel) ⟨(Nat.le_of_ble_eq_true rfl), (Nat.le_of_ble_eq_true rfl)⟩) ⟨pk_blindR, va_recv hKc hPc (ci := 7) (q0 := 0) rfl rfl, pk_callR hPc hKc⟩ rfl rfl hl.1 rfl (lv_room (Nat.le_of_ble_eq_true rfl)) dX7_kindOf_2 ⟨(Nat.le_of_ble_eq_true rfl), (Nat.le_of_ble_eq_true rfl)⟩) (fun r_1 ur_1 hw => ?_)
  clear hPc hKc
  try dsimp only at hw
  have jr_1 := hw
  refine W.eq (g2 := F0 m 5 ls [va_rf r_1]) rfl ?_
  have er_1 : r_1 = none := bq_not hno jr_1
  refine W.eq (g2 := F0 m 5 ls [.null]) (by rw [er_1]; rfl) ?_
  refine lv_astore_nN (lv' := [(2, .null), (0, .ref a0), (1, .int p0)]) hx hb dX7_kindOf_5 rfl hl (by decide) rfl (fun ls hl => ?_)
  refine lv_aload_nN hx hb dX7_kindOf_6 rfl (lv_at hl 0 rfl) ?_
  refine lv_ifnonnullN hx hb dX7_kindOf_7 ?_
  refine lv_iconst (v := (-1)) hx hb dX7_kindOf_10 (by decide) ?_
  refine lv_goto (tgt := 18) hx hb dX7_kindOf_11 (by decide) ?_
  refine W.widen (k := 0) (n := 0) (Nat.le_of_ble_eq_true rfl) (Nat.le_of_ble_eq_true rfl) ?_
  exact W.iret (v := -1) hx hb hr (fun t ht hW => ⟨⟨-1, (), rfl, trivial, congrArg Array.size ht⟩, hS.F ht⟩) hS.2.2 dX7_kindOf_18
set_option maxHeartbeats 4000000 in
set_option maxRecDepth 100000 in
/-- sizeOf: none -/
theorem c_X7_sizeOf_none (l : Launch) (hlt : l.stackTraces = false) (dC : Nat → ClassId) (dI : Nat → Nat → Nat) (sz : Nat) (a0 : Nat) (qb : Nat) (cq : ClassId) (bq : Nat → Option Nat) (p0 : Int32) (hno : ∀ j : Nat, j < 16 → p0 = nI j → bq j = none) : Met l yX7_sizeOf wsX7_sizeOf ({ frames := 1, cells := 0, slots := 0, locals := 30 }) (va_Pc [.ref a0, .int p0] (pk_PreRX (dC, dI) [(a0, .inr (7, [.ref qb])), (qb, .inl (cq, 16, .inr (.inr (.inr (.inr bq)))))] [(cq, .object "KeyAtlas$Body")] sz)) (va_Qi (fun (_ : Int32) (_ : Unit) => True) (fun _ (t : State) => t.heap.size = sz) ro_A) 0 0 ro_A := by
  refine Met.ofW (cc := cX7_sizeOf) (maxL := 4) (ret := (some .int)) (by decide) rfl ?_
  intro p e s m args below meth c s₁ B hml hv
  obtain ⟨rfl, ⟨hsz, hP, hK⟩, hN⟩ := hv
  have hx := B.exec
  have hb := B.bytes
  have hr := B.returns
  have hts := atoms_spec (ws := wsX7_sizeOf) B.pre
  have hown : s.vm.findClass RX7 = some m.cls := findClass_of_methodNamed B.named
  have hlocks := B.notSynchronized
  subst hsz
  have hS : va_S ro_A s.heap s.heap [] := va_S.rf
  have hP : va_P (dC, dI) vwCl [(a0, .inr (7, [.ref qb])), (qb, .inl (cq, 16, .inr (.inr (.inr (.inr bq)))))] s.heap := hP
  have hl := lv_entry ([.ref a0, .int p0]) (n := 4) (Nat.le_of_ble_eq_true rfl)
  rw [lg_entry_eq]
  generalize (lg_sl ([.ref a0, .int p0]) ++ List.replicate (4 - (lg_sl ([.ref a0, .int p0])).length) Slot.unset).toArray = ls at hl ⊢
  have hl : lv_has ls 4 [(0, .ref a0), (1, .int p0)] := hl

  refine lv_aload_n hx hb dX7_sizeOf_0 rfl (lv_at hl 0 rfl) ?_
  refine lv_iload_n hx hb dX7_sizeOf_1 rfl (lv_at hl 1 rfl) ?_
  have hPc := hP.sub (ws' := [(a0, .inr (7, [.ref qb])), (qb, .inl (cq, 16, .inr (.inr (.inr (.inr bq)))))]) [0, 1] rfl
  have hKc := hK.sub (tys' := [(cq, .object "KeyAtlas$Body")]) [0] rfl
  refine ro_callq (va_runV (As := [.int p0]) (rest := []) ⟨hx, hb, hml, hown, hts⟩ (c_X7_bodyOrNull l  dC dI s.heap.size a0 qb cq bq p0) (cwV 1 hts gX7_sizeOf_X7_bodyOrNull rfl rfl rfl (by decide +kernel) ⟨(Nat.le_of_ble_eq_true rfl), (Nat.le_of_ble_eq_true rfl)⟩) ⟨pk_blindR, va_recv hKc hPc (ci := 7) (q0 := 0) rfl rfl, pk_callR hPc hKc⟩ rfl rfl hl.1 rfl (lv_room (Nat.le_of_ble_eq_true rfl)) dX7_sizeOf_2 ⟨(Nat.le_of_ble_eq_true rfl), (Nat.le_of_ble_eq_true rfl)⟩) (fun r_1 ur_1 hw => ?_)
  clear hPc hKc
  try dsimp only at hw
  have jr_1 := hw
  refine W.eq (g2 := F0 m 5 ls [va_rf r_1]) rfl ?_
  have er_1 : r_1 = none := bq_not hno jr_1
  refine W.eq (g2 := F0 m 5 ls [.null]) (by rw [er_1]; rfl) ?_
  refine lv_astore_nN (lv' := [(3, .null), (0, .ref a0), (1, .int p0)]) hx hb dX7_sizeOf_5 rfl hl (by decide) rfl (fun ls hl => ?_)
  refine lv_aload_nN hx hb dX7_sizeOf_6 rfl (lv_at hl 0 rfl) ?_
  refine lv_instN hx hb dX7_sizeOf_7 ?_
  refine lv_if_eq (tgt := 25) hx hb dX7_sizeOf_10 (by decide) (fun c_2 => ?_) (fun c_2 => absurd c_2 (by decide))
  refine lv_iconst (v := (-1)) hx hb dX7_sizeOf_25 (by decide) ?_
  refine W.widen (k := 0) (n := 0) (Nat.le_of_ble_eq_true rfl) (Nat.le_of_ble_eq_true rfl) ?_
  exact W.iret (v := -1) hx hb hr (fun t ht hW => ⟨⟨-1, (), rfl, trivial, congrArg Array.size ht⟩, hS.F ht⟩) hS.2.2 dX7_sizeOf_26
set_option maxHeartbeats 4000000 in
set_option maxRecDepth 100000 in
/-- kindOf H -/
theorem c_X7_kindOf_H (l : Launch) (hlt : l.stackTraces = false) (dC : Nat → ClassId) (dI : Nat → Nat → Nat) (sz : Nat) (a0 : Nat) (qb : Nat) (cq : ClassId) (bq : Nat → Option Nat) (o : Nat) (y0 : Nat) (kd : Int32) (v0 : Value) (v2 : Value) (v3 : Value) (v4 : Value) (v5 : Value) (v6 : Value) (ho9 : o < 16) (hbo : bq o = some y0) : Met l yX7_kindOf wsX7_kindOf ({ frames := 1, cells := 0, slots := 0, locals := 30 }) (va_Pc [.ref a0, .int (nI o)] (pk_PreRX (dC, dI) [(a0, .inr (7, [.ref qb])), (qb, .inl (cq, 16, .inr (.inr (.inr (.inr bq))))), (y0, .inr (3, [v0, .int kd, v2, v3, v4, v5, v6]))] [(cq, .object "KeyAtlas$Body")] sz)) (va_Qi (fun (_ : Int32) (_ : Unit) => True) (fun _ (t : State) => t.heap.size = sz) ro_A) 0 0 ro_A := by
  refine Met.ofW (cc := cX7_kindOf) (maxL := 3) (ret := (some .int)) (by decide) rfl ?_
  intro p e s m args below meth c s₁ B hml hv
  obtain ⟨rfl, ⟨hsz, hP, hK⟩, hN⟩ := hv
  have hx := B.exec
  have hb := B.bytes
  have hr := B.returns
  have hts := atoms_spec (ws := wsX7_kindOf) B.pre
  have hown : s.vm.findClass RX7 = some m.cls := findClass_of_methodNamed B.named
  have hlocks := B.notSynchronized
  subst hsz
  have hS : va_S ro_A s.heap s.heap [] := va_S.rf
  have hP : va_P (dC, dI) vwCl [(a0, .inr (7, [.ref qb])), (qb, .inl (cq, 16, .inr (.inr (.inr (.inr bq))))), (y0, .inr (3, [v0, .int kd, v2, v3, v4, v5, v6]))] s.heap := hP
  have hl := lv_entry ([.ref a0, .int (nI o)]) (n := 3) (Nat.le_of_ble_eq_true rfl)
  rw [lg_entry_eq]
  generalize (lg_sl ([.ref a0, .int (nI o)]) ++ List.replicate (3 - (lg_sl ([.ref a0, .int (nI o)])).length) Slot.unset).toArray = ls at hl ⊢
  have hl : lv_has ls 3 [(0, .ref a0), (1, .int (nI o))] := hl
  have hw0_ := hts (.fieldLink RX7 258 "KeyAtlas$Body" "kind" "I") (List.mem_of_getElem? (l := wsX7_kindOf) (i := 1) rfl)
  have hi0_ : ∀ w ∈ u_ws RX2 TX2 7, w ∈ wsX7_kindOf := fun w h => List.mem_cons_of_mem _ (List.mem_append_left _ (List.mem_append_left _ (List.mem_append_left _ (List.mem_append_right _ h))))
  refine lv_aload_n hx hb dX7_kindOf_0 rfl (lv_at hl 0 rfl) ?_
  refine lv_iload_n hx hb dX7_kindOf_1 rfl (lv_at hl 1 rfl) ?_
  have hPc := hP.sub (ws' := [(a0, .inr (7, [.ref qb])), (qb, .inl (cq, 16, .inr (.inr (.inr (.inr bq)))))]) [0, 1] rfl
  have hKc := hK.sub (tys' := [(cq, .object "KeyAtlas$Body")]) [0] rfl
  refine ro_callq (va_runV (As := [.int (nI o)]) (rest := []) ⟨hx, hb, hml, hown, hts⟩ (c_X7_bodyOrNull l  dC dI s.heap.size a0 qb cq bq (nI o)) (cwV 1 hts gX7_kindOf_X7_bodyOrNull rfl rfl rfl (by decide +kernel) ⟨(Nat.le_of_ble_eq_true rfl), (Nat.le_of_ble_eq_true rfl)⟩) ⟨pk_blindR, va_recv hKc hPc (ci := 7) (q0 := 0) rfl rfl, pk_callR hPc hKc⟩ rfl rfl hl.1 rfl (lv_room (Nat.le_of_ble_eq_true rfl)) dX7_kindOf_2 ⟨(Nat.le_of_ble_eq_true rfl), (Nat.le_of_ble_eq_true rfl)⟩) (fun r_1 ur_1 hw => ?_)
  clear hPc hKc
  try dsimp only at hw
  have jr_1 := hw
  refine W.eq (g2 := F0 m 5 ls [va_rf r_1]) rfl ?_
  have er_1 : r_1 = some y0 := bq_get ho9 hbo jr_1
  refine W.eq (g2 := F0 m 5 ls [.ref y0]) (by rw [er_1]; rfl) ?_
  refine lv_astore_n (lv' := [(2, .ref y0), (0, .ref a0), (1, .int (nI o))]) hx hb dX7_kindOf_5 rfl hl (by decide) rfl (fun ls hl => ?_)
  refine lv_aload_n hx hb dX7_kindOf_6 rfl (lv_at hl 0 rfl) ?_
  refine lv_ifnonnull (tgt := 14) hx hb dX7_kindOf_7 (by decide) ?_
  refine lv_aload_n hx hb dX7_kindOf_14 rfl (lv_at hl 0 rfl) ?_
  refine va_get (D := (dC, dI)) (ci := 3) (v := .int kd) (C := RX2) (T := TX2) (N := 7) hx hb hts hi0_ hown hK hP 2 rfl rfl 1 (by decide) hw0_ (fun _ h9 => h9) rfl dX7_kindOf_15 ?_
  refine W.widen (k := 0) (n := 0) (Nat.le_of_ble_eq_true rfl) (Nat.le_of_ble_eq_true rfl) ?_
  exact W.iret (v := kd) hx hb hr (fun t ht hW => ⟨⟨kd, (), rfl, trivial, congrArg Array.size ht⟩, hS.F ht⟩) hS.2.2 dX7_kindOf_18
set_option maxHeartbeats 4000000 in
set_option maxRecDepth 100000 in
/-- sizeOf H -/
theorem c_X7_sizeOf_H (l : Launch) (hlt : l.stackTraces = false) (dC : Nat → ClassId) (dI : Nat → Nat → Nat) (sz : Nat) (a0 : Nat) (qb : Nat) (cq : ClassId) (bq : Nat → Option Nat) (o : Nat) (y0 : Nat) (kd : Int32) (wh : Int32) (cap : Nat) (ru : Int32) (tb : Nat) (b0 : Nat) (cb : ClassId) (bf : Nat → Int32) (x0 : Nat) (k0 : Nat) (w0 : Nat) (ck : ClassId) (cw : ClassId) (L : Nat) (f : Nat → Int32) (g : Nat → Int32) (nz : Nat) (ch : Int32) (ho9 : o < 16) (hbo : bq o = some y0) (hH9 : hOK tb L nz cap) : Met l yX7_sizeOf wsX7_sizeOf ({ frames := 6, cells := 0, slots := 0, locals := 240 }) (va_Pc [.ref a0, .int (nI o)] (pk_PreRX (dC, dI) [(a0, .inr (7, [.ref qb])), (qb, .inl (cq, 16, .inr (.inr (.inr (.inr bq))))), (y0, .inr (3, [.ref x0, .int kd, .int wh, .int (nI cap), .int ru, .int (nI tb), .ref b0])), (x0, .inr (5, [.ref k0, .ref w0, .int (nI nz), .int ch])), (k0, .inl (ck, L, .inl f)), (w0, .inl (cw, L, .inl g)), (b0, .inl (cb, tb, .inl bf))] [(cq, .object "KeyAtlas$Body"), (ck, .int), (cw, .int), (cb, .boolean)] sz)) (va_Qi (fun (_ : Int32) (_ : Unit) => True) (fun _ (t : State) => t.heap.size = sz) ro_A) 0 0 ro_A := by
  refine Met.ofW (cc := cX7_sizeOf) (maxL := 4) (ret := (some .int)) (by decide) rfl ?_
  intro p e s m args below meth c s₁ B hml hv
  obtain ⟨rfl, ⟨hsz, hP, hK⟩, hN⟩ := hv
  have hx := B.exec
  have hb := B.bytes
  have hr := B.returns
  have hts := atoms_spec (ws := wsX7_sizeOf) B.pre
  have hown : s.vm.findClass RX7 = some m.cls := findClass_of_methodNamed B.named
  have hlocks := B.notSynchronized
  subst hsz
  have hS : va_S ro_A s.heap s.heap [] := va_S.rf
  have hP : va_P (dC, dI) vwCl [(a0, .inr (7, [.ref qb])), (qb, .inl (cq, 16, .inr (.inr (.inr (.inr bq))))), (y0, .inr (3, [.ref x0, .int kd, .int wh, .int (nI cap), .int ru, .int (nI tb), .ref b0])), (x0, .inr (5, [.ref k0, .ref w0, .int (nI nz), .int ch])), (k0, .inl (ck, L, .inl f)), (w0, .inl (cw, L, .inl g)), (b0, .inl (cb, tb, .inl bf))] s.heap := hP
  have hl := lv_entry ([.ref a0, .int (nI o)]) (n := 4) (Nat.le_of_ble_eq_true rfl)
  rw [lg_entry_eq]
  generalize (lg_sl ([.ref a0, .int (nI o)]) ++ List.replicate (4 - (lg_sl ([.ref a0, .int (nI o)])).length) Slot.unset).toArray = ls at hl ⊢
  have hl : lv_has ls 4 [(0, .ref a0), (1, .int (nI o))] := hl
  have hw0_ := hts (.classLink RX7 56 "KeyAtlas$Keyed") (List.mem_of_getElem? (l := wsX7_sizeOf) (i := 1) rfl)
  have hR9 : rOK L nz := hH9.1
  have htb := hOK_tb hH9
  obtain ⟨hL1, hL2, hz1, hz2⟩ := id hR9
  refine lv_aload_n hx hb dX7_sizeOf_0 rfl (lv_at hl 0 rfl) ?_
  refine lv_iload_n hx hb dX7_sizeOf_1 rfl (lv_at hl 1 rfl) ?_
  have hPc := hP.sub (ws' := [(a0, .inr (7, [.ref qb])), (qb, .inl (cq, 16, .inr (.inr (.inr (.inr bq)))))]) [0, 1] rfl
  have hKc := hK.sub (tys' := [(cq, .object "KeyAtlas$Body")]) [0] rfl
  refine ro_callq (va_runV (As := [.int (nI o)]) (rest := []) ⟨hx, hb, hml, hown, hts⟩ (c_X7_bodyOrNull l  dC dI s.heap.size a0 qb cq bq (nI o)) (cwV 1 hts gX7_sizeOf_X7_bodyOrNull rfl rfl rfl (by decide +kernel) ⟨(Nat.le_of_ble_eq_true rfl), (Nat.le_of_ble_eq_true rfl)⟩) ⟨pk_blindR, va_recv hKc hPc (ci := 7) (q0 := 0) rfl rfl, pk_callR hPc hKc⟩ rfl rfl hl.1 rfl (lv_room (Nat.le_of_ble_eq_true rfl)) dX7_sizeOf_2 ⟨(Nat.le_of_ble_eq_true rfl), (Nat.le_of_ble_eq_true rfl)⟩) (fun r_1 ur_1 hw => ?_)
  clear hPc hKc
  try dsimp only at hw
  have jr_1 := hw
  refine W.eq (g2 := F0 m 5 ls [va_rf r_1]) rfl ?_
  have er_1 : r_1 = some y0 := bq_get ho9 hbo jr_1
  refine W.eq (g2 := F0 m 5 ls [.ref y0]) (by rw [er_1]; rfl) ?_
  refine lv_astore_n (lv' := [(3, .ref y0), (0, .ref a0), (1, .int (nI o))]) hx hb dX7_sizeOf_5 rfl hl (by decide) rfl (fun ls hl => ?_)
  refine lv_aload_n hx hb dX7_sizeOf_6 rfl (lv_at hl 0 rfl) ?_
  refine va_instY (C := RX2) hx hb hown hw0_ (hN.xw _ (List.mem_of_getElem? (l := p_xw) (i := 16) rfl)) (va_recv hK hP (ci := 3) (q0 := 2) rfl rfl) dX7_sizeOf_7 ?_
  refine lv_if_eq (tgt := 25) hx hb dX7_sizeOf_10 (by decide) (fun c_2 => absurd c_2 (by decide)) (fun c_2 => ?_)
  refine lv_aload_n hx hb dX7_sizeOf_13 rfl (lv_at hl 0 rfl) ?_
  refine va_castY (C := RX2) hx hb hown hw0_ (hN.xw _ (List.mem_of_getElem? (l := p_xw) (i := 16) rfl)) (va_recv hK hP (ci := 3) (q0 := 2) rfl rfl) dX7_sizeOf_14 ?_
  refine lv_astore_n (lv' := [(2, .ref y0), (3, .ref y0), (0, .ref a0), (1, .int (nI o))]) hx hb dX7_sizeOf_17 rfl hl (by decide) rfl (fun ls hl => ?_)
  refine lv_aload_n hx hb dX7_sizeOf_18 rfl (lv_at hl 0 rfl) ?_
  have hPc := hP.sub (ws' := [(y0, .inr (3, [.ref x0, .int kd, .int wh, .int (nI cap), .int ru, .int (nI tb), .ref b0])), (x0, .inr (5, [.ref k0, .ref w0, .int (nI nz), .int ch])), (k0, .inl (ck, L, .inl f)), (w0, .inl (cw, L, .inl g))]) [2, 3, 4, 5] rfl
  have hKc := hK.sub (tys' := [(ck, .int), (cw, .int)]) [1, 2] rfl
  refine ro_calli (va_runU (As := []) (rest := []) ⟨hx, hb, hml, hown, hts⟩ (c_X3_size_H l  dC dI s.heap.size y0 (.int kd) (.int wh) (.int (nI cap)) (.int ru) (.int (nI tb)) (.ref b0) x0 k0 w0 ck cw L f g nz ch hR9) (va_cwU 0 hts gX7_sizeOf_X3_size_u84X2 rfl rfl rfl rfl (by decide +kernel) ⟨(Nat.le_of_ble_eq_true rfl), (Nat.le_of_ble_eq_true rfl)⟩) ⟨pk_blindR, va_recv hKc hPc (ci := 3) (q0 := 0) rfl rfl, pk_callR hPc hKc⟩ rfl rfl hl.1 rfl (lv_room (Nat.le_of_ble_eq_true rfl)) dX7_sizeOf_19 ⟨(Nat.le_of_ble_eq_true rfl), (Nat.le_of_ble_eq_true rfl)⟩) (fun r_3 ur_3 hw => ?_)
  clear hPc hKc
  try dsimp only at hw
  have jr_3 := hw
  refine W.eq (g2 := F0 m 22 ls [.int r_3]) rfl ?_
  have hr_3 : -1000 ≤ r_3.toInt ∧ r_3.toInt ≤ nz := by rw [jr_3, nI_toInt (by omega)]; omega
  refine lv_goto (tgt := 26) hx hb dX7_sizeOf_22 (by decide) ?_
  refine W.widen (k := 0) (n := 0) (Nat.le_of_ble_eq_true rfl) (Nat.le_of_ble_eq_true rfl) ?_
  exact W.iret (v := r_3) hx hb hr (fun t ht hW => ⟨⟨r_3, (), rfl, trivial, congrArg Array.size ht⟩, hS.F ht⟩) hS.2.2 dX7_sizeOf_26
set_option maxHeartbeats 4000000 in
set_option maxRecDepth 100000 in
/-- kindOf L -/
theorem c_X7_kindOf_L (l : Launch) (hlt : l.stackTraces = false) (dC : Nat → ClassId) (dI : Nat → Nat → Nat) (sz : Nat) (a0 : Nat) (qb : Nat) (cq : ClassId) (bq : Nat → Option Nat) (o : Nat) (y0 : Nat) (kd : Int32) (v0 : Value) (v2 : Value) (v3 : Value) (v4 : Value) (ho9 : o < 16) (hbo : bq o = some y0) : Met l yX7_kindOf wsX7_kindOf ({ frames := 1, cells := 0, slots := 0, locals := 30 }) (va_Pc [.ref a0, .int (nI o)] (pk_PreRX (dC, dI) [(a0, .inr (7, [.ref qb])), (qb, .inl (cq, 16, .inr (.inr (.inr (.inr bq))))), (y0, .inr (4, [v0, .int kd, v2, v3, v4]))] [(cq, .object "KeyAtlas$Body")] sz)) (va_Qi (fun (_ : Int32) (_ : Unit) => True) (fun _ (t : State) => t.heap.size = sz) ro_A) 0 0 ro_A := by
  refine Met.ofW (cc := cX7_kindOf) (maxL := 3) (ret := (some .int)) (by decide) rfl ?_
  intro p e s m args below meth c s₁ B hml hv
  obtain ⟨rfl, ⟨hsz, hP, hK⟩, hN⟩ := hv
  have hx := B.exec
  have hb := B.bytes
  have hr := B.returns
  have hts := atoms_spec (ws := wsX7_kindOf) B.pre
  have hown : s.vm.findClass RX7 = some m.cls := findClass_of_methodNamed B.named
  have hlocks := B.notSynchronized
  subst hsz
  have hS : va_S ro_A s.heap s.heap [] := va_S.rf
  have hP : va_P (dC, dI) vwCl [(a0, .inr (7, [.ref qb])), (qb, .inl (cq, 16, .inr (.inr (.inr (.inr bq))))), (y0, .inr (4, [v0, .int kd, v2, v3, v4]))] s.heap := hP
  have hl := lv_entry ([.ref a0, .int (nI o)]) (n := 3) (Nat.le_of_ble_eq_true rfl)
  rw [lg_entry_eq]
  generalize (lg_sl ([.ref a0, .int (nI o)]) ++ List.replicate (3 - (lg_sl ([.ref a0, .int (nI o)])).length) Slot.unset).toArray = ls at hl ⊢
  have hl : lv_has ls 3 [(0, .ref a0), (1, .int (nI o))] := hl
  have hw0_ := hts (.fieldLink RX7 258 "KeyAtlas$Body" "kind" "I") (List.mem_of_getElem? (l := wsX7_kindOf) (i := 1) rfl)
  have hi0_ : ∀ w ∈ u_ws RX4 TX4 5, w ∈ wsX7_kindOf := fun w h => List.mem_cons_of_mem _ (List.mem_append_left _ (List.mem_append_left _ (List.mem_append_right _ h)))
  refine lv_aload_n hx hb dX7_kindOf_0 rfl (lv_at hl 0 rfl) ?_
  refine lv_iload_n hx hb dX7_kindOf_1 rfl (lv_at hl 1 rfl) ?_
  have hPc := hP.sub (ws' := [(a0, .inr (7, [.ref qb])), (qb, .inl (cq, 16, .inr (.inr (.inr (.inr bq)))))]) [0, 1] rfl
  have hKc := hK.sub (tys' := [(cq, .object "KeyAtlas$Body")]) [0] rfl
  refine ro_callq (va_runV (As := [.int (nI o)]) (rest := []) ⟨hx, hb, hml, hown, hts⟩ (c_X7_bodyOrNull l  dC dI s.heap.size a0 qb cq bq (nI o)) (cwV 1 hts gX7_kindOf_X7_bodyOrNull rfl rfl rfl (by decide +kernel) ⟨(Nat.le_of_ble_eq_true rfl), (Nat.le_of_ble_eq_true rfl)⟩) ⟨pk_blindR, va_recv hKc hPc (ci := 7) (q0 := 0) rfl rfl, pk_callR hPc hKc⟩ rfl rfl hl.1 rfl (lv_room (Nat.le_of_ble_eq_true rfl)) dX7_kindOf_2 ⟨(Nat.le_of_ble_eq_true rfl), (Nat.le_of_ble_eq_true rfl)⟩) (fun r_1 ur_1 hw => ?_)
  clear hPc hKc
  try dsimp only at hw
  have jr_1 := hw
  refine W.eq (g2 := F0 m 5 ls [va_rf r_1]) rfl ?_
  have er_1 : r_1 = some y0 := bq_get ho9 hbo jr_1
  refine W.eq (g2 := F0 m 5 ls [.ref y0]) (by rw [er_1]; rfl) ?_
  refine lv_astore_n (lv' := [(2, .ref y0), (0, .ref a0), (1, .int (nI o))]) hx hb dX7_kindOf_5 rfl hl (by decide) rfl (fun ls hl => ?_)
  refine lv_aload_n hx hb dX7_kindOf_6 rfl (lv_at hl 0 rfl) ?_
  refine lv_ifnonnull (tgt := 14) hx hb dX7_kindOf_7 (by decide) ?_
  refine lv_aload_n hx hb dX7_kindOf_14 rfl (lv_at hl 0 rfl) ?_
  refine va_get (D := (dC, dI)) (ci := 4) (v := .int kd) (C := RX4) (T := TX4) (N := 5) hx hb hts hi0_ hown hK hP 2 rfl rfl 1 (by decide) hw0_ (fun _ h9 => h9) rfl dX7_kindOf_15 ?_
  refine W.widen (k := 0) (n := 0) (Nat.le_of_ble_eq_true rfl) (Nat.le_of_ble_eq_true rfl) ?_
  exact W.iret (v := kd) hx hb hr (fun t ht hW => ⟨⟨kd, (), rfl, trivial, congrArg Array.size ht⟩, hS.F ht⟩) hS.2.2 dX7_kindOf_18
set_option maxHeartbeats 4000000 in
set_option maxRecDepth 100000 in
/-- sizeOf L -/
theorem c_X7_sizeOf_L (l : Launch) (hlt : l.stackTraces = false) (dC : Nat → ClassId) (dI : Nat → Nat → Nat) (sz : Nat) (a0 : Nat) (qb : Nat) (cq : ClassId) (bq : Nat → Option Nat) (o : Nat) (y0 : Nat) (kd : Int32) (wh : Int32) (lim : Nat) (bu : Int32) (x0 : Nat) (k0 : Nat) (w0 : Nat) (ck : ClassId) (cw : ClassId) (L : Nat) (f : Nat → Int32) (g : Nat → Int32) (nz : Nat) (ch : Int32) (ho9 : o < 16) (hbo : bq o = some y0) (hR9 : rOK L nz) (hlim : lim ≤ 1000) : Met l yX7_sizeOf wsX7_sizeOf ({ frames := 6, cells := 0, slots := 0, locals := 240 }) (va_Pc [.ref a0, .int (nI o)] (pk_PreRX (dC, dI) [(a0, .inr (7, [.ref qb])), (qb, .inl (cq, 16, .inr (.inr (.inr (.inr bq))))), (y0, .inr (4, [.ref x0, .int kd, .int wh, .int (nI lim), .int bu])), (x0, .inr (5, [.ref k0, .ref w0, .int (nI nz), .int ch])), (k0, .inl (ck, L, .inl f)), (w0, .inl (cw, L, .inl g))] [(cq, .object "KeyAtlas$Body"), (ck, .int), (cw, .int)] sz)) (va_Qi (fun (_ : Int32) (_ : Unit) => True) (fun _ (t : State) => t.heap.size = sz) ro_A) 0 0 ro_A := by
  refine Met.ofW (cc := cX7_sizeOf) (maxL := 4) (ret := (some .int)) (by decide) rfl ?_
  intro p e s m args below meth c s₁ B hml hv
  obtain ⟨rfl, ⟨hsz, hP, hK⟩, hN⟩ := hv
  have hx := B.exec
  have hb := B.bytes
  have hr := B.returns
  have hts := atoms_spec (ws := wsX7_sizeOf) B.pre
  have hown : s.vm.findClass RX7 = some m.cls := findClass_of_methodNamed B.named
  have hlocks := B.notSynchronized
  subst hsz
  have hS : va_S ro_A s.heap s.heap [] := va_S.rf
  have hP : va_P (dC, dI) vwCl [(a0, .inr (7, [.ref qb])), (qb, .inl (cq, 16, .inr (.inr (.inr (.inr bq))))), (y0, .inr (4, [.ref x0, .int kd, .int wh, .int (nI lim), .int bu])), (x0, .inr (5, [.ref k0, .ref w0, .int (nI nz), .int ch])), (k0, .inl (ck, L, .inl f)), (w0, .inl (cw, L, .inl g))] s.heap := hP
  have hl := lv_entry ([.ref a0, .int (nI o)]) (n := 4) (Nat.le_of_ble_eq_true rfl)
  rw [lg_entry_eq]
  generalize (lg_sl ([.ref a0, .int (nI o)]) ++ List.replicate (4 - (lg_sl ([.ref a0, .int (nI o)])).length) Slot.unset).toArray = ls at hl ⊢
  have hl : lv_has ls 4 [(0, .ref a0), (1, .int (nI o))] := hl
  have hw0_ := hts (.classLink RX7 56 "KeyAtlas$Keyed") (List.mem_of_getElem? (l := wsX7_sizeOf) (i := 1) rfl)
  obtain ⟨hL1, hL2, hz1, hz2⟩ := id hR9
  refine lv_aload_n hx hb dX7_sizeOf_0 rfl (lv_at hl 0 rfl) ?_
  refine lv_iload_n hx hb dX7_sizeOf_1 rfl (lv_at hl 1 rfl) ?_
  have hPc := hP.sub (ws' := [(a0, .inr (7, [.ref qb])), (qb, .inl (cq, 16, .inr (.inr (.inr (.inr bq)))))]) [0, 1] rfl
  have hKc := hK.sub (tys' := [(cq, .object "KeyAtlas$Body")]) [0] rfl
  refine ro_callq (va_runV (As := [.int (nI o)]) (rest := []) ⟨hx, hb, hml, hown, hts⟩ (c_X7_bodyOrNull l  dC dI s.heap.size a0 qb cq bq (nI o)) (cwV 1 hts gX7_sizeOf_X7_bodyOrNull rfl rfl rfl (by decide +kernel) ⟨(Nat.le_of_ble_eq_true rfl), (Nat.le_of_ble_eq_true rfl)⟩) ⟨pk_blindR, va_recv hKc hPc (ci := 7) (q0 := 0) rfl rfl, pk_callR hPc hKc⟩ rfl rfl hl.1 rfl (lv_room (Nat.le_of_ble_eq_true rfl)) dX7_sizeOf_2 ⟨(Nat.le_of_ble_eq_true rfl), (Nat.le_of_ble_eq_true rfl)⟩) (fun r_1 ur_1 hw => ?_)
  clear hPc hKc
  try dsimp only at hw
  have jr_1 := hw
  refine W.eq (g2 := F0 m 5 ls [va_rf r_1]) rfl ?_
  have er_1 : r_1 = some y0 := bq_get ho9 hbo jr_1
  refine W.eq (g2 := F0 m 5 ls [.ref y0]) (by rw [er_1]; rfl) ?_
  refine lv_astore_n (lv' := [(3, .ref y0), (0, .ref a0), (1, .int (nI o))]) hx hb dX7_sizeOf_5 rfl hl (by decide) rfl (fun ls hl => ?_)
  refine lv_aload_n hx hb dX7_sizeOf_6 rfl (lv_at hl 0 rfl) ?_
  refine va_instY (C := RX4) hx hb hown hw0_ (hN.xw _ (List.mem_of_getElem? (l := p_xw) (i := 17) rfl)) (va_recv hK hP (ci := 4) (q0 := 2) rfl rfl) dX7_sizeOf_7 ?_
  refine lv_if_eq (tgt := 25) hx hb dX7_sizeOf_10 (by decide) (fun c_2 => absurd c_2 (by decide)) (fun c_2 => ?_)
  refine lv_aload_n hx hb dX7_sizeOf_13 rfl (lv_at hl 0 rfl) ?_
  refine va_castY (C := RX4) hx hb hown hw0_ (hN.xw _ (List.mem_of_getElem? (l := p_xw) (i := 17) rfl)) (va_recv hK hP (ci := 4) (q0 := 2) rfl rfl) dX7_sizeOf_14 ?_
  refine lv_astore_n (lv' := [(2, .ref y0), (3, .ref y0), (0, .ref a0), (1, .int (nI o))]) hx hb dX7_sizeOf_17 rfl hl (by decide) rfl (fun ls hl => ?_)
  refine lv_aload_n hx hb dX7_sizeOf_18 rfl (lv_at hl 0 rfl) ?_
  have hPc := hP.sub (ws' := [(y0, .inr (4, [.ref x0, .int kd, .int wh, .int (nI lim), .int bu])), (x0, .inr (5, [.ref k0, .ref w0, .int (nI nz), .int ch])), (k0, .inl (ck, L, .inl f)), (w0, .inl (cw, L, .inl g))]) [2, 3, 4, 5] rfl
  have hKc := hK.sub (tys' := [(ck, .int), (cw, .int)]) [1, 2] rfl
  refine ro_calli (va_runU (As := []) (rest := []) ⟨hx, hb, hml, hown, hts⟩ (c_X3_size_L l  dC dI s.heap.size y0 (.int kd) (.int wh) (.int (nI lim)) (.int bu) x0 k0 w0 ck cw L f g nz ch hR9) (va_cwU 0 hts gX7_sizeOf_X3_size_u84X4 rfl rfl rfl rfl (by decide +kernel) ⟨(Nat.le_of_ble_eq_true rfl), (Nat.le_of_ble_eq_true rfl)⟩) ⟨pk_blindR, va_recv hKc hPc (ci := 4) (q0 := 0) rfl rfl, pk_callR hPc hKc⟩ rfl rfl hl.1 rfl (lv_room (Nat.le_of_ble_eq_true rfl)) dX7_sizeOf_19 ⟨(Nat.le_of_ble_eq_true rfl), (Nat.le_of_ble_eq_true rfl)⟩) (fun r_3 ur_3 hw => ?_)
  clear hPc hKc
  try dsimp only at hw
  have jr_3 := hw
  refine W.eq (g2 := F0 m 22 ls [.int r_3]) rfl ?_
  have hr_3 : -1000 ≤ r_3.toInt ∧ r_3.toInt ≤ nz := by rw [jr_3, nI_toInt (by omega)]; omega
  refine lv_goto (tgt := 26) hx hb dX7_sizeOf_22 (by decide) ?_
  refine W.widen (k := 0) (n := 0) (Nat.le_of_ble_eq_true rfl) (Nat.le_of_ble_eq_true rfl) ?_
  exact W.iret (v := r_3) hx hb hr (fun t ht hW => ⟨⟨r_3, (), rfl, trivial, congrArg Array.size ht⟩, hS.F ht⟩) hS.2.2 dX7_sizeOf_26
set_option maxHeartbeats 4000000 in
set_option maxRecDepth 100000 in
/-- kindOf S -/
theorem c_X7_kindOf_S (l : Launch) (hlt : l.stackTraces = false) (dC : Nat → ClassId) (dI : Nat → Nat → Nat) (sz : Nat) (a0 : Nat) (qb : Nat) (cq : ClassId) (bq : Nat → Option Nat) (o : Nat) (y0 : Nat) (kd : Int32) (v0 : Value) (v2 : Value) (v3 : Value) (v4 : Value) (v5 : Value) (v6 : Value) (ho9 : o < 16) (hbo : bq o = some y0) : Met l yX7_kindOf wsX7_kindOf ({ frames := 1, cells := 0, slots := 0, locals := 30 }) (va_Pc [.ref a0, .int (nI o)] (pk_PreRX (dC, dI) [(a0, .inr (7, [.ref qb])), (qb, .inl (cq, 16, .inr (.inr (.inr (.inr bq))))), (y0, .inr (6, [v0, .int kd, v2, v3, v4, v5, v6]))] [(cq, .object "KeyAtlas$Body")] sz)) (va_Qi (fun (_ : Int32) (_ : Unit) => True) (fun _ (t : State) => t.heap.size = sz) ro_A) 0 0 ro_A := by
  refine Met.ofW (cc := cX7_kindOf) (maxL := 3) (ret := (some .int)) (by decide) rfl ?_
  intro p e s m args below meth c s₁ B hml hv
  obtain ⟨rfl, ⟨hsz, hP, hK⟩, hN⟩ := hv
  have hx := B.exec
  have hb := B.bytes
  have hr := B.returns
  have hts := atoms_spec (ws := wsX7_kindOf) B.pre
  have hown : s.vm.findClass RX7 = some m.cls := findClass_of_methodNamed B.named
  have hlocks := B.notSynchronized
  subst hsz
  have hS : va_S ro_A s.heap s.heap [] := va_S.rf
  have hP : va_P (dC, dI) vwCl [(a0, .inr (7, [.ref qb])), (qb, .inl (cq, 16, .inr (.inr (.inr (.inr bq))))), (y0, .inr (6, [v0, .int kd, v2, v3, v4, v5, v6]))] s.heap := hP
  have hl := lv_entry ([.ref a0, .int (nI o)]) (n := 3) (Nat.le_of_ble_eq_true rfl)
  rw [lg_entry_eq]
  generalize (lg_sl ([.ref a0, .int (nI o)]) ++ List.replicate (3 - (lg_sl ([.ref a0, .int (nI o)])).length) Slot.unset).toArray = ls at hl ⊢
  have hl : lv_has ls 3 [(0, .ref a0), (1, .int (nI o))] := hl
  have hw0_ := hts (.fieldLink RX7 258 "KeyAtlas$Body" "kind" "I") (List.mem_of_getElem? (l := wsX7_kindOf) (i := 1) rfl)
  have hi0_ : ∀ w ∈ u_ws RX6 TX6 7, w ∈ wsX7_kindOf := fun w h => List.mem_cons_of_mem _ (List.mem_append_left _ (List.mem_append_right _ h))
  refine lv_aload_n hx hb dX7_kindOf_0 rfl (lv_at hl 0 rfl) ?_
  refine lv_iload_n hx hb dX7_kindOf_1 rfl (lv_at hl 1 rfl) ?_
  have hPc := hP.sub (ws' := [(a0, .inr (7, [.ref qb])), (qb, .inl (cq, 16, .inr (.inr (.inr (.inr bq)))))]) [0, 1] rfl
  have hKc := hK.sub (tys' := [(cq, .object "KeyAtlas$Body")]) [0] rfl
  refine ro_callq (va_runV (As := [.int (nI o)]) (rest := []) ⟨hx, hb, hml, hown, hts⟩ (c_X7_bodyOrNull l  dC dI s.heap.size a0 qb cq bq (nI o)) (cwV 1 hts gX7_kindOf_X7_bodyOrNull rfl rfl rfl (by decide +kernel) ⟨(Nat.le_of_ble_eq_true rfl), (Nat.le_of_ble_eq_true rfl)⟩) ⟨pk_blindR, va_recv hKc hPc (ci := 7) (q0 := 0) rfl rfl, pk_callR hPc hKc⟩ rfl rfl hl.1 rfl (lv_room (Nat.le_of_ble_eq_true rfl)) dX7_kindOf_2 ⟨(Nat.le_of_ble_eq_true rfl), (Nat.le_of_ble_eq_true rfl)⟩) (fun r_1 ur_1 hw => ?_)
  clear hPc hKc
  try dsimp only at hw
  have jr_1 := hw
  refine W.eq (g2 := F0 m 5 ls [va_rf r_1]) rfl ?_
  have er_1 : r_1 = some y0 := bq_get ho9 hbo jr_1
  refine W.eq (g2 := F0 m 5 ls [.ref y0]) (by rw [er_1]; rfl) ?_
  refine lv_astore_n (lv' := [(2, .ref y0), (0, .ref a0), (1, .int (nI o))]) hx hb dX7_kindOf_5 rfl hl (by decide) rfl (fun ls hl => ?_)
  refine lv_aload_n hx hb dX7_kindOf_6 rfl (lv_at hl 0 rfl) ?_
  refine lv_ifnonnull (tgt := 14) hx hb dX7_kindOf_7 (by decide) ?_
  refine lv_aload_n hx hb dX7_kindOf_14 rfl (lv_at hl 0 rfl) ?_
  refine va_get (D := (dC, dI)) (ci := 6) (v := .int kd) (C := RX6) (T := TX6) (N := 7) hx hb hts hi0_ hown hK hP 2 rfl rfl 1 (by decide) hw0_ (fun _ h9 => h9) rfl dX7_kindOf_15 ?_
  refine W.widen (k := 0) (n := 0) (Nat.le_of_ble_eq_true rfl) (Nat.le_of_ble_eq_true rfl) ?_
  exact W.iret (v := kd) hx hb hr (fun t ht hW => ⟨⟨kd, (), rfl, trivial, congrArg Array.size ht⟩, hS.F ht⟩) hS.2.2 dX7_kindOf_18
set_option maxHeartbeats 4000000 in
set_option maxRecDepth 100000 in
/-- sizeOf S -/
theorem c_X7_sizeOf_S (l : Launch) (hlt : l.stackTraces = false) (dC : Nat → ClassId) (dI : Nat → Nat → Nat) (sz : Nat) (a0 : Nat) (qb : Nat) (cq : ClassId) (bq : Nat → Option Nat) (o : Nat) (y0 : Nat) (kd : Int32) (wh : Int32) (od : Int32) (tu : Int32) (lo : Int64) (hi : Int64) (x0 : Nat) (k0 : Nat) (w0 : Nat) (ck : ClassId) (cw : ClassId) (L : Nat) (f : Nat → Int32) (g : Nat → Int32) (nz : Nat) (ch : Int32) (ho9 : o < 16) (hbo : bq o = some y0) (hR9 : rOK L nz) (ho1 : 0 ≤ od.toInt) (ho2 : od.toInt ≤ 3) : Met l yX7_sizeOf wsX7_sizeOf ({ frames := 6, cells := 0, slots := 0, locals := 240 }) (va_Pc [.ref a0, .int (nI o)] (pk_PreRX (dC, dI) [(a0, .inr (7, [.ref qb])), (qb, .inl (cq, 16, .inr (.inr (.inr (.inr bq))))), (y0, .inr (6, [.ref x0, .int kd, .int wh, .int od, .int tu, .long lo, .long hi])), (x0, .inr (5, [.ref k0, .ref w0, .int (nI nz), .int ch])), (k0, .inl (ck, L, .inl f)), (w0, .inl (cw, L, .inl g))] [(cq, .object "KeyAtlas$Body"), (ck, .int), (cw, .int)] sz)) (va_Qi (fun (_ : Int32) (_ : Unit) => True) (fun _ (t : State) => t.heap.size = sz) ro_A) 0 0 ro_A := by
  refine Met.ofW (cc := cX7_sizeOf) (maxL := 4) (ret := (some .int)) (by decide) rfl ?_
  intro p e s m args below meth c s₁ B hml hv
  obtain ⟨rfl, ⟨hsz, hP, hK⟩, hN⟩ := hv
  have hx := B.exec
  have hb := B.bytes
  have hr := B.returns
  have hts := atoms_spec (ws := wsX7_sizeOf) B.pre
  have hown : s.vm.findClass RX7 = some m.cls := findClass_of_methodNamed B.named
  have hlocks := B.notSynchronized
  subst hsz
  have hS : va_S ro_A s.heap s.heap [] := va_S.rf
  have hP : va_P (dC, dI) vwCl [(a0, .inr (7, [.ref qb])), (qb, .inl (cq, 16, .inr (.inr (.inr (.inr bq))))), (y0, .inr (6, [.ref x0, .int kd, .int wh, .int od, .int tu, .long lo, .long hi])), (x0, .inr (5, [.ref k0, .ref w0, .int (nI nz), .int ch])), (k0, .inl (ck, L, .inl f)), (w0, .inl (cw, L, .inl g))] s.heap := hP
  have hl := lv_entry ([.ref a0, .int (nI o)]) (n := 4) (Nat.le_of_ble_eq_true rfl)
  rw [lg_entry_eq]
  generalize (lg_sl ([.ref a0, .int (nI o)]) ++ List.replicate (4 - (lg_sl ([.ref a0, .int (nI o)])).length) Slot.unset).toArray = ls at hl ⊢
  have hl : lv_has ls 4 [(0, .ref a0), (1, .int (nI o))] := hl
  have hw0_ := hts (.classLink RX7 56 "KeyAtlas$Keyed") (List.mem_of_getElem? (l := wsX7_sizeOf) (i := 1) rfl)
  obtain ⟨hL1, hL2, hz1, hz2⟩ := id hR9
  refine lv_aload_n hx hb dX7_sizeOf_0 rfl (lv_at hl 0 rfl) ?_
  refine lv_iload_n hx hb dX7_sizeOf_1 rfl (lv_at hl 1 rfl) ?_
  have hPc := hP.sub (ws' := [(a0, .inr (7, [.ref qb])), (qb, .inl (cq, 16, .inr (.inr (.inr (.inr bq)))))]) [0, 1] rfl
  have hKc := hK.sub (tys' := [(cq, .object "KeyAtlas$Body")]) [0] rfl
  refine ro_callq (va_runV (As := [.int (nI o)]) (rest := []) ⟨hx, hb, hml, hown, hts⟩ (c_X7_bodyOrNull l  dC dI s.heap.size a0 qb cq bq (nI o)) (cwV 1 hts gX7_sizeOf_X7_bodyOrNull rfl rfl rfl (by decide +kernel) ⟨(Nat.le_of_ble_eq_true rfl), (Nat.le_of_ble_eq_true rfl)⟩) ⟨pk_blindR, va_recv hKc hPc (ci := 7) (q0 := 0) rfl rfl, pk_callR hPc hKc⟩ rfl rfl hl.1 rfl (lv_room (Nat.le_of_ble_eq_true rfl)) dX7_sizeOf_2 ⟨(Nat.le_of_ble_eq_true rfl), (Nat.le_of_ble_eq_true rfl)⟩) (fun r_1 ur_1 hw => ?_)
  clear hPc hKc
  try dsimp only at hw
  have jr_1 := hw
  refine W.eq (g2 := F0 m 5 ls [va_rf r_1]) rfl ?_
  have er_1 : r_1 = some y0 := bq_get ho9 hbo jr_1
  refine W.eq (g2 := F0 m 5 ls [.ref y0]) (by rw [er_1]; rfl) ?_
  refine lv_astore_n (lv' := [(3, .ref y0), (0, .ref a0), (1, .int (nI o))]) hx hb dX7_sizeOf_5 rfl hl (by decide) rfl (fun ls hl => ?_)
  refine lv_aload_n hx hb dX7_sizeOf_6 rfl (lv_at hl 0 rfl) ?_
  refine va_instY (C := RX6) hx hb hown hw0_ (hN.xw _ (List.mem_of_getElem? (l := p_xw) (i := 18) rfl)) (va_recv hK hP (ci := 6) (q0 := 2) rfl rfl) dX7_sizeOf_7 ?_
  refine lv_if_eq (tgt := 25) hx hb dX7_sizeOf_10 (by decide) (fun c_2 => absurd c_2 (by decide)) (fun c_2 => ?_)
  refine lv_aload_n hx hb dX7_sizeOf_13 rfl (lv_at hl 0 rfl) ?_
  refine va_castY (C := RX6) hx hb hown hw0_ (hN.xw _ (List.mem_of_getElem? (l := p_xw) (i := 18) rfl)) (va_recv hK hP (ci := 6) (q0 := 2) rfl rfl) dX7_sizeOf_14 ?_
  refine lv_astore_n (lv' := [(2, .ref y0), (3, .ref y0), (0, .ref a0), (1, .int (nI o))]) hx hb dX7_sizeOf_17 rfl hl (by decide) rfl (fun ls hl => ?_)
  refine lv_aload_n hx hb dX7_sizeOf_18 rfl (lv_at hl 0 rfl) ?_
  have hPc := hP.sub (ws' := [(y0, .inr (6, [.ref x0, .int kd, .int wh, .int od, .int tu, .long lo, .long hi])), (x0, .inr (5, [.ref k0, .ref w0, .int (nI nz), .int ch])), (k0, .inl (ck, L, .inl f)), (w0, .inl (cw, L, .inl g))]) [2, 3, 4, 5] rfl
  have hKc := hK.sub (tys' := [(ck, .int), (cw, .int)]) [1, 2] rfl
  refine ro_calli (va_runU (As := []) (rest := []) ⟨hx, hb, hml, hown, hts⟩ (c_X6_size l  dC dI s.heap.size y0 kd wh od tu lo hi x0 k0 w0 ck cw L f g nz ch hR9 ho1 ho2) (va_cwO 0 hts gX7_sizeOf_X6_size_u84X6 rfl rfl rfl (List.mem_of_getElem? (l := wsX7_sizeOf) (i := 13) rfl) (by decide +kernel) ⟨(Nat.le_of_ble_eq_true rfl), (Nat.le_of_ble_eq_true rfl)⟩) ⟨pk_blindR, va_recv hKc hPc (ci := 6) (q0 := 0) rfl rfl, pk_callR hPc hKc⟩ rfl rfl hl.1 rfl (lv_room (Nat.le_of_ble_eq_true rfl)) dX7_sizeOf_19 ⟨(Nat.le_of_ble_eq_true rfl), (Nat.le_of_ble_eq_true rfl)⟩) (fun r_3 ur_3 hw => ?_)
  clear hPc hKc
  try dsimp only at hw
  have jr_3 := hw
  refine W.eq (g2 := F0 m 22 ls [.int r_3]) rfl ?_
  refine lv_goto (tgt := 26) hx hb dX7_sizeOf_22 (by decide) ?_
  refine W.widen (k := 0) (n := 0) (Nat.le_of_ble_eq_true rfl) (Nat.le_of_ble_eq_true rfl) ?_
  exact W.iret (v := r_3) hx hb hr (fun t ht hW => ⟨⟨r_3, (), rfl, trivial, congrArg Array.size ht⟩, hS.F ht⟩) hS.2.2 dX7_sizeOf_26
set_option maxHeartbeats 4000000 in
set_option maxRecDepth 100000 in
/-- kindOf C -/
theorem c_X7_kindOf_C (l : Launch) (hlt : l.stackTraces = false) (dC : Nat → ClassId) (dI : Nat → Nat → Nat) (sz : Nat) (a0 : Nat) (qb : Nat) (cq : ClassId) (bq : Nat → Option Nat) (o : Nat) (y0 : Nat) (kd : Int32) (v1 : Value) (v2 : Value) (v3 : Value) (v4 : Value) (v5 : Value) (ho9 : o < 16) (hbo : bq o = some y0) : Met l yX7_kindOf wsX7_kindOf ({ frames := 1, cells := 0, slots := 0, locals := 30 }) (va_Pc [.ref a0, .int (nI o)] (pk_PreRX (dC, dI) [(a0, .inr (7, [.ref qb])), (qb, .inl (cq, 16, .inr (.inr (.inr (.inr bq))))), (y0, .inr (2, [.int kd, v1, v2, v3, v4, v5]))] [(cq, .object "KeyAtlas$Body")] sz)) (va_Qi (fun (_ : Int32) (_ : Unit) => True) (fun _ (t : State) => t.heap.size = sz) ro_A) 0 0 ro_A := by
  refine Met.ofW (cc := cX7_kindOf) (maxL := 3) (ret := (some .int)) (by decide) rfl ?_
  intro p e s m args below meth c s₁ B hml hv
  obtain ⟨rfl, ⟨hsz, hP, hK⟩, hN⟩ := hv
  have hx := B.exec
  have hb := B.bytes
  have hr := B.returns
  have hts := atoms_spec (ws := wsX7_kindOf) B.pre
  have hown : s.vm.findClass RX7 = some m.cls := findClass_of_methodNamed B.named
  have hlocks := B.notSynchronized
  subst hsz
  have hS : va_S ro_A s.heap s.heap [] := va_S.rf
  have hP : va_P (dC, dI) vwCl [(a0, .inr (7, [.ref qb])), (qb, .inl (cq, 16, .inr (.inr (.inr (.inr bq))))), (y0, .inr (2, [.int kd, v1, v2, v3, v4, v5]))] s.heap := hP
  have hl := lv_entry ([.ref a0, .int (nI o)]) (n := 3) (Nat.le_of_ble_eq_true rfl)
  rw [lg_entry_eq]
  generalize (lg_sl ([.ref a0, .int (nI o)]) ++ List.replicate (3 - (lg_sl ([.ref a0, .int (nI o)])).length) Slot.unset).toArray = ls at hl ⊢
  have hl : lv_has ls 3 [(0, .ref a0), (1, .int (nI o))] := hl
  have hw0_ := hts (.fieldLink RX7 258 "KeyAtlas$Body" "kind" "I") (List.mem_of_getElem? (l := wsX7_kindOf) (i := 1) rfl)
  have hi0_ : ∀ w ∈ u_ws RX1 TX1 6, w ∈ wsX7_kindOf := fun w h => List.mem_cons_of_mem _ (List.mem_append_left _ (List.mem_append_left _ (List.mem_append_left _ (List.mem_append_left _ (List.mem_append_right _ h)))))
  refine lv_aload_n hx hb dX7_kindOf_0 rfl (lv_at hl 0 rfl) ?_
  refine lv_iload_n hx hb dX7_kindOf_1 rfl (lv_at hl 1 rfl) ?_
  have hPc := hP.sub (ws' := [(a0, .inr (7, [.ref qb])), (qb, .inl (cq, 16, .inr (.inr (.inr (.inr bq)))))]) [0, 1] rfl
  have hKc := hK.sub (tys' := [(cq, .object "KeyAtlas$Body")]) [0] rfl
  refine ro_callq (va_runV (As := [.int (nI o)]) (rest := []) ⟨hx, hb, hml, hown, hts⟩ (c_X7_bodyOrNull l  dC dI s.heap.size a0 qb cq bq (nI o)) (cwV 1 hts gX7_kindOf_X7_bodyOrNull rfl rfl rfl (by decide +kernel) ⟨(Nat.le_of_ble_eq_true rfl), (Nat.le_of_ble_eq_true rfl)⟩) ⟨pk_blindR, va_recv hKc hPc (ci := 7) (q0 := 0) rfl rfl, pk_callR hPc hKc⟩ rfl rfl hl.1 rfl (lv_room (Nat.le_of_ble_eq_true rfl)) dX7_kindOf_2 ⟨(Nat.le_of_ble_eq_true rfl), (Nat.le_of_ble_eq_true rfl)⟩) (fun r_1 ur_1 hw => ?_)
  clear hPc hKc
  try dsimp only at hw
  have jr_1 := hw
  refine W.eq (g2 := F0 m 5 ls [va_rf r_1]) rfl ?_
  have er_1 : r_1 = some y0 := bq_get ho9 hbo jr_1
  refine W.eq (g2 := F0 m 5 ls [.ref y0]) (by rw [er_1]; rfl) ?_
  refine lv_astore_n (lv' := [(2, .ref y0), (0, .ref a0), (1, .int (nI o))]) hx hb dX7_kindOf_5 rfl hl (by decide) rfl (fun ls hl => ?_)
  refine lv_aload_n hx hb dX7_kindOf_6 rfl (lv_at hl 0 rfl) ?_
  refine lv_ifnonnull (tgt := 14) hx hb dX7_kindOf_7 (by decide) ?_
  refine lv_aload_n hx hb dX7_kindOf_14 rfl (lv_at hl 0 rfl) ?_
  refine va_get (D := (dC, dI)) (ci := 2) (v := .int kd) (C := RX1) (T := TX1) (N := 6) hx hb hts hi0_ hown hK hP 2 rfl rfl 0 (by decide) hw0_ (fun _ h9 => h9) rfl dX7_kindOf_15 ?_
  refine W.widen (k := 0) (n := 0) (Nat.le_of_ble_eq_true rfl) (Nat.le_of_ble_eq_true rfl) ?_
  exact W.iret (v := kd) hx hb hr (fun t ht hW => ⟨⟨kd, (), rfl, trivial, congrArg Array.size ht⟩, hS.F ht⟩) hS.2.2 dX7_kindOf_18
set_option maxHeartbeats 4000000 in
set_option maxRecDepth 100000 in
/-- sizeOf C -/
theorem c_X7_sizeOf_C (l : Launch) (hlt : l.stackTraces = false) (dC : Nat → ClassId) (dI : Nat → Nat → Nat) (sz : Nat) (a0 : Nat) (qb : Nat) (cq : ClassId) (bq : Nat → Option Nat) (o : Nat) (y0 : Nat) (fs : List Value) (ho9 : o < 16) (hbo : bq o = some y0) : Met l yX7_sizeOf wsX7_sizeOf ({ frames := 1, cells := 0, slots := 0, locals := 30 }) (va_Pc [.ref a0, .int (nI o)] (pk_PreRX (dC, dI) [(a0, .inr (7, [.ref qb])), (qb, .inl (cq, 16, .inr (.inr (.inr (.inr bq))))), (y0, .inr (2, fs))] [(cq, .object "KeyAtlas$Body")] sz)) (va_Qi (fun (_ : Int32) (_ : Unit) => True) (fun _ (t : State) => t.heap.size = sz) ro_A) 0 0 ro_A := by
  refine Met.ofW (cc := cX7_sizeOf) (maxL := 4) (ret := (some .int)) (by decide) rfl ?_
  intro p e s m args below meth c s₁ B hml hv
  obtain ⟨rfl, ⟨hsz, hP, hK⟩, hN⟩ := hv
  have hx := B.exec
  have hb := B.bytes
  have hr := B.returns
  have hts := atoms_spec (ws := wsX7_sizeOf) B.pre
  have hown : s.vm.findClass RX7 = some m.cls := findClass_of_methodNamed B.named
  have hlocks := B.notSynchronized
  subst hsz
  have hS : va_S ro_A s.heap s.heap [] := va_S.rf
  have hP : va_P (dC, dI) vwCl [(a0, .inr (7, [.ref qb])), (qb, .inl (cq, 16, .inr (.inr (.inr (.inr bq))))), (y0, .inr (2, fs))] s.heap := hP
  have hl := lv_entry ([.ref a0, .int (nI o)]) (n := 4) (Nat.le_of_ble_eq_true rfl)
  rw [lg_entry_eq]
  generalize (lg_sl ([.ref a0, .int (nI o)]) ++ List.replicate (4 - (lg_sl ([.ref a0, .int (nI o)])).length) Slot.unset).toArray = ls at hl ⊢
  have hl : lv_has ls 4 [(0, .ref a0), (1, .int (nI o))] := hl
  have hw0_ := hts (.classLink RX7 56 "KeyAtlas$Keyed") (List.mem_of_getElem? (l := wsX7_sizeOf) (i := 1) rfl)
  refine lv_aload_n hx hb dX7_sizeOf_0 rfl (lv_at hl 0 rfl) ?_
  refine lv_iload_n hx hb dX7_sizeOf_1 rfl (lv_at hl 1 rfl) ?_
  have hPc := hP.sub (ws' := [(a0, .inr (7, [.ref qb])), (qb, .inl (cq, 16, .inr (.inr (.inr (.inr bq)))))]) [0, 1] rfl
  have hKc := hK.sub (tys' := [(cq, .object "KeyAtlas$Body")]) [0] rfl
  refine ro_callq (va_runV (As := [.int (nI o)]) (rest := []) ⟨hx, hb, hml, hown, hts⟩ (c_X7_bodyOrNull l  dC dI s.heap.size a0 qb cq bq (nI o)) (cwV 1 hts gX7_sizeOf_X7_bodyOrNull rfl rfl rfl (by decide +kernel) ⟨(Nat.le_of_ble_eq_true rfl), (Nat.le_of_ble_eq_true rfl)⟩) ⟨pk_blindR, va_recv hKc hPc (ci := 7) (q0 := 0) rfl rfl, pk_callR hPc hKc⟩ rfl rfl hl.1 rfl (lv_room (Nat.le_of_ble_eq_true rfl)) dX7_sizeOf_2 ⟨(Nat.le_of_ble_eq_true rfl), (Nat.le_of_ble_eq_true rfl)⟩) (fun r_1 ur_1 hw => ?_)
  clear hPc hKc
  try dsimp only at hw
  have jr_1 := hw
  refine W.eq (g2 := F0 m 5 ls [va_rf r_1]) rfl ?_
  have er_1 : r_1 = some y0 := bq_get ho9 hbo jr_1
  refine W.eq (g2 := F0 m 5 ls [.ref y0]) (by rw [er_1]; rfl) ?_
  refine lv_astore_n (lv' := [(3, .ref y0), (0, .ref a0), (1, .int (nI o))]) hx hb dX7_sizeOf_5 rfl hl (by decide) rfl (fun ls hl => ?_)
  refine lv_aload_n hx hb dX7_sizeOf_6 rfl (lv_at hl 0 rfl) ?_
  refine va_instNo (C := RX1) hx hb hown hw0_ (hN.2.2.2.2 _ (List.mem_of_getElem? (l := p_nc) (i := 0) rfl)) (va_recv hK hP (ci := 2) (q0 := 2) rfl rfl) dX7_sizeOf_7 ?_
  refine lv_if_eq (tgt := 25) hx hb dX7_sizeOf_10 (by decide) (fun c_2 => ?_) (fun c_2 => absurd c_2 (by decide))
  refine lv_iconst (v := (-1)) hx hb dX7_sizeOf_25 (by decide) ?_
  refine W.widen (k := 0) (n := 0) (Nat.le_of_ble_eq_true rfl) (Nat.le_of_ble_eq_true rfl) ?_
  exact W.iret (v := -1) hx hb hr (fun t ht hW => ⟨⟨-1, (), rfl, trivial, congrArg Array.size ht⟩, hS.F ht⟩) hS.2.2 dX7_sizeOf_26
