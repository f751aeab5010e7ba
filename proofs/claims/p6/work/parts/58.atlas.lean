theorem dX7_bodyOrNull_0 : decode cX7_bodyOrNull 0 = .ok (.iload_n 1, 1) := by decide +kernel
theorem dX7_bodyOrNull_1 : decode cX7_bodyOrNull 1 = .ok (.ifCond .lt 21, 3) := by decide +kernel
theorem dX7_bodyOrNull_22 : decode cX7_bodyOrNull 22 = .ok (.aconst_null, 1) := by decide +kernel
theorem dX7_bodyOrNull_23 : decode cX7_bodyOrNull 23 = .ok (.areturn, 1) := by decide +kernel
theorem dX7_bodyOrNull_4 : decode cX7_bodyOrNull 4 = .ok (.iload_n 1, 1) := by decide +kernel
theorem dX7_bodyOrNull_5 : decode cX7_bodyOrNull 5 = .ok (.aload_n 0, 1) := by decide +kernel
theorem dX7_bodyOrNull_6 : decode cX7_bodyOrNull 6 = .ok (.getfield 11, 3) := by decide +kernel
theorem dX7_bodyOrNull_9 : decode cX7_bodyOrNull 9 = .ok (.arraylength, 1) := by decide +kernel
theorem dX7_bodyOrNull_10 : decode cX7_bodyOrNull 10 = .ok (.if_icmp .ge 12, 3) := by decide +kernel
theorem dX7_bodyOrNull_13 : decode cX7_bodyOrNull 13 = .ok (.aload_n 0, 1) := by decide +kernel
theorem dX7_bodyOrNull_14 : decode cX7_bodyOrNull 14 = .ok (.getfield 11, 3) := by decide +kernel
theorem dX7_bodyOrNull_17 : decode cX7_bodyOrNull 17 = .ok (.iload_n 1, 1) := by decide +kernel
theorem dX7_bodyOrNull_18 : decode cX7_bodyOrNull 18 = .ok (.aaload, 1) := by decide +kernel
theorem dX7_bodyOrNull_19 : decode cX7_bodyOrNull 19 = .ok (.goto 4, 3) := by decide +kernel
theorem dX7_bodyAt_0 : decode cX7_bodyAt 0 = .ok (.aload_n 0, 1) := by decide +kernel
theorem dX7_bodyAt_1 : decode cX7_bodyAt 1 = .ok (.iload_n 1, 1) := by decide +kernel
set_option maxRecDepth 20000 in
theorem ggX7_bodyAt_X7_bodyOrNull : GoodIn wqX7_bodyAt wsX7_bodyOrNull := goodIn_r _ [7, 8, 9] rfl (by decide +kernel)
set_option maxRecDepth 20000 in
theorem gX7_bodyAt_X7_bodyOrNull : GoodIn wqX7_bodyAt (wsV RX7 236 RX7 yX7_bodyOrNull wsX7_bodyOrNull) := goodIn_app (goodIn_of _ (by decide +kernel)) ggX7_bodyAt_X7_bodyOrNull
theorem dX7_bodyAt_2 : decode cX7_bodyAt 2 = .ok (.invokevirtual 236, 3) := by decide +kernel
theorem dX7_bodyAt_5 : decode cX7_bodyAt 5 = .ok (.astore_n 2, 1) := by decide +kernel
theorem dX7_bodyAt_6 : decode cX7_bodyAt 6 = .ok (.aload_n 2, 1) := by decide +kernel
theorem dX7_bodyAt_7 : decode cX7_bodyAt 7 = .ok (.ifnonnull 13, 3) := by decide +kernel
theorem dX7_bodyAt_10 : decode cX7_bodyAt 10 = .ok (.new 239, 3) := by decide +kernel
theorem dX7_bodyAt_13 : decode cX7_bodyAt 13 = .ok (.dup, 1) := by decide +kernel
theorem dX7_bodyAt_14 : decode cX7_bodyAt 14 = .ok (.ldc 241, 2) := by decide +kernel
theorem dX7_bodyAt_16 : decode cX7_bodyAt 16 = .ok (.invokespecial 243, 3) := by decide +kernel
theorem dX7_bodyAt_19 : decode cX7_bodyAt 19 = .ok (.athrow, 1) := by decide +kernel
theorem dX7_bodyAt_20 : decode cX7_bodyAt 20 = .ok (.aload_n 2, 1) := by decide +kernel
theorem dX7_bodyAt_21 : decode cX7_bodyAt 21 = .ok (.areturn, 1) := by decide +kernel
theorem dX7_asMap_0 : decode cX7_asMap 0 = .ok (.aload_n 0, 1) := by decide +kernel
theorem dX7_asMap_1 : decode cX7_asMap 1 = .ok (.instanceof 56, 3) := by decide +kernel
theorem dX7_asMap_4 : decode cX7_asMap 4 = .ok (.ifCond .eq 10, 3) := by decide +kernel
theorem dX7_asMap_7 : decode cX7_asMap 7 = .ok (.aload_n 0, 1) := by decide +kernel
theorem dX7_asMap_8 : decode cX7_asMap 8 = .ok (.checkcast 56, 3) := by decide +kernel
theorem dX7_asMap_11 : decode cX7_asMap 11 = .ok (.astore_n 1, 1) := by decide +kernel
theorem dX7_asMap_12 : decode cX7_asMap 12 = .ok (.aload_n 1, 1) := by decide +kernel
theorem dX7_asMap_13 : decode cX7_asMap 13 = .ok (.areturn, 1) := by decide +kernel
theorem dX7_asMap_14 : decode cX7_asMap 14 = .ok (.new 244, 3) := by decide +kernel
theorem dX7_asMap_17 : decode cX7_asMap 17 = .ok (.dup, 1) := by decide +kernel
theorem dX7_asMap_18 : decode cX7_asMap 18 = .ok (.ldc 246, 2) := by decide +kernel
theorem dX7_asMap_20 : decode cX7_asMap 20 = .ok (.invokespecial 248, 3) := by decide +kernel
theorem dX7_asMap_23 : decode cX7_asMap 23 = .ok (.athrow, 1) := by decide +kernel
theorem dX7_asSorted_0 : decode cX7_asSorted 0 = .ok (.aload_n 0, 1) := by decide +kernel
theorem dX7_asSorted_1 : decode cX7_asSorted 1 = .ok (.instanceof 147, 3) := by decide +kernel
theorem dX7_asSorted_4 : decode cX7_asSorted 4 = .ok (.ifCond .eq 10, 3) := by decide +kernel
theorem dX7_asSorted_14 : decode cX7_asSorted 14 = .ok (.new 244, 3) := by decide +kernel
theorem dX7_asSorted_17 : decode cX7_asSorted 17 = .ok (.dup, 1) := by decide +kernel
theorem dX7_asSorted_18 : decode cX7_asSorted 18 = .ok (.ldc 249, 2) := by decide +kernel
theorem dX7_asSorted_20 : decode cX7_asSorted 20 = .ok (.invokespecial 248, 3) := by decide +kernel
theorem dX7_asSorted_23 : decode cX7_asSorted 23 = .ok (.athrow, 1) := by decide +kernel
theorem dX7_asSorted_7 : decode cX7_asSorted 7 = .ok (.aload_n 0, 1) := by decide +kernel
theorem dX7_asSorted_8 : decode cX7_asSorted 8 = .ok (.checkcast 147, 3) := by decide +kernel
theorem dX7_asSorted_11 : decode cX7_asSorted 11 = .ok (.astore_n 1, 1) := by decide +kernel
theorem dX7_asSorted_12 : decode cX7_asSorted 12 = .ok (.aload_n 1, 1) := by decide +kernel
theorem dX7_asSorted_13 : decode cX7_asSorted 13 = .ok (.areturn, 1) := by decide +kernel
theorem dX7_asCursor_0 : decode cX7_asCursor 0 = .ok (.aload_n 0, 1) := by decide +kernel
theorem dX7_asCursor_1 : decode cX7_asCursor 1 = .ok (.instanceof 157, 3) := by decide +kernel
theorem dX7_asCursor_4 : decode cX7_asCursor 4 = .ok (.ifCond .eq 10, 3) := by decide +kernel
theorem dX7_asCursor_14 : decode cX7_asCursor 14 = .ok (.new 244, 3) := by decide +kernel
theorem dX7_asCursor_17 : decode cX7_asCursor 17 = .ok (.dup, 1) := by decide +kernel
theorem dX7_asCursor_18 : decode cX7_asCursor 18 = .ok (.ldc 251, 2) := by decide +kernel
theorem dX7_asCursor_20 : decode cX7_asCursor 20 = .ok (.invokespecial 248, 3) := by decide +kernel
theorem dX7_asCursor_23 : decode cX7_asCursor 23 = .ok (.athrow, 1) := by decide +kernel
theorem dX7_asCursor_7 : decode cX7_asCursor 7 = .ok (.aload_n 0, 1) := by decide +kernel
theorem dX7_asCursor_8 : decode cX7_asCursor 8 = .ok (.checkcast 157, 3) := by decide +kernel
theorem dX7_asCursor_11 : decode cX7_asCursor 11 = .ok (.astore_n 1, 1) := by decide +kernel
theorem dX7_asCursor_12 : decode cX7_asCursor 12 = .ok (.aload_n 1, 1) := by decide +kernel
theorem dX7_asCursor_13 : decode cX7_asCursor 13 = .ok (.areturn, 1) := by decide +kernel
theorem dX7_areInRange_0 : decode cX7_areInRange 0 = .ok (.iload_n 0, 1) := by decide +kernel
theorem dX7_areInRange_1 : decode cX7_areInRange 1 = .ok (.lookupswitch 79 #[(0, 27), (1, 53)], 27) := by decide +kernel
theorem dX7_areInRange_28 : decode cX7_areInRange 28 = .ok (.iload_n 1, 1) := by decide +kernel
theorem dX7_areInRange_29 : decode cX7_areInRange 29 = .ok (.ifCond .lt 23, 3) := by decide +kernel
theorem dX7_areInRange_52 : decode cX7_areInRange 52 = .ok (.iconst 0, 1) := by decide +kernel
theorem dX7_areInRange_53 : decode cX7_areInRange 53 = .ok (.ireturn, 1) := by decide +kernel
theorem dX7_areInRange_32 : decode cX7_areInRange 32 = .ok (.iload_n 1, 1) := by decide +kernel
theorem dX7_areInRange_33 : decode cX7_areInRange 33 = .ok (.sipush 1000, 3) := by decide +kernel
theorem dX7_areInRange_36 : decode cX7_areInRange 36 = .ok (.if_icmp .gt 16, 3) := by decide +kernel
theorem dX7_areInRange_39 : decode cX7_areInRange 39 = .ok (.iload_n 2, 1) := by decide +kernel
theorem dX7_areInRange_40 : decode cX7_areInRange 40 = .ok (.ifCond .lt 12, 3) := by decide +kernel
theorem dX7_areInRange_43 : decode cX7_areInRange 43 = .ok (.iload_n 2, 1) := by decide +kernel
theorem dX7_areInRange_44 : decode cX7_areInRange 44 = .ok (.iconst 3, 1) := by decide +kernel
theorem dX7_areInRange_45 : decode cX7_areInRange 45 = .ok (.if_icmp .gt 7, 3) := by decide +kernel
theorem dX7_areInRange_48 : decode cX7_areInRange 48 = .ok (.iconst 1, 1) := by decide +kernel
theorem dX7_areInRange_49 : decode cX7_areInRange 49 = .ok (.goto 4, 3) := by decide +kernel
theorem dX7_areInRange_54 : decode cX7_areInRange 54 = .ok (.iload_n 1, 1) := by decide +kernel
theorem dX7_areInRange_55 : decode cX7_areInRange 55 = .ok (.ifCond .lt 23, 3) := by decide +kernel
theorem dX7_areInRange_78 : decode cX7_areInRange 78 = .ok (.iconst 0, 1) := by decide +kernel
theorem dX7_areInRange_79 : decode cX7_areInRange 79 = .ok (.ireturn, 1) := by decide +kernel
theorem dX7_areInRange_58 : decode cX7_areInRange 58 = .ok (.iload_n 1, 1) := by decide +kernel
theorem dX7_areInRange_59 : decode cX7_areInRange 59 = .ok (.sipush 1000, 3) := by decide +kernel
theorem dX7_areInRange_62 : decode cX7_areInRange 62 = .ok (.if_icmp .gt 16, 3) := by decide +kernel
theorem dX7_areInRange_65 : decode cX7_areInRange 65 = .ok (.iload_n 2, 1) := by decide +kernel
theorem dX7_areInRange_66 : decode cX7_areInRange 66 = .ok (.ifCond .lt 12, 3) := by decide +kernel
theorem dX7_areInRange_69 : decode cX7_areInRange 69 = .ok (.iload_n 2, 1) := by decide +kernel
theorem dX7_areInRange_70 : decode cX7_areInRange 70 = .ok (.iconst 1, 1) := by decide +kernel
theorem dX7_areInRange_71 : decode cX7_areInRange 71 = .ok (.if_icmp .gt 7, 3) := by decide +kernel
theorem dX7_areInRange_74 : decode cX7_areInRange 74 = .ok (.iconst 1, 1) := by decide +kernel
theorem dX7_areInRange_75 : decode cX7_areInRange 75 = .ok (.goto 4, 3) := by decide +kernel
theorem dX7_areInRange_80 : decode cX7_areInRange 80 = .ok (.iload_n 1, 1) := by decide +kernel
theorem dX7_areInRange_81 : decode cX7_areInRange 81 = .ok (.ifCond .lt 12, 3) := by decide +kernel
theorem dX7_areInRange_93 : decode cX7_areInRange 93 = .ok (.iconst 0, 1) := by decide +kernel
theorem dX7_areInRange_94 : decode cX7_areInRange 94 = .ok (.ireturn, 1) := by decide +kernel
theorem dX7_areInRange_84 : decode cX7_areInRange 84 = .ok (.iload_n 1, 1) := by decide +kernel
theorem dX7_areInRange_85 : decode cX7_areInRange 85 = .ok (.iconst 3, 1) := by decide +kernel
theorem dX7_areInRange_86 : decode cX7_areInRange 86 = .ok (.if_icmp .gt 7, 3) := by decide +kernel
theorem dX7_areInRange_89 : decode cX7_areInRange 89 = .ok (.iconst 1, 1) := by decide +kernel
theorem dX7_areInRange_90 : decode cX7_areInRange 90 = .ok (.goto 4, 3) := by decide +kernel
theorem dX7_hasOp_0 : decode cX7_hasOp 0 = .ok (.iload_n 1, 1) := by decide +kernel
theorem dX7_hasOp_1 : decode cX7_hasOp 1 = .ok (.tableswitch 107 10 23 #[71, 71, 71, 71, 81, 81, 81, 81, 107, 107, 107, 97, 97, 81], 71) := by decide +kernel
theorem dX7_hasOp_72 : decode cX7_hasOp 72 = .ok (.iload_n 0, 1) := by decide +kernel
theorem dX7_hasOp_73 : decode cX7_hasOp 73 = .ok (.ifCond .eq 7, 3) := by decide +kernel
theorem dX7_hasOp_80 : decode cX7_hasOp 80 = .ok (.iconst 0, 1) := by decide +kernel
theorem dX7_hasOp_81 : decode cX7_hasOp 81 = .ok (.ireturn, 1) := by decide +kernel
theorem dX7_hasOp_76 : decode cX7_hasOp 76 = .ok (.iconst 1, 1) := by decide +kernel
theorem dX7_hasOp_77 : decode cX7_hasOp 77 = .ok (.goto 4, 3) := by decide +kernel
theorem dX7_hasOp_82 : decode cX7_hasOp 82 = .ok (.iload_n 0, 1) := by decide +kernel
theorem dX7_hasOp_83 : decode cX7_hasOp 83 = .ok (.iconst 2, 1) := by decide +kernel
theorem dX7_hasOp_84 : decode cX7_hasOp 84 = .ok (.if_icmp .eq 8, 3) := by decide +kernel
theorem dX7_hasOp_92 : decode cX7_hasOp 92 = .ok (.iconst 1, 1) := by decide +kernel
theorem dX7_hasOp_93 : decode cX7_hasOp 93 = .ok (.goto 4, 3) := by decide +kernel
theorem dX7_hasOp_97 : decode cX7_hasOp 97 = .ok (.ireturn, 1) := by decide +kernel
theorem dX7_hasOp_87 : decode cX7_hasOp 87 = .ok (.iload_n 0, 1) := by decide +kernel
theorem dX7_hasOp_88 : decode cX7_hasOp 88 = .ok (.iconst 3, 1) := by decide +kernel
theorem dX7_hasOp_89 : decode cX7_hasOp 89 = .ok (.if_icmp .ne 7, 3) := by decide +kernel
theorem dX7_hasOp_96 : decode cX7_hasOp 96 = .ok (.iconst 0, 1) := by decide +kernel
theorem dX7_hasOp_108 : decode cX7_hasOp 108 = .ok (.iconst 1, 1) := by decide +kernel
theorem dX7_hasOp_109 : decode cX7_hasOp 109 = .ok (.ireturn, 1) := by decide +kernel
theorem dX7_hasOp_98 : decode cX7_hasOp 98 = .ok (.iload_n 0, 1) := by decide +kernel
theorem dX7_hasOp_99 : decode cX7_hasOp 99 = .ok (.ifCond .ne 7, 3) := by decide +kernel
theorem dX7_hasOp_106 : decode cX7_hasOp 106 = .ok (.iconst 0, 1) := by decide +kernel
theorem dX7_hasOp_107 : decode cX7_hasOp 107 = .ok (.ireturn, 1) := by decide +kernel
theorem dX7_hasOp_102 : decode cX7_hasOp 102 = .ok (.iconst 1, 1) := by decide +kernel
theorem dX7_hasOp_103 : decode cX7_hasOp 103 = .ok (.goto 4, 3) := by decide +kernel
theorem ng_RX7_243 : ∀ w ∈ (tx_atN RX7 243).filter (fun w => !goodWord w), w ∈ p_xw := by decide +kernel
theorem og_RX7_243 : ∀ w ∈ Cond.classLink RX7 239 nN :: Cond.initialized nN :: tx_atN RX7 243, vx_ot w = true := by decide +kernel
theorem at_X7_bodyAt_10 : ∀ w ∈ (tx_atN RX7 243).filter goodWord, w ∈ wqX7_bodyAt := fun w h => by
  unfold wqX7_bodyAt
  exact List.mem_cons_of_mem _ (List.mem_append_right _ h)
theorem ng_RX7_248 : ∀ w ∈ (vx_atS RX7 248 "java/lang/ClassCastException" ["java/lang/RuntimeException", "java/lang/Exception"]).filter (fun w => !goodWord w), w ∈ p_xw := by decide +kernel
theorem og_RX7_248 : ∀ w ∈ Cond.classLink RX7 244 "java/lang/ClassCastException" :: Cond.initialized "java/lang/ClassCastException" :: vx_atS RX7 248 "java/lang/ClassCastException" ["java/lang/RuntimeException", "java/lang/Exception"], vx_ot w = true := by decide +kernel
theorem at_X7_asMap_14 : ∀ w ∈ (vx_atS RX7 248 "java/lang/ClassCastException" ["java/lang/RuntimeException", "java/lang/Exception"]).filter goodWord, w ∈ wqX7_asMap := fun w h => by
  unfold wqX7_asMap
  exact List.mem_cons_of_mem _ (List.mem_append_right _ h)
theorem at_X7_asSorted_14 : ∀ w ∈ (vx_atS RX7 248 "java/lang/ClassCastException" ["java/lang/RuntimeException", "java/lang/Exception"]).filter goodWord, w ∈ wqX7_asSorted := fun w h => by
  unfold wqX7_asSorted
  exact List.mem_cons_of_mem _ (List.mem_append_right _ h)
theorem at_X7_asCursor_14 : ∀ w ∈ (vx_atS RX7 248 "java/lang/ClassCastException" ["java/lang/RuntimeException", "java/lang/Exception"]).filter goodWord, w ∈ wqX7_asCursor := fun w h => by
  unfold wqX7_asCursor
  exact List.mem_cons_of_mem _ (List.mem_append_right _ h)
set_option maxHeartbeats 4000000 in
set_option maxRecDepth 100000 in
/-- bodyOrNull -/
theorem c_X7_bodyOrNull (l : Launch) (dC : Nat → ClassId) (dI : Nat → Nat → Nat) (sz : Nat) (a0 : Nat) (qb : Nat) (cq : ClassId) (bq : Nat → Option Nat) (p0 : Int32) : Met l yX7_bodyOrNull wsX7_bodyOrNull ({ frames := 0, cells := 0, slots := 0, locals := 0 }) (va_Pc [.ref a0, .int p0] (pk_PreR (dC, dI) [(a0, .inr (7, [.ref qb])), (qb, .inl (cq, 16, .inr (.inr (.inr (.inr bq)))))] [(cq, .object "KeyAtlas$Body")] sz)) (va_Qq (fun (r : Option Nat) (_ : Unit) => bqAt bq p0 r) (fun _ (t : State) => t.heap.size = sz) ro_A) 0 0 ro_A := by
  refine Met.ofW (cc := cX7_bodyOrNull) (maxL := 2) (ret := (some (.object "KeyAtlas$Body"))) (by decide) rfl ?_
  intro p e s m args below meth c s₁ B hml hv
  obtain ⟨rfl, hsz, hP, hK⟩ := hv
  have hx := B.exec
  have hb := B.bytes
  have hr := B.returns
  have hts := atoms_spec (ws := wsX7_bodyOrNull) B.pre
  have hown : s.vm.findClass RX7 = some m.cls := findClass_of_methodNamed B.named
  have hlocks := B.notSynchronized
  subst hsz
  have hS : va_S ro_A s.heap s.heap [] := va_S.rf
  have hP : va_P (dC, dI) vwCl [(a0, .inr (7, [.ref qb])), (qb, .inl (cq, 16, .inr (.inr (.inr (.inr bq)))))] s.heap := hP
  have hl := lv_entry ([.ref a0, .int p0]) (n := 2) (Nat.le_of_ble_eq_true rfl)
  rw [lg_entry_eq]
  generalize (lg_sl ([.ref a0, .int p0]) ++ List.replicate (2 - (lg_sl ([.ref a0, .int p0])).length) Slot.unset).toArray = ls at hl ⊢
  have hl : lv_has ls 2 [(0, .ref a0), (1, .int p0)] := hl
  have hw0_ := hts (.fieldLink RX7 11 "KeyAtlas" "bodies" "[LKeyAtlas$Body;") (List.mem_of_getElem? (l := wsX7_bodyOrNull) (i := 1) rfl)
  have hi0_ : ∀ w ∈ u_ws RX7 TX7 1, w ∈ wsX7_bodyOrNull := fun w h => List.mem_cons_of_mem _ (List.mem_append_right _ h)
  refine lv_iload_n hx hb dX7_bodyOrNull_0 rfl (lv_at hl 1 rfl) ?_
  refine lv_if_lt (tgt := 22) hx hb dX7_bodyOrNull_1 (by decide) (fun c_1 => ?_) (fun c_1 => ?_)
  ·
    have ic_1 : p0.toInt < 0 := tx_lt rfl (by decide) c_1
    refine lv_null hx hb dX7_bodyOrNull_22 ?_
    refine W.widen (k := 0) (n := 0) (Nat.le_of_ble_eq_true rfl) (Nat.le_of_ble_eq_true rfl) ?_
    exact W.aret (v := .null) hx hb hr (Or.inl ⟨_, rfl⟩) (Or.inl rfl) (fun t ht hW => ⟨⟨none, (), rfl, bq_out (by omega), congrArg Array.size ht⟩, hS.F ht⟩) hS.2.2 dX7_bodyOrNull_23
  ·
    have ic_1 : 0 ≤ p0.toInt := tx_nlt rfl (by decide) c_1
    refine lv_iload_n hx hb dX7_bodyOrNull_4 rfl (lv_at hl 1 rfl) ?_
    refine lv_aload_n hx hb dX7_bodyOrNull_5 rfl (lv_at hl 0 rfl) ?_
    refine va_get (D := (dC, dI)) (ci := 7) (v := .ref qb) (C := RX7) (T := TX7) (N := 1) hx hb hts hi0_ hown hK hP 0 rfl rfl 0 (by decide) hw0_ (fun _ h9 => h9) rfl dX7_bodyOrNull_6 ?_
    refine va_alen (v := 16) hx hb hK hP 1 0 rfl rfl rfl dX7_bodyOrNull_9 ?_
    refine lv_icmp_ge (tgt := 22) hx hb dX7_bodyOrNull_10 (by decide) (fun c_2 => ?_) (fun c_2 => ?_)
    ·
      have ic_2 : 16 ≤ p0.toInt := tx_le (by decide) rfl c_2
      refine lv_null hx hb dX7_bodyOrNull_22 ?_
      refine W.widen (k := 0) (n := 0) (Nat.le_of_ble_eq_true rfl) (Nat.le_of_ble_eq_true rfl) ?_
      exact W.aret (v := .null) hx hb hr (Or.inl ⟨_, rfl⟩) (Or.inl rfl) (fun t ht hW => ⟨⟨none, (), rfl, bq_out (by omega), congrArg Array.size ht⟩, hS.F ht⟩) hS.2.2 dX7_bodyOrNull_23
    ·
      have ic_2 : p0.toInt < 16 := tx_nle (by decide) rfl c_2
      refine lv_aload_n hx hb dX7_bodyOrNull_13 rfl (lv_at hl 0 rfl) ?_
      refine va_get (D := (dC, dI)) (ci := 7) (v := .ref qb) (C := RX7) (T := TX7) (N := 1) hx hb hts hi0_ hown hK hP 0 rfl rfl 0 (by decide) hw0_ (fun _ h9 => h9) rfl dX7_bodyOrNull_14 ?_
      refine lv_iload_n hx hb dX7_bodyOrNull_17 rfl (lv_at hl 1 rfl) ?_
      obtain ⟨j, hj, rfl⟩ := nI_nat (x := p0) (n := 16) (by omega) (by omega) (by omega)
      refine va_aldq (i := nI j) hx hb hK hP 1 0 rfl rfl (vp_in_nI (by omega) (by omega)) dX7_bodyOrNull_18 ?_
      refine W.eq (g2 := F0 m 19 ls [va_rf (bq j)]) (by rw [nI_clamp (by omega)]) ?_
      refine lv_goto (tgt := 23) hx hb dX7_bodyOrNull_19 (by decide) ?_
      refine W.widen (k := 0) (n := 0) (Nat.le_of_ble_eq_true rfl) (Nat.le_of_ble_eq_true rfl) ?_
      exact W.aret (v := va_rf (bq j)) hx hb hr (Or.inl ⟨_, rfl⟩) (va_rf_or _) (fun t ht hW => ⟨⟨bq j, (), rfl, Or.inl ⟨j, hj, rfl, rfl⟩, congrArg Array.size ht⟩, hS.F ht⟩) hS.2.2 dX7_bodyOrNull_23
set_option maxHeartbeats 4000000 in
set_option maxRecDepth 100000 in
/-- bodyAt -/
theorem c_X7_bodyAt (l : Launch) (hlt : l.stackTraces = false) (dC : Nat → ClassId) (dI : Nat → Nat → Nat) (sz : Nat) (a0 : Nat) (qb : Nat) (cq : ClassId) (bq : Nat → Option Nat) (p0 : Int32) : vx_Met l yX7_bodyAt wqX7_bodyAt ({ frames := 6, cells := 1, slots := 6, locals := 100 }) (va_Pc [.ref a0, .int p0] (pk_PreXR (dC, dI) [(a0, .inr (7, [.ref qb])), (qb, .inl (cq, 16, .inr (.inr (.inr (.inr bq)))))] [(cq, .object "KeyAtlas$Body")] sz)) (va_Qr (fun (_ : Unit) => True) (fun (_ : Unit) (a : Nat) (t : State) => t.heap.size = sz ∧ ∃ j : Nat, j < 16 ∧ p0 = nI j ∧ bq j = some a) (roN sz)) (vx_X (fun _ : Unit => True) (fun (E : String) (_ : Unit) (t : State) => E = "java/util/NoSuchElementException" ∧ ∀ j : Nat, j < 16 → p0 = nI j → bq j = none) (roN sz)) 1 6 (roN sz) := by
  refine vx_ofW (cc := cX7_bodyAt) (maxL := 3) (ret := (some (.object "KeyAtlas$Body"))) (by decide) rfl ?_
  intro p e s m args below meth c s₁ B hml htab hv
  obtain ⟨rfl, hsz, hP, hK, hN, hZ⟩ := hv
  have hx := B.exec
  have hb := B.bytes
  have hr := B.returns
  have hts := atoms_spec (ws := wqX7_bodyAt) B.pre
  have hown : s.vm.findClass RX7 = some m.cls := findClass_of_methodNamed B.named
  have hlocks := B.notSynchronized
  subst hsz
  generalize hAe : roN s.heap.size = A at hZ ⊢
  have hA : ∀ q : Nat, s.heap.size ≤ q → A q := fun q h => by rw [← hAe]; exact h
  have hS : va_S A s.heap s.heap [] := va_S.rf
  have hP : va_P (dC, dI) vwCl [(a0, .inr (7, [.ref qb])), (qb, .inl (cq, 16, .inr (.inr (.inr (.inr bq)))))] s.heap := hP
  have hl := lv_entry ([.ref a0, .int p0]) (n := 3) (Nat.le_of_ble_eq_true rfl)
  rw [lg_entry_eq]
  generalize (lg_sl ([.ref a0, .int p0]) ++ List.replicate (3 - (lg_sl ([.ref a0, .int p0])).length) Slot.unset).toArray = ls at hl ⊢
  have hl : lv_has ls 3 [(0, .ref a0), (1, .int p0)] := hl
  have hw0_ := hts (.classLink RX7 239 nN) (by decide +kernel)
  have hw1_ := hts (.initialized nN) (by decide +kernel)
  refine lv_aload_n hx hb dX7_bodyAt_0 rfl (lv_at hl 0 rfl) ?_
  refine lv_iload_n hx hb dX7_bodyAt_1 rfl (lv_at hl 1 rfl) ?_
  have hPc := hP.sub (ws' := [(a0, .inr (7, [.ref qb])), (qb, .inl (cq, 16, .inr (.inr (.inr (.inr bq)))))]) [0, 1] rfl
  have hKc := hK.sub (tys' := [(cq, .object "KeyAtlas$Body")]) [0] rfl
  refine ro_callq (va_runV (As := [.int p0]) (rest := []) ⟨hx, hb, hml, hown, hts⟩ (c_X7_bodyOrNull l  dC dI s.heap.size a0 qb cq bq p0) (cwV 1 hts gX7_bodyAt_X7_bodyOrNull rfl rfl rfl (by decide +kernel) ⟨(Nat.le_of_ble_eq_true rfl), (Nat.le_of_ble_eq_true rfl)⟩) ⟨pk_blindR, va_recv hKc hPc (ci := 7) (q0 := 0) rfl rfl, pk_callR hPc hKc⟩ rfl rfl hl.1 rfl (lv_room (Nat.le_of_ble_eq_true rfl)) dX7_bodyAt_2 ⟨(Nat.le_of_ble_eq_true rfl), (Nat.le_of_ble_eq_true rfl)⟩) (fun r_1 ur_1 hw => ?_)
  clear hPc hKc
  try dsimp only at hw
  have jr_1 := hw
  refine W.eq (g2 := F0 m 5 ls [va_rf r_1]) rfl ?_
  rcases r_1 with _ | yb_2
  ·
    refine W.eq (g2 := F0 m 5 ls [.null]) rfl ?_
    refine lv_astore_nN (lv' := [(2, .null), (0, .ref a0), (1, .int p0)]) hx hb dX7_bodyAt_5 rfl hl (by decide) rfl (fun ls hl => ?_)
    refine lv_aload_nN hx hb dX7_bodyAt_6 rfl (lv_at hl 0 rfl) ?_
    refine lv_ifnonnullN hx hb dX7_bodyAt_7 ?_
    obtain ⟨sa, hsa⟩ := hN.stX7_241
    exact tx_throwN hx hb hlt (own := RX7) (text := "no such object") hown hw0_ hw1_ hsa (tx_hat hN.xw (fun w h => hts w (at_X7_bodyAt_10 w h)) ng_RX7_243) og_RX7_243 hZ.1 hZ.2 hS (by rw [hml]; exact hl.1) dX7_bodyAt_10 dX7_bodyAt_13 dX7_bodyAt_14 dX7_bodyAt_16 dX7_bodyAt_19 (fun x hx9 => (htab x hx9).elim) (Nat.le_of_ble_eq_true rfl) (Nat.le_of_ble_eq_true rfl) (Nat.le_of_ble_eq_true rfl) (Nat.le_of_ble_eq_true rfl) hlocks (fun t hvm hz hq => ⟨(), trivial, ⟨rfl, bq_none jr_1⟩, ⟨Nat.le_trans hS.1 hz, fun q h1 h2 => (hq q (Nat.lt_of_lt_of_le h1 hS.1)).trans (hS.2.1 q h1 h2)⟩⟩) hS.2.2 (Nat.le_of_ble_eq_true rfl) (Nat.le_of_ble_eq_true rfl)
  ·
    refine W.eq (g2 := F0 m 5 ls [.ref yb_2]) rfl ?_
    refine lv_astore_n (lv' := [(2, .ref yb_2), (0, .ref a0), (1, .int p0)]) hx hb dX7_bodyAt_5 rfl hl (by decide) rfl (fun ls hl => ?_)
    refine lv_aload_n hx hb dX7_bodyAt_6 rfl (lv_at hl 0 rfl) ?_
    refine lv_ifnonnull (tgt := 20) hx hb dX7_bodyAt_7 (by decide) ?_
    refine lv_aload_n hx hb dX7_bodyAt_20 rfl (lv_at hl 0 rfl) ?_
    refine W.widen (k := 1) (n := 6) (Nat.le_of_ble_eq_true rfl) (Nat.le_of_ble_eq_true rfl) ?_
    refine vx_ret ?_
    exact W.aret (v := .ref yb_2) hx hb hr (Or.inl ⟨_, rfl⟩) (Or.inr ⟨_, rfl⟩) (fun t ht hW => ⟨⟨(), yb_2, rfl, trivial, congrArg Array.size ht, bq_some jr_1⟩, hS.F ht⟩) hS.2.2 dX7_bodyAt_21
set_option maxHeartbeats 4000000 in
set_option maxRecDepth 100000 in
/-- asMap of H -/
theorem c_X7_asMap_H (l : Launch) (hlt : l.stackTraces = false) (dC : Nat → ClassId) (dI : Nat → Nat → Nat) (sz : Nat) (y0 : Nat) (fs : List Value) : Met l yX7_asMap wqX7_asMap ({ frames := 0, cells := 0, slots := 0, locals := 0 }) (va_Pc [.ref y0] (pk_PreRX (dC, dI) [(y0, .inr (3, fs))] [] sz)) (va_Qr (fun (_ : Unit) => True) (fun (_ : Unit) (a : Nat) (t : State) => t.heap.size = sz ∧ a = y0) ro_A) 0 0 ro_A := by
  refine Met.ofW (cc := cX7_asMap) (maxL := 2) (ret := (some (.object "KeyAtlas$Keyed"))) (by decide) rfl ?_
  intro p e s m args below meth c s₁ B hml hv
  obtain ⟨rfl, ⟨hsz, hP, hK⟩, hN⟩ := hv
  have hx := B.exec
  have hb := B.bytes
  have hr := B.returns
  have hts := atoms_spec (ws := wqX7_asMap) B.pre
  have hown : s.vm.findClass RX7 = some m.cls := findClass_of_methodNamed B.named
  have hlocks := B.notSynchronized
  subst hsz
  have hS : va_S ro_A s.heap s.heap [] := va_S.rf
  have hP : va_P (dC, dI) vwCl [(y0, .inr (3, fs))] s.heap := hP
  have hl := lv_entry ([.ref y0]) (n := 2) (Nat.le_of_ble_eq_true rfl)
  rw [lg_entry_eq]
  generalize (lg_sl ([.ref y0]) ++ List.replicate (2 - (lg_sl ([.ref y0])).length) Slot.unset).toArray = ls at hl ⊢
  have hl : lv_has ls 2 [(0, .ref y0)] := hl
  have hw0_ := hts (.classLink RX7 56 "KeyAtlas$Keyed") (List.mem_of_getElem? (l := wqX7_asMap) (i := 1) rfl)
  refine lv_aload_n hx hb dX7_asMap_0 rfl (lv_at hl 0 rfl) ?_
  refine va_instY (C := RX2) hx hb hown hw0_ (hN.xw _ (List.mem_of_getElem? (l := p_xw) (i := 16) rfl)) (va_recv hK hP (ci := 3) (q0 := 0) rfl rfl) dX7_asMap_1 ?_
  refine lv_if_eq (tgt := 14) hx hb dX7_asMap_4 (by decide) (fun c_1 => absurd c_1 (by decide)) (fun c_1 => ?_)
  refine lv_aload_n hx hb dX7_asMap_7 rfl (lv_at hl 0 rfl) ?_
  refine va_castY (C := RX2) hx hb hown hw0_ (hN.xw _ (List.mem_of_getElem? (l := p_xw) (i := 16) rfl)) (va_recv hK hP (ci := 3) (q0 := 0) rfl rfl) dX7_asMap_8 ?_
  refine lv_astore_n (lv' := [(1, .ref y0), (0, .ref y0)]) hx hb dX7_asMap_11 rfl hl (by decide) rfl (fun ls hl => ?_)
  refine lv_aload_n hx hb dX7_asMap_12 rfl (lv_at hl 0 rfl) ?_
  refine W.widen (k := 0) (n := 0) (Nat.le_of_ble_eq_true rfl) (Nat.le_of_ble_eq_true rfl) ?_
  exact W.aret (v := .ref y0) hx hb hr (Or.inl ⟨_, rfl⟩) (Or.inr ⟨_, rfl⟩) (fun t ht hW => ⟨⟨(), y0, rfl, trivial, congrArg Array.size ht, rfl⟩, hS.F ht⟩) hS.2.2 dX7_asMap_13
set_option maxHeartbeats 4000000 in
set_option maxRecDepth 100000 in
/-- asMap of L -/
theorem c_X7_asMap_L (l : Launch) (hlt : l.stackTraces = false) (dC : Nat → ClassId) (dI : Nat → Nat → Nat) (sz : Nat) (y0 : Nat) (fs : List Value) : Met l yX7_asMap wqX7_asMap ({ frames := 0, cells := 0, slots := 0, locals := 0 }) (va_Pc [.ref y0] (pk_PreRX (dC, dI) [(y0, .inr (4, fs))] [] sz)) (va_Qr (fun (_ : Unit) => True) (fun (_ : Unit) (a : Nat) (t : State) => t.heap.size = sz ∧ a = y0) ro_A) 0 0 ro_A := by
  refine Met.ofW (cc := cX7_asMap) (maxL := 2) (ret := (some (.object "KeyAtlas$Keyed"))) (by decide) rfl ?_
  intro p e s m args below meth c s₁ B hml hv
  obtain ⟨rfl, ⟨hsz, hP, hK⟩, hN⟩ := hv
  have hx := B.exec
  have hb := B.bytes
  have hr := B.returns
  have hts := atoms_spec (ws := wqX7_asMap) B.pre
  have hown : s.vm.findClass RX7 = some m.cls := findClass_of_methodNamed B.named
  have hlocks := B.notSynchronized
  subst hsz
  have hS : va_S ro_A s.heap s.heap [] := va_S.rf
  have hP : va_P (dC, dI) vwCl [(y0, .inr (4, fs))] s.heap := hP
  have hl := lv_entry ([.ref y0]) (n := 2) (Nat.le_of_ble_eq_true rfl)
  rw [lg_entry_eq]
  generalize (lg_sl ([.ref y0]) ++ List.replicate (2 - (lg_sl ([.ref y0])).length) Slot.unset).toArray = ls at hl ⊢
  have hl : lv_has ls 2 [(0, .ref y0)] := hl
  have hw0_ := hts (.classLink RX7 56 "KeyAtlas$Keyed") (List.mem_of_getElem? (l := wqX7_asMap) (i := 1) rfl)
  refine lv_aload_n hx hb dX7_asMap_0 rfl (lv_at hl 0 rfl) ?_
  refine va_instY (C := RX4) hx hb hown hw0_ (hN.xw _ (List.mem_of_getElem? (l := p_xw) (i := 17) rfl)) (va_recv hK hP (ci := 4) (q0 := 0) rfl rfl) dX7_asMap_1 ?_
  refine lv_if_eq (tgt := 14) hx hb dX7_asMap_4 (by decide) (fun c_1 => absurd c_1 (by decide)) (fun c_1 => ?_)
  refine lv_aload_n hx hb dX7_asMap_7 rfl (lv_at hl 0 rfl) ?_
  refine va_castY (C := RX4) hx hb hown hw0_ (hN.xw _ (List.mem_of_getElem? (l := p_xw) (i := 17) rfl)) (va_recv hK hP (ci := 4) (q0 := 0) rfl rfl) dX7_asMap_8 ?_
  refine lv_astore_n (lv' := [(1, .ref y0), (0, .ref y0)]) hx hb dX7_asMap_11 rfl hl (by decide) rfl (fun ls hl => ?_)
  refine lv_aload_n hx hb dX7_asMap_12 rfl (lv_at hl 0 rfl) ?_
  refine W.widen (k := 0) (n := 0) (Nat.le_of_ble_eq_true rfl) (Nat.le_of_ble_eq_true rfl) ?_
  exact W.aret (v := .ref y0) hx hb hr (Or.inl ⟨_, rfl⟩) (Or.inr ⟨_, rfl⟩) (fun t ht hW => ⟨⟨(), y0, rfl, trivial, congrArg Array.size ht, rfl⟩, hS.F ht⟩) hS.2.2 dX7_asMap_13
set_option maxHeartbeats 4000000 in
set_option maxRecDepth 100000 in
/-- asMap of S -/
theorem c_X7_asMap_S (l : Launch) (hlt : l.stackTraces = false) (dC : Nat → ClassId) (dI : Nat → Nat → Nat) (sz : Nat) (y0 : Nat) (fs : List Value) : Met l yX7_asMap wqX7_asMap ({ frames := 0, cells := 0, slots := 0, locals := 0 }) (va_Pc [.ref y0] (pk_PreRX (dC, dI) [(y0, .inr (6, fs))] [] sz)) (va_Qr (fun (_ : Unit) => True) (fun (_ : Unit) (a : Nat) (t : State) => t.heap.size = sz ∧ a = y0) ro_A) 0 0 ro_A := by
  refine Met.ofW (cc := cX7_asMap) (maxL := 2) (ret := (some (.object "KeyAtlas$Keyed"))) (by decide) rfl ?_
  intro p e s m args below meth c s₁ B hml hv
  obtain ⟨rfl, ⟨hsz, hP, hK⟩, hN⟩ := hv
  have hx := B.exec
  have hb := B.bytes
  have hr := B.returns
  have hts := atoms_spec (ws := wqX7_asMap) B.pre
  have hown : s.vm.findClass RX7 = some m.cls := findClass_of_methodNamed B.named
  have hlocks := B.notSynchronized
  subst hsz
  have hS : va_S ro_A s.heap s.heap [] := va_S.rf
  have hP : va_P (dC, dI) vwCl [(y0, .inr (6, fs))] s.heap := hP
  have hl := lv_entry ([.ref y0]) (n := 2) (Nat.le_of_ble_eq_true rfl)
  rw [lg_entry_eq]
  generalize (lg_sl ([.ref y0]) ++ List.replicate (2 - (lg_sl ([.ref y0])).length) Slot.unset).toArray = ls at hl ⊢
  have hl : lv_has ls 2 [(0, .ref y0)] := hl
  have hw0_ := hts (.classLink RX7 56 "KeyAtlas$Keyed") (List.mem_of_getElem? (l := wqX7_asMap) (i := 1) rfl)
  refine lv_aload_n hx hb dX7_asMap_0 rfl (lv_at hl 0 rfl) ?_
  refine va_instY (C := RX6) hx hb hown hw0_ (hN.xw _ (List.mem_of_getElem? (l := p_xw) (i := 18) rfl)) (va_recv hK hP (ci := 6) (q0 := 0) rfl rfl) dX7_asMap_1 ?_
  refine lv_if_eq (tgt := 14) hx hb dX7_asMap_4 (by decide) (fun c_1 => absurd c_1 (by decide)) (fun c_1 => ?_)
  refine lv_aload_n hx hb dX7_asMap_7 rfl (lv_at hl 0 rfl) ?_
  refine va_castY (C := RX6) hx hb hown hw0_ (hN.xw _ (List.mem_of_getElem? (l := p_xw) (i := 18) rfl)) (va_recv hK hP (ci := 6) (q0 := 0) rfl rfl) dX7_asMap_8 ?_
  refine lv_astore_n (lv' := [(1, .ref y0), (0, .ref y0)]) hx hb dX7_asMap_11 rfl hl (by decide) rfl (fun ls hl => ?_)
  refine lv_aload_n hx hb dX7_asMap_12 rfl (lv_at hl 0 rfl) ?_
  refine W.widen (k := 0) (n := 0) (Nat.le_of_ble_eq_true rfl) (Nat.le_of_ble_eq_true rfl) ?_
  exact W.aret (v := .ref y0) hx hb hr (Or.inl ⟨_, rfl⟩) (Or.inr ⟨_, rfl⟩) (fun t ht hW => ⟨⟨(), y0, rfl, trivial, congrArg Array.size ht, rfl⟩, hS.F ht⟩) hS.2.2 dX7_asMap_13
set_option maxHeartbeats 4000000 in
set_option maxRecDepth 100000 in
/-- asMap of C -/
theorem c_X7_asMap_C (l : Launch) (hlt : l.stackTraces = false) (dC : Nat → ClassId) (dI : Nat → Nat → Nat) (sz : Nat) (y0 : Nat) (fs : List Value) : vx_Met l yX7_asMap wqX7_asMap ({ frames := 6, cells := 1, slots := 6, locals := 100 }) (va_Pc [.ref y0] (pk_PreXR (dC, dI) [(y0, .inr (2, fs))] [] sz)) (va_Qr (fun (_ : Unit) => False) (fun (_ : Unit) (a : Nat) (t : State) => t.heap.size = sz ∧ a = y0) (roN sz)) (vx_X (fun _ : Unit => True) (fun (E : String) (_ : Unit) (t : State) => E = "java/lang/ClassCastException") (roN sz)) 1 6 (roN sz) := by
  refine vx_ofW (cc := cX7_asMap) (maxL := 2) (ret := (some (.object "KeyAtlas$Keyed"))) (by decide) rfl ?_
  intro p e s m args below meth c s₁ B hml htab hv
  obtain ⟨rfl, hsz, hP, hK, hN, hZ⟩ := hv
  have hx := B.exec
  have hb := B.bytes
  have hr := B.returns
  have hts := atoms_spec (ws := wqX7_asMap) B.pre
  have hown : s.vm.findClass RX7 = some m.cls := findClass_of_methodNamed B.named
  have hlocks := B.notSynchronized
  subst hsz
  generalize hAe : roN s.heap.size = A at hZ ⊢
  have hA : ∀ q : Nat, s.heap.size ≤ q → A q := fun q h => by rw [← hAe]; exact h
  have hS : va_S A s.heap s.heap [] := va_S.rf
  have hP : va_P (dC, dI) vwCl [(y0, .inr (2, fs))] s.heap := hP
  have hl := lv_entry ([.ref y0]) (n := 2) (Nat.le_of_ble_eq_true rfl)
  rw [lg_entry_eq]
  generalize (lg_sl ([.ref y0]) ++ List.replicate (2 - (lg_sl ([.ref y0])).length) Slot.unset).toArray = ls at hl ⊢
  have hl : lv_has ls 2 [(0, .ref y0)] := hl
  have hw0_ := hts (.classLink RX7 56 "KeyAtlas$Keyed") (List.mem_of_getElem? (l := wqX7_asMap) (i := 1) rfl)
  have hw1_ := hts (.classLink RX7 244 "java/lang/ClassCastException") (by decide +kernel)
  have hw2_ := hts (.initialized "java/lang/ClassCastException") (by decide +kernel)
  refine lv_aload_n hx hb dX7_asMap_0 rfl (lv_at hl 0 rfl) ?_
  refine va_instNo (C := RX1) hx hb hown hw0_ (hN.2.2.2.2 _ (List.mem_of_getElem? (l := p_nc) (i := 0) rfl)) (va_recv hK hP (ci := 2) (q0 := 0) rfl rfl) dX7_asMap_1 ?_
  refine lv_if_eq (tgt := 14) hx hb dX7_asMap_4 (by decide) (fun c_1 => ?_) (fun c_1 => absurd c_1 (by decide))
  obtain ⟨sa, hsa⟩ := hN.stX7_246
  exact vx_throwS hx hb hlt (own := RX7) (cls := "java/lang/ClassCastException") (text := "not a map") (names := ["java/lang/RuntimeException", "java/lang/Exception"]) hown (by decide +kernel) (by decide +kernel) hw1_ hw2_ hsa (tx_hat hN.xw (fun w h => hts w (at_X7_asMap_14 w h)) ng_RX7_248) og_RX7_248 hZ.1 hZ.2 hS (by rw [hml]; exact hl.1) dX7_asMap_14 dX7_asMap_17 dX7_asMap_18 dX7_asMap_20 dX7_asMap_23 (fun x hx9 => (htab x hx9).elim) (Nat.le_of_ble_eq_true rfl) (Nat.le_of_ble_eq_true rfl) (Nat.le_of_ble_eq_true rfl) (Nat.le_of_ble_eq_true rfl) hlocks (fun t hvm hz hq => ⟨(), trivial, rfl, ⟨Nat.le_trans hS.1 hz, fun q h1 h2 => (hq q (Nat.lt_of_lt_of_le h1 hS.1)).trans (hS.2.1 q h1 h2)⟩⟩) hS.2.2 (Nat.le_of_ble_eq_true rfl) (Nat.le_of_ble_eq_true rfl)
set_option maxHeartbeats 4000000 in
set_option maxRecDepth 100000 in
/-- asSorted of H -/
theorem c_X7_asSorted_H (l : Launch) (hlt : l.stackTraces = false) (dC : Nat → ClassId) (dI : Nat → Nat → Nat) (sz : Nat) (y0 : Nat) (fs : List Value) : vx_Met l yX7_asSorted wqX7_asSorted ({ frames := 6, cells := 1, slots := 6, locals := 100 }) (va_Pc [.ref y0] (pk_PreXR (dC, dI) [(y0, .inr (3, fs))] [] sz)) (va_Qr (fun (_ : Unit) => False) (fun (_ : Unit) (a : Nat) (t : State) => t.heap.size = sz ∧ a = y0) (roN sz)) (vx_X (fun _ : Unit => True) (fun (E : String) (_ : Unit) (t : State) => E = "java/lang/ClassCastException") (roN sz)) 1 6 (roN sz) := by
  refine vx_ofW (cc := cX7_asSorted) (maxL := 2) (ret := (some (.object "KeyAtlas$Sorted"))) (by decide) rfl ?_
  intro p e s m args below meth c s₁ B hml htab hv
  obtain ⟨rfl, hsz, hP, hK, hN, hZ⟩ := hv
  have hx := B.exec
  have hb := B.bytes
  have hr := B.returns
  have hts := atoms_spec (ws := wqX7_asSorted) B.pre
  have hown : s.vm.findClass RX7 = some m.cls := findClass_of_methodNamed B.named
  have hlocks := B.notSynchronized
  subst hsz
  generalize hAe : roN s.heap.size = A at hZ ⊢
  have hA : ∀ q : Nat, s.heap.size ≤ q → A q := fun q h => by rw [← hAe]; exact h
  have hS : va_S A s.heap s.heap [] := va_S.rf
  have hP : va_P (dC, dI) vwCl [(y0, .inr (3, fs))] s.heap := hP
  have hl := lv_entry ([.ref y0]) (n := 2) (Nat.le_of_ble_eq_true rfl)
  rw [lg_entry_eq]
  generalize (lg_sl ([.ref y0]) ++ List.replicate (2 - (lg_sl ([.ref y0])).length) Slot.unset).toArray = ls at hl ⊢
  have hl : lv_has ls 2 [(0, .ref y0)] := hl
  have hw0_ := hts (.classLink RX7 147 RX6) (by decide +kernel)
  have hw1_ := hts (.classLink RX7 244 "java/lang/ClassCastException") (by decide +kernel)
  have hw2_ := hts (.initialized "java/lang/ClassCastException") (by decide +kernel)
  refine lv_aload_n hx hb dX7_asSorted_0 rfl (lv_at hl 0 rfl) ?_
  refine va_instNo (C := RX2) hx hb hown hw0_ (hN.2.2.2.2 _ (List.mem_of_getElem? (l := p_nc) (i := 2) rfl)) (va_recv hK hP (ci := 3) (q0 := 0) rfl rfl) dX7_asSorted_1 ?_
  refine lv_if_eq (tgt := 14) hx hb dX7_asSorted_4 (by decide) (fun c_1 => ?_) (fun c_1 => absurd c_1 (by decide))
  obtain ⟨sa, hsa⟩ := hN.stX7_249
  exact vx_throwS hx hb hlt (own := RX7) (cls := "java/lang/ClassCastException") (text := "not a tree or submap") (names := ["java/lang/RuntimeException", "java/lang/Exception"]) hown (by decide +kernel) (by decide +kernel) hw1_ hw2_ hsa (tx_hat hN.xw (fun w h => hts w (at_X7_asSorted_14 w h)) ng_RX7_248) og_RX7_248 hZ.1 hZ.2 hS (by rw [hml]; exact hl.1) dX7_asSorted_14 dX7_asSorted_17 dX7_asSorted_18 dX7_asSorted_20 dX7_asSorted_23 (fun x hx9 => (htab x hx9).elim) (Nat.le_of_ble_eq_true rfl) (Nat.le_of_ble_eq_true rfl) (Nat.le_of_ble_eq_true rfl) (Nat.le_of_ble_eq_true rfl) hlocks (fun t hvm hz hq => ⟨(), trivial, rfl, ⟨Nat.le_trans hS.1 hz, fun q h1 h2 => (hq q (Nat.lt_of_lt_of_le h1 hS.1)).trans (hS.2.1 q h1 h2)⟩⟩) hS.2.2 (Nat.le_of_ble_eq_true rfl) (Nat.le_of_ble_eq_true rfl)
set_option maxHeartbeats 4000000 in
set_option maxRecDepth 100000 in
/-- asSorted of L -/
theorem c_X7_asSorted_L (l : Launch) (hlt : l.stackTraces = false) (dC : Nat → ClassId) (dI : Nat → Nat → Nat) (sz : Nat) (y0 : Nat) (fs : List Value) : vx_Met l yX7_asSorted wqX7_asSorted ({ frames := 6, cells := 1, slots := 6, locals := 100 }) (va_Pc [.ref y0] (pk_PreXR (dC, dI) [(y0, .inr (4, fs))] [] sz)) (va_Qr (fun (_ : Unit) => False) (fun (_ : Unit) (a : Nat) (t : State) => t.heap.size = sz ∧ a = y0) (roN sz)) (vx_X (fun _ : Unit => True) (fun (E : String) (_ : Unit) (t : State) => E = "java/lang/ClassCastException") (roN sz)) 1 6 (roN sz) := by
  refine vx_ofW (cc := cX7_asSorted) (maxL := 2) (ret := (some (.object "KeyAtlas$Sorted"))) (by decide) rfl ?_
  intro p e s m args below meth c s₁ B hml htab hv
  obtain ⟨rfl, hsz, hP, hK, hN, hZ⟩ := hv
  have hx := B.exec
  have hb := B.bytes
  have hr := B.returns
  have hts := atoms_spec (ws := wqX7_asSorted) B.pre
  have hown : s.vm.findClass RX7 = some m.cls := findClass_of_methodNamed B.named
  have hlocks := B.notSynchronized
  subst hsz
  generalize hAe : roN s.heap.size = A at hZ ⊢
  have hA : ∀ q : Nat, s.heap.size ≤ q → A q := fun q h => by rw [← hAe]; exact h
  have hS : va_S A s.heap s.heap [] := va_S.rf
  have hP : va_P (dC, dI) vwCl [(y0, .inr (4, fs))] s.heap := hP
  have hl := lv_entry ([.ref y0]) (n := 2) (Nat.le_of_ble_eq_true rfl)
  rw [lg_entry_eq]
  generalize (lg_sl ([.ref y0]) ++ List.replicate (2 - (lg_sl ([.ref y0])).length) Slot.unset).toArray = ls at hl ⊢
  have hl : lv_has ls 2 [(0, .ref y0)] := hl
  have hw0_ := hts (.classLink RX7 147 RX6) (by decide +kernel)
  have hw1_ := hts (.classLink RX7 244 "java/lang/ClassCastException") (by decide +kernel)
  have hw2_ := hts (.initialized "java/lang/ClassCastException") (by decide +kernel)
  refine lv_aload_n hx hb dX7_asSorted_0 rfl (lv_at hl 0 rfl) ?_
  refine va_instNo (C := RX4) hx hb hown hw0_ (hN.2.2.2.2 _ (List.mem_of_getElem? (l := p_nc) (i := 3) rfl)) (va_recv hK hP (ci := 4) (q0 := 0) rfl rfl) dX7_asSorted_1 ?_
  refine lv_if_eq (tgt := 14) hx hb dX7_asSorted_4 (by decide) (fun c_1 => ?_) (fun c_1 => absurd c_1 (by decide))
  obtain ⟨sa, hsa⟩ := hN.stX7_249
  exact vx_throwS hx hb hlt (own := RX7) (cls := "java/lang/ClassCastException") (text := "not a tree or submap") (names := ["java/lang/RuntimeException", "java/lang/Exception"]) hown (by decide +kernel) (by decide +kernel) hw1_ hw2_ hsa (tx_hat hN.xw (fun w h => hts w (at_X7_asSorted_14 w h)) ng_RX7_248) og_RX7_248 hZ.1 hZ.2 hS (by rw [hml]; exact hl.1) dX7_asSorted_14 dX7_asSorted_17 dX7_asSorted_18 dX7_asSorted_20 dX7_asSorted_23 (fun x hx9 => (htab x hx9).elim) (Nat.le_of_ble_eq_true rfl) (Nat.le_of_ble_eq_true rfl) (Nat.le_of_ble_eq_true rfl) (Nat.le_of_ble_eq_true rfl) hlocks (fun t hvm hz hq => ⟨(), trivial, rfl, ⟨Nat.le_trans hS.1 hz, fun q h1 h2 => (hq q (Nat.lt_of_lt_of_le h1 hS.1)).trans (hS.2.1 q h1 h2)⟩⟩) hS.2.2 (Nat.le_of_ble_eq_true rfl) (Nat.le_of_ble_eq_true rfl)
set_option maxHeartbeats 4000000 in
set_option maxRecDepth 100000 in
/-- asSorted of S -/
theorem c_X7_asSorted_S (l : Launch) (hlt : l.stackTraces = false) (dC : Nat → ClassId) (dI : Nat → Nat → Nat) (sz : Nat) (y0 : Nat) (fs : List Value) : Met l yX7_asSorted wqX7_asSorted ({ frames := 0, cells := 0, slots := 0, locals := 0 }) (va_Pc [.ref y0] (pk_PreRX (dC, dI) [(y0, .inr (6, fs))] [] sz)) (va_Qr (fun (_ : Unit) => True) (fun (_ : Unit) (a : Nat) (t : State) => t.heap.size = sz ∧ a = y0) ro_A) 0 0 ro_A := by
  refine Met.ofW (cc := cX7_asSorted) (maxL := 2) (ret := (some (.object "KeyAtlas$Sorted"))) (by decide) rfl ?_
  intro p e s m args below meth c s₁ B hml hv
  obtain ⟨rfl, ⟨hsz, hP, hK⟩, hN⟩ := hv
  have hx := B.exec
  have hb := B.bytes
  have hr := B.returns
  have hts := atoms_spec (ws := wqX7_asSorted) B.pre
  have hown : s.vm.findClass RX7 = some m.cls := findClass_of_methodNamed B.named
  have hlocks := B.notSynchronized
  subst hsz
  have hS : va_S ro_A s.heap s.heap [] := va_S.rf
  have hP : va_P (dC, dI) vwCl [(y0, .inr (6, fs))] s.heap := hP
  have hl := lv_entry ([.ref y0]) (n := 2) (Nat.le_of_ble_eq_true rfl)
  rw [lg_entry_eq]
  generalize (lg_sl ([.ref y0]) ++ List.replicate (2 - (lg_sl ([.ref y0])).length) Slot.unset).toArray = ls at hl ⊢
  have hl : lv_has ls 2 [(0, .ref y0)] := hl
  have hw0_ := hts (.classLink RX7 147 RX6) (by decide +kernel)
  refine lv_aload_n hx hb dX7_asSorted_0 rfl (lv_at hl 0 rfl) ?_
  refine va_instE hx hb hown hw0_ (va_recv hK hP (ci := 6) (q0 := 0) rfl rfl) dX7_asSorted_1 ?_
  refine lv_if_eq (tgt := 14) hx hb dX7_asSorted_4 (by decide) (fun c_1 => absurd c_1 (by decide)) (fun c_1 => ?_)
  refine lv_aload_n hx hb dX7_asSorted_7 rfl (lv_at hl 0 rfl) ?_
  refine va_castE hx hb hown hw0_ (va_recv hK hP (ci := 6) (q0 := 0) rfl rfl) dX7_asSorted_8 ?_
  refine lv_astore_n (lv' := [(1, .ref y0), (0, .ref y0)]) hx hb dX7_asSorted_11 rfl hl (by decide) rfl (fun ls hl => ?_)
  refine lv_aload_n hx hb dX7_asSorted_12 rfl (lv_at hl 0 rfl) ?_
  refine W.widen (k := 0) (n := 0) (Nat.le_of_ble_eq_true rfl) (Nat.le_of_ble_eq_true rfl) ?_
  exact W.aret (v := .ref y0) hx hb hr (Or.inl ⟨_, rfl⟩) (Or.inr ⟨_, rfl⟩) (fun t ht hW => ⟨⟨(), y0, rfl, trivial, congrArg Array.size ht, rfl⟩, hS.F ht⟩) hS.2.2 dX7_asSorted_13
set_option maxHeartbeats 4000000 in
set_option maxRecDepth 100000 in
/-- asSorted of C -/
theorem c_X7_asSorted_C (l : Launch) (hlt : l.stackTraces = false) (dC : Nat → ClassId) (dI : Nat → Nat → Nat) (sz : Nat) (y0 : Nat) (fs : List Value) : vx_Met l yX7_asSorted wqX7_asSorted ({ frames := 6, cells := 1, slots := 6, locals := 100 }) (va_Pc [.ref y0] (pk_PreXR (dC, dI) [(y0, .inr (2, fs))] [] sz)) (va_Qr (fun (_ : Unit) => False) (fun (_ : Unit) (a : Nat) (t : State) => t.heap.size = sz ∧ a = y0) (roN sz)) (vx_X (fun _ : Unit => True) (fun (E : String) (_ : Unit) (t : State) => E = "java/lang/ClassCastException") (roN sz)) 1 6 (roN sz) := by
  refine vx_ofW (cc := cX7_asSorted) (maxL := 2) (ret := (some (.object "KeyAtlas$Sorted"))) (by decide) rfl ?_
  intro p e s m args below meth c s₁ B hml htab hv
  obtain ⟨rfl, hsz, hP, hK, hN, hZ⟩ := hv
  have hx := B.exec
  have hb := B.bytes
  have hr := B.returns
  have hts := atoms_spec (ws := wqX7_asSorted) B.pre
  have hown : s.vm.findClass RX7 = some m.cls := findClass_of_methodNamed B.named
  have hlocks := B.notSynchronized
  subst hsz
  generalize hAe : roN s.heap.size = A at hZ ⊢
  have hA : ∀ q : Nat, s.heap.size ≤ q → A q := fun q h => by rw [← hAe]; exact h
  have hS : va_S A s.heap s.heap [] := va_S.rf
  have hP : va_P (dC, dI) vwCl [(y0, .inr (2, fs))] s.heap := hP
  have hl := lv_entry ([.ref y0]) (n := 2) (Nat.le_of_ble_eq_true rfl)
  rw [lg_entry_eq]
  generalize (lg_sl ([.ref y0]) ++ List.replicate (2 - (lg_sl ([.ref y0])).length) Slot.unset).toArray = ls at hl ⊢
  have hl : lv_has ls 2 [(0, .ref y0)] := hl
  have hw0_ := hts (.classLink RX7 147 RX6) (by decide +kernel)
  have hw1_ := hts (.classLink RX7 244 "java/lang/ClassCastException") (by decide +kernel)
  have hw2_ := hts (.initialized "java/lang/ClassCastException") (by decide +kernel)
  refine lv_aload_n hx hb dX7_asSorted_0 rfl (lv_at hl 0 rfl) ?_
  refine va_instNo (C := RX1) hx hb hown hw0_ (hN.2.2.2.2 _ (List.mem_of_getElem? (l := p_nc) (i := 1) rfl)) (va_recv hK hP (ci := 2) (q0 := 0) rfl rfl) dX7_asSorted_1 ?_
  refine lv_if_eq (tgt := 14) hx hb dX7_asSorted_4 (by decide) (fun c_1 => ?_) (fun c_1 => absurd c_1 (by decide))
  obtain ⟨sa, hsa⟩ := hN.stX7_249
  exact vx_throwS hx hb hlt (own := RX7) (cls := "java/lang/ClassCastException") (text := "not a tree or submap") (names := ["java/lang/RuntimeException", "java/lang/Exception"]) hown (by decide +kernel) (by decide +kernel) hw1_ hw2_ hsa (tx_hat hN.xw (fun w h => hts w (at_X7_asSorted_14 w h)) ng_RX7_248) og_RX7_248 hZ.1 hZ.2 hS (by rw [hml]; exact hl.1) dX7_asSorted_14 dX7_asSorted_17 dX7_asSorted_18 dX7_asSorted_20 dX7_asSorted_23 (fun x hx9 => (htab x hx9).elim) (Nat.le_of_ble_eq_true rfl) (Nat.le_of_ble_eq_true rfl) (Nat.le_of_ble_eq_true rfl) (Nat.le_of_ble_eq_true rfl) hlocks (fun t hvm hz hq => ⟨(), trivial, rfl, ⟨Nat.le_trans hS.1 hz, fun q h1 h2 => (hq q (Nat.lt_of_lt_of_le h1 hS.1)).trans (hS.2.1 q h1 h2)⟩⟩) hS.2.2 (Nat.le_of_ble_eq_true rfl) (Nat.le_of_ble_eq_true rfl)
set_option maxHeartbeats 4000000 in
set_option maxRecDepth 100000 in
/-- asCursor of H -/
theorem c_X7_asCursor_H (l : Launch) (hlt : l.stackTraces = false) (dC : Nat → ClassId) (dI : Nat → Nat → Nat) (sz : Nat) (y0 : Nat) (fs : List Value) : vx_Met l yX7_asCursor wqX7_asCursor ({ frames := 6, cells := 1, slots := 6, locals := 100 }) (va_Pc [.ref y0] (pk_PreXR (dC, dI) [(y0, .inr (3, fs))] [] sz)) (va_Qr (fun (_ : Unit) => False) (fun (_ : Unit) (a : Nat) (t : State) => t.heap.size = sz ∧ a = y0) (roN sz)) (vx_X (fun _ : Unit => True) (fun (E : String) (_ : Unit) (t : State) => E = "java/lang/ClassCastException") (roN sz)) 1 6 (roN sz) := by
  refine vx_ofW (cc := cX7_asCursor) (maxL := 2) (ret := (some (.object "KeyAtlas$Cursor"))) (by decide) rfl ?_
  intro p e s m args below meth c s₁ B hml htab hv
  obtain ⟨rfl, hsz, hP, hK, hN, hZ⟩ := hv
  have hx := B.exec
  have hb := B.bytes
  have hr := B.returns
  have hts := atoms_spec (ws := wqX7_asCursor) B.pre
  have hown : s.vm.findClass RX7 = some m.cls := findClass_of_methodNamed B.named
  have hlocks := B.notSynchronized
  subst hsz
  generalize hAe : roN s.heap.size = A at hZ ⊢
  have hA : ∀ q : Nat, s.heap.size ≤ q → A q := fun q h => by rw [← hAe]; exact h
  have hS : va_S A s.heap s.heap [] := va_S.rf
  have hP : va_P (dC, dI) vwCl [(y0, .inr (3, fs))] s.heap := hP
  have hl := lv_entry ([.ref y0]) (n := 2) (Nat.le_of_ble_eq_true rfl)
  rw [lg_entry_eq]
  generalize (lg_sl ([.ref y0]) ++ List.replicate (2 - (lg_sl ([.ref y0])).length) Slot.unset).toArray = ls at hl ⊢
  have hl : lv_has ls 2 [(0, .ref y0)] := hl
  have hw0_ := hts (.classLink RX7 157 RX1) (by decide +kernel)
  have hw1_ := hts (.classLink RX7 244 "java/lang/ClassCastException") (by decide +kernel)
  have hw2_ := hts (.initialized "java/lang/ClassCastException") (by decide +kernel)
  refine lv_aload_n hx hb dX7_asCursor_0 rfl (lv_at hl 0 rfl) ?_
  refine va_instNo (C := RX2) hx hb hown hw0_ (hN.2.2.2.2 _ (List.mem_of_getElem? (l := p_nc) (i := 4) rfl)) (va_recv hK hP (ci := 3) (q0 := 0) rfl rfl) dX7_asCursor_1 ?_
  refine lv_if_eq (tgt := 14) hx hb dX7_asCursor_4 (by decide) (fun c_1 => ?_) (fun c_1 => absurd c_1 (by decide))
  obtain ⟨sa, hsa⟩ := hN.stX7_251
  exact vx_throwS hx hb hlt (own := RX7) (cls := "java/lang/ClassCastException") (text := "not a cursor") (names := ["java/lang/RuntimeException", "java/lang/Exception"]) hown (by decide +kernel) (by decide +kernel) hw1_ hw2_ hsa (tx_hat hN.xw (fun w h => hts w (at_X7_asCursor_14 w h)) ng_RX7_248) og_RX7_248 hZ.1 hZ.2 hS (by rw [hml]; exact hl.1) dX7_asCursor_14 dX7_asCursor_17 dX7_asCursor_18 dX7_asCursor_20 dX7_asCursor_23 (fun x hx9 => (htab x hx9).elim) (Nat.le_of_ble_eq_true rfl) (Nat.le_of_ble_eq_true rfl) (Nat.le_of_ble_eq_true rfl) (Nat.le_of_ble_eq_true rfl) hlocks (fun t hvm hz hq => ⟨(), trivial, rfl, ⟨Nat.le_trans hS.1 hz, fun q h1 h2 => (hq q (Nat.lt_of_lt_of_le h1 hS.1)).trans (hS.2.1 q h1 h2)⟩⟩) hS.2.2 (Nat.le_of_ble_eq_true rfl) (Nat.le_of_ble_eq_true rfl)
set_option maxHeartbeats 4000000 in
set_option maxRecDepth 100000 in
/-- asCursor of L -/
theorem c_X7_asCursor_L (l : Launch) (hlt : l.stackTraces = false) (dC : Nat → ClassId) (dI : Nat → Nat → Nat) (sz : Nat) (y0 : Nat) (fs : List Value) : vx_Met l yX7_asCursor wqX7_asCursor ({ frames := 6, cells := 1, slots := 6, locals := 100 }) (va_Pc [.ref y0] (pk_PreXR (dC, dI) [(y0, .inr (4, fs))] [] sz)) (va_Qr (fun (_ : Unit) => False) (fun (_ : Unit) (a : Nat) (t : State) => t.heap.size = sz ∧ a = y0) (roN sz)) (vx_X (fun _ : Unit => True) (fun (E : String) (_ : Unit) (t : State) => E = "java/lang/ClassCastException") (roN sz)) 1 6 (roN sz) := by
  refine vx_ofW (cc := cX7_asCursor) (maxL := 2) (ret := (some (.object "KeyAtlas$Cursor"))) (by decide) rfl ?_
  intro p e s m args below meth c s₁ B hml htab hv
  obtain ⟨rfl, hsz, hP, hK, hN, hZ⟩ := hv
  have hx := B.exec
  have hb := B.bytes
  have hr := B.returns
  have hts := atoms_spec (ws := wqX7_asCursor) B.pre
  have hown : s.vm.findClass RX7 = some m.cls := findClass_of_methodNamed B.named
  have hlocks := B.notSynchronized
  subst hsz
  generalize hAe : roN s.heap.size = A at hZ ⊢
  have hA : ∀ q : Nat, s.heap.size ≤ q → A q := fun q h => by rw [← hAe]; exact h
  have hS : va_S A s.heap s.heap [] := va_S.rf
  have hP : va_P (dC, dI) vwCl [(y0, .inr (4, fs))] s.heap := hP
  have hl := lv_entry ([.ref y0]) (n := 2) (Nat.le_of_ble_eq_true rfl)
  rw [lg_entry_eq]
  generalize (lg_sl ([.ref y0]) ++ List.replicate (2 - (lg_sl ([.ref y0])).length) Slot.unset).toArray = ls at hl ⊢
  have hl : lv_has ls 2 [(0, .ref y0)] := hl
  have hw0_ := hts (.classLink RX7 157 RX1) (by decide +kernel)
  have hw1_ := hts (.classLink RX7 244 "java/lang/ClassCastException") (by decide +kernel)
  have hw2_ := hts (.initialized "java/lang/ClassCastException") (by decide +kernel)
  refine lv_aload_n hx hb dX7_asCursor_0 rfl (lv_at hl 0 rfl) ?_
  refine va_instNo (C := RX4) hx hb hown hw0_ (hN.2.2.2.2 _ (List.mem_of_getElem? (l := p_nc) (i := 5) rfl)) (va_recv hK hP (ci := 4) (q0 := 0) rfl rfl) dX7_asCursor_1 ?_
  refine lv_if_eq (tgt := 14) hx hb dX7_asCursor_4 (by decide) (fun c_1 => ?_) (fun c_1 => absurd c_1 (by decide))
  obtain ⟨sa, hsa⟩ := hN.stX7_251
  exact vx_throwS hx hb hlt (own := RX7) (cls := "java/lang/ClassCastException") (text := "not a cursor") (names := ["java/lang/RuntimeException", "java/lang/Exception"]) hown (by decide +kernel) (by decide +kernel) hw1_ hw2_ hsa (tx_hat hN.xw (fun w h => hts w (at_X7_asCursor_14 w h)) ng_RX7_248) og_RX7_248 hZ.1 hZ.2 hS (by rw [hml]; exact hl.1) dX7_asCursor_14 dX7_asCursor_17 dX7_asCursor_18 dX7_asCursor_20 dX7_asCursor_23 (fun x hx9 => (htab x hx9).elim) (Nat.le_of_ble_eq_true rfl) (Nat.le_of_ble_eq_true rfl) (Nat.le_of_ble_eq_true rfl) (Nat.le_of_ble_eq_true rfl) hlocks (fun t hvm hz hq => ⟨(), trivial, rfl, ⟨Nat.le_trans hS.1 hz, fun q h1 h2 => (hq q (Nat.lt_of_lt_of_le h1 hS.1)).trans (hS.2.1 q h1 h2)⟩⟩) hS.2.2 (Nat.le_of_ble_eq_true rfl) (Nat.le_of_ble_eq_true rfl)
set_option maxHeartbeats 4000000 in
set_option maxRecDepth 100000 in
/-- asCursor of S -/
theorem c_X7_asCursor_S (l : Launch) (hlt : l.stackTraces = false) (dC : Nat → ClassId) (dI : Nat → Nat → Nat) (sz : Nat) (y0 : Nat) (fs : List Value) : vx_Met l yX7_asCursor wqX7_asCursor ({ frames := 6, cells := 1, slots := 6, locals := 100 }) (va_Pc [.ref y0] (pk_PreXR (dC, dI) [(y0, .inr (6, fs))] [] sz)) (va_Qr (fun (_ : Unit) => False) (fun (_ : Unit) (a : Nat) (t : State) => t.heap.size = sz ∧ a = y0) (roN sz)) (vx_X (fun _ : Unit => True) (fun (E : String) (_ : Unit) (t : State) => E = "java/lang/ClassCastException") (roN sz)) 1 6 (roN sz) := by
  refine vx_ofW (cc := cX7_asCursor) (maxL := 2) (ret := (some (.object "KeyAtlas$Cursor"))) (by decide) rfl ?_
  intro p e s m args below meth c s₁ B hml htab hv
  obtain ⟨rfl, hsz, hP, hK, hN, hZ⟩ := hv
  have hx := B.exec
  have hb := B.bytes
  have hr := B.returns
  have hts := atoms_spec (ws := wqX7_asCursor) B.pre
  have hown : s.vm.findClass RX7 = some m.cls := findClass_of_methodNamed B.named
  have hlocks := B.notSynchronized
  subst hsz
  generalize hAe : roN s.heap.size = A at hZ ⊢
  have hA : ∀ q : Nat, s.heap.size ≤ q → A q := fun q h => by rw [← hAe]; exact h
  have hS : va_S A s.heap s.heap [] := va_S.rf
  have hP : va_P (dC, dI) vwCl [(y0, .inr (6, fs))] s.heap := hP
  have hl := lv_entry ([.ref y0]) (n := 2) (Nat.le_of_ble_eq_true rfl)
  rw [lg_entry_eq]
  generalize (lg_sl ([.ref y0]) ++ List.replicate (2 - (lg_sl ([.ref y0])).length) Slot.unset).toArray = ls at hl ⊢
  have hl : lv_has ls 2 [(0, .ref y0)] := hl
  have hw0_ := hts (.classLink RX7 157 RX1) (by decide +kernel)
  have hw1_ := hts (.classLink RX7 244 "java/lang/ClassCastException") (by decide +kernel)
  have hw2_ := hts (.initialized "java/lang/ClassCastException") (by decide +kernel)
  refine lv_aload_n hx hb dX7_asCursor_0 rfl (lv_at hl 0 rfl) ?_
  refine va_instNo (C := RX6) hx hb hown hw0_ (hN.2.2.2.2 _ (List.mem_of_getElem? (l := p_nc) (i := 6) rfl)) (va_recv hK hP (ci := 6) (q0 := 0) rfl rfl) dX7_asCursor_1 ?_
  refine lv_if_eq (tgt := 14) hx hb dX7_asCursor_4 (by decide) (fun c_1 => ?_) (fun c_1 => absurd c_1 (by decide))
  obtain ⟨sa, hsa⟩ := hN.stX7_251
  exact vx_throwS hx hb hlt (own := RX7) (cls := "java/lang/ClassCastException") (text := "not a cursor") (names := ["java/lang/RuntimeException", "java/lang/Exception"]) hown (by decide +kernel) (by decide +kernel) hw1_ hw2_ hsa (tx_hat hN.xw (fun w h => hts w (at_X7_asCursor_14 w h)) ng_RX7_248) og_RX7_248 hZ.1 hZ.2 hS (by rw [hml]; exact hl.1) dX7_asCursor_14 dX7_asCursor_17 dX7_asCursor_18 dX7_asCursor_20 dX7_asCursor_23 (fun x hx9 => (htab x hx9).elim) (Nat.le_of_ble_eq_true rfl) (Nat.le_of_ble_eq_true rfl) (Nat.le_of_ble_eq_true rfl) (Nat.le_of_ble_eq_true rfl) hlocks (fun t hvm hz hq => ⟨(), trivial, rfl, ⟨Nat.le_trans hS.1 hz, fun q h1 h2 => (hq q (Nat.lt_of_lt_of_le h1 hS.1)).trans (hS.2.1 q h1 h2)⟩⟩) hS.2.2 (Nat.le_of_ble_eq_true rfl) (Nat.le_of_ble_eq_true rfl)
set_option maxHeartbeats 4000000 in
set_option maxRecDepth 100000 in
/-- asCursor of C -/
theorem c_X7_asCursor_C (l : Launch) (hlt : l.stackTraces = false) (dC : Nat → ClassId) (dI : Nat → Nat → Nat) (sz : Nat) (y0 : Nat) (fs : List Value) : Met l yX7_asCursor wqX7_asCursor ({ frames := 0, cells := 0, slots := 0, locals := 0 }) (va_Pc [.ref y0] (pk_PreRX (dC, dI) [(y0, .inr (2, fs))] [] sz)) (va_Qr (fun (_ : Unit) => True) (fun (_ : Unit) (a : Nat) (t : State) => t.heap.size = sz ∧ a = y0) ro_A) 0 0 ro_A := by
  refine Met.ofW (cc := cX7_asCursor) (maxL := 2) (ret := (some (.object "KeyAtlas$Cursor"))) (by decide) rfl ?_
  intro p e s m args below meth c s₁ B hml hv
  obtain ⟨rfl, ⟨hsz, hP, hK⟩, hN⟩ := hv
  have hx := B.exec
  have hb := B.bytes
  have hr := B.returns
  have hts := atoms_spec (ws := wqX7_asCursor) B.pre
  have hown : s.vm.findClass RX7 = some m.cls := findClass_of_methodNamed B.named
  have hlocks := B.notSynchronized
  subst hsz
  have hS : va_S ro_A s.heap s.heap [] := va_S.rf
  have hP : va_P (dC, dI) vwCl [(y0, .inr (2, fs))] s.heap := hP
  have hl := lv_entry ([.ref y0]) (n := 2) (Nat.le_of_ble_eq_true rfl)
  rw [lg_entry_eq]
  generalize (lg_sl ([.ref y0]) ++ List.replicate (2 - (lg_sl ([.ref y0])).length) Slot.unset).toArray = ls at hl ⊢
  have hl : lv_has ls 2 [(0, .ref y0)] := hl
  have hw0_ := hts (.classLink RX7 157 RX1) (by decide +kernel)
  refine lv_aload_n hx hb dX7_asCursor_0 rfl (lv_at hl 0 rfl) ?_
  refine va_instE hx hb hown hw0_ (va_recv hK hP (ci := 2) (q0 := 0) rfl rfl) dX7_asCursor_1 ?_
  refine lv_if_eq (tgt := 14) hx hb dX7_asCursor_4 (by decide) (fun c_1 => absurd c_1 (by decide)) (fun c_1 => ?_)
  refine lv_aload_n hx hb dX7_asCursor_7 rfl (lv_at hl 0 rfl) ?_
  refine va_castE hx hb hown hw0_ (va_recv hK hP (ci := 2) (q0 := 0) rfl rfl) dX7_asCursor_8 ?_
  refine lv_astore_n (lv' := [(1, .ref y0), (0, .ref y0)]) hx hb dX7_asCursor_11 rfl hl (by decide) rfl (fun ls hl => ?_)
  refine lv_aload_n hx hb dX7_asCursor_12 rfl (lv_at hl 0 rfl) ?_
  refine W.widen (k := 0) (n := 0) (Nat.le_of_ble_eq_true rfl) (Nat.le_of_ble_eq_true rfl) ?_
  exact W.aret (v := .ref y0) hx hb hr (Or.inl ⟨_, rfl⟩) (Or.inr ⟨_, rfl⟩) (fun t ht hW => ⟨⟨(), y0, rfl, trivial, congrArg Array.size ht, rfl⟩, hS.F ht⟩) hS.2.2 dX7_asCursor_13
set_option maxHeartbeats 4000000 in
set_option maxRecDepth 100000 in
/-- a and b in their ranges, H -/
theorem c_X7_areInRange_H (l : Launch) (dC : Nat → ClassId) (dI : Nat → Nat → Nat) (sz : Nat) (p1 : Int32) (p2 : Int32) : Met l yX7_areInRange wsX7_areInRange ({ frames := 0, cells := 0, slots := 0, locals := 0 }) (va_Pc [.int 0, .int p1, .int p2] (pk_PreR (dC, dI) [] [] sz)) (va_Qi (fun (r : Int32) (_ : Unit) => (r.toInt = 1 ∧ rgH p1 p2) ∨ (r.toInt = 0 ∧ ¬ rgH p1 p2)) (fun _ (t : State) => t.heap.size = sz) ro_A) 0 0 ro_A := by
  refine Met.ofW (cc := cX7_areInRange) (maxL := 3) (ret := (some .boolean)) (by decide) rfl ?_
  intro p e s m args below meth c s₁ B hml hv
  obtain ⟨rfl, hsz, hP, hK⟩ := hv
  have hx := B.exec
  have hb := B.bytes
  have hr := B.returns
  have hts := atoms_spec (ws := wsX7_areInRange) B.pre
  have hown : s.vm.findClass RX7 = some m.cls := findClass_of_methodNamed B.named
  have hlocks := B.notSynchronized
  subst hsz
  have hS : va_S ro_A s.heap s.heap [] := va_S.rf
  have hP : va_P (dC, dI) vwCl [] s.heap := hP
  have hl := lv_entry ([.int 0, .int p1, .int p2]) (n := 3) (Nat.le_of_ble_eq_true rfl)
  rw [lg_entry_eq]
  generalize (lg_sl ([.int 0, .int p1, .int p2]) ++ List.replicate (3 - (lg_sl ([.int 0, .int p1, .int p2])).length) Slot.unset).toArray = ls at hl ⊢
  have hl : lv_has ls 3 [(0, .int 0), (1, .int p1), (2, .int p2)] := hl

  refine lv_iload_n hx hb dX7_areInRange_0 rfl (lv_at hl 0 rfl) ?_
  refine lv_lookup (x := 0) (off := 27) (tgt := 28) hx hb dX7_areInRange_1 (by decide) (by decide) (by decide) ?_
  refine lv_iload_n hx hb dX7_areInRange_28 rfl (lv_at hl 1 rfl) ?_
  refine lv_if_lt (tgt := 52) hx hb dX7_areInRange_29 (by decide) (fun c_1 => ?_) (fun c_1 => ?_)
  ·
    have ic_1 : p1.toInt < 0 := tx_lt rfl (by decide) c_1
    refine lv_iconst (v := 0) hx hb dX7_areInRange_52 (by decide) ?_
    refine W.widen (k := 0) (n := 0) (Nat.le_of_ble_eq_true rfl) (Nat.le_of_ble_eq_true rfl) ?_
    exact W.zret (v := 0) hx hb hr rfl (fun t ht hW => ⟨⟨0, (), rfl, Or.inr ⟨by decide, by unfold rgH; omega⟩, congrArg Array.size ht⟩, hS.F ht⟩) hS.2.2 dX7_areInRange_53
  ·
    have ic_1 : 0 ≤ p1.toInt := tx_nlt rfl (by decide) c_1
    refine lv_iload_n hx hb dX7_areInRange_32 rfl (lv_at hl 1 rfl) ?_
    refine lv_sipush (v := 1000) hx hb dX7_areInRange_33 (by decide) ?_
    refine lv_icmp_gt (tgt := 52) hx hb dX7_areInRange_36 (by decide) (fun c_2 => ?_) (fun c_2 => ?_)
    ·
      have ic_2 : 1000 < p1.toInt := tx_lt (by decide) rfl c_2
      refine lv_iconst (v := 0) hx hb dX7_areInRange_52 (by decide) ?_
      refine W.widen (k := 0) (n := 0) (Nat.le_of_ble_eq_true rfl) (Nat.le_of_ble_eq_true rfl) ?_
      exact W.zret (v := 0) hx hb hr rfl (fun t ht hW => ⟨⟨0, (), rfl, Or.inr ⟨by decide, by unfold rgH; omega⟩, congrArg Array.size ht⟩, hS.F ht⟩) hS.2.2 dX7_areInRange_53
    ·
      have ic_2 : p1.toInt ≤ 1000 := tx_nlt (by decide) rfl c_2
      refine lv_iload_n hx hb dX7_areInRange_39 rfl (lv_at hl 2 rfl) ?_
      refine lv_if_lt (tgt := 52) hx hb dX7_areInRange_40 (by decide) (fun c_3 => ?_) (fun c_3 => ?_)
      ·
        have ic_3 : p2.toInt < 0 := tx_lt rfl (by decide) c_3
        refine lv_iconst (v := 0) hx hb dX7_areInRange_52 (by decide) ?_
        refine W.widen (k := 0) (n := 0) (Nat.le_of_ble_eq_true rfl) (Nat.le_of_ble_eq_true rfl) ?_
        exact W.zret (v := 0) hx hb hr rfl (fun t ht hW => ⟨⟨0, (), rfl, Or.inr ⟨by decide, by unfold rgH; omega⟩, congrArg Array.size ht⟩, hS.F ht⟩) hS.2.2 dX7_areInRange_53
      ·
        have ic_3 : 0 ≤ p2.toInt := tx_nlt rfl (by decide) c_3
        refine lv_iload_n hx hb dX7_areInRange_43 rfl (lv_at hl 2 rfl) ?_
        refine lv_iconst (v := 3) hx hb dX7_areInRange_44 (by decide) ?_
        refine lv_icmp_gt (tgt := 52) hx hb dX7_areInRange_45 (by decide) (fun c_4 => ?_) (fun c_4 => ?_)
        ·
          have ic_4 : 3 < p2.toInt := tx_lt (by decide) rfl c_4
          refine lv_iconst (v := 0) hx hb dX7_areInRange_52 (by decide) ?_
          refine W.widen (k := 0) (n := 0) (Nat.le_of_ble_eq_true rfl) (Nat.le_of_ble_eq_true rfl) ?_
          exact W.zret (v := 0) hx hb hr rfl (fun t ht hW => ⟨⟨0, (), rfl, Or.inr ⟨by decide, by unfold rgH; omega⟩, congrArg Array.size ht⟩, hS.F ht⟩) hS.2.2 dX7_areInRange_53
        ·
          have ic_4 : p2.toInt ≤ 3 := tx_nlt (by decide) rfl c_4
          refine lv_iconst (v := 1) hx hb dX7_areInRange_48 (by decide) ?_
          refine lv_goto (tgt := 53) hx hb dX7_areInRange_49 (by decide) ?_
          refine W.widen (k := 0) (n := 0) (Nat.le_of_ble_eq_true rfl) (Nat.le_of_ble_eq_true rfl) ?_
          exact W.zret (v := 1) hx hb hr rfl (fun t ht hW => ⟨⟨1, (), rfl, Or.inl ⟨by decide, by unfold rgH; omega⟩, congrArg Array.size ht⟩, hS.F ht⟩) hS.2.2 dX7_areInRange_53
set_option maxHeartbeats 4000000 in
set_option maxRecDepth 100000 in
/-- a and b in their ranges, L -/
theorem c_X7_areInRange_L (l : Launch) (dC : Nat → ClassId) (dI : Nat → Nat → Nat) (sz : Nat) (p1 : Int32) (p2 : Int32) : Met l yX7_areInRange wsX7_areInRange ({ frames := 0, cells := 0, slots := 0, locals := 0 }) (va_Pc [.int 1, .int p1, .int p2] (pk_PreR (dC, dI) [] [] sz)) (va_Qi (fun (r : Int32) (_ : Unit) => (r.toInt = 1 ∧ rgL p1 p2) ∨ (r.toInt = 0 ∧ ¬ rgL p1 p2)) (fun _ (t : State) => t.heap.size = sz) ro_A) 0 0 ro_A := by
  refine Met.ofW (cc := cX7_areInRange) (maxL := 3) (ret := (some .boolean)) (by decide) rfl ?_
  intro p e s m args below meth c s₁ B hml hv
  obtain ⟨rfl, hsz, hP, hK⟩ := hv
  have hx := B.exec
  have hb := B.bytes
  have hr := B.returns
  have hts := atoms_spec (ws := wsX7_areInRange) B.pre
  have hown : s.vm.findClass RX7 = some m.cls := findClass_of_methodNamed B.named
  have hlocks := B.notSynchronized
  subst hsz
  have hS : va_S ro_A s.heap s.heap [] := va_S.rf
  have hP : va_P (dC, dI) vwCl [] s.heap := hP
  have hl := lv_entry ([.int 1, .int p1, .int p2]) (n := 3) (Nat.le_of_ble_eq_true rfl)
  rw [lg_entry_eq]
  generalize (lg_sl ([.int 1, .int p1, .int p2]) ++ List.replicate (3 - (lg_sl ([.int 1, .int p1, .int p2])).length) Slot.unset).toArray = ls at hl ⊢
  have hl : lv_has ls 3 [(0, .int 1), (1, .int p1), (2, .int p2)] := hl

  refine lv_iload_n hx hb dX7_areInRange_0 rfl (lv_at hl 0 rfl) ?_
  refine lv_lookup (x := 1) (off := 53) (tgt := 54) hx hb dX7_areInRange_1 (by decide) (by decide) (by decide) ?_
  refine lv_iload_n hx hb dX7_areInRange_54 rfl (lv_at hl 1 rfl) ?_
  refine lv_if_lt (tgt := 78) hx hb dX7_areInRange_55 (by decide) (fun c_1 => ?_) (fun c_1 => ?_)
  ·
    have ic_1 : p1.toInt < 0 := tx_lt rfl (by decide) c_1
    refine lv_iconst (v := 0) hx hb dX7_areInRange_78 (by decide) ?_
    refine W.widen (k := 0) (n := 0) (Nat.le_of_ble_eq_true rfl) (Nat.le_of_ble_eq_true rfl) ?_
    exact W.zret (v := 0) hx hb hr rfl (fun t ht hW => ⟨⟨0, (), rfl, Or.inr ⟨by decide, by unfold rgL; omega⟩, congrArg Array.size ht⟩, hS.F ht⟩) hS.2.2 dX7_areInRange_79
  ·
    have ic_1 : 0 ≤ p1.toInt := tx_nlt rfl (by decide) c_1
    refine lv_iload_n hx hb dX7_areInRange_58 rfl (lv_at hl 1 rfl) ?_
    refine lv_sipush (v := 1000) hx hb dX7_areInRange_59 (by decide) ?_
    refine lv_icmp_gt (tgt := 78) hx hb dX7_areInRange_62 (by decide) (fun c_2 => ?_) (fun c_2 => ?_)
    ·
      have ic_2 : 1000 < p1.toInt := tx_lt (by decide) rfl c_2
      refine lv_iconst (v := 0) hx hb dX7_areInRange_78 (by decide) ?_
      refine W.widen (k := 0) (n := 0) (Nat.le_of_ble_eq_true rfl) (Nat.le_of_ble_eq_true rfl) ?_
      exact W.zret (v := 0) hx hb hr rfl (fun t ht hW => ⟨⟨0, (), rfl, Or.inr ⟨by decide, by unfold rgL; omega⟩, congrArg Array.size ht⟩, hS.F ht⟩) hS.2.2 dX7_areInRange_79
    ·
      have ic_2 : p1.toInt ≤ 1000 := tx_nlt (by decide) rfl c_2
      refine lv_iload_n hx hb dX7_areInRange_65 rfl (lv_at hl 2 rfl) ?_
      refine lv_if_lt (tgt := 78) hx hb dX7_areInRange_66 (by decide) (fun c_3 => ?_) (fun c_3 => ?_)
      ·
        have ic_3 : p2.toInt < 0 := tx_lt rfl (by decide) c_3
        refine lv_iconst (v := 0) hx hb dX7_areInRange_78 (by decide) ?_
        refine W.widen (k := 0) (n := 0) (Nat.le_of_ble_eq_true rfl) (Nat.le_of_ble_eq_true rfl) ?_
        exact W.zret (v := 0) hx hb hr rfl (fun t ht hW => ⟨⟨0, (), rfl, Or.inr ⟨by decide, by unfold rgL; omega⟩, congrArg Array.size ht⟩, hS.F ht⟩) hS.2.2 dX7_areInRange_79
      ·
        have ic_3 : 0 ≤ p2.toInt := tx_nlt rfl (by decide) c_3
        refine lv_iload_n hx hb dX7_areInRange_69 rfl (lv_at hl 2 rfl) ?_
        refine lv_iconst (v := 1) hx hb dX7_areInRange_70 (by decide) ?_
        refine lv_icmp_gt (tgt := 78) hx hb dX7_areInRange_71 (by decide) (fun c_4 => ?_) (fun c_4 => ?_)
        ·
          have ic_4 : 1 < p2.toInt := tx_lt (by decide) rfl c_4
          refine lv_iconst (v := 0) hx hb dX7_areInRange_78 (by decide) ?_
          refine W.widen (k := 0) (n := 0) (Nat.le_of_ble_eq_true rfl) (Nat.le_of_ble_eq_true rfl) ?_
          exact W.zret (v := 0) hx hb hr rfl (fun t ht hW => ⟨⟨0, (), rfl, Or.inr ⟨by decide, by unfold rgL; omega⟩, congrArg Array.size ht⟩, hS.F ht⟩) hS.2.2 dX7_areInRange_79
        ·
          have ic_4 : p2.toInt ≤ 1 := tx_nlt (by decide) rfl c_4
          refine lv_iconst (v := 1) hx hb dX7_areInRange_74 (by decide) ?_
          refine lv_goto (tgt := 79) hx hb dX7_areInRange_75 (by decide) ?_
          refine W.widen (k := 0) (n := 0) (Nat.le_of_ble_eq_true rfl) (Nat.le_of_ble_eq_true rfl) ?_
          exact W.zret (v := 1) hx hb hr rfl (fun t ht hW => ⟨⟨1, (), rfl, Or.inl ⟨by decide, by unfold rgL; omega⟩, congrArg Array.size ht⟩, hS.F ht⟩) hS.2.2 dX7_areInRange_79
set_option maxHeartbeats 4000000 in
set_option maxRecDepth 100000 in
/-- a and b in their ranges, S -/
theorem c_X7_areInRange_S (l : Launch) (dC : Nat → ClassId) (dI : Nat → Nat → Nat) (sz : Nat) (p1 : Int32) (p2 : Int32) : Met l yX7_areInRange wsX7_areInRange ({ frames := 0, cells := 0, slots := 0, locals := 0 }) (va_Pc [.int 2, .int p1, .int p2] (pk_PreR (dC, dI) [] [] sz)) (va_Qi (fun (r : Int32) (_ : Unit) => (r.toInt = 1 ∧ rgS p1 p2) ∨ (r.toInt = 0 ∧ ¬ rgS p1 p2)) (fun _ (t : State) => t.heap.size = sz) ro_A) 0 0 ro_A := by
  refine Met.ofW (cc := cX7_areInRange) (maxL := 3) (ret := (some .boolean)) (by decide) rfl ?_
  intro p e s m args below meth c s₁ B hml hv
  obtain ⟨rfl, hsz, hP, hK⟩ := hv
  have hx := B.exec
  have hb := B.bytes
  have hr := B.returns
  have hts := atoms_spec (ws := wsX7_areInRange) B.pre
  have hown : s.vm.findClass RX7 = some m.cls := findClass_of_methodNamed B.named
  have hlocks := B.notSynchronized
  subst hsz
  have hS : va_S ro_A s.heap s.heap [] := va_S.rf
  have hP : va_P (dC, dI) vwCl [] s.heap := hP
  have hl := lv_entry ([.int 2, .int p1, .int p2]) (n := 3) (Nat.le_of_ble_eq_true rfl)
  rw [lg_entry_eq]
  generalize (lg_sl ([.int 2, .int p1, .int p2]) ++ List.replicate (3 - (lg_sl ([.int 2, .int p1, .int p2])).length) Slot.unset).toArray = ls at hl ⊢
  have hl : lv_has ls 3 [(0, .int 2), (1, .int p1), (2, .int p2)] := hl

  refine lv_iload_n hx hb dX7_areInRange_0 rfl (lv_at hl 0 rfl) ?_
  refine lv_lookup (x := 2) (off := 79) (tgt := 80) hx hb dX7_areInRange_1 (by decide) (by decide) (by decide) ?_
  refine lv_iload_n hx hb dX7_areInRange_80 rfl (lv_at hl 1 rfl) ?_
  refine lv_if_lt (tgt := 93) hx hb dX7_areInRange_81 (by decide) (fun c_1 => ?_) (fun c_1 => ?_)
  ·
    have ic_1 : p1.toInt < 0 := tx_lt rfl (by decide) c_1
    refine lv_iconst (v := 0) hx hb dX7_areInRange_93 (by decide) ?_
    refine W.widen (k := 0) (n := 0) (Nat.le_of_ble_eq_true rfl) (Nat.le_of_ble_eq_true rfl) ?_
    exact W.zret (v := 0) hx hb hr rfl (fun t ht hW => ⟨⟨0, (), rfl, Or.inr ⟨by decide, by unfold rgS; omega⟩, congrArg Array.size ht⟩, hS.F ht⟩) hS.2.2 dX7_areInRange_94
  ·
    have ic_1 : 0 ≤ p1.toInt := tx_nlt rfl (by decide) c_1
    refine lv_iload_n hx hb dX7_areInRange_84 rfl (lv_at hl 1 rfl) ?_
    refine lv_iconst (v := 3) hx hb dX7_areInRange_85 (by decide) ?_
    refine lv_icmp_gt (tgt := 93) hx hb dX7_areInRange_86 (by decide) (fun c_2 => ?_) (fun c_2 => ?_)
    ·
      have ic_2 : 3 < p1.toInt := tx_lt (by decide) rfl c_2
      refine lv_iconst (v := 0) hx hb dX7_areInRange_93 (by decide) ?_
      refine W.widen (k := 0) (n := 0) (Nat.le_of_ble_eq_true rfl) (Nat.le_of_ble_eq_true rfl) ?_
      exact W.zret (v := 0) hx hb hr rfl (fun t ht hW => ⟨⟨0, (), rfl, Or.inr ⟨by decide, by unfold rgS; omega⟩, congrArg Array.size ht⟩, hS.F ht⟩) hS.2.2 dX7_areInRange_94
    ·
      have ic_2 : p1.toInt ≤ 3 := tx_nlt (by decide) rfl c_2
      refine lv_iconst (v := 1) hx hb dX7_areInRange_89 (by decide) ?_
      refine lv_goto (tgt := 94) hx hb dX7_areInRange_90 (by decide) ?_
      refine W.widen (k := 0) (n := 0) (Nat.le_of_ble_eq_true rfl) (Nat.le_of_ble_eq_true rfl) ?_
      exact W.zret (v := 1) hx hb hr rfl (fun t ht hW => ⟨⟨1, (), rfl, Or.inl ⟨by decide, by unfold rgS; omega⟩, congrArg Array.size ht⟩, hS.F ht⟩) hS.2.2 dX7_areInRange_94
set_option maxHeartbeats 4000000 in
set_option maxRecDepth 100000 in
/-- hasOp -/
theorem c_X7_hasOp (l : Launch) (dC : Nat → ClassId) (dI : Nat → Nat → Nat) (sz : Nat) (p0 : Int32) (p1 : Int32) : Met l yX7_hasOp wsX7_hasOp ({ frames := 0, cells := 0, slots := 0, locals := 0 }) (va_Pc [.int p0, .int p1] (pk_PreR (dC, dI) [] [] sz)) (va_Qi (fun (r : Int32) (_ : Unit) => r = 0 ∨ r = 1) (fun _ (t : State) => t.heap.size = sz) ro_A) 0 0 ro_A := by
  refine Met.ofW (cc := cX7_hasOp) (maxL := 2) (ret := (some .boolean)) (by decide) rfl ?_
  intro p e s m args below meth c s₁ B hml hv
  obtain ⟨rfl, hsz, hP, hK⟩ := hv
  have hx := B.exec
  have hb := B.bytes
  have hr := B.returns
  have hts := atoms_spec (ws := wsX7_hasOp) B.pre
  have hown : s.vm.findClass RX7 = some m.cls := findClass_of_methodNamed B.named
  have hlocks := B.notSynchronized
  subst hsz
  have hS : va_S ro_A s.heap s.heap [] := va_S.rf
  have hP : va_P (dC, dI) vwCl [] s.heap := hP
  have hl := lv_entry ([.int p0, .int p1]) (n := 2) (Nat.le_of_ble_eq_true rfl)
  rw [lg_entry_eq]
  generalize (lg_sl ([.int p0, .int p1]) ++ List.replicate (2 - (lg_sl ([.int p0, .int p1])).length) Slot.unset).toArray = ls at hl ⊢
  have hl : lv_has ls 2 [(0, .int p0), (1, .int p1)] := hl

  refine lv_iload_n hx hb dX7_hasOp_0 rfl (lv_at hl 1 rfl) ?_
  by_cases c_1 : p1 = 10
  ·
    have ic_1 : p1.toInt = 10 := tx_eq rfl (by decide) c_1
    refine lv_tableIn (off := 71) (tgt := 72) hx hb dX7_hasOp_1 (by rw [c_1]; decide) (by rw [c_1]; decide) (by rw [c_1]; rfl) (by decide) ?_
    refine lv_iload_n hx hb dX7_hasOp_72 rfl (lv_at hl 0 rfl) ?_
    refine lv_if_eq (tgt := 80) hx hb dX7_hasOp_73 (by decide) (fun c_2 => ?_) (fun c_2 => ?_)
    ·
      have ic_2 : p0.toInt = 0 := tx_eq rfl (by decide) c_2
      refine lv_iconst (v := 0) hx hb dX7_hasOp_80 (by decide) ?_
      refine W.widen (k := 0) (n := 0) (Nat.le_of_ble_eq_true rfl) (Nat.le_of_ble_eq_true rfl) ?_
      exact W.zret (v := 0) hx hb hr rfl (fun t ht hW => ⟨⟨0, (), rfl, Or.inl rfl, congrArg Array.size ht⟩, hS.F ht⟩) hS.2.2 dX7_hasOp_81
    ·
      have ic_2 : ¬ p0.toInt = 0 := tx_ne rfl (by decide) c_2
      refine lv_iconst (v := 1) hx hb dX7_hasOp_76 (by decide) ?_
      refine lv_goto (tgt := 81) hx hb dX7_hasOp_77 (by decide) ?_
      refine W.widen (k := 0) (n := 0) (Nat.le_of_ble_eq_true rfl) (Nat.le_of_ble_eq_true rfl) ?_
      exact W.zret (v := 1) hx hb hr rfl (fun t ht hW => ⟨⟨1, (), rfl, Or.inr rfl, congrArg Array.size ht⟩, hS.F ht⟩) hS.2.2 dX7_hasOp_81
  have ic_1 : ¬ p1.toInt = 10 := tx_ne rfl (by decide) c_1
  by_cases c_3 : p1 = 11
  ·
    have ic_3 : p1.toInt = 11 := tx_eq rfl (by decide) c_3
    refine lv_tableIn (off := 71) (tgt := 72) hx hb dX7_hasOp_1 (by rw [c_3]; decide) (by rw [c_3]; decide) (by rw [c_3]; rfl) (by decide) ?_
    refine lv_iload_n hx hb dX7_hasOp_72 rfl (lv_at hl 0 rfl) ?_
    refine lv_if_eq (tgt := 80) hx hb dX7_hasOp_73 (by decide) (fun c_4 => ?_) (fun c_4 => ?_)
    ·
      have ic_4 : p0.toInt = 0 := tx_eq rfl (by decide) c_4
      refine lv_iconst (v := 0) hx hb dX7_hasOp_80 (by decide) ?_
      refine W.widen (k := 0) (n := 0) (Nat.le_of_ble_eq_true rfl) (Nat.le_of_ble_eq_true rfl) ?_
      exact W.zret (v := 0) hx hb hr rfl (fun t ht hW => ⟨⟨0, (), rfl, Or.inl rfl, congrArg Array.size ht⟩, hS.F ht⟩) hS.2.2 dX7_hasOp_81
    ·
      have ic_4 : ¬ p0.toInt = 0 := tx_ne rfl (by decide) c_4
      refine lv_iconst (v := 1) hx hb dX7_hasOp_76 (by decide) ?_
      refine lv_goto (tgt := 81) hx hb dX7_hasOp_77 (by decide) ?_
      refine W.widen (k := 0) (n := 0) (Nat.le_of_ble_eq_true rfl) (Nat.le_of_ble_eq_true rfl) ?_
      exact W.zret (v := 1) hx hb hr rfl (fun t ht hW => ⟨⟨1, (), rfl, Or.inr rfl, congrArg Array.size ht⟩, hS.F ht⟩) hS.2.2 dX7_hasOp_81
  have ic_3 : ¬ p1.toInt = 11 := tx_ne rfl (by decide) c_3
  by_cases c_5 : p1 = 12
  ·
    have ic_5 : p1.toInt = 12 := tx_eq rfl (by decide) c_5
    refine lv_tableIn (off := 71) (tgt := 72) hx hb dX7_hasOp_1 (by rw [c_5]; decide) (by rw [c_5]; decide) (by rw [c_5]; rfl) (by decide) ?_
    refine lv_iload_n hx hb dX7_hasOp_72 rfl (lv_at hl 0 rfl) ?_
    refine lv_if_eq (tgt := 80) hx hb dX7_hasOp_73 (by decide) (fun c_6 => ?_) (fun c_6 => ?_)
    ·
      have ic_6 : p0.toInt = 0 := tx_eq rfl (by decide) c_6
      refine lv_iconst (v := 0) hx hb dX7_hasOp_80 (by decide) ?_
      refine W.widen (k := 0) (n := 0) (Nat.le_of_ble_eq_true rfl) (Nat.le_of_ble_eq_true rfl) ?_
      exact W.zret (v := 0) hx hb hr rfl (fun t ht hW => ⟨⟨0, (), rfl, Or.inl rfl, congrArg Array.size ht⟩, hS.F ht⟩) hS.2.2 dX7_hasOp_81
    ·
      have ic_6 : ¬ p0.toInt = 0 := tx_ne rfl (by decide) c_6
      refine lv_iconst (v := 1) hx hb dX7_hasOp_76 (by decide) ?_
      refine lv_goto (tgt := 81) hx hb dX7_hasOp_77 (by decide) ?_
      refine W.widen (k := 0) (n := 0) (Nat.le_of_ble_eq_true rfl) (Nat.le_of_ble_eq_true rfl) ?_
      exact W.zret (v := 1) hx hb hr rfl (fun t ht hW => ⟨⟨1, (), rfl, Or.inr rfl, congrArg Array.size ht⟩, hS.F ht⟩) hS.2.2 dX7_hasOp_81
  have ic_5 : ¬ p1.toInt = 12 := tx_ne rfl (by decide) c_5
  by_cases c_7 : p1 = 13
  ·
    have ic_7 : p1.toInt = 13 := tx_eq rfl (by decide) c_7
    refine lv_tableIn (off := 71) (tgt := 72) hx hb dX7_hasOp_1 (by rw [c_7]; decide) (by rw [c_7]; decide) (by rw [c_7]; rfl) (by decide) ?_
    refine lv_iload_n hx hb dX7_hasOp_72 rfl (lv_at hl 0 rfl) ?_
    refine lv_if_eq (tgt := 80) hx hb dX7_hasOp_73 (by decide) (fun c_8 => ?_) (fun c_8 => ?_)
    ·
      have ic_8 : p0.toInt = 0 := tx_eq rfl (by decide) c_8
      refine lv_iconst (v := 0) hx hb dX7_hasOp_80 (by decide) ?_
      refine W.widen (k := 0) (n := 0) (Nat.le_of_ble_eq_true rfl) (Nat.le_of_ble_eq_true rfl) ?_
      exact W.zret (v := 0) hx hb hr rfl (fun t ht hW => ⟨⟨0, (), rfl, Or.inl rfl, congrArg Array.size ht⟩, hS.F ht⟩) hS.2.2 dX7_hasOp_81
    ·
      have ic_8 : ¬ p0.toInt = 0 := tx_ne rfl (by decide) c_8
      refine lv_iconst (v := 1) hx hb dX7_hasOp_76 (by decide) ?_
      refine lv_goto (tgt := 81) hx hb dX7_hasOp_77 (by decide) ?_
      refine W.widen (k := 0) (n := 0) (Nat.le_of_ble_eq_true rfl) (Nat.le_of_ble_eq_true rfl) ?_
      exact W.zret (v := 1) hx hb hr rfl (fun t ht hW => ⟨⟨1, (), rfl, Or.inr rfl, congrArg Array.size ht⟩, hS.F ht⟩) hS.2.2 dX7_hasOp_81
  have ic_7 : ¬ p1.toInt = 13 := tx_ne rfl (by decide) c_7
  by_cases c_9 : p1 = 14
  ·
    have ic_9 : p1.toInt = 14 := tx_eq rfl (by decide) c_9
    refine lv_tableIn (off := 81) (tgt := 82) hx hb dX7_hasOp_1 (by rw [c_9]; decide) (by rw [c_9]; decide) (by rw [c_9]; rfl) (by decide) ?_
    refine lv_iload_n hx hb dX7_hasOp_82 rfl (lv_at hl 0 rfl) ?_
    refine lv_iconst (v := 2) hx hb dX7_hasOp_83 (by decide) ?_
    refine lv_icmp_eq (tgt := 92) hx hb dX7_hasOp_84 (by decide) (fun c_10 => ?_) (fun c_10 => ?_)
    ·
      have ic_10 : p0.toInt = 2 := tx_eq rfl (by decide) c_10
      refine lv_iconst (v := 1) hx hb dX7_hasOp_92 (by decide) ?_
      refine lv_goto (tgt := 97) hx hb dX7_hasOp_93 (by decide) ?_
      refine W.widen (k := 0) (n := 0) (Nat.le_of_ble_eq_true rfl) (Nat.le_of_ble_eq_true rfl) ?_
      exact W.zret (v := 1) hx hb hr rfl (fun t ht hW => ⟨⟨1, (), rfl, Or.inr rfl, congrArg Array.size ht⟩, hS.F ht⟩) hS.2.2 dX7_hasOp_97
    ·
      have ic_10 : ¬ p0.toInt = 2 := tx_ne rfl (by decide) c_10
      refine lv_iload_n hx hb dX7_hasOp_87 rfl (lv_at hl 0 rfl) ?_
      refine lv_iconst (v := 3) hx hb dX7_hasOp_88 (by decide) ?_
      refine lv_icmp_ne (tgt := 96) hx hb dX7_hasOp_89 (by decide) (fun c_11 => ?_) (fun c_11 => ?_)
      ·
        have ic_11 : ¬ p0.toInt = 3 := tx_ne rfl (by decide) c_11
        refine lv_iconst (v := 0) hx hb dX7_hasOp_96 (by decide) ?_
        refine W.widen (k := 0) (n := 0) (Nat.le_of_ble_eq_true rfl) (Nat.le_of_ble_eq_true rfl) ?_
        exact W.zret (v := 0) hx hb hr rfl (fun t ht hW => ⟨⟨0, (), rfl, Or.inl rfl, congrArg Array.size ht⟩, hS.F ht⟩) hS.2.2 dX7_hasOp_97
      ·
        have ic_11 : p0.toInt = 3 := tx_eq rfl (by decide) c_11
        refine lv_iconst (v := 1) hx hb dX7_hasOp_92 (by decide) ?_
        refine lv_goto (tgt := 97) hx hb dX7_hasOp_93 (by decide) ?_
        refine W.widen (k := 0) (n := 0) (Nat.le_of_ble_eq_true rfl) (Nat.le_of_ble_eq_true rfl) ?_
        exact W.zret (v := 1) hx hb hr rfl (fun t ht hW => ⟨⟨1, (), rfl, Or.inr rfl, congrArg Array.size ht⟩, hS.F ht⟩) hS.2.2 dX7_hasOp_97
  have ic_9 : ¬ p1.toInt = 14 := tx_ne rfl (by decide) c_9
  by_cases c_12 : p1 = 15
  ·
    have ic_12 : p1.toInt = 15 := tx_eq rfl (by decide) c_12
    refine lv_tableIn (off := 81) (tgt := 82) hx hb dX7_hasOp_1 (by rw [c_12]; decide) (by rw [c_12]; decide) (by rw [c_12]; rfl) (by decide) ?_
    refine lv_iload_n hx hb dX7_hasOp_82 rfl (lv_at hl 0 rfl) ?_
    refine lv_iconst (v := 2) hx hb dX7_hasOp_83 (by decide) ?_
    refine lv_icmp_eq (tgt := 92) hx hb dX7_hasOp_84 (by decide) (fun c_13 => ?_) (fun c_13 => ?_)
    ·
      have ic_13 : p0.toInt = 2 := tx_eq rfl (by decide) c_13
      refine lv_iconst (v := 1) hx hb dX7_hasOp_92 (by decide) ?_
      refine lv_goto (tgt := 97) hx hb dX7_hasOp_93 (by decide) ?_
      refine W.widen (k := 0) (n := 0) (Nat.le_of_ble_eq_true rfl) (Nat.le_of_ble_eq_true rfl) ?_
      exact W.zret (v := 1) hx hb hr rfl (fun t ht hW => ⟨⟨1, (), rfl, Or.inr rfl, congrArg Array.size ht⟩, hS.F ht⟩) hS.2.2 dX7_hasOp_97
    ·
      have ic_13 : ¬ p0.toInt = 2 := tx_ne rfl (by decide) c_13
      refine lv_iload_n hx hb dX7_hasOp_87 rfl (lv_at hl 0 rfl) ?_
      refine lv_iconst (v := 3) hx hb dX7_hasOp_88 (by decide) ?_
      refine lv_icmp_ne (tgt := 96) hx hb dX7_hasOp_89 (by decide) (fun c_14 => ?_) (fun c_14 => ?_)
      ·
        have ic_14 : ¬ p0.toInt = 3 := tx_ne rfl (by decide) c_14
        refine lv_iconst (v := 0) hx hb dX7_hasOp_96 (by decide) ?_
        refine W.widen (k := 0) (n := 0) (Nat.le_of_ble_eq_true rfl) (Nat.le_of_ble_eq_true rfl) ?_
        exact W.zret (v := 0) hx hb hr rfl (fun t ht hW => ⟨⟨0, (), rfl, Or.inl rfl, congrArg Array.size ht⟩, hS.F ht⟩) hS.2.2 dX7_hasOp_97
      ·
        have ic_14 : p0.toInt = 3 := tx_eq rfl (by decide) c_14
        refine lv_iconst (v := 1) hx hb dX7_hasOp_92 (by decide) ?_
        refine lv_goto (tgt := 97) hx hb dX7_hasOp_93 (by decide) ?_
        refine W.widen (k := 0) (n := 0) (Nat.le_of_ble_eq_true rfl) (Nat.le_of_ble_eq_true rfl) ?_
        exact W.zret (v := 1) hx hb hr rfl (fun t ht hW => ⟨⟨1, (), rfl, Or.inr rfl, congrArg Array.size ht⟩, hS.F ht⟩) hS.2.2 dX7_hasOp_97
  have ic_12 : ¬ p1.toInt = 15 := tx_ne rfl (by decide) c_12
  by_cases c_15 : p1 = 16
  ·
    have ic_15 : p1.toInt = 16 := tx_eq rfl (by decide) c_15
    refine lv_tableIn (off := 81) (tgt := 82) hx hb dX7_hasOp_1 (by rw [c_15]; decide) (by rw [c_15]; decide) (by rw [c_15]; rfl) (by decide) ?_
    refine lv_iload_n hx hb dX7_hasOp_82 rfl (lv_at hl 0 rfl) ?_
    refine lv_iconst (v := 2) hx hb dX7_hasOp_83 (by decide) ?_
    refine lv_icmp_eq (tgt := 92) hx hb dX7_hasOp_84 (by decide) (fun c_16 => ?_) (fun c_16 => ?_)
    ·
      have ic_16 : p0.toInt = 2 := tx_eq rfl (by decide) c_16
      refine lv_iconst (v := 1) hx hb dX7_hasOp_92 (by decide) ?_
      refine lv_goto (tgt := 97) hx hb dX7_hasOp_93 (by decide) ?_
      refine W.widen (k := 0) (n := 0) (Nat.le_of_ble_eq_true rfl) (Nat.le_of_ble_eq_true rfl) ?_
      exact W.zret (v := 1) hx hb hr rfl (fun t ht hW => ⟨⟨1, (), rfl, Or.inr rfl, congrArg Array.size ht⟩, hS.F ht⟩) hS.2.2 dX7_hasOp_97
    ·
      have ic_16 : ¬ p0.toInt = 2 := tx_ne rfl (by decide) c_16
      refine lv_iload_n hx hb dX7_hasOp_87 rfl (lv_at hl 0 rfl) ?_
      refine lv_iconst (v := 3) hx hb dX7_hasOp_88 (by decide) ?_
      refine lv_icmp_ne (tgt := 96) hx hb dX7_hasOp_89 (by decide) (fun c_17 => ?_) (fun c_17 => ?_)
      ·
        have ic_17 : ¬ p0.toInt = 3 := tx_ne rfl (by decide) c_17
        refine lv_iconst (v := 0) hx hb dX7_hasOp_96 (by decide) ?_
        refine W.widen (k := 0) (n := 0) (Nat.le_of_ble_eq_true rfl) (Nat.le_of_ble_eq_true rfl) ?_
        exact W.zret (v := 0) hx hb hr rfl (fun t ht hW => ⟨⟨0, (), rfl, Or.inl rfl, congrArg Array.size ht⟩, hS.F ht⟩) hS.2.2 dX7_hasOp_97
      ·
        have ic_17 : p0.toInt = 3 := tx_eq rfl (by decide) c_17
        refine lv_iconst (v := 1) hx hb dX7_hasOp_92 (by decide) ?_
        refine lv_goto (tgt := 97) hx hb dX7_hasOp_93 (by decide) ?_
        refine W.widen (k := 0) (n := 0) (Nat.le_of_ble_eq_true rfl) (Nat.le_of_ble_eq_true rfl) ?_
        exact W.zret (v := 1) hx hb hr rfl (fun t ht hW => ⟨⟨1, (), rfl, Or.inr rfl, congrArg Array.size ht⟩, hS.F ht⟩) hS.2.2 dX7_hasOp_97
  have ic_15 : ¬ p1.toInt = 16 := tx_ne rfl (by decide) c_15
  by_cases c_18 : p1 = 17
  ·
    have ic_18 : p1.toInt = 17 := tx_eq rfl (by decide) c_18
    refine lv_tableIn (off := 81) (tgt := 82) hx hb dX7_hasOp_1 (by rw [c_18]; decide) (by rw [c_18]; decide) (by rw [c_18]; rfl) (by decide) ?_
    refine lv_iload_n hx hb dX7_hasOp_82 rfl (lv_at hl 0 rfl) ?_
    refine lv_iconst (v := 2) hx hb dX7_hasOp_83 (by decide) ?_
    refine lv_icmp_eq (tgt := 92) hx hb dX7_hasOp_84 (by decide) (fun c_19 => ?_) (fun c_19 => ?_)
    ·
      have ic_19 : p0.toInt = 2 := tx_eq rfl (by decide) c_19
      refine lv_iconst (v := 1) hx hb dX7_hasOp_92 (by decide) ?_
      refine lv_goto (tgt := 97) hx hb dX7_hasOp_93 (by decide) ?_
      refine W.widen (k := 0) (n := 0) (Nat.le_of_ble_eq_true rfl) (Nat.le_of_ble_eq_true rfl) ?_
      exact W.zret (v := 1) hx hb hr rfl (fun t ht hW => ⟨⟨1, (), rfl, Or.inr rfl, congrArg Array.size ht⟩, hS.F ht⟩) hS.2.2 dX7_hasOp_97
    ·
      have ic_19 : ¬ p0.toInt = 2 := tx_ne rfl (by decide) c_19
      refine lv_iload_n hx hb dX7_hasOp_87 rfl (lv_at hl 0 rfl) ?_
      refine lv_iconst (v := 3) hx hb dX7_hasOp_88 (by decide) ?_
      refine lv_icmp_ne (tgt := 96) hx hb dX7_hasOp_89 (by decide) (fun c_20 => ?_) (fun c_20 => ?_)
      ·
        have ic_20 : ¬ p0.toInt = 3 := tx_ne rfl (by decide) c_20
        refine lv_iconst (v := 0) hx hb dX7_hasOp_96 (by decide) ?_
        refine W.widen (k := 0) (n := 0) (Nat.le_of_ble_eq_true rfl) (Nat.le_of_ble_eq_true rfl) ?_
        exact W.zret (v := 0) hx hb hr rfl (fun t ht hW => ⟨⟨0, (), rfl, Or.inl rfl, congrArg Array.size ht⟩, hS.F ht⟩) hS.2.2 dX7_hasOp_97
      ·
        have ic_20 : p0.toInt = 3 := tx_eq rfl (by decide) c_20
        refine lv_iconst (v := 1) hx hb dX7_hasOp_92 (by decide) ?_
        refine lv_goto (tgt := 97) hx hb dX7_hasOp_93 (by decide) ?_
        refine W.widen (k := 0) (n := 0) (Nat.le_of_ble_eq_true rfl) (Nat.le_of_ble_eq_true rfl) ?_
        exact W.zret (v := 1) hx hb hr rfl (fun t ht hW => ⟨⟨1, (), rfl, Or.inr rfl, congrArg Array.size ht⟩, hS.F ht⟩) hS.2.2 dX7_hasOp_97
  have ic_18 : ¬ p1.toInt = 17 := tx_ne rfl (by decide) c_18
  by_cases c_21 : p1 = 18
  ·
    have ic_21 : p1.toInt = 18 := tx_eq rfl (by decide) c_21
    refine lv_tableIn (off := 107) (tgt := 108) hx hb dX7_hasOp_1 (by rw [c_21]; decide) (by rw [c_21]; decide) (by rw [c_21]; rfl) (by decide) ?_
    refine lv_iconst (v := 1) hx hb dX7_hasOp_108 (by decide) ?_
    refine W.widen (k := 0) (n := 0) (Nat.le_of_ble_eq_true rfl) (Nat.le_of_ble_eq_true rfl) ?_
    exact W.zret (v := 1) hx hb hr rfl (fun t ht hW => ⟨⟨1, (), rfl, Or.inr rfl, congrArg Array.size ht⟩, hS.F ht⟩) hS.2.2 dX7_hasOp_109
  have ic_21 : ¬ p1.toInt = 18 := tx_ne rfl (by decide) c_21
  by_cases c_22 : p1 = 19
  ·
    have ic_22 : p1.toInt = 19 := tx_eq rfl (by decide) c_22
    refine lv_tableIn (off := 107) (tgt := 108) hx hb dX7_hasOp_1 (by rw [c_22]; decide) (by rw [c_22]; decide) (by rw [c_22]; rfl) (by decide) ?_
    refine lv_iconst (v := 1) hx hb dX7_hasOp_108 (by decide) ?_
    refine W.widen (k := 0) (n := 0) (Nat.le_of_ble_eq_true rfl) (Nat.le_of_ble_eq_true rfl) ?_
    exact W.zret (v := 1) hx hb hr rfl (fun t ht hW => ⟨⟨1, (), rfl, Or.inr rfl, congrArg Array.size ht⟩, hS.F ht⟩) hS.2.2 dX7_hasOp_109
  have ic_22 : ¬ p1.toInt = 19 := tx_ne rfl (by decide) c_22
  by_cases c_23 : p1 = 20
  ·
    have ic_23 : p1.toInt = 20 := tx_eq rfl (by decide) c_23
    refine lv_tableIn (off := 107) (tgt := 108) hx hb dX7_hasOp_1 (by rw [c_23]; decide) (by rw [c_23]; decide) (by rw [c_23]; rfl) (by decide) ?_
    refine lv_iconst (v := 1) hx hb dX7_hasOp_108 (by decide) ?_
    refine W.widen (k := 0) (n := 0) (Nat.le_of_ble_eq_true rfl) (Nat.le_of_ble_eq_true rfl) ?_
    exact W.zret (v := 1) hx hb hr rfl (fun t ht hW => ⟨⟨1, (), rfl, Or.inr rfl, congrArg Array.size ht⟩, hS.F ht⟩) hS.2.2 dX7_hasOp_109
  have ic_23 : ¬ p1.toInt = 20 := tx_ne rfl (by decide) c_23
  by_cases c_24 : p1 = 21
  ·
    have ic_24 : p1.toInt = 21 := tx_eq rfl (by decide) c_24
    refine lv_tableIn (off := 97) (tgt := 98) hx hb dX7_hasOp_1 (by rw [c_24]; decide) (by rw [c_24]; decide) (by rw [c_24]; rfl) (by decide) ?_
    refine lv_iload_n hx hb dX7_hasOp_98 rfl (lv_at hl 0 rfl) ?_
    refine lv_if_ne (tgt := 106) hx hb dX7_hasOp_99 (by decide) (fun c_25 => ?_) (fun c_25 => ?_)
    ·
      have ic_25 : ¬ p0.toInt = 0 := tx_ne rfl (by decide) c_25
      refine lv_iconst (v := 0) hx hb dX7_hasOp_106 (by decide) ?_
      refine W.widen (k := 0) (n := 0) (Nat.le_of_ble_eq_true rfl) (Nat.le_of_ble_eq_true rfl) ?_
      exact W.zret (v := 0) hx hb hr rfl (fun t ht hW => ⟨⟨0, (), rfl, Or.inl rfl, congrArg Array.size ht⟩, hS.F ht⟩) hS.2.2 dX7_hasOp_107
    ·
      have ic_25 : p0.toInt = 0 := tx_eq rfl (by decide) c_25
      refine lv_iconst (v := 1) hx hb dX7_hasOp_102 (by decide) ?_
      refine lv_goto (tgt := 107) hx hb dX7_hasOp_103 (by decide) ?_
      refine W.widen (k := 0) (n := 0) (Nat.le_of_ble_eq_true rfl) (Nat.le_of_ble_eq_true rfl) ?_
      exact W.zret (v := 1) hx hb hr rfl (fun t ht hW => ⟨⟨1, (), rfl, Or.inr rfl, congrArg Array.size ht⟩, hS.F ht⟩) hS.2.2 dX7_hasOp_107
  have ic_24 : ¬ p1.toInt = 21 := tx_ne rfl (by decide) c_24
  by_cases c_26 : p1 = 22
  ·
    have ic_26 : p1.toInt = 22 := tx_eq rfl (by decide) c_26
    refine lv_tableIn (off := 97) (tgt := 98) hx hb dX7_hasOp_1 (by rw [c_26]; decide) (by rw [c_26]; decide) (by rw [c_26]; rfl) (by decide) ?_
    refine lv_iload_n hx hb dX7_hasOp_98 rfl (lv_at hl 0 rfl) ?_
    refine lv_if_ne (tgt := 106) hx hb dX7_hasOp_99 (by decide) (fun c_27 => ?_) (fun c_27 => ?_)
    ·
      have ic_27 : ¬ p0.toInt = 0 := tx_ne rfl (by decide) c_27
      refine lv_iconst (v := 0) hx hb dX7_hasOp_106 (by decide) ?_
      refine W.widen (k := 0) (n := 0) (Nat.le_of_ble_eq_true rfl) (Nat.le_of_ble_eq_true rfl) ?_
      exact W.zret (v := 0) hx hb hr rfl (fun t ht hW => ⟨⟨0, (), rfl, Or.inl rfl, congrArg Array.size ht⟩, hS.F ht⟩) hS.2.2 dX7_hasOp_107
    ·
      have ic_27 : p0.toInt = 0 := tx_eq rfl (by decide) c_27
      refine lv_iconst (v := 1) hx hb dX7_hasOp_102 (by decide) ?_
      refine lv_goto (tgt := 107) hx hb dX7_hasOp_103 (by decide) ?_
      refine W.widen (k := 0) (n := 0) (Nat.le_of_ble_eq_true rfl) (Nat.le_of_ble_eq_true rfl) ?_
      exact W.zret (v := 1) hx hb hr rfl (fun t ht hW => ⟨⟨1, (), rfl, Or.inr rfl, congrArg Array.size ht⟩, hS.F ht⟩) hS.2.2 dX7_hasOp_107
  have ic_26 : ¬ p1.toInt = 22 := tx_ne rfl (by decide) c_26
  by_cases c_28 : p1 = 23
  ·
    have ic_28 : p1.toInt = 23 := tx_eq rfl (by decide) c_28
    refine lv_tableIn (off := 81) (tgt := 82) hx hb dX7_hasOp_1 (by rw [c_28]; decide) (by rw [c_28]; decide) (by rw [c_28]; rfl) (by decide) ?_
    refine lv_iload_n hx hb dX7_hasOp_82 rfl (lv_at hl 0 rfl) ?_
    refine lv_iconst (v := 2) hx hb dX7_hasOp_83 (by decide) ?_
    refine lv_icmp_eq (tgt := 92) hx hb dX7_hasOp_84 (by decide) (fun c_29 => ?_) (fun c_29 => ?_)
    ·
      have ic_29 : p0.toInt = 2 := tx_eq rfl (by decide) c_29
      refine lv_iconst (v := 1) hx hb dX7_hasOp_92 (by decide) ?_
      refine lv_goto (tgt := 97) hx hb dX7_hasOp_93 (by decide) ?_
      refine W.widen (k := 0) (n := 0) (Nat.le_of_ble_eq_true rfl) (Nat.le_of_ble_eq_true rfl) ?_
      exact W.zret (v := 1) hx hb hr rfl (fun t ht hW => ⟨⟨1, (), rfl, Or.inr rfl, congrArg Array.size ht⟩, hS.F ht⟩) hS.2.2 dX7_hasOp_97
    ·
      have ic_29 : ¬ p0.toInt = 2 := tx_ne rfl (by decide) c_29
      refine lv_iload_n hx hb dX7_hasOp_87 rfl (lv_at hl 0 rfl) ?_
      refine lv_iconst (v := 3) hx hb dX7_hasOp_88 (by decide) ?_
      refine lv_icmp_ne (tgt := 96) hx hb dX7_hasOp_89 (by decide) (fun c_30 => ?_) (fun c_30 => ?_)
      ·
        have ic_30 : ¬ p0.toInt = 3 := tx_ne rfl (by decide) c_30
        refine lv_iconst (v := 0) hx hb dX7_hasOp_96 (by decide) ?_
        refine W.widen (k := 0) (n := 0) (Nat.le_of_ble_eq_true rfl) (Nat.le_of_ble_eq_true rfl) ?_
        exact W.zret (v := 0) hx hb hr rfl (fun t ht hW => ⟨⟨0, (), rfl, Or.inl rfl, congrArg Array.size ht⟩, hS.F ht⟩) hS.2.2 dX7_hasOp_97
      ·
        have ic_30 : p0.toInt = 3 := tx_eq rfl (by decide) c_30
        refine lv_iconst (v := 1) hx hb dX7_hasOp_92 (by decide) ?_
        refine lv_goto (tgt := 97) hx hb dX7_hasOp_93 (by decide) ?_
        refine W.widen (k := 0) (n := 0) (Nat.le_of_ble_eq_true rfl) (Nat.le_of_ble_eq_true rfl) ?_
        exact W.zret (v := 1) hx hb hr rfl (fun t ht hW => ⟨⟨1, (), rfl, Or.inr rfl, congrArg Array.size ht⟩, hS.F ht⟩) hS.2.2 dX7_hasOp_97
  have ic_28 : ¬ p1.toInt = 23 := tx_ne rfl (by decide) c_28
  refine lv_tableOut (tgt := 108) hx hb dX7_hasOp_1 (by omega) (by decide) ?_
  refine lv_iconst (v := 1) hx hb dX7_hasOp_108 (by decide) ?_
  refine W.widen (k := 0) (n := 0) (Nat.le_of_ble_eq_true rfl) (Nat.le_of_ble_eq_true rfl) ?_
  exact W.zret (v := 1) hx hb hr rfl (fun t ht hW => ⟨⟨1, (), rfl, Or.inr rfl, congrArg Array.size ht⟩, hS.F ht⟩) hS.2.2 dX7_hasOp_109
