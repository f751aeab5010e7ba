set_option maxHeartbeats 4000000 in
set_option maxRecDepth 100000 in
/-- a new atlas -/
theorem c_X7_init (l : Launch) (hlt : l.stackTraces = false) (dC : Nat → ClassId) (dI : Nat → Nat → Nat) (sz : Nat) (h0 : Nat) : Met l yX7_init wsX7_init ({ frames := 1, cells := 1, slots := 16, locals := 16 }) (va_Pc [.ref h0] (pk_PreX (dC, dI) [(h0, .inr (7, [.null]))] [] sz)) (va_Qv (fun (_ : Unit) => True) (fun (_ : Unit) (t : State) => ∃ (qb : Nat) (cb : ClassId), va_P (dC, dI) vwCl [(h0, .inr (7, [.ref qb])), (qb, .inl (cb, 16, .inr (.inr (.inr (.inr (fun _ => none))))))] t.heap ∧ va_K (dC, dI) vwCl [(cb, .object "KeyAtlas$Body")] t ∧ va_D (va_A [(h0, .inr (7, [.null]))] sz) [(h0, .inr (7, [.ref qb])), (qb, .inl (cb, 16, .inr (.inr (.inr (.inr (fun _ => none))))))]) (va_A [(h0, .inr (7, [.null]))] sz)) 1 16 (va_A [(h0, .inr (7, [.null]))] sz) := by
  refine Met.ofW (cc := cX7_init) (maxL := 1) (ret := none) (by decide) rfl ?_
  intro p e s m args below meth c s₁ B hml hv
  obtain ⟨rfl, hsz, hP, hK, hD0, hN, hZ⟩ := hv
  have hx := B.exec
  have hb := B.bytes
  have hr := B.returns
  have hts := atoms_spec (ws := wsX7_init) B.pre
  have hown : s.vm.findClass RX7 = some m.cls := findClass_of_methodNamed B.named
  have hlocks := B.notSynchronized
  have hin : meth.name = "<init>" := (name_of_methodNamed B.named B.method).1
  subst hsz
  have hD := hD0.self (sz := s.heap.size)
  generalize hAe : va_A [(h0, .inr (7, [.null]))] s.heap.size = A at hZ hD ⊢
  have hA : ∀ q : Nat, s.heap.size ≤ q → A q := fun q h => by rw [← hAe]; exact Or.inr h
  have hS : va_S A s.heap s.heap [] := va_S.rf
  have hP : va_P (dC, dI) vwCl [(h0, .inr (7, [.null]))] s.heap := hP
  have hl := lv_entry ([.ref h0]) (n := 1) (Nat.le_of_ble_eq_true rfl)
  rw [lg_entry_eq]
  generalize (lg_sl ([.ref h0]) ++ List.replicate (1 - (lg_sl ([.ref h0])).length) Slot.unset).toArray = ls at hl ⊢
  have hl : lv_has ls 1 [(0, .ref h0)] := hl
  refine lv_aload_n hx hb dX7_init_0 rfl (lv_at hl 0 rfl) ?_
  refine W.objInit hx hb hown (hts (.methodLink RX7 1 objectInit) (by decide +kernel)) (hts (.instanceMethod objectInit) (by decide +kernel)) (hts _ (List.mem_cons_of_mem _ (List.mem_append_left _ (List.mem_of_getElem? (i := 2) rfl)))) rfl (by rw [hml]; exact hl.1) rfl dX7_init_1 (Nat.le_of_ble_eq_true rfl) (Nat.le_of_ble_eq_true rfl) ?_
  refine W.eq (g2 := F0 m 4 ls []) rfl ?_
  refine lv_aload_n hx hb dX7_init_4 rfl (lv_at hl 0 rfl) ?_
  refine lv_bipush (v := 16) hx hb dX7_init_5 (by decide) ?_
  refine va_newq (C := "KeyAtlas$Body") (n := 16) (N' := 16) hx hb hown (hts (.classLink RX7 9 "KeyAtlas$Body") (by decide +kernel)) hN.ao hK hP hD hS hA (by decide) (by decide) (by decide) (Nat.le_of_ble_eq_true rfl) (Nat.le_of_ble_eq_true rfl) dX7_init_7 (fun q_1 cA_2 H hK hP hD hS => ?_)
  have hK : va_K (dC, dI) vwCl [(cA_2, .object "KeyAtlas$Body")] s := hK
  have hP : va_P (dC, dI) vwCl [(h0, .inr (7, [.null])), (q_1, .inl (cA_2, 16, .inr (.inr (.inr (.inr (fun _ => none))))))] H := hP
  have hD : va_D A [(h0, .inr (7, [.null])), (q_1, .inl (cA_2, 16, .inr (.inr (.inr (.inr (fun _ => none))))))] := hD
  refine W.widen (k := 1) (n := 16) (Nat.le_of_ble_eq_true rfl) (Nat.le_of_ble_eq_true rfl) ?_
  refine va_putF (D := (dC, dI)) (ci := 7) (v := .ref q_1) (ty := .array (.object "KeyAtlas$Body")) (C := RX7) (T := TX7) (N := 1) hx hb hts (by decide +kernel) tyX7 tyX7_ok nmX7 hown hK hP hD hS 0 rfl rfl 0 (by decide) (hts (.fieldLink RX7 11 "KeyAtlas" "bodies" "[LKeyAtlas$Body;") (by decide +kernel)) (fun _ h9 => h9) rfl hin rfl (by decide +kernel) rfl rfl (Nat.le_of_ble_eq_true rfl) dX7_init_10 (fun H locs hP hD hS => ?_)
  have hP : va_P (dC, dI) vwCl [(h0, .inr (7, [.ref q_1])), (q_1, .inl (cA_2, 16, .inr (.inr (.inr (.inr (fun _ => none))))))] H := hP
  have hD : va_D A [(h0, .inr (7, [.ref q_1])), (q_1, .inl (cA_2, 16, .inr (.inr (.inr (.inr (fun _ => none))))))] := hD
  have hP9 := hP.sub (ws' := [(h0, .inr (7, [.ref q_1])), (q_1, .inl (cA_2, 16, .inr (.inr (.inr (.inr (fun _ => none))))))]) [0, 1] rfl
  have hD9 := hD.sub (ws' := [(h0, .inr (7, [.ref q_1])), (q_1, .inl (cA_2, 16, .inr (.inr (.inr (.inr (fun _ => none))))))]) [0, 1] (by decide) rfl
  have hK9 := hK.sub (tys' := [(cA_2, .object "KeyAtlas$Body")]) [0] rfl
  refine W.widen (k := 1) (n := 16) (Nat.le_of_ble_eq_true rfl) (Nat.le_of_ble_eq_true rfl) ?_
  exact W.vret hx hb hr (fun t ht hW => ⟨⟨(), rfl, trivial, q_1, cA_2, by rw [ht]; exact hP9, va_K.moved hW.alike hK9, hD9⟩, hS.F ht⟩) hS.2.2 dX7_init_13
set_option maxHeartbeats 4000000 in
set_option maxRecDepth 100000 in
/-- a and b in their ranges -/
theorem c_X7_areInRange (l : Launch) (dC : Nat → ClassId) (dI : Nat → Nat → Nat) (sz : Nat) (p0 : Int32) (p1 : Int32) (p2 : Int32) : Met l yX7_areInRange wsX7_areInRange ({ frames := 0, cells := 0, slots := 0, locals := 0 }) (va_Pc [.int p0, .int p1, .int p2] (pk_Pre (dC, dI) [] [] sz)) (va_Qi (fun (r : Int32) (_ : Unit) => (r.toInt = 1 ∧ mkRng p0 p1 p2) ∨ (r.toInt = 0 ∧ ¬ mkRng p0 p1 p2)) (fun (_ : Unit) (_ : State) => True) (va_A [] sz)) 0 0 (va_A [] sz) := by
  refine Met.ofW (cc := cX7_areInRange) (maxL := 3) (ret := (some .boolean)) (by decide) rfl ?_
  intro p e s m args below meth c s₁ B hml hv
  obtain ⟨rfl, hsz, hP, hK, hD0⟩ := hv
  have hx := B.exec
  have hb := B.bytes
  have hr := B.returns
  have hts := atoms_spec (ws := wsX7_areInRange) B.pre
  have hown : s.vm.findClass RX7 = some m.cls := findClass_of_methodNamed B.named
  have hlocks := B.notSynchronized
  subst hsz
  have hD := hD0.self (sz := s.heap.size)
  generalize hAe : va_A [] s.heap.size = A at hD ⊢
  have hA : ∀ q : Nat, s.heap.size ≤ q → A q := fun q h => by rw [← hAe]; exact Or.inr h
  have hS : va_S A s.heap s.heap [] := va_S.rf
  have hP : va_P (dC, dI) vwCl [] s.heap := hP
  have hl := lv_entry ([.int p0, .int p1, .int p2]) (n := 3) (Nat.le_of_ble_eq_true rfl)
  rw [lg_entry_eq]
  generalize (lg_sl ([.int p0, .int p1, .int p2]) ++ List.replicate (3 - (lg_sl ([.int p0, .int p1, .int p2])).length) Slot.unset).toArray = ls at hl ⊢
  have hl : lv_has ls 3 [(0, .int p0), (1, .int p1), (2, .int p2)] := hl
  refine lv_iload_n hx hb dX7_areInRange_0 rfl (lv_at hl 0 rfl) ?_
  by_cases c_1 : p0 = 0
  ·
    have ic_1 : p0.toInt = 0 := tx_eq rfl (by decide) c_1
    refine lv_lookup (off := 27) (tgt := 28) hx hb dX7_areInRange_1 (by decide) (by rw [c_1]; rfl) (by decide) ?_
    refine lv_iload_n hx hb dX7_areInRange_28 rfl (lv_at hl 1 rfl) ?_
    refine lv_if_lt (tgt := 52) hx hb dX7_areInRange_29 (by decide) (fun c_2 => ?_) (fun c_2 => ?_)
    ·
      have ic_2 : p1.toInt < 0 := tx_lt rfl (by decide) c_2
      refine lv_iconst (v := 0) hx hb dX7_areInRange_52 (by decide) ?_
      refine W.widen (k := 0) (n := 0) (Nat.le_of_ble_eq_true rfl) (Nat.le_of_ble_eq_true rfl) ?_
      exact W.zret (v := 0) hx hb hr rfl (fun t ht hW => ⟨⟨0, (), rfl, Or.inr ⟨by decide, by unfold mkRng; omega⟩, trivial⟩, hS.F ht⟩) hS.2.2 dX7_areInRange_53
    ·
      have ic_2 : 0 ≤ p1.toInt := tx_nlt rfl (by decide) c_2
      refine lv_iload_n hx hb dX7_areInRange_32 rfl (lv_at hl 1 rfl) ?_
      refine lv_sipush (v := 1000) hx hb dX7_areInRange_33 (by decide) ?_
      refine lv_icmp_gt (tgt := 52) hx hb dX7_areInRange_36 (by decide) (fun c_3 => ?_) (fun c_3 => ?_)
      ·
        have ic_3 : 1000 < p1.toInt := tx_lt (by decide) rfl c_3
        refine lv_iconst (v := 0) hx hb dX7_areInRange_52 (by decide) ?_
        refine W.widen (k := 0) (n := 0) (Nat.le_of_ble_eq_true rfl) (Nat.le_of_ble_eq_true rfl) ?_
        exact W.zret (v := 0) hx hb hr rfl (fun t ht hW => ⟨⟨0, (), rfl, Or.inr ⟨by decide, by unfold mkRng; omega⟩, trivial⟩, hS.F ht⟩) hS.2.2 dX7_areInRange_53
      ·
        have ic_3 : p1.toInt ≤ 1000 := tx_nlt (by decide) rfl c_3
        refine lv_iload_n hx hb dX7_areInRange_39 rfl (lv_at hl 2 rfl) ?_
        refine lv_if_lt (tgt := 52) hx hb dX7_areInRange_40 (by decide) (fun c_4 => ?_) (fun c_4 => ?_)
        ·
          have ic_4 : p2.toInt < 0 := tx_lt rfl (by decide) c_4
          refine lv_iconst (v := 0) hx hb dX7_areInRange_52 (by decide) ?_
          refine W.widen (k := 0) (n := 0) (Nat.le_of_ble_eq_true rfl) (Nat.le_of_ble_eq_true rfl) ?_
          exact W.zret (v := 0) hx hb hr rfl (fun t ht hW => ⟨⟨0, (), rfl, Or.inr ⟨by decide, by unfold mkRng; omega⟩, trivial⟩, hS.F ht⟩) hS.2.2 dX7_areInRange_53
        ·
          have ic_4 : 0 ≤ p2.toInt := tx_nlt rfl (by decide) c_4
          refine lv_iload_n hx hb dX7_areInRange_43 rfl (lv_at hl 2 rfl) ?_
          refine lv_iconst (v := 3) hx hb dX7_areInRange_44 (by decide) ?_
          refine lv_icmp_gt (tgt := 52) hx hb dX7_areInRange_45 (by decide) (fun c_5 => ?_) (fun c_5 => ?_)
          ·
            have ic_5 : 3 < p2.toInt := tx_lt (by decide) rfl c_5
            refine lv_iconst (v := 0) hx hb dX7_areInRange_52 (by decide) ?_
            refine W.widen (k := 0) (n := 0) (Nat.le_of_ble_eq_true rfl) (Nat.le_of_ble_eq_true rfl) ?_
            exact W.zret (v := 0) hx hb hr rfl (fun t ht hW => ⟨⟨0, (), rfl, Or.inr ⟨by decide, by unfold mkRng; omega⟩, trivial⟩, hS.F ht⟩) hS.2.2 dX7_areInRange_53
          ·
            have ic_5 : p2.toInt ≤ 3 := tx_nlt (by decide) rfl c_5
            refine lv_iconst (v := 1) hx hb dX7_areInRange_48 (by decide) ?_
            refine lv_goto (tgt := 53) hx hb dX7_areInRange_49 (by decide) ?_
            refine W.widen (k := 0) (n := 0) (Nat.le_of_ble_eq_true rfl) (Nat.le_of_ble_eq_true rfl) ?_
            exact W.zret (v := 1) hx hb hr rfl (fun t ht hW => ⟨⟨1, (), rfl, Or.inl ⟨by decide, by unfold mkRng; omega⟩, trivial⟩, hS.F ht⟩) hS.2.2 dX7_areInRange_53
  have ic_1 : ¬ p0.toInt = 0 := tx_ne rfl (by decide) c_1
  by_cases c_6 : p0 = 1
  ·
    have ic_6 : p0.toInt = 1 := tx_eq rfl (by decide) c_6
    refine lv_lookup (off := 53) (tgt := 54) hx hb dX7_areInRange_1 (by decide) (by rw [c_6]; rfl) (by decide) ?_
    refine lv_iload_n hx hb dX7_areInRange_54 rfl (lv_at hl 1 rfl) ?_
    refine lv_if_lt (tgt := 78) hx hb dX7_areInRange_55 (by decide) (fun c_7 => ?_) (fun c_7 => ?_)
    ·
      have ic_7 : p1.toInt < 0 := tx_lt rfl (by decide) c_7
      refine lv_iconst (v := 0) hx hb dX7_areInRange_78 (by decide) ?_
      refine W.widen (k := 0) (n := 0) (Nat.le_of_ble_eq_true rfl) (Nat.le_of_ble_eq_true rfl) ?_
      exact W.zret (v := 0) hx hb hr rfl (fun t ht hW => ⟨⟨0, (), rfl, Or.inr ⟨by decide, by unfold mkRng; omega⟩, trivial⟩, hS.F ht⟩) hS.2.2 dX7_areInRange_79
    ·
      have ic_7 : 0 ≤ p1.toInt := tx_nlt rfl (by decide) c_7
      refine lv_iload_n hx hb dX7_areInRange_58 rfl (lv_at hl 1 rfl) ?_
      refine lv_sipush (v := 1000) hx hb dX7_areInRange_59 (by decide) ?_
      refine lv_icmp_gt (tgt := 78) hx hb dX7_areInRange_62 (by decide) (fun c_8 => ?_) (fun c_8 => ?_)
      ·
        have ic_8 : 1000 < p1.toInt := tx_lt (by decide) rfl c_8
        refine lv_iconst (v := 0) hx hb dX7_areInRange_78 (by decide) ?_
        refine W.widen (k := 0) (n := 0) (Nat.le_of_ble_eq_true rfl) (Nat.le_of_ble_eq_true rfl) ?_
        exact W.zret (v := 0) hx hb hr rfl (fun t ht hW => ⟨⟨0, (), rfl, Or.inr ⟨by decide, by unfold mkRng; omega⟩, trivial⟩, hS.F ht⟩) hS.2.2 dX7_areInRange_79
      ·
        have ic_8 : p1.toInt ≤ 1000 := tx_nlt (by decide) rfl c_8
        refine lv_iload_n hx hb dX7_areInRange_65 rfl (lv_at hl 2 rfl) ?_
        refine lv_if_lt (tgt := 78) hx hb dX7_areInRange_66 (by decide) (fun c_9 => ?_) (fun c_9 => ?_)
        ·
          have ic_9 : p2.toInt < 0 := tx_lt rfl (by decide) c_9
          refine lv_iconst (v := 0) hx hb dX7_areInRange_78 (by decide) ?_
          refine W.widen (k := 0) (n := 0) (Nat.le_of_ble_eq_true rfl) (Nat.le_of_ble_eq_true rfl) ?_
          exact W.zret (v := 0) hx hb hr rfl (fun t ht hW => ⟨⟨0, (), rfl, Or.inr ⟨by decide, by unfold mkRng; omega⟩, trivial⟩, hS.F ht⟩) hS.2.2 dX7_areInRange_79
        ·
          have ic_9 : 0 ≤ p2.toInt := tx_nlt rfl (by decide) c_9
          refine lv_iload_n hx hb dX7_areInRange_69 rfl (lv_at hl 2 rfl) ?_
          refine lv_iconst (v := 1) hx hb dX7_areInRange_70 (by decide) ?_
          refine lv_icmp_gt (tgt := 78) hx hb dX7_areInRange_71 (by decide) (fun c_10 => ?_) (fun c_10 => ?_)
          ·
            have ic_10 : 1 < p2.toInt := tx_lt (by decide) rfl c_10
            refine lv_iconst (v := 0) hx hb dX7_areInRange_78 (by decide) ?_
            refine W.widen (k := 0) (n := 0) (Nat.le_of_ble_eq_true rfl) (Nat.le_of_ble_eq_true rfl) ?_
            exact W.zret (v := 0) hx hb hr rfl (fun t ht hW => ⟨⟨0, (), rfl, Or.inr ⟨by decide, by unfold mkRng; omega⟩, trivial⟩, hS.F ht⟩) hS.2.2 dX7_areInRange_79
          ·
            have ic_10 : p2.toInt ≤ 1 := tx_nlt (by decide) rfl c_10
            refine lv_iconst (v := 1) hx hb dX7_areInRange_74 (by decide) ?_
            refine lv_goto (tgt := 79) hx hb dX7_areInRange_75 (by decide) ?_
            refine W.widen (k := 0) (n := 0) (Nat.le_of_ble_eq_true rfl) (Nat.le_of_ble_eq_true rfl) ?_
            exact W.zret (v := 1) hx hb hr rfl (fun t ht hW => ⟨⟨1, (), rfl, Or.inl ⟨by decide, by unfold mkRng; omega⟩, trivial⟩, hS.F ht⟩) hS.2.2 dX7_areInRange_79
  have ic_6 : ¬ p0.toInt = 1 := tx_ne rfl (by decide) c_6
  refine lv_lookup (off := 79) (tgt := 80) hx hb dX7_areInRange_1 (by decide) ((lv_osw c_1 (by decide)).trans ((lv_osw c_6 (by decide)).trans (rfl))) (by decide) ?_
  refine lv_iload_n hx hb dX7_areInRange_80 rfl (lv_at hl 1 rfl) ?_
  refine lv_if_lt (tgt := 93) hx hb dX7_areInRange_81 (by decide) (fun c_11 => ?_) (fun c_11 => ?_)
  ·
    have ic_11 : p1.toInt < 0 := tx_lt rfl (by decide) c_11
    refine lv_iconst (v := 0) hx hb dX7_areInRange_93 (by decide) ?_
    refine W.widen (k := 0) (n := 0) (Nat.le_of_ble_eq_true rfl) (Nat.le_of_ble_eq_true rfl) ?_
    exact W.zret (v := 0) hx hb hr rfl (fun t ht hW => ⟨⟨0, (), rfl, Or.inr ⟨by decide, by unfold mkRng; omega⟩, trivial⟩, hS.F ht⟩) hS.2.2 dX7_areInRange_94
  ·
    have ic_11 : 0 ≤ p1.toInt := tx_nlt rfl (by decide) c_11
    refine lv_iload_n hx hb dX7_areInRange_84 rfl (lv_at hl 1 rfl) ?_
    refine lv_iconst (v := 3) hx hb dX7_areInRange_85 (by decide) ?_
    refine lv_icmp_gt (tgt := 93) hx hb dX7_areInRange_86 (by decide) (fun c_12 => ?_) (fun c_12 => ?_)
    ·
      have ic_12 : 3 < p1.toInt := tx_lt (by decide) rfl c_12
      refine lv_iconst (v := 0) hx hb dX7_areInRange_93 (by decide) ?_
      refine W.widen (k := 0) (n := 0) (Nat.le_of_ble_eq_true rfl) (Nat.le_of_ble_eq_true rfl) ?_
      exact W.zret (v := 0) hx hb hr rfl (fun t ht hW => ⟨⟨0, (), rfl, Or.inr ⟨by decide, by unfold mkRng; omega⟩, trivial⟩, hS.F ht⟩) hS.2.2 dX7_areInRange_94
    ·
      have ic_12 : p1.toInt ≤ 3 := tx_nlt (by decide) rfl c_12
      refine lv_iconst (v := 1) hx hb dX7_areInRange_89 (by decide) ?_
      refine lv_goto (tgt := 94) hx hb dX7_areInRange_90 (by decide) ?_
      refine W.widen (k := 0) (n := 0) (Nat.le_of_ble_eq_true rfl) (Nat.le_of_ble_eq_true rfl) ?_
      exact W.zret (v := 1) hx hb hr rfl (fun t ht hW => ⟨⟨1, (), rfl, Or.inl ⟨by decide, by unfold mkRng; omega⟩, trivial⟩, hS.F ht⟩) hS.2.2 dX7_areInRange_94
set_option maxHeartbeats 4000000 in
set_option maxRecDepth 100000 in
/-- a new map of its kind -/
theorem c_X7_newMap (l : Launch) (hlt : l.stackTraces = false) (dC : Nat → ClassId) (dI : Nat → Nat → Nat) (sz : Nat) (p0 : Int32) (p1 : Int32) (p2 : Int32) : Met l yX7_newMap wsX7_newMap ({ frames := 4, cells := 5, slots := 43, locals := 90 }) (va_Pc [.int p0, .int p1, .int p2] (pk_PreX (dC, dI) [] [] sz)) (va_Qr (fun (u : Nat × List Value) => u.1 = 3 ∨ u.1 = 4 ∨ u.1 = 6) (fun (u : Nat × List Value) (a : Nat) (t : State) => va_P (dC, dI) vwCl [(a, .inr (u.1, u.2))] t.heap ∧ va_K (dC, dI) vwCl [] t ∧ va_D (va_A [] sz) [(a, .inr (u.1, u.2))]) (va_A [] sz)) 5 43 (va_A [] sz) := by
  refine Met.ofW (cc := cX7_newMap) (maxL := 3) (ret := (some (.object "KeyAtlas$Keyed"))) (by decide) rfl ?_
  intro p e s m args below meth c s₁ B hml hv
  obtain ⟨rfl, hsz, hP, hK, hD0, hN, hZ⟩ := hv
  have hx := B.exec
  have hb := B.bytes
  have hr := B.returns
  have hts := atoms_spec (ws := wsX7_newMap) B.pre
  have hown : s.vm.findClass RX7 = some m.cls := findClass_of_methodNamed B.named
  have hlocks := B.notSynchronized
  subst hsz
  have hD := hD0.self (sz := s.heap.size)
  generalize hAe : va_A [] s.heap.size = A at hZ hD ⊢
  have hA : ∀ q : Nat, s.heap.size ≤ q → A q := fun q h => by rw [← hAe]; exact Or.inr h
  have hS : va_S A s.heap s.heap [] := va_S.rf
  have hP : va_P (dC, dI) vwCl [] s.heap := hP
  have hl := lv_entry ([.int p0, .int p1, .int p2]) (n := 3) (Nat.le_of_ble_eq_true rfl)
  rw [lg_entry_eq]
  generalize (lg_sl ([.int p0, .int p1, .int p2]) ++ List.replicate (3 - (lg_sl ([.int p0, .int p1, .int p2])).length) Slot.unset).toArray = ls at hl ⊢
  have hl : lv_has ls 3 [(0, .int p0), (1, .int p1), (2, .int p2)] := hl
  refine lv_iload_n hx hb dX7_newMap_0 rfl (lv_at hl 0 rfl) ?_
  by_cases c_1 : p0 = 0
  ·
    have ic_1 : p0.toInt = 0 := tx_eq rfl (by decide) c_1
    refine lv_lookup (off := 27) (tgt := 28) hx hb dX7_newMap_1 (by decide) (by rw [c_1]; rfl) (by decide) ?_
    refine va_new (ci := 3) (fs := [.null, .int 0, .int 0, .int 0, .int 0, .int 0, .null]) (C := RX2) (T := TX2) (N := 7) hx hb hts (by decide +kernel) tyX2 tyX2_ok hown (hts (.classLink RX7 223 RX2) (by decide +kernel)) (hts (.instantiable RX2 7) (by decide +kernel)) (hts (.initialized RX2) (by decide +kernel)) hK hP hD hS hA rfl (by decide +kernel) (Nat.le_of_ble_eq_true rfl) (Nat.le_of_ble_eq_true rfl) dX7_newMap_28 (fun q_2 H hP hD hS => ?_)
    have hP : va_P (dC, dI) vwCl [(q_2, .inr (3, [.null, .int 0, .int 0, .int 0, .int 0, .int 0, .null]))] H := hP
    have hD : va_D A [(q_2, .inr (3, [.null, .int 0, .int 0, .int 0, .int 0, .int 0, .null]))] := hD
    refine W.widen (k := 1) (n := 7) (Nat.le_of_ble_eq_true rfl) (Nat.le_of_ble_eq_true rfl) ?_
    refine lv_dup hx hb dX7_newMap_31 rfl ?_
    refine lv_iload_n hx hb dX7_newMap_32 rfl (lv_at hl 1 rfl) ?_
    refine lv_iload_n hx hb dX7_newMap_33 rfl (lv_at hl 2 rfl) ?_
    have hPc := hP.sub (ws' := [(q_2, .inr (3, [.null, .int 0, .int 0, .int 0, .int 0, .int 0, .null]))]) [0] rfl
    have hDc := hD.sub (ws' := [(q_2, .inr (3, [.null, .int 0, .int 0, .int 0, .int 0, .int 0, .null]))]) [0] (by decide) rfl
    have hKc := hK.sub (tys' := []) [] rfl
    have hFc := va_free (wc := [(q_2, .inr (3, [.null, .int 0, .int 0, .int 0, .int 0, .int 0, .null]))]) hD hS hA [0] rfl
    have hZc := (hZ.kept hS.2.1).narrow hFc
    refine va_callv (va_runI (As := [.int p1, .int p2]) (rest := [.ref q_2]) ⟨hx, hb, hml, hown, hts⟩ (c_X2_init l hlt dC dI H.size q_2 p1 p2) (cwI 2 hts gX7_newMap_X2_init rfl rfl rfl (hts (.initialized RX2) (by decide +kernel)) (hts (.methodLink RX7 225 yX2_init) (by decide +kernel)) (hts (.instanceMethod yX2_init) (by decide +kernel)) rfl (by decide +kernel) ⟨(Nat.le_of_ble_eq_true rfl), (Nat.le_of_ble_eq_true rfl)⟩) ⟨pk_blindX, pk_callX hPc hKc hDc hN hZc⟩ rfl rfl hl.1 rfl (lv_room (Nat.le_of_ble_eq_true rfl)) dX7_newMap_34 ⟨(Nat.le_of_ble_eq_true rfl), (Nat.le_of_ble_eq_true rfl)⟩) hS (fun q _ h => hFc q h) hFc (fun ur_3 t H1 locs ht hvm hw hB hz1 hk1 hS => ?_)
    try dsimp only at hw
    have jr_3 := hw
    obtain ⟨hP1, hK1, hD1⟩ := hB
    rw [ht] at hP1
    have hK1 := va_K.moved hvm.symm hK1
    obtain ⟨hP, hD⟩ := va_join (wr := []) (w1 := [(q_2, .inr (3, ur_3))]) hP hD [0] [] rfl rfl (by decide) (by decide) hk1 hFc hP1 hD1
    clear hk1 hz1 ht hPc hDc hKc
    generalize H1 = H at hP hS ⊢
    have hP : va_P (dC, dI) vwCl [(q_2, .inr (3, ur_3))] H := hP
    have hD : va_D A [(q_2, .inr (3, ur_3))] := hD
    refine W.widen (k := 5) (n := 43) (Nat.le_of_ble_eq_true rfl) (Nat.le_of_ble_eq_true rfl) ?_
    refine W.eq (g2 := F0 m 37 ls [.ref q_2]) rfl ?_
    have hP9 := hP.sub (ws' := [(q_2, .inr (3, ur_3))]) [0] rfl
    have hD9 := hD.sub (ws' := [(q_2, .inr (3, ur_3))]) [0] (by decide) rfl
    have hK9 := hK.sub (tys' := []) [] rfl
    refine W.widen (k := 5) (n := 43) (Nat.le_of_ble_eq_true rfl) (Nat.le_of_ble_eq_true rfl) ?_
    exact W.aret (v := .ref q_2) hx hb hr (Or.inl ⟨_, rfl⟩) (Or.inr ⟨_, rfl⟩) (fun t ht hW => ⟨⟨(3, ur_3), q_2, rfl, Or.inl rfl, by rw [ht]; exact hP9, va_K.moved hW.alike hK9, hD9⟩, hS.F ht⟩) hS.2.2 dX7_newMap_37
  have ic_1 : ¬ p0.toInt = 0 := tx_ne rfl (by decide) c_1
  by_cases c_4 : p0 = 1
  ·
    have ic_4 : p0.toInt = 1 := tx_eq rfl (by decide) c_4
    refine lv_lookup (off := 37) (tgt := 38) hx hb dX7_newMap_1 (by decide) (by rw [c_4]; rfl) (by decide) ?_
    refine va_new (ci := 4) (fs := [.null, .int 0, .int 0, .int 0, .int 0]) (C := RX4) (T := TX4) (N := 5) hx hb hts (by decide +kernel) tyX4 tyX4_ok hown (hts (.classLink RX7 228 RX4) (by decide +kernel)) (hts (.instantiable RX4 5) (by decide +kernel)) (hts (.initialized RX4) (by decide +kernel)) hK hP hD hS hA rfl (by decide +kernel) (Nat.le_of_ble_eq_true rfl) (Nat.le_of_ble_eq_true rfl) dX7_newMap_38 (fun q_5 H hP hD hS => ?_)
    have hP : va_P (dC, dI) vwCl [(q_5, .inr (4, [.null, .int 0, .int 0, .int 0, .int 0]))] H := hP
    have hD : va_D A [(q_5, .inr (4, [.null, .int 0, .int 0, .int 0, .int 0]))] := hD
    refine W.widen (k := 1) (n := 5) (Nat.le_of_ble_eq_true rfl) (Nat.le_of_ble_eq_true rfl) ?_
    refine lv_dup hx hb dX7_newMap_41 rfl ?_
    refine lv_iload_n hx hb dX7_newMap_42 rfl (lv_at hl 1 rfl) ?_
    refine lv_iload_n hx hb dX7_newMap_43 rfl (lv_at hl 2 rfl) ?_
    refine lv_iconst (v := 1) hx hb dX7_newMap_44 (by decide) ?_
    refine lv_icmp_ne (tgt := 52) hx hb dX7_newMap_45 (by decide) (fun c_6 => ?_) (fun c_6 => ?_)
    ·
      have ic_6 : ¬ p2.toInt = 1 := tx_ne rfl (by decide) c_6
      refine lv_iconst (v := 0) hx hb dX7_newMap_52 (by decide) ?_
      have hPc := hP.sub (ws' := [(q_5, .inr (4, [.null, .int 0, .int 0, .int 0, .int 0]))]) [0] rfl
      have hDc := hD.sub (ws' := [(q_5, .inr (4, [.null, .int 0, .int 0, .int 0, .int 0]))]) [0] (by decide) rfl
      have hKc := hK.sub (tys' := []) [] rfl
      have hFc := va_free (wc := [(q_5, .inr (4, [.null, .int 0, .int 0, .int 0, .int 0]))]) hD hS hA [0] rfl
      have hZc := (hZ.kept hS.2.1).narrow hFc
      refine va_callv (va_runI (As := [.int p1, .int 0]) (rest := [.ref q_5]) ⟨hx, hb, hml, hown, hts⟩ (c_X4_init l hlt dC dI H.size q_5 p1 0 (Or.inl rfl)) (cwI 2 hts gX7_newMap_X4_init rfl rfl rfl (hts (.initialized RX4) (by decide +kernel)) (hts (.methodLink RX7 230 yX4_init) (by decide +kernel)) (hts (.instanceMethod yX4_init) (by decide +kernel)) rfl (by decide +kernel) ⟨(Nat.le_of_ble_eq_true rfl), (Nat.le_of_ble_eq_true rfl)⟩) ⟨pk_blindX, pk_callX hPc hKc hDc hN hZc⟩ rfl rfl hl.1 rfl (lv_room (Nat.le_of_ble_eq_true rfl)) dX7_newMap_53 ⟨(Nat.le_of_ble_eq_true rfl), (Nat.le_of_ble_eq_true rfl)⟩) hS (fun q _ h => hFc q h) hFc (fun ur_7 t H1 locs ht hvm hw hB hz1 hk1 hS => ?_)
      try dsimp only at hw
      have jr_7 := hw
      obtain ⟨hP1, hK1, hD1⟩ := hB
      rw [ht] at hP1
      have hK1 := va_K.moved hvm.symm hK1
      obtain ⟨hP, hD⟩ := va_join (wr := []) (w1 := [(q_5, .inr (4, ur_7))]) hP hD [0] [] rfl rfl (by decide) (by decide) hk1 hFc hP1 hD1
      clear hk1 hz1 ht hPc hDc hKc
      generalize H1 = H at hP hS ⊢
      have hP : va_P (dC, dI) vwCl [(q_5, .inr (4, ur_7))] H := hP
      have hD : va_D A [(q_5, .inr (4, ur_7))] := hD
      refine W.widen (k := 5) (n := 41) (Nat.le_of_ble_eq_true rfl) (Nat.le_of_ble_eq_true rfl) ?_
      refine W.eq (g2 := F0 m 56 ls [.ref q_5]) rfl ?_
      have hP9 := hP.sub (ws' := [(q_5, .inr (4, ur_7))]) [0] rfl
      have hD9 := hD.sub (ws' := [(q_5, .inr (4, ur_7))]) [0] (by decide) rfl
      have hK9 := hK.sub (tys' := []) [] rfl
      refine W.widen (k := 5) (n := 43) (Nat.le_of_ble_eq_true rfl) (Nat.le_of_ble_eq_true rfl) ?_
      exact W.aret (v := .ref q_5) hx hb hr (Or.inl ⟨_, rfl⟩) (Or.inr ⟨_, rfl⟩) (fun t ht hW => ⟨⟨(4, ur_7), q_5, rfl, Or.inr (Or.inl rfl), by rw [ht]; exact hP9, va_K.moved hW.alike hK9, hD9⟩, hS.F ht⟩) hS.2.2 dX7_newMap_56
    ·
      have ic_6 : p2.toInt = 1 := tx_eq rfl (by decide) c_6
      refine lv_iconst (v := 1) hx hb dX7_newMap_48 (by decide) ?_
      refine lv_goto (tgt := 53) hx hb dX7_newMap_49 (by decide) ?_
      have hPc := hP.sub (ws' := [(q_5, .inr (4, [.null, .int 0, .int 0, .int 0, .int 0]))]) [0] rfl
      have hDc := hD.sub (ws' := [(q_5, .inr (4, [.null, .int 0, .int 0, .int 0, .int 0]))]) [0] (by decide) rfl
      have hKc := hK.sub (tys' := []) [] rfl
      have hFc := va_free (wc := [(q_5, .inr (4, [.null, .int 0, .int 0, .int 0, .int 0]))]) hD hS hA [0] rfl
      have hZc := (hZ.kept hS.2.1).narrow hFc
      refine va_callv (va_runI (As := [.int p1, .int 1]) (rest := [.ref q_5]) ⟨hx, hb, hml, hown, hts⟩ (c_X4_init l hlt dC dI H.size q_5 p1 1 (Or.inr rfl)) (cwI 2 hts gX7_newMap_X4_init rfl rfl rfl (hts (.initialized RX4) (by decide +kernel)) (hts (.methodLink RX7 230 yX4_init) (by decide +kernel)) (hts (.instanceMethod yX4_init) (by decide +kernel)) rfl (by decide +kernel) ⟨(Nat.le_of_ble_eq_true rfl), (Nat.le_of_ble_eq_true rfl)⟩) ⟨pk_blindX, pk_callX hPc hKc hDc hN hZc⟩ rfl rfl hl.1 rfl (lv_room (Nat.le_of_ble_eq_true rfl)) dX7_newMap_53 ⟨(Nat.le_of_ble_eq_true rfl), (Nat.le_of_ble_eq_true rfl)⟩) hS (fun q _ h => hFc q h) hFc (fun ur_8 t H1 locs ht hvm hw hB hz1 hk1 hS => ?_)
      try dsimp only at hw
      have jr_8 := hw
      obtain ⟨hP1, hK1, hD1⟩ := hB
      rw [ht] at hP1
      have hK1 := va_K.moved hvm.symm hK1
      obtain ⟨hP, hD⟩ := va_join (wr := []) (w1 := [(q_5, .inr (4, ur_8))]) hP hD [0] [] rfl rfl (by decide) (by decide) hk1 hFc hP1 hD1
      clear hk1 hz1 ht hPc hDc hKc
      generalize H1 = H at hP hS ⊢
      have hP : va_P (dC, dI) vwCl [(q_5, .inr (4, ur_8))] H := hP
      have hD : va_D A [(q_5, .inr (4, ur_8))] := hD
      refine W.widen (k := 5) (n := 41) (Nat.le_of_ble_eq_true rfl) (Nat.le_of_ble_eq_true rfl) ?_
      refine W.eq (g2 := F0 m 56 ls [.ref q_5]) rfl ?_
      have hP9 := hP.sub (ws' := [(q_5, .inr (4, ur_8))]) [0] rfl
      have hD9 := hD.sub (ws' := [(q_5, .inr (4, ur_8))]) [0] (by decide) rfl
      have hK9 := hK.sub (tys' := []) [] rfl
      refine W.widen (k := 5) (n := 43) (Nat.le_of_ble_eq_true rfl) (Nat.le_of_ble_eq_true rfl) ?_
      exact W.aret (v := .ref q_5) hx hb hr (Or.inl ⟨_, rfl⟩) (Or.inr ⟨_, rfl⟩) (fun t ht hW => ⟨⟨(4, ur_8), q_5, rfl, Or.inr (Or.inl rfl), by rw [ht]; exact hP9, va_K.moved hW.alike hK9, hD9⟩, hS.F ht⟩) hS.2.2 dX7_newMap_56
  have ic_4 : ¬ p0.toInt = 1 := tx_ne rfl (by decide) c_4
  refine lv_lookup (off := 56) (tgt := 57) hx hb dX7_newMap_1 (by decide) ((lv_osw c_1 (by decide)).trans ((lv_osw c_4 (by decide)).trans (rfl))) (by decide) ?_
  refine va_new (ci := 6) (fs := [.null, .int 0, .int 0, .int 0, .int 0, .long 0, .long 0]) (C := RX6) (T := TX6) (N := 7) hx hb hts (by decide +kernel) tyX6 tyX6_ok hown (hts (.classLink RX7 147 RX6) (by decide +kernel)) (hts (.instantiable RX6 7) (by decide +kernel)) (hts (.initialized RX6) (by decide +kernel)) hK hP hD hS hA rfl (by decide +kernel) (Nat.le_of_ble_eq_true rfl) (Nat.le_of_ble_eq_true rfl) dX7_newMap_57 (fun q_9 H hP hD hS => ?_)
  have hP : va_P (dC, dI) vwCl [(q_9, .inr (6, [.null, .int 0, .int 0, .int 0, .int 0, .long 0, .long 0]))] H := hP
  have hD : va_D A [(q_9, .inr (6, [.null, .int 0, .int 0, .int 0, .int 0, .long 0, .long 0]))] := hD
  refine W.widen (k := 1) (n := 7) (Nat.le_of_ble_eq_true rfl) (Nat.le_of_ble_eq_true rfl) ?_
  refine lv_dup hx hb dX7_newMap_60 rfl ?_
  refine lv_iload_n hx hb dX7_newMap_61 rfl (lv_at hl 1 rfl) ?_
  have hPc := hP.sub (ws' := [(q_9, .inr (6, [.null, .int 0, .int 0, .int 0, .int 0, .long 0, .long 0]))]) [0] rfl
  have hDc := hD.sub (ws' := [(q_9, .inr (6, [.null, .int 0, .int 0, .int 0, .int 0, .long 0, .long 0]))]) [0] (by decide) rfl
  have hKc := hK.sub (tys' := []) [] rfl
  have hFc := va_free (wc := [(q_9, .inr (6, [.null, .int 0, .int 0, .int 0, .int 0, .long 0, .long 0]))]) hD hS hA [0] rfl
  have hZc := (hZ.kept hS.2.1).narrow hFc
  refine va_callv (va_runI (As := [.int p1]) (rest := [.ref q_9]) ⟨hx, hb, hml, hown, hts⟩ (c_X6_init l hlt dC dI H.size q_9 p1) (cwI 1 hts gX7_newMap_X6_init rfl rfl rfl (hts (.initialized RX6) (by decide +kernel)) (hts (.methodLink RX7 233 yX6_init) (by decide +kernel)) (hts (.instanceMethod yX6_init) (by decide +kernel)) rfl (by decide +kernel) ⟨(Nat.le_of_ble_eq_true rfl), (Nat.le_of_ble_eq_true rfl)⟩) ⟨pk_blindX, pk_callX hPc hKc hDc hN hZc⟩ rfl rfl hl.1 rfl (lv_room (Nat.le_of_ble_eq_true rfl)) dX7_newMap_62 ⟨(Nat.le_of_ble_eq_true rfl), (Nat.le_of_ble_eq_true rfl)⟩) hS (fun q _ h => hFc q h) hFc (fun ur_10 t H1 locs ht hvm hw hB hz1 hk1 hS => ?_)
  try dsimp only at hw
  have jr_10 := hw
  obtain ⟨hP1, hK1, hD1⟩ := hB
  rw [ht] at hP1
  have hK1 := va_K.moved hvm.symm hK1
  obtain ⟨hP, hD⟩ := va_join (wr := []) (w1 := [(q_9, .inr (6, ur_10))]) hP hD [0] [] rfl rfl (by decide) (by decide) hk1 hFc hP1 hD1
  clear hk1 hz1 ht hPc hDc hKc
  generalize H1 = H at hP hS ⊢
  have hP : va_P (dC, dI) vwCl [(q_9, .inr (6, ur_10))] H := hP
  have hD : va_D A [(q_9, .inr (6, ur_10))] := hD
  refine W.widen (k := 5) (n := 43) (Nat.le_of_ble_eq_true rfl) (Nat.le_of_ble_eq_true rfl) ?_
  refine W.eq (g2 := F0 m 65 ls [.ref q_9]) rfl ?_
  have hP9 := hP.sub (ws' := [(q_9, .inr (6, ur_10))]) [0] rfl
  have hD9 := hD.sub (ws' := [(q_9, .inr (6, ur_10))]) [0] (by decide) rfl
  have hK9 := hK.sub (tys' := []) [] rfl
  refine W.widen (k := 5) (n := 43) (Nat.le_of_ble_eq_true rfl) (Nat.le_of_ble_eq_true rfl) ?_
  exact W.aret (v := .ref q_9) hx hb hr (Or.inl ⟨_, rfl⟩) (Or.inr ⟨_, rfl⟩) (fun t ht hW => ⟨⟨(6, ur_10), q_9, rfl, Or.inr (Or.inr rfl), by rw [ht]; exact hP9, va_K.moved hW.alike hK9, hD9⟩, hS.F ht⟩) hS.2.2 dX7_newMap_65
set_option maxHeartbeats 4000000 in
set_option maxRecDepth 100000 in
/-- the first place is free -/
theorem c_X7_settle_X2 (l : Launch) (hlt : l.stackTraces = false) (dC : Nat → ClassId) (dI : Nat → Nat → Nat) (sz : Nat) (h0 : Nat) (qb : Nat) (cb : ClassId) (v0 : Nat) (vs : List Value) : Met l yX7_settle wsX7_settle ({ frames := 0, cells := 0, slots := 0, locals := 0 }) (va_Pc [.ref h0, .ref v0] (pk_PreX (dC, dI) [(h0, .inr (7, [.ref qb])), (qb, .inl (cb, 16, .inr (.inr (.inr (.inr (fun _ => none)))))), (v0, .inr (3, vs))] [(cb, .object "KeyAtlas$Body")] sz)) (va_Qi (fun (r : Int32) (_ : Unit) => r = 0) (fun (_ : Unit) (_ : State) => True) (va_A [(h0, .inr (7, [.ref qb])), (qb, .inl (cb, 16, .inr (.inr (.inr (.inr (fun _ => none)))))), (v0, .inr (3, vs))] sz)) 0 0 (va_A [(h0, .inr (7, [.ref qb])), (qb, .inl (cb, 16, .inr (.inr (.inr (.inr (fun _ => none)))))), (v0, .inr (3, vs))] sz) := by
  refine Met.ofW (cc := cX7_settle) (maxL := 3) (ret := (some .int)) (by decide) rfl ?_
  intro p e s m args below meth c s₁ B hml hv
  obtain ⟨rfl, hsz, hP, hK, hD0, hN, hZ⟩ := hv
  have hx := B.exec
  have hb := B.bytes
  have hr := B.returns
  have hts := atoms_spec (ws := wsX7_settle) B.pre
  have hown : s.vm.findClass RX7 = some m.cls := findClass_of_methodNamed B.named
  have hlocks := B.notSynchronized
  subst hsz
  have hD := hD0.self (sz := s.heap.size)
  generalize hAe : va_A [(h0, .inr (7, [.ref qb])), (qb, .inl (cb, 16, .inr (.inr (.inr (.inr (fun _ => none)))))), (v0, .inr (3, vs))] s.heap.size = A at hZ hD ⊢
  have hA : ∀ q : Nat, s.heap.size ≤ q → A q := fun q h => by rw [← hAe]; exact Or.inr h
  have hS : va_S A s.heap s.heap [] := va_S.rf
  have hP : va_P (dC, dI) vwCl [(h0, .inr (7, [.ref qb])), (qb, .inl (cb, 16, .inr (.inr (.inr (.inr (fun _ => none)))))), (v0, .inr (3, vs))] s.heap := hP
  have hl := lv_entry ([.ref h0, .ref v0]) (n := 3) (Nat.le_of_ble_eq_true rfl)
  rw [lg_entry_eq]
  generalize (lg_sl ([.ref h0, .ref v0]) ++ List.replicate (3 - (lg_sl ([.ref h0, .ref v0])).length) Slot.unset).toArray = ls at hl ⊢
  have hl : lv_has ls 3 [(0, .ref h0), (1, .ref v0)] := hl
  refine lv_iconst (v := 0) hx hb dX7_settle_0 (by decide) ?_
  refine lv_istore_n (lv' := [(2, .int 0), (0, .ref h0), (1, .ref v0)]) hx hb dX7_settle_1 rfl hl (by decide) rfl (fun ls hl => ?_)
  refine lv_iload_n hx hb dX7_settle_2 rfl (lv_at hl 0 rfl) ?_
  refine lv_aload_n hx hb dX7_settle_3 rfl (lv_at hl 1 rfl) ?_
  refine va_get (D := (dC, dI)) (ci := 7) (v := .ref qb) (C := RX7) (T := TX7) (N := 1) hx hb hts (by decide +kernel) hown hK hP 0 rfl rfl 0 (by decide) (hts (.fieldLink RX7 11 "KeyAtlas" "bodies" "[LKeyAtlas$Body;") (by decide +kernel)) (fun _ h9 => h9) rfl dX7_settle_4 ?_
  refine va_alen (v := 16) hx hb hK hP 1 0 rfl rfl rfl dX7_settle_7 ?_
  refine lv_icmp_ge (tgt := 35) hx hb dX7_settle_8 (by decide) (fun c_1 => absurd c_1 (by decide)) (fun c_1 => ?_)
  refine lv_aload_n hx hb dX7_settle_11 rfl (lv_at hl 1 rfl) ?_
  refine va_get (D := (dC, dI)) (ci := 7) (v := .ref qb) (C := RX7) (T := TX7) (N := 1) hx hb hts (by decide +kernel) hown hK hP 0 rfl rfl 0 (by decide) (hts (.fieldLink RX7 11 "KeyAtlas" "bodies" "[LKeyAtlas$Body;") (by decide +kernel)) (fun _ h9 => h9) rfl dX7_settle_12 ?_
  refine lv_iload_n hx hb dX7_settle_15 rfl (lv_at hl 0 rfl) ?_
  refine va_aldq (i := 0) hx hb hK hP 1 0 rfl rfl (by unfold vp_in; decide) dX7_settle_16 ?_
  refine W.eq (g2 := F0 m 17 ls [.null]) rfl ?_
  refine lv_ifnonnullN hx hb dX7_settle_17 ?_
  refine lv_aload_n hx hb dX7_settle_20 rfl (lv_at hl 1 rfl) ?_
  refine va_get (D := (dC, dI)) (ci := 7) (v := .ref qb) (C := RX7) (T := TX7) (N := 1) hx hb hts (by decide +kernel) hown hK hP 0 rfl rfl 0 (by decide) (hts (.fieldLink RX7 11 "KeyAtlas" "bodies" "[LKeyAtlas$Body;") (by decide +kernel)) (fun _ h9 => h9) rfl dX7_settle_21 ?_
  refine lv_iload_n hx hb dX7_settle_24 rfl (lv_at hl 0 rfl) ?_
  refine lv_aload_n hx hb dX7_settle_25 rfl (lv_at hl 2 rfl) ?_
  refine va_astqO (i := 0) hx hb hK hP hD hS 1 0 2 3 rfl rfl (r := (RX2, TX2, 7)) (hN.xw (.castable RX2 "KeyAtlas$Body") (by decide +kernel)) rfl rfl (by unfold vp_in; decide) dX7_settle_26 (fun H locs hP hD hS => ?_)
  have hP : va_P (dC, dI) vwCl [(h0, .inr (7, [.ref qb])), (qb, .inl (cb, 16, .inr (.inr (.inr (.inr (va_up (fun _ => none) (0 : Int32).toNatClampNeg (some v0))))))), (v0, .inr (3, vs))] H := hP
  have hD : va_D A [(h0, .inr (7, [.ref qb])), (qb, .inl (cb, 16, .inr (.inr (.inr (.inr (va_up (fun _ => none) (0 : Int32).toNatClampNeg (some v0))))))), (v0, .inr (3, vs))] := hD
  refine lv_iload_n hx hb dX7_settle_27 rfl (lv_at hl 0 rfl) ?_
  refine W.widen (k := 0) (n := 0) (Nat.le_of_ble_eq_true rfl) (Nat.le_of_ble_eq_true rfl) ?_
  exact W.iret (v := 0) hx hb hr (fun t ht hW => ⟨⟨0, (), rfl, rfl, trivial⟩, hS.F ht⟩) hS.2.2 dX7_settle_28
set_option maxHeartbeats 4000000 in
set_option maxRecDepth 100000 in
/-- the first place is free -/
theorem c_X7_settle_X4 (l : Launch) (hlt : l.stackTraces = false) (dC : Nat → ClassId) (dI : Nat → Nat → Nat) (sz : Nat) (h0 : Nat) (qb : Nat) (cb : ClassId) (v0 : Nat) (vs : List Value) : Met l yX7_settle wsX7_settle ({ frames := 0, cells := 0, slots := 0, locals := 0 }) (va_Pc [.ref h0, .ref v0] (pk_PreX (dC, dI) [(h0, .inr (7, [.ref qb])), (qb, .inl (cb, 16, .inr (.inr (.inr (.inr (fun _ => none)))))), (v0, .inr (4, vs))] [(cb, .object "KeyAtlas$Body")] sz)) (va_Qi (fun (r : Int32) (_ : Unit) => r = 0) (fun (_ : Unit) (_ : State) => True) (va_A [(h0, .inr (7, [.ref qb])), (qb, .inl (cb, 16, .inr (.inr (.inr (.inr (fun _ => none)))))), (v0, .inr (4, vs))] sz)) 0 0 (va_A [(h0, .inr (7, [.ref qb])), (qb, .inl (cb, 16, .inr (.inr (.inr (.inr (fun _ => none)))))), (v0, .inr (4, vs))] sz) := by
  refine Met.ofW (cc := cX7_settle) (maxL := 3) (ret := (some .int)) (by decide) rfl ?_
  intro p e s m args below meth c s₁ B hml hv
  obtain ⟨rfl, hsz, hP, hK, hD0, hN, hZ⟩ := hv
  have hx := B.exec
  have hb := B.bytes
  have hr := B.returns
  have hts := atoms_spec (ws := wsX7_settle) B.pre
  have hown : s.vm.findClass RX7 = some m.cls := findClass_of_methodNamed B.named
  have hlocks := B.notSynchronized
  subst hsz
  have hD := hD0.self (sz := s.heap.size)
  generalize hAe : va_A [(h0, .inr (7, [.ref qb])), (qb, .inl (cb, 16, .inr (.inr (.inr (.inr (fun _ => none)))))), (v0, .inr (4, vs))] s.heap.size = A at hZ hD ⊢
  have hA : ∀ q : Nat, s.heap.size ≤ q → A q := fun q h => by rw [← hAe]; exact Or.inr h
  have hS : va_S A s.heap s.heap [] := va_S.rf
  have hP : va_P (dC, dI) vwCl [(h0, .inr (7, [.ref qb])), (qb, .inl (cb, 16, .inr (.inr (.inr (.inr (fun _ => none)))))), (v0, .inr (4, vs))] s.heap := hP
  have hl := lv_entry ([.ref h0, .ref v0]) (n := 3) (Nat.le_of_ble_eq_true rfl)
  rw [lg_entry_eq]
  generalize (lg_sl ([.ref h0, .ref v0]) ++ List.replicate (3 - (lg_sl ([.ref h0, .ref v0])).length) Slot.unset).toArray = ls at hl ⊢
  have hl : lv_has ls 3 [(0, .ref h0), (1, .ref v0)] := hl
  refine lv_iconst (v := 0) hx hb dX7_settle_0 (by decide) ?_
  refine lv_istore_n (lv' := [(2, .int 0), (0, .ref h0), (1, .ref v0)]) hx hb dX7_settle_1 rfl hl (by decide) rfl (fun ls hl => ?_)
  refine lv_iload_n hx hb dX7_settle_2 rfl (lv_at hl 0 rfl) ?_
  refine lv_aload_n hx hb dX7_settle_3 rfl (lv_at hl 1 rfl) ?_
  refine va_get (D := (dC, dI)) (ci := 7) (v := .ref qb) (C := RX7) (T := TX7) (N := 1) hx hb hts (by decide +kernel) hown hK hP 0 rfl rfl 0 (by decide) (hts (.fieldLink RX7 11 "KeyAtlas" "bodies" "[LKeyAtlas$Body;") (by decide +kernel)) (fun _ h9 => h9) rfl dX7_settle_4 ?_
  refine va_alen (v := 16) hx hb hK hP 1 0 rfl rfl rfl dX7_settle_7 ?_
  refine lv_icmp_ge (tgt := 35) hx hb dX7_settle_8 (by decide) (fun c_1 => absurd c_1 (by decide)) (fun c_1 => ?_)
  refine lv_aload_n hx hb dX7_settle_11 rfl (lv_at hl 1 rfl) ?_
  refine va_get (D := (dC, dI)) (ci := 7) (v := .ref qb) (C := RX7) (T := TX7) (N := 1) hx hb hts (by decide +kernel) hown hK hP 0 rfl rfl 0 (by decide) (hts (.fieldLink RX7 11 "KeyAtlas" "bodies" "[LKeyAtlas$Body;") (by decide +kernel)) (fun _ h9 => h9) rfl dX7_settle_12 ?_
  refine lv_iload_n hx hb dX7_settle_15 rfl (lv_at hl 0 rfl) ?_
  refine va_aldq (i := 0) hx hb hK hP 1 0 rfl rfl (by unfold vp_in; decide) dX7_settle_16 ?_
  refine W.eq (g2 := F0 m 17 ls [.null]) rfl ?_
  refine lv_ifnonnullN hx hb dX7_settle_17 ?_
  refine lv_aload_n hx hb dX7_settle_20 rfl (lv_at hl 1 rfl) ?_
  refine va_get (D := (dC, dI)) (ci := 7) (v := .ref qb) (C := RX7) (T := TX7) (N := 1) hx hb hts (by decide +kernel) hown hK hP 0 rfl rfl 0 (by decide) (hts (.fieldLink RX7 11 "KeyAtlas" "bodies" "[LKeyAtlas$Body;") (by decide +kernel)) (fun _ h9 => h9) rfl dX7_settle_21 ?_
  refine lv_iload_n hx hb dX7_settle_24 rfl (lv_at hl 0 rfl) ?_
  refine lv_aload_n hx hb dX7_settle_25 rfl (lv_at hl 2 rfl) ?_
  refine va_astqO (i := 0) hx hb hK hP hD hS 1 0 2 4 rfl rfl (r := (RX4, TX4, 5)) (hN.xw (.castable RX4 "KeyAtlas$Body") (by decide +kernel)) rfl rfl (by unfold vp_in; decide) dX7_settle_26 (fun H locs hP hD hS => ?_)
  have hP : va_P (dC, dI) vwCl [(h0, .inr (7, [.ref qb])), (qb, .inl (cb, 16, .inr (.inr (.inr (.inr (va_up (fun _ => none) (0 : Int32).toNatClampNeg (some v0))))))), (v0, .inr (4, vs))] H := hP
  have hD : va_D A [(h0, .inr (7, [.ref qb])), (qb, .inl (cb, 16, .inr (.inr (.inr (.inr (va_up (fun _ => none) (0 : Int32).toNatClampNeg (some v0))))))), (v0, .inr (4, vs))] := hD
  refine lv_iload_n hx hb dX7_settle_27 rfl (lv_at hl 0 rfl) ?_
  refine W.widen (k := 0) (n := 0) (Nat.le_of_ble_eq_true rfl) (Nat.le_of_ble_eq_true rfl) ?_
  exact W.iret (v := 0) hx hb hr (fun t ht hW => ⟨⟨0, (), rfl, rfl, trivial⟩, hS.F ht⟩) hS.2.2 dX7_settle_28
set_option maxHeartbeats 4000000 in
set_option maxRecDepth 100000 in
/-- the first place is free -/
theorem c_X7_settle_X6 (l : Launch) (hlt : l.stackTraces = false) (dC : Nat → ClassId) (dI : Nat → Nat → Nat) (sz : Nat) (h0 : Nat) (qb : Nat) (cb : ClassId) (v0 : Nat) (vs : List Value) : Met l yX7_settle wsX7_settle ({ frames := 0, cells := 0, slots := 0, locals := 0 }) (va_Pc [.ref h0, .ref v0] (pk_PreX (dC, dI) [(h0, .inr (7, [.ref qb])), (qb, .inl (cb, 16, .inr (.inr (.inr (.inr (fun _ => none)))))), (v0, .inr (6, vs))] [(cb, .object "KeyAtlas$Body")] sz)) (va_Qi (fun (r : Int32) (_ : Unit) => r = 0) (fun (_ : Unit) (_ : State) => True) (va_A [(h0, .inr (7, [.ref qb])), (qb, .inl (cb, 16, .inr (.inr (.inr (.inr (fun _ => none)))))), (v0, .inr (6, vs))] sz)) 0 0 (va_A [(h0, .inr (7, [.ref qb])), (qb, .inl (cb, 16, .inr (.inr (.inr (.inr (fun _ => none)))))), (v0, .inr (6, vs))] sz) := by
  refine Met.ofW (cc := cX7_settle) (maxL := 3) (ret := (some .int)) (by decide) rfl ?_
  intro p e s m args below meth c s₁ B hml hv
  obtain ⟨rfl, hsz, hP, hK, hD0, hN, hZ⟩ := hv
  have hx := B.exec
  have hb := B.bytes
  have hr := B.returns
  have hts := atoms_spec (ws := wsX7_settle) B.pre
  have hown : s.vm.findClass RX7 = some m.cls := findClass_of_methodNamed B.named
  have hlocks := B.notSynchronized
  subst hsz
  have hD := hD0.self (sz := s.heap.size)
  generalize hAe : va_A [(h0, .inr (7, [.ref qb])), (qb, .inl (cb, 16, .inr (.inr (.inr (.inr (fun _ => none)))))), (v0, .inr (6, vs))] s.heap.size = A at hZ hD ⊢
  have hA : ∀ q : Nat, s.heap.size ≤ q → A q := fun q h => by rw [← hAe]; exact Or.inr h
  have hS : va_S A s.heap s.heap [] := va_S.rf
  have hP : va_P (dC, dI) vwCl [(h0, .inr (7, [.ref qb])), (qb, .inl (cb, 16, .inr (.inr (.inr (.inr (fun _ => none)))))), (v0, .inr (6, vs))] s.heap := hP
  have hl := lv_entry ([.ref h0, .ref v0]) (n := 3) (Nat.le_of_ble_eq_true rfl)
  rw [lg_entry_eq]
  generalize (lg_sl ([.ref h0, .ref v0]) ++ List.replicate (3 - (lg_sl ([.ref h0, .ref v0])).length) Slot.unset).toArray = ls at hl ⊢
  have hl : lv_has ls 3 [(0, .ref h0), (1, .ref v0)] := hl
  refine lv_iconst (v := 0) hx hb dX7_settle_0 (by decide) ?_
  refine lv_istore_n (lv' := [(2, .int 0), (0, .ref h0), (1, .ref v0)]) hx hb dX7_settle_1 rfl hl (by decide) rfl (fun ls hl => ?_)
  refine lv_iload_n hx hb dX7_settle_2 rfl (lv_at hl 0 rfl) ?_
  refine lv_aload_n hx hb dX7_settle_3 rfl (lv_at hl 1 rfl) ?_
  refine va_get (D := (dC, dI)) (ci := 7) (v := .ref qb) (C := RX7) (T := TX7) (N := 1) hx hb hts (by decide +kernel) hown hK hP 0 rfl rfl 0 (by decide) (hts (.fieldLink RX7 11 "KeyAtlas" "bodies" "[LKeyAtlas$Body;") (by decide +kernel)) (fun _ h9 => h9) rfl dX7_settle_4 ?_
  refine va_alen (v := 16) hx hb hK hP 1 0 rfl rfl rfl dX7_settle_7 ?_
  refine lv_icmp_ge (tgt := 35) hx hb dX7_settle_8 (by decide) (fun c_1 => absurd c_1 (by decide)) (fun c_1 => ?_)
  refine lv_aload_n hx hb dX7_settle_11 rfl (lv_at hl 1 rfl) ?_
  refine va_get (D := (dC, dI)) (ci := 7) (v := .ref qb) (C := RX7) (T := TX7) (N := 1) hx hb hts (by decide +kernel) hown hK hP 0 rfl rfl 0 (by decide) (hts (.fieldLink RX7 11 "KeyAtlas" "bodies" "[LKeyAtlas$Body;") (by decide +kernel)) (fun _ h9 => h9) rfl dX7_settle_12 ?_
  refine lv_iload_n hx hb dX7_settle_15 rfl (lv_at hl 0 rfl) ?_
  refine va_aldq (i := 0) hx hb hK hP 1 0 rfl rfl (by unfold vp_in; decide) dX7_settle_16 ?_
  refine W.eq (g2 := F0 m 17 ls [.null]) rfl ?_
  refine lv_ifnonnullN hx hb dX7_settle_17 ?_
  refine lv_aload_n hx hb dX7_settle_20 rfl (lv_at hl 1 rfl) ?_
  refine va_get (D := (dC, dI)) (ci := 7) (v := .ref qb) (C := RX7) (T := TX7) (N := 1) hx hb hts (by decide +kernel) hown hK hP 0 rfl rfl 0 (by decide) (hts (.fieldLink RX7 11 "KeyAtlas" "bodies" "[LKeyAtlas$Body;") (by decide +kernel)) (fun _ h9 => h9) rfl dX7_settle_21 ?_
  refine lv_iload_n hx hb dX7_settle_24 rfl (lv_at hl 0 rfl) ?_
  refine lv_aload_n hx hb dX7_settle_25 rfl (lv_at hl 2 rfl) ?_
  refine va_astqO (i := 0) hx hb hK hP hD hS 1 0 2 6 rfl rfl (r := (RX6, TX6, 7)) (hN.xw (.castable RX6 "KeyAtlas$Body") (by decide +kernel)) rfl rfl (by unfold vp_in; decide) dX7_settle_26 (fun H locs hP hD hS => ?_)
  have hP : va_P (dC, dI) vwCl [(h0, .inr (7, [.ref qb])), (qb, .inl (cb, 16, .inr (.inr (.inr (.inr (va_up (fun _ => none) (0 : Int32).toNatClampNeg (some v0))))))), (v0, .inr (6, vs))] H := hP
  have hD : va_D A [(h0, .inr (7, [.ref qb])), (qb, .inl (cb, 16, .inr (.inr (.inr (.inr (va_up (fun _ => none) (0 : Int32).toNatClampNeg (some v0))))))), (v0, .inr (6, vs))] := hD
  refine lv_iload_n hx hb dX7_settle_27 rfl (lv_at hl 0 rfl) ?_
  refine W.widen (k := 0) (n := 0) (Nat.le_of_ble_eq_true rfl) (Nat.le_of_ble_eq_true rfl) ?_
  exact W.iret (v := 0) hx hb hr (fun t ht hW => ⟨⟨0, (), rfl, rfl, trivial⟩, hS.F ht⟩) hS.2.2 dX7_settle_28
set_option maxHeartbeats 4000000 in
set_option maxRecDepth 100000 in
/-- make, fresh -/
theorem c_X7_make (l : Launch) (hlt : l.stackTraces = false) (dC : Nat → ClassId) (dI : Nat → Nat → Nat) (sz : Nat) (h0 : Nat) (qb : Nat) (cb : ClassId) (p0 : Int32) (p1 : Int32) (p2 : Int32) : vx_Met l yX7_make wsN_make ({ frames := 6, cells := 6, slots := 49, locals := 130 }) (va_Pc [.ref h0, .int p0, .int p1, .int p2] (pk_PreX (dC, dI) [(h0, .inr (7, [.ref qb])), (qb, .inl (cb, 16, .inr (.inr (.inr (.inr (fun _ => none))))))] [(cb, .object "KeyAtlas$Body")] sz)) (va_Qi (fun (r : Int32) (_ : Unit) => r = 0 ∧ mkIs p0 p1 p2 0) (fun (_ : Unit) (_ : State) => True) (va_A [(h0, .inr (7, [.ref qb])), (qb, .inl (cb, 16, .inr (.inr (.inr (.inr (fun _ => none))))))] sz)) (vx_X (fun _ : Unit => True) (fun (E : String) (_ : Unit) (_ : State) => (E = "java/lang/IllegalArgumentException" ∧ mkIs p0 p1 p2 1) ∨ (E = "java/lang/NegativeArraySizeException" ∧ mkIs p0 p1 p2 3)) (va_A [(h0, .inr (7, [.ref qb])), (qb, .inl (cb, 16, .inr (.inr (.inr (.inr (fun _ => none))))))] sz)) 6 49 (va_A [(h0, .inr (7, [.ref qb])), (qb, .inl (cb, 16, .inr (.inr (.inr (.inr (fun _ => none))))))] sz) := by
  refine vx_ofW (cc := cX7_make) (maxL := 4) (ret := (some .int)) (by decide) rfl ?_
  intro p e s m args below meth c s₁ B hml htab hv
  obtain ⟨rfl, hsz, hP, hK, hD0, hN, hZ⟩ := hv
  have hx := B.exec
  have hb := B.bytes
  have hr := B.returns
  have hts := atoms_spec (ws := wsN_make) B.pre
  have hown : s.vm.findClass RX7 = some m.cls := findClass_of_methodNamed B.named
  have hlocks := B.notSynchronized
  subst hsz
  have hD := hD0.self (sz := s.heap.size)
  generalize hAe : va_A [(h0, .inr (7, [.ref qb])), (qb, .inl (cb, 16, .inr (.inr (.inr (.inr (fun _ => none))))))] s.heap.size = A at hZ hD ⊢
  have hA : ∀ q : Nat, s.heap.size ≤ q → A q := fun q h => by rw [← hAe]; exact Or.inr h
  have hS : va_S A s.heap s.heap [] := va_S.rf
  have hP : va_P (dC, dI) vwCl [(h0, .inr (7, [.ref qb])), (qb, .inl (cb, 16, .inr (.inr (.inr (.inr (fun _ => none))))))] s.heap := hP
  have hl := lv_entry ([.ref h0, .int p0, .int p1, .int p2]) (n := 4) (Nat.le_of_ble_eq_true rfl)
  rw [lg_entry_eq]
  generalize (lg_sl ([.ref h0, .int p0, .int p1, .int p2]) ++ List.replicate (4 - (lg_sl ([.ref h0, .int p0, .int p1, .int p2])).length) Slot.unset).toArray = ls at hl ⊢
  have hl : lv_has ls 4 [(0, .ref h0), (1, .int p0), (2, .int p1), (3, .int p2)] := hl
  have hNX : ∀ w ∈ p1_NX, w ∈ wsN_make := fun w h => List.mem_append_right _ h
  refine lv_iload_n hx hb dX7_make_0 rfl (lv_at hl 1 rfl) ?_
  refine lv_if_lt (tgt := 9) hx hb dX7_make_1 (by decide) (fun c_1 => ?_) (fun c_1 => ?_)
  ·
    have ic_1 : p0.toInt < 0 := tx_lt rfl (by decide) c_1
    obtain ⟨sa, hsa⟩ := hN.stX7_17
    exact vx_throwS hx hb hlt (own := RX7) (cls := "java/lang/IllegalArgumentException") (text := "no such kind") (names := ["java/lang/RuntimeException", "java/lang/Exception"]) hown (by decide +kernel) (by decide +kernel) (hts (.classLink RX7 15 "java/lang/IllegalArgumentException") (by decide +kernel)) (hts (.initialized "java/lang/IllegalArgumentException") (by decide +kernel)) hsa (tx_hat hN.xw (fun w h => hts w (List.mem_append_left _ (List.mem_cons_of_mem _ (List.mem_append_left _ (List.mem_append_right _ h))))) (by decide +kernel)) (by decide +kernel) hZ.1 hZ.2 hS (by rw [hml]; exact hl.1) dX7_make_9 dX7_make_12 dX7_make_13 dX7_make_15 dX7_make_18 (fun x hx9 => (htab x hx9).elim) (by decide) (by decide) (Nat.le_of_ble_eq_true rfl) (Nat.le_of_ble_eq_true rfl) hlocks (fun t hvm hz hq => ⟨(), trivial, Or.inl ⟨rfl, by unfold mkIs; omega⟩, ⟨Nat.le_trans hS.1 hz, fun q h1 h2 => (hq q (Nat.lt_of_lt_of_le h1 hS.1)).trans (hS.2.1 q h1 h2)⟩⟩) hS.2.2 (Nat.le_of_ble_eq_true rfl) (Nat.le_of_ble_eq_true rfl)
  ·
    have ic_1 : 0 ≤ p0.toInt := tx_nlt rfl (by decide) c_1
    refine lv_iload_n hx hb dX7_make_4 rfl (lv_at hl 1 rfl) ?_
    refine lv_iconst (v := 2) hx hb dX7_make_5 (by decide) ?_
    refine lv_icmp_le (tgt := 19) hx hb dX7_make_6 (by decide) (fun c_2 => ?_) (fun c_2 => ?_)
    ·
      have ic_2 : p0.toInt ≤ 2 := tx_le rfl (by decide) c_2
      refine lv_iload_n hx hb dX7_make_19 rfl (lv_at hl 1 rfl) ?_
      refine lv_if_ne (tgt := 37) hx hb dX7_make_20 (by decide) (fun c_3 => ?_) (fun c_3 => ?_)
      ·
        have ic_3 : ¬ p0.toInt = 0 := tx_ne rfl (by decide) c_3
        refine lv_iload_n hx hb dX7_make_37 rfl (lv_at hl 1 rfl) ?_
        refine lv_iload_n hx hb dX7_make_38 rfl (lv_at hl 2 rfl) ?_
        refine lv_iload_n hx hb dX7_make_39 rfl (lv_at hl 3 rfl) ?_
        have hPc := hP.sub (ws' := []) [] rfl
        have hDc := hD.sub (ws' := []) [] (by decide) rfl
        have hKc := hK.sub (tys' := []) [] rfl
        have hFc := va_free (wc := []) hD hS hA [] rfl
        refine va_calli (va_runS (As := [.int p0, .int p1, .int p2]) (rest := []) ⟨hx, hb, hml, hown, hts⟩ (c_X7_areInRange l  dC dI s.heap.size p0 p1 p2) (va_cwS 3 hts (goodIn_mono gX7_make_X7_areInRange) rfl rfl rfl (by decide +kernel) ⟨(Nat.le_of_ble_eq_true rfl), (Nat.le_of_ble_eq_true rfl)⟩) ⟨pk_blind, pk_call hPc hKc hDc⟩ rfl rfl hl.1 rfl (lv_room (Nat.le_of_ble_eq_true rfl)) dX7_make_40 ⟨(Nat.le_of_ble_eq_true rfl), (Nat.le_of_ble_eq_true rfl)⟩) hS (fun q _ h => hFc q h) hFc (fun r_4 ur_4 t H1 locs ht hvm hw hB hz1 hk1 hS => ?_)
        try dsimp only at hw
        have jr_4 := hw
        obtain ⟨hP, hD⟩ := va_join (wr := [(h0, .inr (7, [.ref qb])), (qb, .inl (cb, 16, .inr (.inr (.inr (.inr (fun _ => none))))))]) (w1 := []) hP hD [] [0, 1] rfl rfl (by decide) (by decide) hk1 hFc tx_P0 tx_D0
        clear hk1 hz1 ht hPc hDc hKc
        generalize H1 = H at hP hS ⊢
        have hP : va_P (dC, dI) vwCl [(h0, .inr (7, [.ref qb])), (qb, .inl (cb, 16, .inr (.inr (.inr (.inr (fun _ => none))))))] H := hP
        have hD : va_D A [(h0, .inr (7, [.ref qb])), (qb, .inl (cb, 16, .inr (.inr (.inr (.inr (fun _ => none))))))] := hD
        refine W.widen (k := 0) (n := 0) (Nat.le_of_ble_eq_true rfl) (Nat.le_of_ble_eq_true rfl) ?_
        refine W.eq (g2 := F0 m 43 ls [.int r_4]) rfl ?_
        refine lv_if_ne (tgt := 56) hx hb dX7_make_43 (by decide) (fun c_5 => ?_) (fun c_5 => ?_)
        ·
          have ic_5 : ¬ r_4.toInt = 0 := tx_ne rfl (by decide) c_5
          refine lv_aload_n hx hb dX7_make_56 rfl (lv_at hl 0 rfl) ?_
          refine lv_iload_n hx hb dX7_make_57 rfl (lv_at hl 1 rfl) ?_
          refine lv_iload_n hx hb dX7_make_58 rfl (lv_at hl 2 rfl) ?_
          refine lv_iload_n hx hb dX7_make_59 rfl (lv_at hl 3 rfl) ?_
          have hPc := hP.sub (ws' := []) [] rfl
          have hDc := hD.sub (ws' := []) [] (by decide) rfl
          have hKc := hK.sub (tys' := []) [] rfl
          have hFc := va_free (wc := []) hD hS hA [] rfl
          have hZc := (hZ.kept hS.2.1).narrow hFc
          refine va_callr (va_runS (As := [.int p0, .int p1, .int p2]) (rest := [.ref h0]) ⟨hx, hb, hml, hown, hts⟩ (c_X7_newMap l hlt dC dI H.size p0 p1 p2) (va_cwS 3 hts (goodIn_mono gX7_make_X7_newMap) rfl rfl rfl (by decide +kernel) ⟨(Nat.le_of_ble_eq_true rfl), (Nat.le_of_ble_eq_true rfl)⟩) ⟨pk_blindX, pk_callX hPc hKc hDc hN hZc⟩ rfl rfl hl.1 rfl (lv_room (Nat.le_of_ble_eq_true rfl)) dX7_make_60 ⟨(Nat.le_of_ble_eq_true rfl), (Nat.le_of_ble_eq_true rfl)⟩) hS (fun q _ h => hFc q h) hFc (fun ur_6 r_6 t H1 locs ht hvm hw hB hz1 hk1 hS => ?_)
          try dsimp only at hw
          have jr_6 := hw
          have jur_6 := hw
          obtain ⟨hP1, hK1, hD1⟩ := hB
          rw [ht] at hP1
          have hK1 := va_K.moved hvm.symm hK1
          obtain ⟨hP, hD⟩ := va_join (wr := [(h0, .inr (7, [.ref qb])), (qb, .inl (cb, 16, .inr (.inr (.inr (.inr (fun _ => none))))))]) (w1 := [(r_6, .inr (ur_6.1, ur_6.2))]) hP hD [] [0, 1] rfl rfl (by decide) (by decide) hk1 hFc hP1 hD1
          clear hk1 hz1 ht hPc hDc hKc
          generalize H1 = H at hP hS ⊢
          have hP : va_P (dC, dI) vwCl [(h0, .inr (7, [.ref qb])), (qb, .inl (cb, 16, .inr (.inr (.inr (.inr (fun _ => none)))))), (r_6, .inr (ur_6.1, ur_6.2))] H := hP
          have hD : va_D A [(h0, .inr (7, [.ref qb])), (qb, .inl (cb, 16, .inr (.inr (.inr (.inr (fun _ => none)))))), (r_6, .inr (ur_6.1, ur_6.2))] := hD
          refine W.widen (k := 5) (n := 43) (Nat.le_of_ble_eq_true rfl) (Nat.le_of_ble_eq_true rfl) ?_
          refine W.eq (g2 := F0 m 63 ls [.ref r_6, .ref h0]) rfl ?_
          rcases jur_6 with er_6 | er_6 | er_6
          ·
            rw [er_6] at hP hD
            have hP : va_P (dC, dI) vwCl [(h0, .inr (7, [.ref qb])), (qb, .inl (cb, 16, .inr (.inr (.inr (.inr (fun _ => none)))))), (r_6, .inr (3, ur_6.2))] H := hP
            have hD : va_D A [(h0, .inr (7, [.ref qb])), (qb, .inl (cb, 16, .inr (.inr (.inr (.inr (fun _ => none)))))), (r_6, .inr (3, ur_6.2))] := hD
            have hPc := hP.sub (ws' := [(h0, .inr (7, [.ref qb])), (qb, .inl (cb, 16, .inr (.inr (.inr (.inr (fun _ => none)))))), (r_6, .inr (3, ur_6.2))]) [0, 1, 2] rfl
            have hDc := hD.sub (ws' := [(h0, .inr (7, [.ref qb])), (qb, .inl (cb, 16, .inr (.inr (.inr (.inr (fun _ => none)))))), (r_6, .inr (3, ur_6.2))]) [0, 1, 2] (by decide) rfl
            have hKc := hK.sub (tys' := [(cb, .object "KeyAtlas$Body")]) [0] rfl
            have hFc := va_free (wc := [(h0, .inr (7, [.ref qb])), (qb, .inl (cb, 16, .inr (.inr (.inr (.inr (fun _ => none)))))), (r_6, .inr (3, ur_6.2))]) hD hS hA [0, 1, 2] rfl
            have hZc := (hZ.kept hS.2.1).narrow hFc
            refine va_calli (va_runV (As := [.ref r_6]) (rest := []) ⟨hx, hb, hml, hown, hts⟩ (c_X7_settle_X2 l hlt dC dI H.size h0 qb cb r_6 ur_6.2) (cwV 1 hts (goodIn_mono gX7_make_X7_settle) rfl rfl rfl (by decide +kernel) ⟨(Nat.le_of_ble_eq_true rfl), (Nat.le_of_ble_eq_true rfl)⟩) ⟨pk_blindX, va_recv hKc hPc (ci := 7) (q0 := 0) rfl rfl, pk_callX hPc hKc hDc hN hZc⟩ rfl rfl hl.1 rfl (lv_room (Nat.le_of_ble_eq_true rfl)) dX7_make_63 ⟨(Nat.le_of_ble_eq_true rfl), (Nat.le_of_ble_eq_true rfl)⟩) hS (fun q _ h => hFc q h) hFc (fun r_7 ur_7 t H1 locs ht hvm hw hB hz1 hk1 hS => ?_)
            try dsimp only at hw
            have jr_7 := hw
            obtain ⟨hP, hD⟩ := va_join (wr := []) (w1 := []) hP hD [0, 1, 2] [] rfl rfl (by decide) (by decide) hk1 hFc tx_P0 tx_D0
            clear hk1 hz1 ht hPc hDc hKc
            generalize H1 = H at hP hS ⊢
            have hP : va_P (dC, dI) vwCl [] H := hP
            have hD : va_D A [] := hD
            refine W.widen (k := 5) (n := 43) (Nat.le_of_ble_eq_true rfl) (Nat.le_of_ble_eq_true rfl) ?_
            refine W.eq (g2 := F0 m 66 ls [.int r_7]) rfl ?_
            refine W.widen (k := 6) (n := 49) (Nat.le_of_ble_eq_true rfl) (Nat.le_of_ble_eq_true rfl) ?_
            refine vx_ret ?_
            exact W.iret (v := r_7) hx hb hr (fun t ht hW => ⟨⟨r_7, (), rfl, ⟨jr_7, by unfold mkIs; unfold mkRng at *; omega⟩, trivial⟩, hS.F ht⟩) hS.2.2 dX7_make_66
          ·
            rw [er_6] at hP hD
            have hP : va_P (dC, dI) vwCl [(h0, .inr (7, [.ref qb])), (qb, .inl (cb, 16, .inr (.inr (.inr (.inr (fun _ => none)))))), (r_6, .inr (4, ur_6.2))] H := hP
            have hD : va_D A [(h0, .inr (7, [.ref qb])), (qb, .inl (cb, 16, .inr (.inr (.inr (.inr (fun _ => none)))))), (r_6, .inr (4, ur_6.2))] := hD
            have hPc := hP.sub (ws' := [(h0, .inr (7, [.ref qb])), (qb, .inl (cb, 16, .inr (.inr (.inr (.inr (fun _ => none)))))), (r_6, .inr (4, ur_6.2))]) [0, 1, 2] rfl
            have hDc := hD.sub (ws' := [(h0, .inr (7, [.ref qb])), (qb, .inl (cb, 16, .inr (.inr (.inr (.inr (fun _ => none)))))), (r_6, .inr (4, ur_6.2))]) [0, 1, 2] (by decide) rfl
            have hKc := hK.sub (tys' := [(cb, .object "KeyAtlas$Body")]) [0] rfl
            have hFc := va_free (wc := [(h0, .inr (7, [.ref qb])), (qb, .inl (cb, 16, .inr (.inr (.inr (.inr (fun _ => none)))))), (r_6, .inr (4, ur_6.2))]) hD hS hA [0, 1, 2] rfl
            have hZc := (hZ.kept hS.2.1).narrow hFc
            refine va_calli (va_runV (As := [.ref r_6]) (rest := []) ⟨hx, hb, hml, hown, hts⟩ (c_X7_settle_X4 l hlt dC dI H.size h0 qb cb r_6 ur_6.2) (cwV 1 hts (goodIn_mono gX7_make_X7_settle) rfl rfl rfl (by decide +kernel) ⟨(Nat.le_of_ble_eq_true rfl), (Nat.le_of_ble_eq_true rfl)⟩) ⟨pk_blindX, va_recv hKc hPc (ci := 7) (q0 := 0) rfl rfl, pk_callX hPc hKc hDc hN hZc⟩ rfl rfl hl.1 rfl (lv_room (Nat.le_of_ble_eq_true rfl)) dX7_make_63 ⟨(Nat.le_of_ble_eq_true rfl), (Nat.le_of_ble_eq_true rfl)⟩) hS (fun q _ h => hFc q h) hFc (fun r_8 ur_8 t H1 locs ht hvm hw hB hz1 hk1 hS => ?_)
            try dsimp only at hw
            have jr_8 := hw
            obtain ⟨hP, hD⟩ := va_join (wr := []) (w1 := []) hP hD [0, 1, 2] [] rfl rfl (by decide) (by decide) hk1 hFc tx_P0 tx_D0
            clear hk1 hz1 ht hPc hDc hKc
            generalize H1 = H at hP hS ⊢
            have hP : va_P (dC, dI) vwCl [] H := hP
            have hD : va_D A [] := hD
            refine W.widen (k := 5) (n := 43) (Nat.le_of_ble_eq_true rfl) (Nat.le_of_ble_eq_true rfl) ?_
            refine W.eq (g2 := F0 m 66 ls [.int r_8]) rfl ?_
            refine W.widen (k := 6) (n := 49) (Nat.le_of_ble_eq_true rfl) (Nat.le_of_ble_eq_true rfl) ?_
            refine vx_ret ?_
            exact W.iret (v := r_8) hx hb hr (fun t ht hW => ⟨⟨r_8, (), rfl, ⟨jr_8, by unfold mkIs; unfold mkRng at *; omega⟩, trivial⟩, hS.F ht⟩) hS.2.2 dX7_make_66
          ·
            rw [er_6] at hP hD
            have hP : va_P (dC, dI) vwCl [(h0, .inr (7, [.ref qb])), (qb, .inl (cb, 16, .inr (.inr (.inr (.inr (fun _ => none)))))), (r_6, .inr (6, ur_6.2))] H := hP
            have hD : va_D A [(h0, .inr (7, [.ref qb])), (qb, .inl (cb, 16, .inr (.inr (.inr (.inr (fun _ => none)))))), (r_6, .inr (6, ur_6.2))] := hD
            have hPc := hP.sub (ws' := [(h0, .inr (7, [.ref qb])), (qb, .inl (cb, 16, .inr (.inr (.inr (.inr (fun _ => none)))))), (r_6, .inr (6, ur_6.2))]) [0, 1, 2] rfl
            have hDc := hD.sub (ws' := [(h0, .inr (7, [.ref qb])), (qb, .inl (cb, 16, .inr (.inr (.inr (.inr (fun _ => none)))))), (r_6, .inr (6, ur_6.2))]) [0, 1, 2] (by decide) rfl
            have hKc := hK.sub (tys' := [(cb, .object "KeyAtlas$Body")]) [0] rfl
            have hFc := va_free (wc := [(h0, .inr (7, [.ref qb])), (qb, .inl (cb, 16, .inr (.inr (.inr (.inr (fun _ => none)))))), (r_6, .inr (6, ur_6.2))]) hD hS hA [0, 1, 2] rfl
            have hZc := (hZ.kept hS.2.1).narrow hFc
            refine va_calli (va_runV (As := [.ref r_6]) (rest := []) ⟨hx, hb, hml, hown, hts⟩ (c_X7_settle_X6 l hlt dC dI H.size h0 qb cb r_6 ur_6.2) (cwV 1 hts (goodIn_mono gX7_make_X7_settle) rfl rfl rfl (by decide +kernel) ⟨(Nat.le_of_ble_eq_true rfl), (Nat.le_of_ble_eq_true rfl)⟩) ⟨pk_blindX, va_recv hKc hPc (ci := 7) (q0 := 0) rfl rfl, pk_callX hPc hKc hDc hN hZc⟩ rfl rfl hl.1 rfl (lv_room (Nat.le_of_ble_eq_true rfl)) dX7_make_63 ⟨(Nat.le_of_ble_eq_true rfl), (Nat.le_of_ble_eq_true rfl)⟩) hS (fun q _ h => hFc q h) hFc (fun r_9 ur_9 t H1 locs ht hvm hw hB hz1 hk1 hS => ?_)
            try dsimp only at hw
            have jr_9 := hw
            obtain ⟨hP, hD⟩ := va_join (wr := []) (w1 := []) hP hD [0, 1, 2] [] rfl rfl (by decide) (by decide) hk1 hFc tx_P0 tx_D0
            clear hk1 hz1 ht hPc hDc hKc
            generalize H1 = H at hP hS ⊢
            have hP : va_P (dC, dI) vwCl [] H := hP
            have hD : va_D A [] := hD
            refine W.widen (k := 5) (n := 43) (Nat.le_of_ble_eq_true rfl) (Nat.le_of_ble_eq_true rfl) ?_
            refine W.eq (g2 := F0 m 66 ls [.int r_9]) rfl ?_
            refine W.widen (k := 6) (n := 49) (Nat.le_of_ble_eq_true rfl) (Nat.le_of_ble_eq_true rfl) ?_
            refine vx_ret ?_
            exact W.iret (v := r_9) hx hb hr (fun t ht hW => ⟨⟨r_9, (), rfl, ⟨jr_9, by unfold mkIs; unfold mkRng at *; omega⟩, trivial⟩, hS.F ht⟩) hS.2.2 dX7_make_66
        ·
          have ic_5 : r_4.toInt = 0 := tx_eq rfl (by decide) c_5
          obtain ⟨sa, hsa⟩ := hN.stX7_31
          exact vx_throwS hx hb hlt (own := RX7) (cls := "java/lang/IllegalArgumentException") (text := "a or b out of range") (names := ["java/lang/RuntimeException", "java/lang/Exception"]) hown (by decide +kernel) (by decide +kernel) (hts (.classLink RX7 15 "java/lang/IllegalArgumentException") (by decide +kernel)) (hts (.initialized "java/lang/IllegalArgumentException") (by decide +kernel)) hsa (tx_hat hN.xw (fun w h => hts w (List.mem_append_left _ (List.mem_cons_of_mem _ (List.mem_append_left _ (List.mem_append_right _ h))))) (by decide +kernel)) (by decide +kernel) hZ.1 hZ.2 hS (by rw [hml]; exact hl.1) dX7_make_46 dX7_make_49 dX7_make_50 dX7_make_52 dX7_make_55 (fun x hx9 => (htab x hx9).elim) (by decide) (by decide) (Nat.le_of_ble_eq_true rfl) (Nat.le_of_ble_eq_true rfl) hlocks (fun t hvm hz hq => ⟨(), trivial, Or.inl ⟨rfl, by unfold mkIs; unfold mkRng at *; omega⟩, ⟨Nat.le_trans hS.1 hz, fun q h1 h2 => (hq q (Nat.lt_of_lt_of_le h1 hS.1)).trans (hS.2.1 q h1 h2)⟩⟩) hS.2.2 (Nat.le_of_ble_eq_true rfl) (Nat.le_of_ble_eq_true rfl)
      ·
        have ic_3 : p0.toInt = 0 := tx_eq rfl (by decide) c_3
        refine lv_iload_n hx hb dX7_make_23 rfl (lv_at hl 2 rfl) ?_
        refine lv_if_ge (tgt := 37) hx hb dX7_make_24 (by decide) (fun c_10 => ?_) (fun c_10 => ?_)
        ·
          have ic_10 : 0 ≤ p1.toInt := tx_le (by decide) rfl c_10
          refine lv_iload_n hx hb dX7_make_37 rfl (lv_at hl 1 rfl) ?_
          refine lv_iload_n hx hb dX7_make_38 rfl (lv_at hl 2 rfl) ?_
          refine lv_iload_n hx hb dX7_make_39 rfl (lv_at hl 3 rfl) ?_
          have hPc := hP.sub (ws' := []) [] rfl
          have hDc := hD.sub (ws' := []) [] (by decide) rfl
          have hKc := hK.sub (tys' := []) [] rfl
          have hFc := va_free (wc := []) hD hS hA [] rfl
          refine va_calli (va_runS (As := [.int p0, .int p1, .int p2]) (rest := []) ⟨hx, hb, hml, hown, hts⟩ (c_X7_areInRange l  dC dI s.heap.size p0 p1 p2) (va_cwS 3 hts (goodIn_mono gX7_make_X7_areInRange) rfl rfl rfl (by decide +kernel) ⟨(Nat.le_of_ble_eq_true rfl), (Nat.le_of_ble_eq_true rfl)⟩) ⟨pk_blind, pk_call hPc hKc hDc⟩ rfl rfl hl.1 rfl (lv_room (Nat.le_of_ble_eq_true rfl)) dX7_make_40 ⟨(Nat.le_of_ble_eq_true rfl), (Nat.le_of_ble_eq_true rfl)⟩) hS (fun q _ h => hFc q h) hFc (fun r_11 ur_11 t H1 locs ht hvm hw hB hz1 hk1 hS => ?_)
          try dsimp only at hw
          have jr_11 := hw
          obtain ⟨hP, hD⟩ := va_join (wr := [(h0, .inr (7, [.ref qb])), (qb, .inl (cb, 16, .inr (.inr (.inr (.inr (fun _ => none))))))]) (w1 := []) hP hD [] [0, 1] rfl rfl (by decide) (by decide) hk1 hFc tx_P0 tx_D0
          clear hk1 hz1 ht hPc hDc hKc
          generalize H1 = H at hP hS ⊢
          have hP : va_P (dC, dI) vwCl [(h0, .inr (7, [.ref qb])), (qb, .inl (cb, 16, .inr (.inr (.inr (.inr (fun _ => none))))))] H := hP
          have hD : va_D A [(h0, .inr (7, [.ref qb])), (qb, .inl (cb, 16, .inr (.inr (.inr (.inr (fun _ => none))))))] := hD
          refine W.widen (k := 0) (n := 0) (Nat.le_of_ble_eq_true rfl) (Nat.le_of_ble_eq_true rfl) ?_
          refine W.eq (g2 := F0 m 43 ls [.int r_11]) rfl ?_
          refine lv_if_ne (tgt := 56) hx hb dX7_make_43 (by decide) (fun c_12 => ?_) (fun c_12 => ?_)
          ·
            have ic_12 : ¬ r_11.toInt = 0 := tx_ne rfl (by decide) c_12
            refine lv_aload_n hx hb dX7_make_56 rfl (lv_at hl 0 rfl) ?_
            refine lv_iload_n hx hb dX7_make_57 rfl (lv_at hl 1 rfl) ?_
            refine lv_iload_n hx hb dX7_make_58 rfl (lv_at hl 2 rfl) ?_
            refine lv_iload_n hx hb dX7_make_59 rfl (lv_at hl 3 rfl) ?_
            have hPc := hP.sub (ws' := []) [] rfl
            have hDc := hD.sub (ws' := []) [] (by decide) rfl
            have hKc := hK.sub (tys' := []) [] rfl
            have hFc := va_free (wc := []) hD hS hA [] rfl
            have hZc := (hZ.kept hS.2.1).narrow hFc
            refine va_callr (va_runS (As := [.int p0, .int p1, .int p2]) (rest := [.ref h0]) ⟨hx, hb, hml, hown, hts⟩ (c_X7_newMap l hlt dC dI H.size p0 p1 p2) (va_cwS 3 hts (goodIn_mono gX7_make_X7_newMap) rfl rfl rfl (by decide +kernel) ⟨(Nat.le_of_ble_eq_true rfl), (Nat.le_of_ble_eq_true rfl)⟩) ⟨pk_blindX, pk_callX hPc hKc hDc hN hZc⟩ rfl rfl hl.1 rfl (lv_room (Nat.le_of_ble_eq_true rfl)) dX7_make_60 ⟨(Nat.le_of_ble_eq_true rfl), (Nat.le_of_ble_eq_true rfl)⟩) hS (fun q _ h => hFc q h) hFc (fun ur_13 r_13 t H1 locs ht hvm hw hB hz1 hk1 hS => ?_)
            try dsimp only at hw
            have jr_13 := hw
            have jur_13 := hw
            obtain ⟨hP1, hK1, hD1⟩ := hB
            rw [ht] at hP1
            have hK1 := va_K.moved hvm.symm hK1
            obtain ⟨hP, hD⟩ := va_join (wr := [(h0, .inr (7, [.ref qb])), (qb, .inl (cb, 16, .inr (.inr (.inr (.inr (fun _ => none))))))]) (w1 := [(r_13, .inr (ur_13.1, ur_13.2))]) hP hD [] [0, 1] rfl rfl (by decide) (by decide) hk1 hFc hP1 hD1
            clear hk1 hz1 ht hPc hDc hKc
            generalize H1 = H at hP hS ⊢
            have hP : va_P (dC, dI) vwCl [(h0, .inr (7, [.ref qb])), (qb, .inl (cb, 16, .inr (.inr (.inr (.inr (fun _ => none)))))), (r_13, .inr (ur_13.1, ur_13.2))] H := hP
            have hD : va_D A [(h0, .inr (7, [.ref qb])), (qb, .inl (cb, 16, .inr (.inr (.inr (.inr (fun _ => none)))))), (r_13, .inr (ur_13.1, ur_13.2))] := hD
            refine W.widen (k := 5) (n := 43) (Nat.le_of_ble_eq_true rfl) (Nat.le_of_ble_eq_true rfl) ?_
            refine W.eq (g2 := F0 m 63 ls [.ref r_13, .ref h0]) rfl ?_
            rcases jur_13 with er_13 | er_13 | er_13
            ·
              rw [er_13] at hP hD
              have hP : va_P (dC, dI) vwCl [(h0, .inr (7, [.ref qb])), (qb, .inl (cb, 16, .inr (.inr (.inr (.inr (fun _ => none)))))), (r_13, .inr (3, ur_13.2))] H := hP
              have hD : va_D A [(h0, .inr (7, [.ref qb])), (qb, .inl (cb, 16, .inr (.inr (.inr (.inr (fun _ => none)))))), (r_13, .inr (3, ur_13.2))] := hD
              have hPc := hP.sub (ws' := [(h0, .inr (7, [.ref qb])), (qb, .inl (cb, 16, .inr (.inr (.inr (.inr (fun _ => none)))))), (r_13, .inr (3, ur_13.2))]) [0, 1, 2] rfl
              have hDc := hD.sub (ws' := [(h0, .inr (7, [.ref qb])), (qb, .inl (cb, 16, .inr (.inr (.inr (.inr (fun _ => none)))))), (r_13, .inr (3, ur_13.2))]) [0, 1, 2] (by decide) rfl
              have hKc := hK.sub (tys' := [(cb, .object "KeyAtlas$Body")]) [0] rfl
              have hFc := va_free (wc := [(h0, .inr (7, [.ref qb])), (qb, .inl (cb, 16, .inr (.inr (.inr (.inr (fun _ => none)))))), (r_13, .inr (3, ur_13.2))]) hD hS hA [0, 1, 2] rfl
              have hZc := (hZ.kept hS.2.1).narrow hFc
              refine va_calli (va_runV (As := [.ref r_13]) (rest := []) ⟨hx, hb, hml, hown, hts⟩ (c_X7_settle_X2 l hlt dC dI H.size h0 qb cb r_13 ur_13.2) (cwV 1 hts (goodIn_mono gX7_make_X7_settle) rfl rfl rfl (by decide +kernel) ⟨(Nat.le_of_ble_eq_true rfl), (Nat.le_of_ble_eq_true rfl)⟩) ⟨pk_blindX, va_recv hKc hPc (ci := 7) (q0 := 0) rfl rfl, pk_callX hPc hKc hDc hN hZc⟩ rfl rfl hl.1 rfl (lv_room (Nat.le_of_ble_eq_true rfl)) dX7_make_63 ⟨(Nat.le_of_ble_eq_true rfl), (Nat.le_of_ble_eq_true rfl)⟩) hS (fun q _ h => hFc q h) hFc (fun r_14 ur_14 t H1 locs ht hvm hw hB hz1 hk1 hS => ?_)
              try dsimp only at hw
              have jr_14 := hw
              obtain ⟨hP, hD⟩ := va_join (wr := []) (w1 := []) hP hD [0, 1, 2] [] rfl rfl (by decide) (by decide) hk1 hFc tx_P0 tx_D0
              clear hk1 hz1 ht hPc hDc hKc
              generalize H1 = H at hP hS ⊢
              have hP : va_P (dC, dI) vwCl [] H := hP
              have hD : va_D A [] := hD
              refine W.widen (k := 5) (n := 43) (Nat.le_of_ble_eq_true rfl) (Nat.le_of_ble_eq_true rfl) ?_
              refine W.eq (g2 := F0 m 66 ls [.int r_14]) rfl ?_
              refine W.widen (k := 6) (n := 49) (Nat.le_of_ble_eq_true rfl) (Nat.le_of_ble_eq_true rfl) ?_
              refine vx_ret ?_
              exact W.iret (v := r_14) hx hb hr (fun t ht hW => ⟨⟨r_14, (), rfl, ⟨jr_14, by unfold mkIs; unfold mkRng at *; omega⟩, trivial⟩, hS.F ht⟩) hS.2.2 dX7_make_66
            ·
              rw [er_13] at hP hD
              have hP : va_P (dC, dI) vwCl [(h0, .inr (7, [.ref qb])), (qb, .inl (cb, 16, .inr (.inr (.inr (.inr (fun _ => none)))))), (r_13, .inr (4, ur_13.2))] H := hP
              have hD : va_D A [(h0, .inr (7, [.ref qb])), (qb, .inl (cb, 16, .inr (.inr (.inr (.inr (fun _ => none)))))), (r_13, .inr (4, ur_13.2))] := hD
              have hPc := hP.sub (ws' := [(h0, .inr (7, [.ref qb])), (qb, .inl (cb, 16, .inr (.inr (.inr (.inr (fun _ => none)))))), (r_13, .inr (4, ur_13.2))]) [0, 1, 2] rfl
              have hDc := hD.sub (ws' := [(h0, .inr (7, [.ref qb])), (qb, .inl (cb, 16, .inr (.inr (.inr (.inr (fun _ => none)))))), (r_13, .inr (4, ur_13.2))]) [0, 1, 2] (by decide) rfl
              have hKc := hK.sub (tys' := [(cb, .object "KeyAtlas$Body")]) [0] rfl
              have hFc := va_free (wc := [(h0, .inr (7, [.ref qb])), (qb, .inl (cb, 16, .inr (.inr (.inr (.inr (fun _ => none)))))), (r_13, .inr (4, ur_13.2))]) hD hS hA [0, 1, 2] rfl
              have hZc := (hZ.kept hS.2.1).narrow hFc
              refine va_calli (va_runV (As := [.ref r_13]) (rest := []) ⟨hx, hb, hml, hown, hts⟩ (c_X7_settle_X4 l hlt dC dI H.size h0 qb cb r_13 ur_13.2) (cwV 1 hts (goodIn_mono gX7_make_X7_settle) rfl rfl rfl (by decide +kernel) ⟨(Nat.le_of_ble_eq_true rfl), (Nat.le_of_ble_eq_true rfl)⟩) ⟨pk_blindX, va_recv hKc hPc (ci := 7) (q0 := 0) rfl rfl, pk_callX hPc hKc hDc hN hZc⟩ rfl rfl hl.1 rfl (lv_room (Nat.le_of_ble_eq_true rfl)) dX7_make_63 ⟨(Nat.le_of_ble_eq_true rfl), (Nat.le_of_ble_eq_true rfl)⟩) hS (fun q _ h => hFc q h) hFc (fun r_15 ur_15 t H1 locs ht hvm hw hB hz1 hk1 hS => ?_)
              try dsimp only at hw
              have jr_15 := hw
              obtain ⟨hP, hD⟩ := va_join (wr := []) (w1 := []) hP hD [0, 1, 2] [] rfl rfl (by decide) (by decide) hk1 hFc tx_P0 tx_D0
              clear hk1 hz1 ht hPc hDc hKc
              generalize H1 = H at hP hS ⊢
              have hP : va_P (dC, dI) vwCl [] H := hP
              have hD : va_D A [] := hD
              refine W.widen (k := 5) (n := 43) (Nat.le_of_ble_eq_true rfl) (Nat.le_of_ble_eq_true rfl) ?_
              refine W.eq (g2 := F0 m 66 ls [.int r_15]) rfl ?_
              refine W.widen (k := 6) (n := 49) (Nat.le_of_ble_eq_true rfl) (Nat.le_of_ble_eq_true rfl) ?_
              refine vx_ret ?_
              exact W.iret (v := r_15) hx hb hr (fun t ht hW => ⟨⟨r_15, (), rfl, ⟨jr_15, by unfold mkIs; unfold mkRng at *; omega⟩, trivial⟩, hS.F ht⟩) hS.2.2 dX7_make_66
            ·
              rw [er_13] at hP hD
              have hP : va_P (dC, dI) vwCl [(h0, .inr (7, [.ref qb])), (qb, .inl (cb, 16, .inr (.inr (.inr (.inr (fun _ => none)))))), (r_13, .inr (6, ur_13.2))] H := hP
              have hD : va_D A [(h0, .inr (7, [.ref qb])), (qb, .inl (cb, 16, .inr (.inr (.inr (.inr (fun _ => none)))))), (r_13, .inr (6, ur_13.2))] := hD
              have hPc := hP.sub (ws' := [(h0, .inr (7, [.ref qb])), (qb, .inl (cb, 16, .inr (.inr (.inr (.inr (fun _ => none)))))), (r_13, .inr (6, ur_13.2))]) [0, 1, 2] rfl
              have hDc := hD.sub (ws' := [(h0, .inr (7, [.ref qb])), (qb, .inl (cb, 16, .inr (.inr (.inr (.inr (fun _ => none)))))), (r_13, .inr (6, ur_13.2))]) [0, 1, 2] (by decide) rfl
              have hKc := hK.sub (tys' := [(cb, .object "KeyAtlas$Body")]) [0] rfl
              have hFc := va_free (wc := [(h0, .inr (7, [.ref qb])), (qb, .inl (cb, 16, .inr (.inr (.inr (.inr (fun _ => none)))))), (r_13, .inr (6, ur_13.2))]) hD hS hA [0, 1, 2] rfl
              have hZc := (hZ.kept hS.2.1).narrow hFc
              refine va_calli (va_runV (As := [.ref r_13]) (rest := []) ⟨hx, hb, hml, hown, hts⟩ (c_X7_settle_X6 l hlt dC dI H.size h0 qb cb r_13 ur_13.2) (cwV 1 hts (goodIn_mono gX7_make_X7_settle) rfl rfl rfl (by decide +kernel) ⟨(Nat.le_of_ble_eq_true rfl), (Nat.le_of_ble_eq_true rfl)⟩) ⟨pk_blindX, va_recv hKc hPc (ci := 7) (q0 := 0) rfl rfl, pk_callX hPc hKc hDc hN hZc⟩ rfl rfl hl.1 rfl (lv_room (Nat.le_of_ble_eq_true rfl)) dX7_make_63 ⟨(Nat.le_of_ble_eq_true rfl), (Nat.le_of_ble_eq_true rfl)⟩) hS (fun q _ h => hFc q h) hFc (fun r_16 ur_16 t H1 locs ht hvm hw hB hz1 hk1 hS => ?_)
              try dsimp only at hw
              have jr_16 := hw
              obtain ⟨hP, hD⟩ := va_join (wr := []) (w1 := []) hP hD [0, 1, 2] [] rfl rfl (by decide) (by decide) hk1 hFc tx_P0 tx_D0
              clear hk1 hz1 ht hPc hDc hKc
              generalize H1 = H at hP hS ⊢
              have hP : va_P (dC, dI) vwCl [] H := hP
              have hD : va_D A [] := hD
              refine W.widen (k := 5) (n := 43) (Nat.le_of_ble_eq_true rfl) (Nat.le_of_ble_eq_true rfl) ?_
              refine W.eq (g2 := F0 m 66 ls [.int r_16]) rfl ?_
              refine W.widen (k := 6) (n := 49) (Nat.le_of_ble_eq_true rfl) (Nat.le_of_ble_eq_true rfl) ?_
              refine vx_ret ?_
              exact W.iret (v := r_16) hx hb hr (fun t ht hW => ⟨⟨r_16, (), rfl, ⟨jr_16, by unfold mkIs; unfold mkRng at *; omega⟩, trivial⟩, hS.F ht⟩) hS.2.2 dX7_make_66
          ·
            have ic_12 : r_11.toInt = 0 := tx_eq rfl (by decide) c_12
            obtain ⟨sa, hsa⟩ := hN.stX7_31
            exact vx_throwS hx hb hlt (own := RX7) (cls := "java/lang/IllegalArgumentException") (text := "a or b out of range") (names := ["java/lang/RuntimeException", "java/lang/Exception"]) hown (by decide +kernel) (by decide +kernel) (hts (.classLink RX7 15 "java/lang/IllegalArgumentException") (by decide +kernel)) (hts (.initialized "java/lang/IllegalArgumentException") (by decide +kernel)) hsa (tx_hat hN.xw (fun w h => hts w (List.mem_append_left _ (List.mem_cons_of_mem _ (List.mem_append_left _ (List.mem_append_right _ h))))) (by decide +kernel)) (by decide +kernel) hZ.1 hZ.2 hS (by rw [hml]; exact hl.1) dX7_make_46 dX7_make_49 dX7_make_50 dX7_make_52 dX7_make_55 (fun x hx9 => (htab x hx9).elim) (by decide) (by decide) (Nat.le_of_ble_eq_true rfl) (Nat.le_of_ble_eq_true rfl) hlocks (fun t hvm hz hq => ⟨(), trivial, Or.inl ⟨rfl, by unfold mkIs; unfold mkRng at *; omega⟩, ⟨Nat.le_trans hS.1 hz, fun q h1 h2 => (hq q (Nat.lt_of_lt_of_le h1 hS.1)).trans (hS.2.1 q h1 h2)⟩⟩) hS.2.2 (Nat.le_of_ble_eq_true rfl) (Nat.le_of_ble_eq_true rfl)
        ·
          have ic_10 : p1.toInt < 0 := tx_nle (by decide) rfl c_10
          obtain ⟨sa, hsa⟩ := hN.stX7_24
          exact vx_throwS hx hb hlt (own := RX7) (cls := "java/lang/NegativeArraySizeException") (text := "capacity below 0") (names := ["java/lang/RuntimeException", "java/lang/Exception"]) hown (by decide +kernel) (by decide +kernel) (hts (.classLink RX7 22 "java/lang/NegativeArraySizeException") (by decide +kernel)) (hts (.initialized "java/lang/NegativeArraySizeException") (by decide +kernel)) hsa (tx_hat hN.xw (fun w h => hts w (hNX w h)) (by decide +kernel)) (by decide +kernel) hZ.1 hZ.2 hS (by rw [hml]; exact hl.1) dX7_make_27 dX7_make_30 dX7_make_31 dX7_make_33 dX7_make_36 (fun x hx9 => (htab x hx9).elim) (by decide) (by decide) (Nat.le_of_ble_eq_true rfl) (Nat.le_of_ble_eq_true rfl) hlocks (fun t hvm hz hq => ⟨(), trivial, Or.inr ⟨rfl, by unfold mkIs; omega⟩, ⟨Nat.le_trans hS.1 hz, fun q h1 h2 => (hq q (Nat.lt_of_lt_of_le h1 hS.1)).trans (hS.2.1 q h1 h2)⟩⟩) hS.2.2 (Nat.le_of_ble_eq_true rfl) (Nat.le_of_ble_eq_true rfl)
    ·
      have ic_2 : 2 < p0.toInt := tx_nle rfl (by decide) c_2
      obtain ⟨sa, hsa⟩ := hN.stX7_17
      exact vx_throwS hx hb hlt (own := RX7) (cls := "java/lang/IllegalArgumentException") (text := "no such kind") (names := ["java/lang/RuntimeException", "java/lang/Exception"]) hown (by decide +kernel) (by decide +kernel) (hts (.classLink RX7 15 "java/lang/IllegalArgumentException") (by decide +kernel)) (hts (.initialized "java/lang/IllegalArgumentException") (by decide +kernel)) hsa (tx_hat hN.xw (fun w h => hts w (List.mem_append_left _ (List.mem_cons_of_mem _ (List.mem_append_left _ (List.mem_append_right _ h))))) (by decide +kernel)) (by decide +kernel) hZ.1 hZ.2 hS (by rw [hml]; exact hl.1) dX7_make_9 dX7_make_12 dX7_make_13 dX7_make_15 dX7_make_18 (fun x hx9 => (htab x hx9).elim) (by decide) (by decide) (Nat.le_of_ble_eq_true rfl) (Nat.le_of_ble_eq_true rfl) hlocks (fun t hvm hz hq => ⟨(), trivial, Or.inl ⟨rfl, by unfold mkIs; omega⟩, ⟨Nat.le_trans hS.1 hz, fun q h1 h2 => (hq q (Nat.lt_of_lt_of_le h1 hS.1)).trans (hS.2.1 q h1 h2)⟩⟩) hS.2.2 (Nat.le_of_ble_eq_true rfl) (Nat.le_of_ble_eq_true rfl)
set_option maxHeartbeats 4000000 in
set_option maxRecDepth 100000 in
/-- nothing is there -/
theorem c_X7_bodyOrNull (l : Launch) (dC : Nat → ClassId) (dI : Nat → Nat → Nat) (sz : Nat) (h0 : Nat) (qb : Nat) (cb : ClassId) (p0 : Int32) : Met l yX7_bodyOrNull wsX7_bodyOrNull ({ frames := 0, cells := 0, slots := 0, locals := 0 }) (va_Pc [.ref h0, .int p0] (pk_Pre (dC, dI) [(h0, .inr (7, [.ref qb])), (qb, .inl (cb, 16, .inr (.inr (.inr (.inr (fun _ => none))))))] [(cb, .object "KeyAtlas$Body")] sz)) (va_Qq (fun (r : Option Nat) (_ : Unit) => r = none) (fun (_ : Unit) (_ : State) => True) (va_A [(h0, .inr (7, [.ref qb])), (qb, .inl (cb, 16, .inr (.inr (.inr (.inr (fun _ => none))))))] sz)) 0 0 (va_A [(h0, .inr (7, [.ref qb])), (qb, .inl (cb, 16, .inr (.inr (.inr (.inr (fun _ => none))))))] sz) := by
  refine Met.ofW (cc := cX7_bodyOrNull) (maxL := 2) (ret := (some (.object "KeyAtlas$Body"))) (by decide) rfl ?_
  intro p e s m args below meth c s₁ B hml hv
  obtain ⟨rfl, hsz, hP, hK, hD0⟩ := hv
  have hx := B.exec
  have hb := B.bytes
  have hr := B.returns
  have hts := atoms_spec (ws := wsX7_bodyOrNull) B.pre
  have hown : s.vm.findClass RX7 = some m.cls := findClass_of_methodNamed B.named
  have hlocks := B.notSynchronized
  subst hsz
  have hD := hD0.self (sz := s.heap.size)
  generalize hAe : va_A [(h0, .inr (7, [.ref qb])), (qb, .inl (cb, 16, .inr (.inr (.inr (.inr (fun _ => none))))))] s.heap.size = A at hD ⊢
  have hA : ∀ q : Nat, s.heap.size ≤ q → A q := fun q h => by rw [← hAe]; exact Or.inr h
  have hS : va_S A s.heap s.heap [] := va_S.rf
  have hP : va_P (dC, dI) vwCl [(h0, .inr (7, [.ref qb])), (qb, .inl (cb, 16, .inr (.inr (.inr (.inr (fun _ => none))))))] s.heap := hP
  have hl := lv_entry ([.ref h0, .int p0]) (n := 2) (Nat.le_of_ble_eq_true rfl)
  rw [lg_entry_eq]
  generalize (lg_sl ([.ref h0, .int p0]) ++ List.replicate (2 - (lg_sl ([.ref h0, .int p0])).length) Slot.unset).toArray = ls at hl ⊢
  have hl : lv_has ls 2 [(0, .ref h0), (1, .int p0)] := hl
  refine lv_iload_n hx hb dX7_bodyOrNull_0 rfl (lv_at hl 1 rfl) ?_
  refine lv_if_lt (tgt := 22) hx hb dX7_bodyOrNull_1 (by decide) (fun c_1 => ?_) (fun c_1 => ?_)
  ·
    have ic_1 : p0.toInt < 0 := tx_lt rfl (by decide) c_1
    refine lv_null hx hb dX7_bodyOrNull_22 ?_
    refine W.widen (k := 0) (n := 0) (Nat.le_of_ble_eq_true rfl) (Nat.le_of_ble_eq_true rfl) ?_
    exact W.aret (v := .null) hx hb hr (Or.inl ⟨_, rfl⟩) (Or.inl rfl) (fun t ht hW => ⟨⟨none, (), rfl, rfl, trivial⟩, hS.F ht⟩) hS.2.2 dX7_bodyOrNull_23
  ·
    have ic_1 : 0 ≤ p0.toInt := tx_nlt rfl (by decide) c_1
    refine lv_iload_n hx hb dX7_bodyOrNull_4 rfl (lv_at hl 1 rfl) ?_
    refine lv_aload_n hx hb dX7_bodyOrNull_5 rfl (lv_at hl 0 rfl) ?_
    refine va_get (D := (dC, dI)) (ci := 7) (v := .ref qb) (C := RX7) (T := TX7) (N := 1) hx hb hts (by decide +kernel) hown hK hP 0 rfl rfl 0 (by decide) (hts (.fieldLink RX7 11 "KeyAtlas" "bodies" "[LKeyAtlas$Body;") (by decide +kernel)) (fun _ h9 => h9) rfl dX7_bodyOrNull_6 ?_
    refine va_alen (v := 16) hx hb hK hP 1 0 rfl rfl rfl dX7_bodyOrNull_9 ?_
    refine lv_icmp_ge (tgt := 22) hx hb dX7_bodyOrNull_10 (by decide) (fun c_2 => ?_) (fun c_2 => ?_)
    ·
      have ic_2 : 16 ≤ p0.toInt := tx_le (by decide) rfl c_2
      refine lv_null hx hb dX7_bodyOrNull_22 ?_
      refine W.widen (k := 0) (n := 0) (Nat.le_of_ble_eq_true rfl) (Nat.le_of_ble_eq_true rfl) ?_
      exact W.aret (v := .null) hx hb hr (Or.inl ⟨_, rfl⟩) (Or.inl rfl) (fun t ht hW => ⟨⟨none, (), rfl, rfl, trivial⟩, hS.F ht⟩) hS.2.2 dX7_bodyOrNull_23
    ·
      have ic_2 : p0.toInt < 16 := tx_nle (by decide) rfl c_2
      refine lv_aload_n hx hb dX7_bodyOrNull_13 rfl (lv_at hl 0 rfl) ?_
      refine va_get (D := (dC, dI)) (ci := 7) (v := .ref qb) (C := RX7) (T := TX7) (N := 1) hx hb hts (by decide +kernel) hown hK hP 0 rfl rfl 0 (by decide) (hts (.fieldLink RX7 11 "KeyAtlas" "bodies" "[LKeyAtlas$Body;") (by decide +kernel)) (fun _ h9 => h9) rfl dX7_bodyOrNull_14 ?_
      refine lv_iload_n hx hb dX7_bodyOrNull_17 rfl (lv_at hl 1 rfl) ?_
      refine va_aldq (i := p0) hx hb hK hP 1 0 rfl rfl (tx_in (by omega) (by omega)) dX7_bodyOrNull_18 ?_
      refine W.eq (g2 := F0 m 19 ls [.null]) rfl ?_
      refine lv_goto (tgt := 23) hx hb dX7_bodyOrNull_19 (by decide) ?_
      refine W.widen (k := 0) (n := 0) (Nat.le_of_ble_eq_true rfl) (Nat.le_of_ble_eq_true rfl) ?_
      exact W.aret (v := .null) hx hb hr (Or.inl ⟨_, rfl⟩) (Or.inl rfl) (fun t ht hW => ⟨⟨none, (), rfl, rfl, trivial⟩, hS.F ht⟩) hS.2.2 dX7_bodyOrNull_23
set_option maxHeartbeats 4000000 in
set_option maxRecDepth 100000 in
/-- nothing is there: it throws -/
theorem c_X7_bodyAt (l : Launch) (hlt : l.stackTraces = false) (dC : Nat → ClassId) (dI : Nat → Nat → Nat) (sz : Nat) (h0 : Nat) (qb : Nat) (cb : ClassId) (p0 : Int32) : vx_Met l yX7_bodyAt wsP_X7_bodyAt ({ frames := 6, cells := 1, slots := 6, locals := 100 }) (va_Pc [.ref h0, .int p0] (pk_PreX (dC, dI) [(h0, .inr (7, [.ref qb])), (qb, .inl (cb, 16, .inr (.inr (.inr (.inr (fun _ => none))))))] [(cb, .object "KeyAtlas$Body")] sz)) (va_Qv (fun (_ : Unit) => False) (fun (_ : Unit) (_ : State) => True) (va_A [(h0, .inr (7, [.ref qb])), (qb, .inl (cb, 16, .inr (.inr (.inr (.inr (fun _ => none))))))] sz)) (vx_X (fun _ : Unit => True) (fun (E : String) (_ : Unit) (_ : State) => E = "java/util/NoSuchElementException") (va_A [(h0, .inr (7, [.ref qb])), (qb, .inl (cb, 16, .inr (.inr (.inr (.inr (fun _ => none))))))] sz)) 1 6 (va_A [(h0, .inr (7, [.ref qb])), (qb, .inl (cb, 16, .inr (.inr (.inr (.inr (fun _ => none))))))] sz) := by
  refine vx_ofW (cc := cX7_bodyAt) (maxL := 3) (ret := (some (.object "KeyAtlas$Body"))) (by decide) rfl ?_
  intro p e s m args below meth c s₁ B hml htab hv
  obtain ⟨rfl, hsz, hP, hK, hD0, hN, hZ⟩ := hv
  have hx := B.exec
  have hb := B.bytes
  have hr := B.returns
  have hts := atoms_spec (ws := wsP_X7_bodyAt) B.pre
  have hown : s.vm.findClass RX7 = some m.cls := findClass_of_methodNamed B.named
  have hlocks := B.notSynchronized
  subst hsz
  have hD := hD0.self (sz := s.heap.size)
  generalize hAe : va_A [(h0, .inr (7, [.ref qb])), (qb, .inl (cb, 16, .inr (.inr (.inr (.inr (fun _ => none))))))] s.heap.size = A at hZ hD ⊢
  have hA : ∀ q : Nat, s.heap.size ≤ q → A q := fun q h => by rw [← hAe]; exact Or.inr h
  have hS : va_S A s.heap s.heap [] := va_S.rf
  have hP : va_P (dC, dI) vwCl [(h0, .inr (7, [.ref qb])), (qb, .inl (cb, 16, .inr (.inr (.inr (.inr (fun _ => none))))))] s.heap := hP
  have hl := lv_entry ([.ref h0, .int p0]) (n := 3) (Nat.le_of_ble_eq_true rfl)
  rw [lg_entry_eq]
  generalize (lg_sl ([.ref h0, .int p0]) ++ List.replicate (3 - (lg_sl ([.ref h0, .int p0])).length) Slot.unset).toArray = ls at hl ⊢
  have hl : lv_has ls 3 [(0, .ref h0), (1, .int p0)] := hl
  refine lv_aload_n hx hb dX7_bodyAt_0 rfl (lv_at hl 0 rfl) ?_
  refine lv_iload_n hx hb dX7_bodyAt_1 rfl (lv_at hl 1 rfl) ?_
  have hPc := hP.sub (ws' := [(h0, .inr (7, [.ref qb])), (qb, .inl (cb, 16, .inr (.inr (.inr (.inr (fun _ => none))))))]) [0, 1] rfl
  have hDc := hD.sub (ws' := [(h0, .inr (7, [.ref qb])), (qb, .inl (cb, 16, .inr (.inr (.inr (.inr (fun _ => none))))))]) [0, 1] (by decide) rfl
  have hKc := hK.sub (tys' := [(cb, .object "KeyAtlas$Body")]) [0] rfl
  have hFc := va_free (wc := [(h0, .inr (7, [.ref qb])), (qb, .inl (cb, 16, .inr (.inr (.inr (.inr (fun _ => none))))))]) hD hS hA [0, 1] rfl
  refine va_callq (va_runV (As := [.int p0]) (rest := []) ⟨hx, hb, hml, hown, hts⟩ (c_X7_bodyOrNull l  dC dI s.heap.size h0 qb cb p0) (cwV 1 hts gP_X7_bodyAt_bodyOrNull rfl rfl rfl (by decide +kernel) ⟨(Nat.le_of_ble_eq_true rfl), (Nat.le_of_ble_eq_true rfl)⟩) ⟨pk_blind, va_recv hKc hPc (ci := 7) (q0 := 0) rfl rfl, pk_call hPc hKc hDc⟩ rfl rfl hl.1 rfl (lv_room (Nat.le_of_ble_eq_true rfl)) dX7_bodyAt_2 ⟨(Nat.le_of_ble_eq_true rfl), (Nat.le_of_ble_eq_true rfl)⟩) hS (fun q _ h => hFc q h) hFc (fun r_1 ur_1 t H1 locs ht hvm hw hB hz1 hk1 hS => ?_)
  try dsimp only at hw
  obtain ⟨hP, hD⟩ := va_join (wr := []) (w1 := []) hP hD [0, 1] [] rfl rfl (by decide) (by decide) hk1 hFc tx_P0 tx_D0
  clear hk1 hz1 ht hPc hDc hKc
  generalize H1 = H at hP hS ⊢
  have hP : va_P (dC, dI) vwCl [] H := hP
  have hD : va_D A [] := hD
  refine W.widen (k := 0) (n := 0) (Nat.le_of_ble_eq_true rfl) (Nat.le_of_ble_eq_true rfl) ?_
  obtain rfl : r_1 = none := hw
  refine W.eq (g2 := F0 m 5 ls [.null]) rfl ?_
  refine lv_astore_nN (lv' := [(2, .null), (0, .ref h0), (1, .int p0)]) hx hb dX7_bodyAt_5 rfl hl (by decide) rfl (fun ls hl => ?_)
  refine lv_aload_nN hx hb dX7_bodyAt_6 rfl (lv_at hl 0 rfl) ?_
  refine lv_ifnonnullN hx hb dX7_bodyAt_7 ?_
  obtain ⟨sa, hsa⟩ := hN.stX7_241
  exact tx_throwN hx hb hlt (own := RX7) (text := "no such object") hown (hts (.classLink RX7 239 nN) (by decide +kernel)) (hts (.initialized nN) (by decide +kernel)) hsa (tx_hat hN.xw (fun w h => hts w (List.mem_cons_of_mem _ (List.mem_append_right _ h))) (by decide +kernel)) (by decide +kernel) hZ.1 hZ.2 hS (by rw [hml]; exact hl.1) dX7_bodyAt_10 dX7_bodyAt_13 dX7_bodyAt_14 dX7_bodyAt_16 dX7_bodyAt_19 (fun x hx9 => (htab x hx9).elim) (by decide) (by decide) (Nat.le_of_ble_eq_true rfl) (Nat.le_of_ble_eq_true rfl) hlocks (fun t hvm hz hq => ⟨(), trivial, rfl, ⟨Nat.le_trans hS.1 hz, fun q h1 h2 => (hq q (Nat.lt_of_lt_of_le h1 hS.1)).trans (hS.2.1 q h1 h2)⟩⟩) hS.2.2 (Nat.le_of_ble_eq_true rfl) (Nat.le_of_ble_eq_true rfl)
set_option maxHeartbeats 4000000 in
set_option maxRecDepth 100000 in
/-- drop, fresh: it throws -/
theorem c_X7_drop (l : Launch) (hlt : l.stackTraces = false) (dC : Nat → ClassId) (dI : Nat → Nat → Nat) (sz : Nat) (h0 : Nat) (qb : Nat) (cb : ClassId) (p0 : Int32) : vx_Met l yX7_drop wsP_X7_drop ({ frames := 7, cells := 2, slots := 12, locals := 130 }) (va_Pc [.ref h0, .int p0] (pk_PreX (dC, dI) [(h0, .inr (7, [.ref qb])), (qb, .inl (cb, 16, .inr (.inr (.inr (.inr (fun _ => none))))))] [(cb, .object "KeyAtlas$Body")] sz)) (va_Qi (fun (_ : Int32) (_ : Unit) => False) (fun (_ : Unit) (_ : State) => True) (va_A [(h0, .inr (7, [.ref qb])), (qb, .inl (cb, 16, .inr (.inr (.inr (.inr (fun _ => none))))))] sz)) (vx_X (fun _ : Unit => True) (fun (E : String) (_ : Unit) (_ : State) => E = "java/util/NoSuchElementException") (va_A [(h0, .inr (7, [.ref qb])), (qb, .inl (cb, 16, .inr (.inr (.inr (.inr (fun _ => none))))))] sz)) 2 12 (va_A [(h0, .inr (7, [.ref qb])), (qb, .inl (cb, 16, .inr (.inr (.inr (.inr (fun _ => none))))))] sz) := by
  refine vx_ofW (cc := cX7_drop) (maxL := 5) (ret := (some .int)) (by decide) rfl ?_
  intro p e s m args below meth c s₁ B hml htab hv
  obtain ⟨rfl, hsz, hP, hK, hD0, hN, hZ⟩ := hv
  have hx := B.exec
  have hb := B.bytes
  have hr := B.returns
  have hts := atoms_spec (ws := wsP_X7_drop) B.pre
  have hown : s.vm.findClass RX7 = some m.cls := findClass_of_methodNamed B.named
  have hlocks := B.notSynchronized
  subst hsz
  have hD := hD0.self (sz := s.heap.size)
  generalize hAe : va_A [(h0, .inr (7, [.ref qb])), (qb, .inl (cb, 16, .inr (.inr (.inr (.inr (fun _ => none))))))] s.heap.size = A at hZ hD ⊢
  have hA : ∀ q : Nat, s.heap.size ≤ q → A q := fun q h => by rw [← hAe]; exact Or.inr h
  have hS : va_S A s.heap s.heap [] := va_S.rf
  have hP : va_P (dC, dI) vwCl [(h0, .inr (7, [.ref qb])), (qb, .inl (cb, 16, .inr (.inr (.inr (.inr (fun _ => none))))))] s.heap := hP
  have hl := lv_entry ([.ref h0, .int p0]) (n := 5) (Nat.le_of_ble_eq_true rfl)
  rw [lg_entry_eq]
  generalize (lg_sl ([.ref h0, .int p0]) ++ List.replicate (5 - (lg_sl ([.ref h0, .int p0])).length) Slot.unset).toArray = ls at hl ⊢
  have hl : lv_has ls 5 [(0, .ref h0), (1, .int p0)] := hl
  refine lv_aload_n hx hb dX7_drop_0 rfl (lv_at hl 0 rfl) ?_
  refine lv_iload_n hx hb dX7_drop_1 rfl (lv_at hl 1 rfl) ?_
  have hPc := hP.sub (ws' := [(h0, .inr (7, [.ref qb])), (qb, .inl (cb, 16, .inr (.inr (.inr (.inr (fun _ => none))))))]) [0, 1] rfl
  have hDc := hD.sub (ws' := [(h0, .inr (7, [.ref qb])), (qb, .inl (cb, 16, .inr (.inr (.inr (.inr (fun _ => none))))))]) [0, 1] (by decide) rfl
  have hKc := hK.sub (tys' := [(cb, .object "KeyAtlas$Body")]) [0] rfl
  have hFc := va_free (wc := [(h0, .inr (7, [.ref qb])), (qb, .inl (cb, 16, .inr (.inr (.inr (.inr (fun _ => none))))))]) hD hS hA [0, 1] rfl
  have hZc := (hZ.kept hS.2.1).narrow hFc
  refine vx_callv (vx_runV (As := [.int p0]) (rest := []) ⟨hx, hb, hml, hown, hts⟩ (c_X7_bodyAt l hlt dC dI s.heap.size h0 qb cb p0) (cwV 1 hts gP_X7_drop_bodyAt rfl rfl rfl (by decide +kernel) ⟨(Nat.le_of_ble_eq_true rfl), (Nat.le_of_ble_eq_true rfl)⟩) ⟨pk_blindX, va_recv hKc hPc (ci := 7) (q0 := 0) rfl rfl, pk_callX hPc hKc hDc hN hZc⟩ rfl rfl hl.1 rfl (lv_room (Nat.le_of_ble_eq_true rfl)) dX7_drop_2 ⟨(Nat.le_of_ble_eq_true rfl), (Nat.le_of_ble_eq_true rfl)⟩) hS (fun q _ h => hFc q h) hFc (fun q _ h => hFc q h) (fun E ce q9 u9 t H1 locs ht hvm hw hB hz1 hk1 hS hce hcv hcl => ?_) (fun ur_1 t H1 locs ht hvm hw hB hz1 hk1 hS => ?_)
  ·
    try dsimp only at hB
    exact vx_out (fun x hx9 => (htab x hx9).elim) hlocks hce hcv hcl (fun t9 ht9 _ => ⟨(), trivial, hB, hS.F ht9⟩) hS.2.2 (Nat.le_of_ble_eq_true rfl) (Nat.le_of_ble_eq_true rfl)
  · exact hw.elim
set_option maxHeartbeats 4000000 in
set_option maxRecDepth 100000 in
/-- map, fresh: it throws -/
theorem c_X7_map (l : Launch) (hlt : l.stackTraces = false) (dC : Nat → ClassId) (dI : Nat → Nat → Nat) (sz : Nat) (h0 : Nat) (qb : Nat) (cb : ClassId) (p0 : Int32) (p1 : Int32) (p2 : Int32) (p3 : Int32) : vx_Met l yX7_map wsP_X7_map ({ frames := 7, cells := 2, slots := 12, locals := 130 }) (va_Pc [.ref h0, .int p0, .int p1, .int p2, .int p3] (pk_PreX (dC, dI) [(h0, .inr (7, [.ref qb])), (qb, .inl (cb, 16, .inr (.inr (.inr (.inr (fun _ => none))))))] [(cb, .object "KeyAtlas$Body")] sz)) (va_Ql (fun (_ : Int64) (_ : Unit) => False) (fun (_ : Unit) (_ : State) => True) (va_A [(h0, .inr (7, [.ref qb])), (qb, .inl (cb, 16, .inr (.inr (.inr (.inr (fun _ => none))))))] sz)) (vx_X (fun _ : Unit => True) (fun (E : String) (_ : Unit) (_ : State) => E = "java/util/NoSuchElementException") (va_A [(h0, .inr (7, [.ref qb])), (qb, .inl (cb, 16, .inr (.inr (.inr (.inr (fun _ => none))))))] sz)) 2 12 (va_A [(h0, .inr (7, [.ref qb])), (qb, .inl (cb, 16, .inr (.inr (.inr (.inr (fun _ => none))))))] sz) := by
  refine vx_ofW (cc := cX7_map) (maxL := 10) (ret := (some .long)) (by decide) rfl ?_
  intro p e s m args below meth c s₁ B hml htab hv
  obtain ⟨rfl, hsz, hP, hK, hD0, hN, hZ⟩ := hv
  have hx := B.exec
  have hb := B.bytes
  have hr := B.returns
  have hts := atoms_spec (ws := wsP_X7_map) B.pre
  have hown : s.vm.findClass RX7 = some m.cls := findClass_of_methodNamed B.named
  have hlocks := B.notSynchronized
  subst hsz
  have hD := hD0.self (sz := s.heap.size)
  generalize hAe : va_A [(h0, .inr (7, [.ref qb])), (qb, .inl (cb, 16, .inr (.inr (.inr (.inr (fun _ => none))))))] s.heap.size = A at hZ hD ⊢
  have hA : ∀ q : Nat, s.heap.size ≤ q → A q := fun q h => by rw [← hAe]; exact Or.inr h
  have hS : va_S A s.heap s.heap [] := va_S.rf
  have hP : va_P (dC, dI) vwCl [(h0, .inr (7, [.ref qb])), (qb, .inl (cb, 16, .inr (.inr (.inr (.inr (fun _ => none))))))] s.heap := hP
  have hl := lv_entry ([.ref h0, .int p0, .int p1, .int p2, .int p3]) (n := 10) (Nat.le_of_ble_eq_true rfl)
  rw [lg_entry_eq]
  generalize (lg_sl ([.ref h0, .int p0, .int p1, .int p2, .int p3]) ++ List.replicate (10 - (lg_sl ([.ref h0, .int p0, .int p1, .int p2, .int p3])).length) Slot.unset).toArray = ls at hl ⊢
  have hl : lv_has ls 10 [(0, .ref h0), (1, .int p0), (2, .int p1), (3, .int p2), (4, .int p3)] := hl
  refine lv_aload_n hx hb dX7_map_0 rfl (lv_at hl 0 rfl) ?_
  refine lv_iload_n hx hb dX7_map_1 rfl (lv_at hl 1 rfl) ?_
  have hPc := hP.sub (ws' := [(h0, .inr (7, [.ref qb])), (qb, .inl (cb, 16, .inr (.inr (.inr (.inr (fun _ => none))))))]) [0, 1] rfl
  have hDc := hD.sub (ws' := [(h0, .inr (7, [.ref qb])), (qb, .inl (cb, 16, .inr (.inr (.inr (.inr (fun _ => none))))))]) [0, 1] (by decide) rfl
  have hKc := hK.sub (tys' := [(cb, .object "KeyAtlas$Body")]) [0] rfl
  have hFc := va_free (wc := [(h0, .inr (7, [.ref qb])), (qb, .inl (cb, 16, .inr (.inr (.inr (.inr (fun _ => none))))))]) hD hS hA [0, 1] rfl
  have hZc := (hZ.kept hS.2.1).narrow hFc
  refine vx_callv (vx_runV (As := [.int p0]) (rest := []) ⟨hx, hb, hml, hown, hts⟩ (c_X7_bodyAt l hlt dC dI s.heap.size h0 qb cb p0) (cwV 1 hts gP_X7_map_bodyAt rfl rfl rfl (by decide +kernel) ⟨(Nat.le_of_ble_eq_true rfl), (Nat.le_of_ble_eq_true rfl)⟩) ⟨pk_blindX, va_recv hKc hPc (ci := 7) (q0 := 0) rfl rfl, pk_callX hPc hKc hDc hN hZc⟩ rfl rfl hl.1 rfl (lv_room (Nat.le_of_ble_eq_true rfl)) dX7_map_2 ⟨(Nat.le_of_ble_eq_true rfl), (Nat.le_of_ble_eq_true rfl)⟩) hS (fun q _ h => hFc q h) hFc (fun q _ h => hFc q h) (fun E ce q9 u9 t H1 locs ht hvm hw hB hz1 hk1 hS hce hcv hcl => ?_) (fun ur_1 t H1 locs ht hvm hw hB hz1 hk1 hS => ?_)
  ·
    try dsimp only at hB
    exact vx_out (fun x hx9 => (htab x hx9).elim) hlocks hce hcv hcl (fun t9 ht9 _ => ⟨(), trivial, hB, hS.F ht9⟩) hS.2.2 (Nat.le_of_ble_eq_true rfl) (Nat.le_of_ble_eq_true rfl)
  · exact hw.elim
set_option maxHeartbeats 4000000 in
set_option maxRecDepth 100000 in
/-- view, fresh: it throws -/
theorem c_X7_view (l : Launch) (hlt : l.stackTraces = false) (dC : Nat → ClassId) (dI : Nat → Nat → Nat) (sz : Nat) (h0 : Nat) (qb : Nat) (cb : ClassId) (p0 : Int32) (p1 : Int32) (p2 : Int32) (p3 : Int32) : vx_Met l yX7_view wsP_X7_view ({ frames := 7, cells := 2, slots := 12, locals := 130 }) (va_Pc [.ref h0, .int p0, .int p1, .int p2, .int p3] (pk_PreX (dC, dI) [(h0, .inr (7, [.ref qb])), (qb, .inl (cb, 16, .inr (.inr (.inr (.inr (fun _ => none))))))] [(cb, .object "KeyAtlas$Body")] sz)) (va_Qi (fun (_ : Int32) (_ : Unit) => False) (fun (_ : Unit) (_ : State) => True) (va_A [(h0, .inr (7, [.ref qb])), (qb, .inl (cb, 16, .inr (.inr (.inr (.inr (fun _ => none))))))] sz)) (vx_X (fun _ : Unit => True) (fun (E : String) (_ : Unit) (_ : State) => E = "java/util/NoSuchElementException") (va_A [(h0, .inr (7, [.ref qb])), (qb, .inl (cb, 16, .inr (.inr (.inr (.inr (fun _ => none))))))] sz)) 2 12 (va_A [(h0, .inr (7, [.ref qb])), (qb, .inl (cb, 16, .inr (.inr (.inr (.inr (fun _ => none))))))] sz) := by
  refine vx_ofW (cc := cX7_view) (maxL := 6) (ret := (some .int)) (by decide) rfl ?_
  intro p e s m args below meth c s₁ B hml htab hv
  obtain ⟨rfl, hsz, hP, hK, hD0, hN, hZ⟩ := hv
  have hx := B.exec
  have hb := B.bytes
  have hr := B.returns
  have hts := atoms_spec (ws := wsP_X7_view) B.pre
  have hown : s.vm.findClass RX7 = some m.cls := findClass_of_methodNamed B.named
  have hlocks := B.notSynchronized
  subst hsz
  have hD := hD0.self (sz := s.heap.size)
  generalize hAe : va_A [(h0, .inr (7, [.ref qb])), (qb, .inl (cb, 16, .inr (.inr (.inr (.inr (fun _ => none))))))] s.heap.size = A at hZ hD ⊢
  have hA : ∀ q : Nat, s.heap.size ≤ q → A q := fun q h => by rw [← hAe]; exact Or.inr h
  have hS : va_S A s.heap s.heap [] := va_S.rf
  have hP : va_P (dC, dI) vwCl [(h0, .inr (7, [.ref qb])), (qb, .inl (cb, 16, .inr (.inr (.inr (.inr (fun _ => none))))))] s.heap := hP
  have hl := lv_entry ([.ref h0, .int p0, .int p1, .int p2, .int p3]) (n := 6) (Nat.le_of_ble_eq_true rfl)
  rw [lg_entry_eq]
  generalize (lg_sl ([.ref h0, .int p0, .int p1, .int p2, .int p3]) ++ List.replicate (6 - (lg_sl ([.ref h0, .int p0, .int p1, .int p2, .int p3])).length) Slot.unset).toArray = ls at hl ⊢
  have hl : lv_has ls 6 [(0, .ref h0), (1, .int p0), (2, .int p1), (3, .int p2), (4, .int p3)] := hl
  refine lv_aload_n hx hb dX7_view_0 rfl (lv_at hl 0 rfl) ?_
  refine lv_iload_n hx hb dX7_view_1 rfl (lv_at hl 1 rfl) ?_
  have hPc := hP.sub (ws' := [(h0, .inr (7, [.ref qb])), (qb, .inl (cb, 16, .inr (.inr (.inr (.inr (fun _ => none))))))]) [0, 1] rfl
  have hDc := hD.sub (ws' := [(h0, .inr (7, [.ref qb])), (qb, .inl (cb, 16, .inr (.inr (.inr (.inr (fun _ => none))))))]) [0, 1] (by decide) rfl
  have hKc := hK.sub (tys' := [(cb, .object "KeyAtlas$Body")]) [0] rfl
  have hFc := va_free (wc := [(h0, .inr (7, [.ref qb])), (qb, .inl (cb, 16, .inr (.inr (.inr (.inr (fun _ => none))))))]) hD hS hA [0, 1] rfl
  have hZc := (hZ.kept hS.2.1).narrow hFc
  refine vx_callv (vx_runV (As := [.int p0]) (rest := []) ⟨hx, hb, hml, hown, hts⟩ (c_X7_bodyAt l hlt dC dI s.heap.size h0 qb cb p0) (cwV 1 hts gP_X7_view_bodyAt rfl rfl rfl (by decide +kernel) ⟨(Nat.le_of_ble_eq_true rfl), (Nat.le_of_ble_eq_true rfl)⟩) ⟨pk_blindX, va_recv hKc hPc (ci := 7) (q0 := 0) rfl rfl, pk_callX hPc hKc hDc hN hZc⟩ rfl rfl hl.1 rfl (lv_room (Nat.le_of_ble_eq_true rfl)) dX7_view_2 ⟨(Nat.le_of_ble_eq_true rfl), (Nat.le_of_ble_eq_true rfl)⟩) hS (fun q _ h => hFc q h) hFc (fun q _ h => hFc q h) (fun E ce q9 u9 t H1 locs ht hvm hw hB hz1 hk1 hS hce hcv hcl => ?_) (fun ur_1 t H1 locs ht hvm hw hB hz1 hk1 hS => ?_)
  ·
    try dsimp only at hB
    exact vx_out (fun x hx9 => (htab x hx9).elim) hlocks hce hcv hcl (fun t9 ht9 _ => ⟨(), trivial, hB, hS.F ht9⟩) hS.2.2 (Nat.le_of_ble_eq_true rfl) (Nat.le_of_ble_eq_true rfl)
  · exact hw.elim
set_option maxHeartbeats 4000000 in
set_option maxRecDepth 100000 in
/-- cursor, fresh: it throws -/
theorem c_X7_cursor (l : Launch) (hlt : l.stackTraces = false) (dC : Nat → ClassId) (dI : Nat → Nat → Nat) (sz : Nat) (h0 : Nat) (qb : Nat) (cb : ClassId) (p0 : Int32) : vx_Met l yX7_cursor wsP_X7_cursor ({ frames := 7, cells := 2, slots := 12, locals := 130 }) (va_Pc [.ref h0, .int p0] (pk_PreX (dC, dI) [(h0, .inr (7, [.ref qb])), (qb, .inl (cb, 16, .inr (.inr (.inr (.inr (fun _ => none))))))] [(cb, .object "KeyAtlas$Body")] sz)) (va_Qi (fun (_ : Int32) (_ : Unit) => False) (fun (_ : Unit) (_ : State) => True) (va_A [(h0, .inr (7, [.ref qb])), (qb, .inl (cb, 16, .inr (.inr (.inr (.inr (fun _ => none))))))] sz)) (vx_X (fun _ : Unit => True) (fun (E : String) (_ : Unit) (_ : State) => E = "java/util/NoSuchElementException") (va_A [(h0, .inr (7, [.ref qb])), (qb, .inl (cb, 16, .inr (.inr (.inr (.inr (fun _ => none))))))] sz)) 2 12 (va_A [(h0, .inr (7, [.ref qb])), (qb, .inl (cb, 16, .inr (.inr (.inr (.inr (fun _ => none))))))] sz) := by
  refine vx_ofW (cc := cX7_cursor) (maxL := 2) (ret := (some .int)) (by decide) rfl ?_
  intro p e s m args below meth c s₁ B hml htab hv
  obtain ⟨rfl, hsz, hP, hK, hD0, hN, hZ⟩ := hv
  have hx := B.exec
  have hb := B.bytes
  have hr := B.returns
  have hts := atoms_spec (ws := wsP_X7_cursor) B.pre
  have hown : s.vm.findClass RX7 = some m.cls := findClass_of_methodNamed B.named
  have hlocks := B.notSynchronized
  subst hsz
  have hD := hD0.self (sz := s.heap.size)
  generalize hAe : va_A [(h0, .inr (7, [.ref qb])), (qb, .inl (cb, 16, .inr (.inr (.inr (.inr (fun _ => none))))))] s.heap.size = A at hZ hD ⊢
  have hA : ∀ q : Nat, s.heap.size ≤ q → A q := fun q h => by rw [← hAe]; exact Or.inr h
  have hS : va_S A s.heap s.heap [] := va_S.rf
  have hP : va_P (dC, dI) vwCl [(h0, .inr (7, [.ref qb])), (qb, .inl (cb, 16, .inr (.inr (.inr (.inr (fun _ => none))))))] s.heap := hP
  have hl := lv_entry ([.ref h0, .int p0]) (n := 2) (Nat.le_of_ble_eq_true rfl)
  rw [lg_entry_eq]
  generalize (lg_sl ([.ref h0, .int p0]) ++ List.replicate (2 - (lg_sl ([.ref h0, .int p0])).length) Slot.unset).toArray = ls at hl ⊢
  have hl : lv_has ls 2 [(0, .ref h0), (1, .int p0)] := hl
  refine lv_aload_n hx hb dX7_cursor_0 rfl (lv_at hl 0 rfl) ?_
  refine va_new (ci := 2) (fs := [.int 0, .int 0, .null, .int 0, .int 0, .int 0]) (C := RX1) (T := TX1) (N := 6) hx hb hts (by decide +kernel) tyX1 tyX1_ok hown (hts (.classLink RX7 157 RX1) (by decide +kernel)) (hts (.instantiable RX1 6) (by decide +kernel)) (hts (.initialized RX1) (by decide +kernel)) hK hP hD hS hA rfl (by decide +kernel) (Nat.le_of_ble_eq_true rfl) (Nat.le_of_ble_eq_true rfl) dX7_cursor_1 (fun q_1 H hP hD hS => ?_)
  have hP : va_P (dC, dI) vwCl [(h0, .inr (7, [.ref qb])), (qb, .inl (cb, 16, .inr (.inr (.inr (.inr (fun _ => none)))))), (q_1, .inr (2, [.int 0, .int 0, .null, .int 0, .int 0, .int 0]))] H := hP
  have hD : va_D A [(h0, .inr (7, [.ref qb])), (qb, .inl (cb, 16, .inr (.inr (.inr (.inr (fun _ => none)))))), (q_1, .inr (2, [.int 0, .int 0, .null, .int 0, .int 0, .int 0]))] := hD
  refine W.widen (k := 1) (n := 6) (Nat.le_of_ble_eq_true rfl) (Nat.le_of_ble_eq_true rfl) ?_
  refine lv_dup hx hb dX7_cursor_4 rfl ?_
  refine lv_iload_n hx hb dX7_cursor_5 rfl (lv_at hl 1 rfl) ?_
  refine lv_aload_n hx hb dX7_cursor_6 rfl (lv_at hl 0 rfl) ?_
  refine lv_iload_n hx hb dX7_cursor_7 rfl (lv_at hl 1 rfl) ?_
  have hPc := hP.sub (ws' := [(h0, .inr (7, [.ref qb])), (qb, .inl (cb, 16, .inr (.inr (.inr (.inr (fun _ => none))))))]) [0, 1] rfl
  have hDc := hD.sub (ws' := [(h0, .inr (7, [.ref qb])), (qb, .inl (cb, 16, .inr (.inr (.inr (.inr (fun _ => none))))))]) [0, 1] (by decide) rfl
  have hKc := hK.sub (tys' := [(cb, .object "KeyAtlas$Body")]) [0] rfl
  have hFc := va_free (wc := [(h0, .inr (7, [.ref qb])), (qb, .inl (cb, 16, .inr (.inr (.inr (.inr (fun _ => none))))))]) hD hS hA [0, 1] rfl
  have hZc := (hZ.kept hS.2.1).narrow hFc
  refine vx_callv (vx_runV (As := [.int p0]) (rest := [.int p0, .ref q_1, .ref q_1, .ref h0]) ⟨hx, hb, hml, hown, hts⟩ (c_X7_bodyAt l hlt dC dI H.size h0 qb cb p0) (cwV 1 hts gP_X7_cursor_bodyAt rfl rfl rfl (by decide +kernel) ⟨(Nat.le_of_ble_eq_true rfl), (Nat.le_of_ble_eq_true rfl)⟩) ⟨pk_blindX, va_recv hKc hPc (ci := 7) (q0 := 0) rfl rfl, pk_callX hPc hKc hDc hN hZc⟩ rfl rfl hl.1 rfl (lv_room (Nat.le_of_ble_eq_true rfl)) dX7_cursor_8 ⟨(Nat.le_of_ble_eq_true rfl), (Nat.le_of_ble_eq_true rfl)⟩) hS (fun q _ h => hFc q h) hFc (fun q _ h => hFc q h) (fun E ce q9 u9 t H1 locs ht hvm hw hB hz1 hk1 hS hce hcv hcl => ?_) (fun ur_2 t H1 locs ht hvm hw hB hz1 hk1 hS => ?_)
  ·
    try dsimp only at hB
    exact vx_out (fun x hx9 => (htab x hx9).elim) hlocks hce hcv hcl (fun t9 ht9 _ => ⟨(), trivial, hB, hS.F ht9⟩) hS.2.2 (Nat.le_of_ble_eq_true rfl) (Nat.le_of_ble_eq_true rfl)
  · exact hw.elim
set_option maxHeartbeats 4000000 in
set_option maxRecDepth 100000 in
/-- move, fresh: it throws -/
theorem c_X7_move (l : Launch) (hlt : l.stackTraces = false) (dC : Nat → ClassId) (dI : Nat → Nat → Nat) (sz : Nat) (h0 : Nat) (qb : Nat) (cb : ClassId) (p0 : Int32) (p1 : Int32) (p2 : Int32) : vx_Met l yX7_move wsP_X7_move ({ frames := 7, cells := 2, slots := 12, locals := 130 }) (va_Pc [.ref h0, .int p0, .int p1, .int p2] (pk_PreX (dC, dI) [(h0, .inr (7, [.ref qb])), (qb, .inl (cb, 16, .inr (.inr (.inr (.inr (fun _ => none))))))] [(cb, .object "KeyAtlas$Body")] sz)) (va_Ql (fun (_ : Int64) (_ : Unit) => False) (fun (_ : Unit) (_ : State) => True) (va_A [(h0, .inr (7, [.ref qb])), (qb, .inl (cb, 16, .inr (.inr (.inr (.inr (fun _ => none))))))] sz)) (vx_X (fun _ : Unit => True) (fun (E : String) (_ : Unit) (_ : State) => E = "java/util/NoSuchElementException") (va_A [(h0, .inr (7, [.ref qb])), (qb, .inl (cb, 16, .inr (.inr (.inr (.inr (fun _ => none))))))] sz)) 2 12 (va_A [(h0, .inr (7, [.ref qb])), (qb, .inl (cb, 16, .inr (.inr (.inr (.inr (fun _ => none))))))] sz) := by
  refine vx_ofW (cc := cX7_move) (maxL := 5) (ret := (some .long)) (by decide) rfl ?_
  intro p e s m args below meth c s₁ B hml htab hv
  obtain ⟨rfl, hsz, hP, hK, hD0, hN, hZ⟩ := hv
  have hx := B.exec
  have hb := B.bytes
  have hr := B.returns
  have hts := atoms_spec (ws := wsP_X7_move) B.pre
  have hown : s.vm.findClass RX7 = some m.cls := findClass_of_methodNamed B.named
  have hlocks := B.notSynchronized
  subst hsz
  have hD := hD0.self (sz := s.heap.size)
  generalize hAe : va_A [(h0, .inr (7, [.ref qb])), (qb, .inl (cb, 16, .inr (.inr (.inr (.inr (fun _ => none))))))] s.heap.size = A at hZ hD ⊢
  have hA : ∀ q : Nat, s.heap.size ≤ q → A q := fun q h => by rw [← hAe]; exact Or.inr h
  have hS : va_S A s.heap s.heap [] := va_S.rf
  have hP : va_P (dC, dI) vwCl [(h0, .inr (7, [.ref qb])), (qb, .inl (cb, 16, .inr (.inr (.inr (.inr (fun _ => none))))))] s.heap := hP
  have hl := lv_entry ([.ref h0, .int p0, .int p1, .int p2]) (n := 5) (Nat.le_of_ble_eq_true rfl)
  rw [lg_entry_eq]
  generalize (lg_sl ([.ref h0, .int p0, .int p1, .int p2]) ++ List.replicate (5 - (lg_sl ([.ref h0, .int p0, .int p1, .int p2])).length) Slot.unset).toArray = ls at hl ⊢
  have hl : lv_has ls 5 [(0, .ref h0), (1, .int p0), (2, .int p1), (3, .int p2)] := hl
  refine lv_aload_n hx hb dX7_move_0 rfl (lv_at hl 0 rfl) ?_
  refine lv_iload_n hx hb dX7_move_1 rfl (lv_at hl 1 rfl) ?_
  have hPc := hP.sub (ws' := [(h0, .inr (7, [.ref qb])), (qb, .inl (cb, 16, .inr (.inr (.inr (.inr (fun _ => none))))))]) [0, 1] rfl
  have hDc := hD.sub (ws' := [(h0, .inr (7, [.ref qb])), (qb, .inl (cb, 16, .inr (.inr (.inr (.inr (fun _ => none))))))]) [0, 1] (by decide) rfl
  have hKc := hK.sub (tys' := [(cb, .object "KeyAtlas$Body")]) [0] rfl
  have hFc := va_free (wc := [(h0, .inr (7, [.ref qb])), (qb, .inl (cb, 16, .inr (.inr (.inr (.inr (fun _ => none))))))]) hD hS hA [0, 1] rfl
  have hZc := (hZ.kept hS.2.1).narrow hFc
  refine vx_callv (vx_runV (As := [.int p0]) (rest := []) ⟨hx, hb, hml, hown, hts⟩ (c_X7_bodyAt l hlt dC dI s.heap.size h0 qb cb p0) (cwV 1 hts gP_X7_move_bodyAt rfl rfl rfl (by decide +kernel) ⟨(Nat.le_of_ble_eq_true rfl), (Nat.le_of_ble_eq_true rfl)⟩) ⟨pk_blindX, va_recv hKc hPc (ci := 7) (q0 := 0) rfl rfl, pk_callX hPc hKc hDc hN hZc⟩ rfl rfl hl.1 rfl (lv_room (Nat.le_of_ble_eq_true rfl)) dX7_move_2 ⟨(Nat.le_of_ble_eq_true rfl), (Nat.le_of_ble_eq_true rfl)⟩) hS (fun q _ h => hFc q h) hFc (fun q _ h => hFc q h) (fun E ce q9 u9 t H1 locs ht hvm hw hB hz1 hk1 hS hce hcv hcl => ?_) (fun ur_1 t H1 locs ht hvm hw hB hz1 hk1 hS => ?_)
  ·
    try dsimp only at hB
    exact vx_out (fun x hx9 => (htab x hx9).elim) hlocks hce hcv hcl (fun t9 ht9 _ => ⟨(), trivial, hB, hS.F ht9⟩) hS.2.2 (Nat.le_of_ble_eq_true rfl) (Nat.le_of_ble_eq_true rfl)
  · exact hw.elim
set_option maxHeartbeats 4000000 in
set_option maxRecDepth 100000 in
/-- item, fresh: it throws -/
theorem c_X7_item (l : Launch) (hlt : l.stackTraces = false) (dC : Nat → ClassId) (dI : Nat → Nat → Nat) (sz : Nat) (h0 : Nat) (qb : Nat) (cb : ClassId) (p0 : Int32) (p1 : Int32) (p2 : Int32) : vx_Met l yX7_item wsP_X7_item ({ frames := 7, cells := 2, slots := 12, locals := 130 }) (va_Pc [.ref h0, .int p0, .int p1, .int p2] (pk_PreX (dC, dI) [(h0, .inr (7, [.ref qb])), (qb, .inl (cb, 16, .inr (.inr (.inr (.inr (fun _ => none))))))] [(cb, .object "KeyAtlas$Body")] sz)) (va_Ql (fun (_ : Int64) (_ : Unit) => False) (fun (_ : Unit) (_ : State) => True) (va_A [(h0, .inr (7, [.ref qb])), (qb, .inl (cb, 16, .inr (.inr (.inr (.inr (fun _ => none))))))] sz)) (vx_X (fun _ : Unit => True) (fun (E : String) (_ : Unit) (_ : State) => E = "java/util/NoSuchElementException") (va_A [(h0, .inr (7, [.ref qb])), (qb, .inl (cb, 16, .inr (.inr (.inr (.inr (fun _ => none))))))] sz)) 2 12 (va_A [(h0, .inr (7, [.ref qb])), (qb, .inl (cb, 16, .inr (.inr (.inr (.inr (fun _ => none))))))] sz) := by
  refine vx_ofW (cc := cX7_item) (maxL := 6) (ret := (some .long)) (by decide) rfl ?_
  intro p e s m args below meth c s₁ B hml htab hv
  obtain ⟨rfl, hsz, hP, hK, hD0, hN, hZ⟩ := hv
  have hx := B.exec
  have hb := B.bytes
  have hr := B.returns
  have hts := atoms_spec (ws := wsP_X7_item) B.pre
  have hown : s.vm.findClass RX7 = some m.cls := findClass_of_methodNamed B.named
  have hlocks := B.notSynchronized
  subst hsz
  have hD := hD0.self (sz := s.heap.size)
  generalize hAe : va_A [(h0, .inr (7, [.ref qb])), (qb, .inl (cb, 16, .inr (.inr (.inr (.inr (fun _ => none))))))] s.heap.size = A at hZ hD ⊢
  have hA : ∀ q : Nat, s.heap.size ≤ q → A q := fun q h => by rw [← hAe]; exact Or.inr h
  have hS : va_S A s.heap s.heap [] := va_S.rf
  have hP : va_P (dC, dI) vwCl [(h0, .inr (7, [.ref qb])), (qb, .inl (cb, 16, .inr (.inr (.inr (.inr (fun _ => none))))))] s.heap := hP
  have hl := lv_entry ([.ref h0, .int p0, .int p1, .int p2]) (n := 6) (Nat.le_of_ble_eq_true rfl)
  rw [lg_entry_eq]
  generalize (lg_sl ([.ref h0, .int p0, .int p1, .int p2]) ++ List.replicate (6 - (lg_sl ([.ref h0, .int p0, .int p1, .int p2])).length) Slot.unset).toArray = ls at hl ⊢
  have hl : lv_has ls 6 [(0, .ref h0), (1, .int p0), (2, .int p1), (3, .int p2)] := hl
  refine lv_aload_n hx hb dX7_item_0 rfl (lv_at hl 0 rfl) ?_
  refine lv_iload_n hx hb dX7_item_1 rfl (lv_at hl 1 rfl) ?_
  have hPc := hP.sub (ws' := [(h0, .inr (7, [.ref qb])), (qb, .inl (cb, 16, .inr (.inr (.inr (.inr (fun _ => none))))))]) [0, 1] rfl
  have hDc := hD.sub (ws' := [(h0, .inr (7, [.ref qb])), (qb, .inl (cb, 16, .inr (.inr (.inr (.inr (fun _ => none))))))]) [0, 1] (by decide) rfl
  have hKc := hK.sub (tys' := [(cb, .object "KeyAtlas$Body")]) [0] rfl
  have hFc := va_free (wc := [(h0, .inr (7, [.ref qb])), (qb, .inl (cb, 16, .inr (.inr (.inr (.inr (fun _ => none))))))]) hD hS hA [0, 1] rfl
  have hZc := (hZ.kept hS.2.1).narrow hFc
  refine vx_callv (vx_runV (As := [.int p0]) (rest := []) ⟨hx, hb, hml, hown, hts⟩ (c_X7_bodyAt l hlt dC dI s.heap.size h0 qb cb p0) (cwV 1 hts gP_X7_item_bodyAt rfl rfl rfl (by decide +kernel) ⟨(Nat.le_of_ble_eq_true rfl), (Nat.le_of_ble_eq_true rfl)⟩) ⟨pk_blindX, va_recv hKc hPc (ci := 7) (q0 := 0) rfl rfl, pk_callX hPc hKc hDc hN hZc⟩ rfl rfl hl.1 rfl (lv_room (Nat.le_of_ble_eq_true rfl)) dX7_item_2 ⟨(Nat.le_of_ble_eq_true rfl), (Nat.le_of_ble_eq_true rfl)⟩) hS (fun q _ h => hFc q h) hFc (fun q _ h => hFc q h) (fun E ce q9 u9 t H1 locs ht hvm hw hB hz1 hk1 hS hce hcv hcl => ?_) (fun ur_1 t H1 locs ht hvm hw hB hz1 hk1 hS => ?_)
  ·
    try dsimp only at hB
    exact vx_out (fun x hx9 => (htab x hx9).elim) hlocks hce hcv hcl (fun t9 ht9 _ => ⟨(), trivial, hB, hS.F ht9⟩) hS.2.2 (Nat.le_of_ble_eq_true rfl) (Nat.le_of_ble_eq_true rfl)
  · exact hw.elim
set_option maxHeartbeats 4000000 in
set_option maxRecDepth 100000 in
/-- none is there -/
theorem c_X7_howManyBodies (l : Launch) (dC : Nat → ClassId) (dI : Nat → Nat → Nat) (sz : Nat) (h0 : Nat) (qb : Nat) (cb : ClassId) : Met l yX7_howManyBodies wsX7_howManyBodies ({ frames := 0, cells := 0, slots := 0, locals := 0 }) (va_Pc [.ref h0] (pk_Pre (dC, dI) [(h0, .inr (7, [.ref qb])), (qb, .inl (cb, 16, .inr (.inr (.inr (.inr (fun _ => none))))))] [(cb, .object "KeyAtlas$Body")] sz)) (va_Qi (fun (r : Int32) (_ : Unit) => r = 0) (fun (_ : Unit) (_ : State) => True) (va_A [(h0, .inr (7, [.ref qb])), (qb, .inl (cb, 16, .inr (.inr (.inr (.inr (fun _ => none))))))] sz)) 0 0 (va_A [(h0, .inr (7, [.ref qb])), (qb, .inl (cb, 16, .inr (.inr (.inr (.inr (fun _ => none))))))] sz) := by
  refine Met.ofW (cc := cX7_howManyBodies) (maxL := 3) (ret := (some .int)) (by decide) rfl ?_
  intro p e s m args below meth c s₁ B hml hv
  obtain ⟨rfl, hsz, hP, hK, hD0⟩ := hv
  have hx := B.exec
  have hb := B.bytes
  have hr := B.returns
  have hts := atoms_spec (ws := wsX7_howManyBodies) B.pre
  have hown : s.vm.findClass RX7 = some m.cls := findClass_of_methodNamed B.named
  have hlocks := B.notSynchronized
  subst hsz
  have hD := hD0.self (sz := s.heap.size)
  generalize hAe : va_A [(h0, .inr (7, [.ref qb])), (qb, .inl (cb, 16, .inr (.inr (.inr (.inr (fun _ => none))))))] s.heap.size = A at hD ⊢
  have hA : ∀ q : Nat, s.heap.size ≤ q → A q := fun q h => by rw [← hAe]; exact Or.inr h
  have hS : va_S A s.heap s.heap [] := va_S.rf
  have hP : va_P (dC, dI) vwCl [(h0, .inr (7, [.ref qb])), (qb, .inl (cb, 16, .inr (.inr (.inr (.inr (fun _ => none))))))] s.heap := hP
  have hl := lv_entry ([.ref h0]) (n := 3) (Nat.le_of_ble_eq_true rfl)
  rw [lg_entry_eq]
  generalize (lg_sl ([.ref h0]) ++ List.replicate (3 - (lg_sl ([.ref h0])).length) Slot.unset).toArray = ls at hl ⊢
  have hl : lv_has ls 3 [(0, .ref h0)] := hl
  refine lv_iconst (v := 0) hx hb dX7_howManyBodies_0 (by decide) ?_
  refine lv_istore_n (lv' := [(1, .int 0), (0, .ref h0)]) hx hb dX7_howManyBodies_1 rfl hl (by decide) rfl (fun ls hl => ?_)
  refine lv_iconst (v := 0) hx hb dX7_howManyBodies_2 (by decide) ?_
  refine lv_istore_n (lv' := [(2, .int 0), (1, .int 0), (0, .ref h0)]) hx hb dX7_howManyBodies_3 rfl hl (by decide) rfl (fun ls hl => ?_)
  refine lv_iload_n hx hb dX7_howManyBodies_4 rfl (lv_at hl 0 rfl) ?_
  refine lv_aload_n hx hb dX7_howManyBodies_5 rfl (lv_at hl 2 rfl) ?_
  refine va_get (D := (dC, dI)) (ci := 7) (v := .ref qb) (C := RX7) (T := TX7) (N := 1) hx hb hts (by decide +kernel) hown hK hP 0 rfl rfl 0 (by decide) (hts (.fieldLink RX7 11 "KeyAtlas" "bodies" "[LKeyAtlas$Body;") (by decide +kernel)) (fun _ h9 => h9) rfl dX7_howManyBodies_6 ?_
  refine va_alen (v := 16) hx hb hK hP 1 0 rfl rfl rfl dX7_howManyBodies_9 ?_
  refine lv_icmp_ge (tgt := 31) hx hb dX7_howManyBodies_10 (by decide) (fun c_1 => absurd c_1 (by decide)) (fun c_1 => ?_)
  refine lv_aload_n hx hb dX7_howManyBodies_13 rfl (lv_at hl 2 rfl) ?_
  refine va_get (D := (dC, dI)) (ci := 7) (v := .ref qb) (C := RX7) (T := TX7) (N := 1) hx hb hts (by decide +kernel) hown hK hP 0 rfl rfl 0 (by decide) (hts (.fieldLink RX7 11 "KeyAtlas" "bodies" "[LKeyAtlas$Body;") (by decide +kernel)) (fun _ h9 => h9) rfl dX7_howManyBodies_14 ?_
  refine lv_iload_n hx hb dX7_howManyBodies_17 rfl (lv_at hl 0 rfl) ?_
  refine va_aldq (i := 0) hx hb hK hP 1 0 rfl rfl (by unfold vp_in; decide) dX7_howManyBodies_18 ?_
  refine W.eq (g2 := F0 m 19 ls [.null]) rfl ?_
  refine lv_ifnullN (tgt := 25) hx hb dX7_howManyBodies_19 (by decide) ?_
  refine lv_iinc (v := 1) (lv' := [(2, .int 1), (1, .int 0), (0, .ref h0)]) hx hb dX7_howManyBodies_25 hl (k := 0) rfl (by decide) (by decide) rfl (fun ls hl => ?_)
  refine lv_goto (tgt := 4) hx hb dX7_howManyBodies_28 (by decide) ?_
  refine lv_iload_n hx hb dX7_howManyBodies_4 rfl (lv_at hl 0 rfl) ?_
  refine lv_aload_n hx hb dX7_howManyBodies_5 rfl (lv_at hl 2 rfl) ?_
  refine va_get (D := (dC, dI)) (ci := 7) (v := .ref qb) (C := RX7) (T := TX7) (N := 1) hx hb hts (by decide +kernel) hown hK hP 0 rfl rfl 0 (by decide) (hts (.fieldLink RX7 11 "KeyAtlas" "bodies" "[LKeyAtlas$Body;") (by decide +kernel)) (fun _ h9 => h9) rfl dX7_howManyBodies_6 ?_
  refine va_alen (v := 16) hx hb hK hP 1 0 rfl rfl rfl dX7_howManyBodies_9 ?_
  refine lv_icmp_ge (tgt := 31) hx hb dX7_howManyBodies_10 (by decide) (fun c_2 => absurd c_2 (by decide)) (fun c_2 => ?_)
  refine lv_aload_n hx hb dX7_howManyBodies_13 rfl (lv_at hl 2 rfl) ?_
  refine va_get (D := (dC, dI)) (ci := 7) (v := .ref qb) (C := RX7) (T := TX7) (N := 1) hx hb hts (by decide +kernel) hown hK hP 0 rfl rfl 0 (by decide) (hts (.fieldLink RX7 11 "KeyAtlas" "bodies" "[LKeyAtlas$Body;") (by decide +kernel)) (fun _ h9 => h9) rfl dX7_howManyBodies_14 ?_
  refine lv_iload_n hx hb dX7_howManyBodies_17 rfl (lv_at hl 0 rfl) ?_
  refine va_aldq (i := 1) hx hb hK hP 1 0 rfl rfl (by unfold vp_in; decide) dX7_howManyBodies_18 ?_
  refine W.eq (g2 := F0 m 19 ls [.null]) rfl ?_
  refine lv_ifnullN (tgt := 25) hx hb dX7_howManyBodies_19 (by decide) ?_
  refine lv_iinc (v := 2) (lv' := [(2, .int 2), (1, .int 0), (0, .ref h0)]) hx hb dX7_howManyBodies_25 hl (k := 0) rfl (by decide) (by decide) rfl (fun ls hl => ?_)
  refine lv_goto (tgt := 4) hx hb dX7_howManyBodies_28 (by decide) ?_
  refine lv_iload_n hx hb dX7_howManyBodies_4 rfl (lv_at hl 0 rfl) ?_
  refine lv_aload_n hx hb dX7_howManyBodies_5 rfl (lv_at hl 2 rfl) ?_
  refine va_get (D := (dC, dI)) (ci := 7) (v := .ref qb) (C := RX7) (T := TX7) (N := 1) hx hb hts (by decide +kernel) hown hK hP 0 rfl rfl 0 (by decide) (hts (.fieldLink RX7 11 "KeyAtlas" "bodies" "[LKeyAtlas$Body;") (by decide +kernel)) (fun _ h9 => h9) rfl dX7_howManyBodies_6 ?_
  refine va_alen (v := 16) hx hb hK hP 1 0 rfl rfl rfl dX7_howManyBodies_9 ?_
  refine lv_icmp_ge (tgt := 31) hx hb dX7_howManyBodies_10 (by decide) (fun c_3 => absurd c_3 (by decide)) (fun c_3 => ?_)
  refine lv_aload_n hx hb dX7_howManyBodies_13 rfl (lv_at hl 2 rfl) ?_
  refine va_get (D := (dC, dI)) (ci := 7) (v := .ref qb) (C := RX7) (T := TX7) (N := 1) hx hb hts (by decide +kernel) hown hK hP 0 rfl rfl 0 (by decide) (hts (.fieldLink RX7 11 "KeyAtlas" "bodies" "[LKeyAtlas$Body;") (by decide +kernel)) (fun _ h9 => h9) rfl dX7_howManyBodies_14 ?_
  refine lv_iload_n hx hb dX7_howManyBodies_17 rfl (lv_at hl 0 rfl) ?_
  refine va_aldq (i := 2) hx hb hK hP 1 0 rfl rfl (by unfold vp_in; decide) dX7_howManyBodies_18 ?_
  refine W.eq (g2 := F0 m 19 ls [.null]) rfl ?_
  refine lv_ifnullN (tgt := 25) hx hb dX7_howManyBodies_19 (by decide) ?_
  refine lv_iinc (v := 3) (lv' := [(2, .int 3), (1, .int 0), (0, .ref h0)]) hx hb dX7_howManyBodies_25 hl (k := 0) rfl (by decide) (by decide) rfl (fun ls hl => ?_)
  refine lv_goto (tgt := 4) hx hb dX7_howManyBodies_28 (by decide) ?_
  refine lv_iload_n hx hb dX7_howManyBodies_4 rfl (lv_at hl 0 rfl) ?_
  refine lv_aload_n hx hb dX7_howManyBodies_5 rfl (lv_at hl 2 rfl) ?_
  refine va_get (D := (dC, dI)) (ci := 7) (v := .ref qb) (C := RX7) (T := TX7) (N := 1) hx hb hts (by decide +kernel) hown hK hP 0 rfl rfl 0 (by decide) (hts (.fieldLink RX7 11 "KeyAtlas" "bodies" "[LKeyAtlas$Body;") (by decide +kernel)) (fun _ h9 => h9) rfl dX7_howManyBodies_6 ?_
  refine va_alen (v := 16) hx hb hK hP 1 0 rfl rfl rfl dX7_howManyBodies_9 ?_
  refine lv_icmp_ge (tgt := 31) hx hb dX7_howManyBodies_10 (by decide) (fun c_4 => absurd c_4 (by decide)) (fun c_4 => ?_)
  refine lv_aload_n hx hb dX7_howManyBodies_13 rfl (lv_at hl 2 rfl) ?_
  refine va_get (D := (dC, dI)) (ci := 7) (v := .ref qb) (C := RX7) (T := TX7) (N := 1) hx hb hts (by decide +kernel) hown hK hP 0 rfl rfl 0 (by decide) (hts (.fieldLink RX7 11 "KeyAtlas" "bodies" "[LKeyAtlas$Body;") (by decide +kernel)) (fun _ h9 => h9) rfl dX7_howManyBodies_14 ?_
  refine lv_iload_n hx hb dX7_howManyBodies_17 rfl (lv_at hl 0 rfl) ?_
  refine va_aldq (i := 3) hx hb hK hP 1 0 rfl rfl (by unfold vp_in; decide) dX7_howManyBodies_18 ?_
  refine W.eq (g2 := F0 m 19 ls [.null]) rfl ?_
  refine lv_ifnullN (tgt := 25) hx hb dX7_howManyBodies_19 (by decide) ?_
  refine lv_iinc (v := 4) (lv' := [(2, .int 4), (1, .int 0), (0, .ref h0)]) hx hb dX7_howManyBodies_25 hl (k := 0) rfl (by decide) (by decide) rfl (fun ls hl => ?_)
  refine lv_goto (tgt := 4) hx hb dX7_howManyBodies_28 (by decide) ?_
  refine lv_iload_n hx hb dX7_howManyBodies_4 rfl (lv_at hl 0 rfl) ?_
  refine lv_aload_n hx hb dX7_howManyBodies_5 rfl (lv_at hl 2 rfl) ?_
  refine va_get (D := (dC, dI)) (ci := 7) (v := .ref qb) (C := RX7) (T := TX7) (N := 1) hx hb hts (by decide +kernel) hown hK hP 0 rfl rfl 0 (by decide) (hts (.fieldLink RX7 11 "KeyAtlas" "bodies" "[LKeyAtlas$Body;") (by decide +kernel)) (fun _ h9 => h9) rfl dX7_howManyBodies_6 ?_
  refine va_alen (v := 16) hx hb hK hP 1 0 rfl rfl rfl dX7_howManyBodies_9 ?_
  refine lv_icmp_ge (tgt := 31) hx hb dX7_howManyBodies_10 (by decide) (fun c_5 => absurd c_5 (by decide)) (fun c_5 => ?_)
  refine lv_aload_n hx hb dX7_howManyBodies_13 rfl (lv_at hl 2 rfl) ?_
  refine va_get (D := (dC, dI)) (ci := 7) (v := .ref qb) (C := RX7) (T := TX7) (N := 1) hx hb hts (by decide +kernel) hown hK hP 0 rfl rfl 0 (by decide) (hts (.fieldLink RX7 11 "KeyAtlas" "bodies" "[LKeyAtlas$Body;") (by decide +kernel)) (fun _ h9 => h9) rfl dX7_howManyBodies_14 ?_
  refine lv_iload_n hx hb dX7_howManyBodies_17 rfl (lv_at hl 0 rfl) ?_
  refine va_aldq (i := 4) hx hb hK hP 1 0 rfl rfl (by unfold vp_in; decide) dX7_howManyBodies_18 ?_
  refine W.eq (g2 := F0 m 19 ls [.null]) rfl ?_
  refine lv_ifnullN (tgt := 25) hx hb dX7_howManyBodies_19 (by decide) ?_
  refine lv_iinc (v := 5) (lv' := [(2, .int 5), (1, .int 0), (0, .ref h0)]) hx hb dX7_howManyBodies_25 hl (k := 0) rfl (by decide) (by decide) rfl (fun ls hl => ?_)
  refine lv_goto (tgt := 4) hx hb dX7_howManyBodies_28 (by decide) ?_
  refine lv_iload_n hx hb dX7_howManyBodies_4 rfl (lv_at hl 0 rfl) ?_
  refine lv_aload_n hx hb dX7_howManyBodies_5 rfl (lv_at hl 2 rfl) ?_
  refine va_get (D := (dC, dI)) (ci := 7) (v := .ref qb) (C := RX7) (T := TX7) (N := 1) hx hb hts (by decide +kernel) hown hK hP 0 rfl rfl 0 (by decide) (hts (.fieldLink RX7 11 "KeyAtlas" "bodies" "[LKeyAtlas$Body;") (by decide +kernel)) (fun _ h9 => h9) rfl dX7_howManyBodies_6 ?_
  refine va_alen (v := 16) hx hb hK hP 1 0 rfl rfl rfl dX7_howManyBodies_9 ?_
  refine lv_icmp_ge (tgt := 31) hx hb dX7_howManyBodies_10 (by decide) (fun c_6 => absurd c_6 (by decide)) (fun c_6 => ?_)
  refine lv_aload_n hx hb dX7_howManyBodies_13 rfl (lv_at hl 2 rfl) ?_
  refine va_get (D := (dC, dI)) (ci := 7) (v := .ref qb) (C := RX7) (T := TX7) (N := 1) hx hb hts (by decide +kernel) hown hK hP 0 rfl rfl 0 (by decide) (hts (.fieldLink RX7 11 "KeyAtlas" "bodies" "[LKeyAtlas$Body;") (by decide +kernel)) (fun _ h9 => h9) rfl dX7_howManyBodies_14 ?_
  refine lv_iload_n hx hb dX7_howManyBodies_17 rfl (lv_at hl 0 rfl) ?_
  refine va_aldq (i := 5) hx hb hK hP 1 0 rfl rfl (by unfold vp_in; decide) dX7_howManyBodies_18 ?_
  refine W.eq (g2 := F0 m 19 ls [.null]) rfl ?_
  refine lv_ifnullN (tgt := 25) hx hb dX7_howManyBodies_19 (by decide) ?_
  refine lv_iinc (v := 6) (lv' := [(2, .int 6), (1, .int 0), (0, .ref h0)]) hx hb dX7_howManyBodies_25 hl (k := 0) rfl (by decide) (by decide) rfl (fun ls hl => ?_)
  refine lv_goto (tgt := 4) hx hb dX7_howManyBodies_28 (by decide) ?_
  refine lv_iload_n hx hb dX7_howManyBodies_4 rfl (lv_at hl 0 rfl) ?_
  refine lv_aload_n hx hb dX7_howManyBodies_5 rfl (lv_at hl 2 rfl) ?_
  refine va_get (D := (dC, dI)) (ci := 7) (v := .ref qb) (C := RX7) (T := TX7) (N := 1) hx hb hts (by decide +kernel) hown hK hP 0 rfl rfl 0 (by decide) (hts (.fieldLink RX7 11 "KeyAtlas" "bodies" "[LKeyAtlas$Body;") (by decide +kernel)) (fun _ h9 => h9) rfl dX7_howManyBodies_6 ?_
  refine va_alen (v := 16) hx hb hK hP 1 0 rfl rfl rfl dX7_howManyBodies_9 ?_
  refine lv_icmp_ge (tgt := 31) hx hb dX7_howManyBodies_10 (by decide) (fun c_7 => absurd c_7 (by decide)) (fun c_7 => ?_)
  refine lv_aload_n hx hb dX7_howManyBodies_13 rfl (lv_at hl 2 rfl) ?_
  refine va_get (D := (dC, dI)) (ci := 7) (v := .ref qb) (C := RX7) (T := TX7) (N := 1) hx hb hts (by decide +kernel) hown hK hP 0 rfl rfl 0 (by decide) (hts (.fieldLink RX7 11 "KeyAtlas" "bodies" "[LKeyAtlas$Body;") (by decide +kernel)) (fun _ h9 => h9) rfl dX7_howManyBodies_14 ?_
  refine lv_iload_n hx hb dX7_howManyBodies_17 rfl (lv_at hl 0 rfl) ?_
  refine va_aldq (i := 6) hx hb hK hP 1 0 rfl rfl (by unfold vp_in; decide) dX7_howManyBodies_18 ?_
  refine W.eq (g2 := F0 m 19 ls [.null]) rfl ?_
  refine lv_ifnullN (tgt := 25) hx hb dX7_howManyBodies_19 (by decide) ?_
  refine lv_iinc (v := 7) (lv' := [(2, .int 7), (1, .int 0), (0, .ref h0)]) hx hb dX7_howManyBodies_25 hl (k := 0) rfl (by decide) (by decide) rfl (fun ls hl => ?_)
  refine lv_goto (tgt := 4) hx hb dX7_howManyBodies_28 (by decide) ?_
  refine lv_iload_n hx hb dX7_howManyBodies_4 rfl (lv_at hl 0 rfl) ?_
  refine lv_aload_n hx hb dX7_howManyBodies_5 rfl (lv_at hl 2 rfl) ?_
  refine va_get (D := (dC, dI)) (ci := 7) (v := .ref qb) (C := RX7) (T := TX7) (N := 1) hx hb hts (by decide +kernel) hown hK hP 0 rfl rfl 0 (by decide) (hts (.fieldLink RX7 11 "KeyAtlas" "bodies" "[LKeyAtlas$Body;") (by decide +kernel)) (fun _ h9 => h9) rfl dX7_howManyBodies_6 ?_
  refine va_alen (v := 16) hx hb hK hP 1 0 rfl rfl rfl dX7_howManyBodies_9 ?_
  refine lv_icmp_ge (tgt := 31) hx hb dX7_howManyBodies_10 (by decide) (fun c_8 => absurd c_8 (by decide)) (fun c_8 => ?_)
  refine lv_aload_n hx hb dX7_howManyBodies_13 rfl (lv_at hl 2 rfl) ?_
  refine va_get (D := (dC, dI)) (ci := 7) (v := .ref qb) (C := RX7) (T := TX7) (N := 1) hx hb hts (by decide +kernel) hown hK hP 0 rfl rfl 0 (by decide) (hts (.fieldLink RX7 11 "KeyAtlas" "bodies" "[LKeyAtlas$Body;") (by decide +kernel)) (fun _ h9 => h9) rfl dX7_howManyBodies_14 ?_
  refine lv_iload_n hx hb dX7_howManyBodies_17 rfl (lv_at hl 0 rfl) ?_
  refine va_aldq (i := 7) hx hb hK hP 1 0 rfl rfl (by unfold vp_in; decide) dX7_howManyBodies_18 ?_
  refine W.eq (g2 := F0 m 19 ls [.null]) rfl ?_
  refine lv_ifnullN (tgt := 25) hx hb dX7_howManyBodies_19 (by decide) ?_
  refine lv_iinc (v := 8) (lv' := [(2, .int 8), (1, .int 0), (0, .ref h0)]) hx hb dX7_howManyBodies_25 hl (k := 0) rfl (by decide) (by decide) rfl (fun ls hl => ?_)
  refine lv_goto (tgt := 4) hx hb dX7_howManyBodies_28 (by decide) ?_
  refine lv_iload_n hx hb dX7_howManyBodies_4 rfl (lv_at hl 0 rfl) ?_
  refine lv_aload_n hx hb dX7_howManyBodies_5 rfl (lv_at hl 2 rfl) ?_
  refine va_get (D := (dC, dI)) (ci := 7) (v := .ref qb) (C := RX7) (T := TX7) (N := 1) hx hb hts (by decide +kernel) hown hK hP 0 rfl rfl 0 (by decide) (hts (.fieldLink RX7 11 "KeyAtlas" "bodies" "[LKeyAtlas$Body;") (by decide +kernel)) (fun _ h9 => h9) rfl dX7_howManyBodies_6 ?_
  refine va_alen (v := 16) hx hb hK hP 1 0 rfl rfl rfl dX7_howManyBodies_9 ?_
  refine lv_icmp_ge (tgt := 31) hx hb dX7_howManyBodies_10 (by decide) (fun c_9 => absurd c_9 (by decide)) (fun c_9 => ?_)
  refine lv_aload_n hx hb dX7_howManyBodies_13 rfl (lv_at hl 2 rfl) ?_
  refine va_get (D := (dC, dI)) (ci := 7) (v := .ref qb) (C := RX7) (T := TX7) (N := 1) hx hb hts (by decide +kernel) hown hK hP 0 rfl rfl 0 (by decide) (hts (.fieldLink RX7 11 "KeyAtlas" "bodies" "[LKeyAtlas$Body;") (by decide +kernel)) (fun _ h9 => h9) rfl dX7_howManyBodies_14 ?_
  refine lv_iload_n hx hb dX7_howManyBodies_17 rfl (lv_at hl 0 rfl) ?_
  refine va_aldq (i := 8) hx hb hK hP 1 0 rfl rfl (by unfold vp_in; decide) dX7_howManyBodies_18 ?_
  refine W.eq (g2 := F0 m 19 ls [.null]) rfl ?_
  refine lv_ifnullN (tgt := 25) hx hb dX7_howManyBodies_19 (by decide) ?_
  refine lv_iinc (v := 9) (lv' := [(2, .int 9), (1, .int 0), (0, .ref h0)]) hx hb dX7_howManyBodies_25 hl (k := 0) rfl (by decide) (by decide) rfl (fun ls hl => ?_)
  refine lv_goto (tgt := 4) hx hb dX7_howManyBodies_28 (by decide) ?_
  refine lv_iload_n hx hb dX7_howManyBodies_4 rfl (lv_at hl 0 rfl) ?_
  refine lv_aload_n hx hb dX7_howManyBodies_5 rfl (lv_at hl 2 rfl) ?_
  refine va_get (D := (dC, dI)) (ci := 7) (v := .ref qb) (C := RX7) (T := TX7) (N := 1) hx hb hts (by decide +kernel) hown hK hP 0 rfl rfl 0 (by decide) (hts (.fieldLink RX7 11 "KeyAtlas" "bodies" "[LKeyAtlas$Body;") (by decide +kernel)) (fun _ h9 => h9) rfl dX7_howManyBodies_6 ?_
  refine va_alen (v := 16) hx hb hK hP 1 0 rfl rfl rfl dX7_howManyBodies_9 ?_
  refine lv_icmp_ge (tgt := 31) hx hb dX7_howManyBodies_10 (by decide) (fun c_10 => absurd c_10 (by decide)) (fun c_10 => ?_)
  refine lv_aload_n hx hb dX7_howManyBodies_13 rfl (lv_at hl 2 rfl) ?_
  refine va_get (D := (dC, dI)) (ci := 7) (v := .ref qb) (C := RX7) (T := TX7) (N := 1) hx hb hts (by decide +kernel) hown hK hP 0 rfl rfl 0 (by decide) (hts (.fieldLink RX7 11 "KeyAtlas" "bodies" "[LKeyAtlas$Body;") (by decide +kernel)) (fun _ h9 => h9) rfl dX7_howManyBodies_14 ?_
  refine lv_iload_n hx hb dX7_howManyBodies_17 rfl (lv_at hl 0 rfl) ?_
  refine va_aldq (i := 9) hx hb hK hP 1 0 rfl rfl (by unfold vp_in; decide) dX7_howManyBodies_18 ?_
  refine W.eq (g2 := F0 m 19 ls [.null]) rfl ?_
  refine lv_ifnullN (tgt := 25) hx hb dX7_howManyBodies_19 (by decide) ?_
  refine lv_iinc (v := 10) (lv' := [(2, .int 10), (1, .int 0), (0, .ref h0)]) hx hb dX7_howManyBodies_25 hl (k := 0) rfl (by decide) (by decide) rfl (fun ls hl => ?_)
  refine lv_goto (tgt := 4) hx hb dX7_howManyBodies_28 (by decide) ?_
  refine lv_iload_n hx hb dX7_howManyBodies_4 rfl (lv_at hl 0 rfl) ?_
  refine lv_aload_n hx hb dX7_howManyBodies_5 rfl (lv_at hl 2 rfl) ?_
  refine va_get (D := (dC, dI)) (ci := 7) (v := .ref qb) (C := RX7) (T := TX7) (N := 1) hx hb hts (by decide +kernel) hown hK hP 0 rfl rfl 0 (by decide) (hts (.fieldLink RX7 11 "KeyAtlas" "bodies" "[LKeyAtlas$Body;") (by decide +kernel)) (fun _ h9 => h9) rfl dX7_howManyBodies_6 ?_
  refine va_alen (v := 16) hx hb hK hP 1 0 rfl rfl rfl dX7_howManyBodies_9 ?_
  refine lv_icmp_ge (tgt := 31) hx hb dX7_howManyBodies_10 (by decide) (fun c_11 => absurd c_11 (by decide)) (fun c_11 => ?_)
  refine lv_aload_n hx hb dX7_howManyBodies_13 rfl (lv_at hl 2 rfl) ?_
  refine va_get (D := (dC, dI)) (ci := 7) (v := .ref qb) (C := RX7) (T := TX7) (N := 1) hx hb hts (by decide +kernel) hown hK hP 0 rfl rfl 0 (by decide) (hts (.fieldLink RX7 11 "KeyAtlas" "bodies" "[LKeyAtlas$Body;") (by decide +kernel)) (fun _ h9 => h9) rfl dX7_howManyBodies_14 ?_
  refine lv_iload_n hx hb dX7_howManyBodies_17 rfl (lv_at hl 0 rfl) ?_
  refine va_aldq (i := 10) hx hb hK hP 1 0 rfl rfl (by unfold vp_in; decide) dX7_howManyBodies_18 ?_
  refine W.eq (g2 := F0 m 19 ls [.null]) rfl ?_
  refine lv_ifnullN (tgt := 25) hx hb dX7_howManyBodies_19 (by decide) ?_
  refine lv_iinc (v := 11) (lv' := [(2, .int 11), (1, .int 0), (0, .ref h0)]) hx hb dX7_howManyBodies_25 hl (k := 0) rfl (by decide) (by decide) rfl (fun ls hl => ?_)
  refine lv_goto (tgt := 4) hx hb dX7_howManyBodies_28 (by decide) ?_
  refine lv_iload_n hx hb dX7_howManyBodies_4 rfl (lv_at hl 0 rfl) ?_
  refine lv_aload_n hx hb dX7_howManyBodies_5 rfl (lv_at hl 2 rfl) ?_
  refine va_get (D := (dC, dI)) (ci := 7) (v := .ref qb) (C := RX7) (T := TX7) (N := 1) hx hb hts (by decide +kernel) hown hK hP 0 rfl rfl 0 (by decide) (hts (.fieldLink RX7 11 "KeyAtlas" "bodies" "[LKeyAtlas$Body;") (by decide +kernel)) (fun _ h9 => h9) rfl dX7_howManyBodies_6 ?_
  refine va_alen (v := 16) hx hb hK hP 1 0 rfl rfl rfl dX7_howManyBodies_9 ?_
  refine lv_icmp_ge (tgt := 31) hx hb dX7_howManyBodies_10 (by decide) (fun c_12 => absurd c_12 (by decide)) (fun c_12 => ?_)
  refine lv_aload_n hx hb dX7_howManyBodies_13 rfl (lv_at hl 2 rfl) ?_
  refine va_get (D := (dC, dI)) (ci := 7) (v := .ref qb) (C := RX7) (T := TX7) (N := 1) hx hb hts (by decide +kernel) hown hK hP 0 rfl rfl 0 (by decide) (hts (.fieldLink RX7 11 "KeyAtlas" "bodies" "[LKeyAtlas$Body;") (by decide +kernel)) (fun _ h9 => h9) rfl dX7_howManyBodies_14 ?_
  refine lv_iload_n hx hb dX7_howManyBodies_17 rfl (lv_at hl 0 rfl) ?_
  refine va_aldq (i := 11) hx hb hK hP 1 0 rfl rfl (by unfold vp_in; decide) dX7_howManyBodies_18 ?_
  refine W.eq (g2 := F0 m 19 ls [.null]) rfl ?_
  refine lv_ifnullN (tgt := 25) hx hb dX7_howManyBodies_19 (by decide) ?_
  refine lv_iinc (v := 12) (lv' := [(2, .int 12), (1, .int 0), (0, .ref h0)]) hx hb dX7_howManyBodies_25 hl (k := 0) rfl (by decide) (by decide) rfl (fun ls hl => ?_)
  refine lv_goto (tgt := 4) hx hb dX7_howManyBodies_28 (by decide) ?_
  refine lv_iload_n hx hb dX7_howManyBodies_4 rfl (lv_at hl 0 rfl) ?_
  refine lv_aload_n hx hb dX7_howManyBodies_5 rfl (lv_at hl 2 rfl) ?_
  refine va_get (D := (dC, dI)) (ci := 7) (v := .ref qb) (C := RX7) (T := TX7) (N := 1) hx hb hts (by decide +kernel) hown hK hP 0 rfl rfl 0 (by decide) (hts (.fieldLink RX7 11 "KeyAtlas" "bodies" "[LKeyAtlas$Body;") (by decide +kernel)) (fun _ h9 => h9) rfl dX7_howManyBodies_6 ?_
  refine va_alen (v := 16) hx hb hK hP 1 0 rfl rfl rfl dX7_howManyBodies_9 ?_
  refine lv_icmp_ge (tgt := 31) hx hb dX7_howManyBodies_10 (by decide) (fun c_13 => absurd c_13 (by decide)) (fun c_13 => ?_)
  refine lv_aload_n hx hb dX7_howManyBodies_13 rfl (lv_at hl 2 rfl) ?_
  refine va_get (D := (dC, dI)) (ci := 7) (v := .ref qb) (C := RX7) (T := TX7) (N := 1) hx hb hts (by decide +kernel) hown hK hP 0 rfl rfl 0 (by decide) (hts (.fieldLink RX7 11 "KeyAtlas" "bodies" "[LKeyAtlas$Body;") (by decide +kernel)) (fun _ h9 => h9) rfl dX7_howManyBodies_14 ?_
  refine lv_iload_n hx hb dX7_howManyBodies_17 rfl (lv_at hl 0 rfl) ?_
  refine va_aldq (i := 12) hx hb hK hP 1 0 rfl rfl (by unfold vp_in; decide) dX7_howManyBodies_18 ?_
  refine W.eq (g2 := F0 m 19 ls [.null]) rfl ?_
  refine lv_ifnullN (tgt := 25) hx hb dX7_howManyBodies_19 (by decide) ?_
  refine lv_iinc (v := 13) (lv' := [(2, .int 13), (1, .int 0), (0, .ref h0)]) hx hb dX7_howManyBodies_25 hl (k := 0) rfl (by decide) (by decide) rfl (fun ls hl => ?_)
  refine lv_goto (tgt := 4) hx hb dX7_howManyBodies_28 (by decide) ?_
  refine lv_iload_n hx hb dX7_howManyBodies_4 rfl (lv_at hl 0 rfl) ?_
  refine lv_aload_n hx hb dX7_howManyBodies_5 rfl (lv_at hl 2 rfl) ?_
  refine va_get (D := (dC, dI)) (ci := 7) (v := .ref qb) (C := RX7) (T := TX7) (N := 1) hx hb hts (by decide +kernel) hown hK hP 0 rfl rfl 0 (by decide) (hts (.fieldLink RX7 11 "KeyAtlas" "bodies" "[LKeyAtlas$Body;") (by decide +kernel)) (fun _ h9 => h9) rfl dX7_howManyBodies_6 ?_
  refine va_alen (v := 16) hx hb hK hP 1 0 rfl rfl rfl dX7_howManyBodies_9 ?_
  refine lv_icmp_ge (tgt := 31) hx hb dX7_howManyBodies_10 (by decide) (fun c_14 => absurd c_14 (by decide)) (fun c_14 => ?_)
  refine lv_aload_n hx hb dX7_howManyBodies_13 rfl (lv_at hl 2 rfl) ?_
  refine va_get (D := (dC, dI)) (ci := 7) (v := .ref qb) (C := RX7) (T := TX7) (N := 1) hx hb hts (by decide +kernel) hown hK hP 0 rfl rfl 0 (by decide) (hts (.fieldLink RX7 11 "KeyAtlas" "bodies" "[LKeyAtlas$Body;") (by decide +kernel)) (fun _ h9 => h9) rfl dX7_howManyBodies_14 ?_
  refine lv_iload_n hx hb dX7_howManyBodies_17 rfl (lv_at hl 0 rfl) ?_
  refine va_aldq (i := 13) hx hb hK hP 1 0 rfl rfl (by unfold vp_in; decide) dX7_howManyBodies_18 ?_
  refine W.eq (g2 := F0 m 19 ls [.null]) rfl ?_
  refine lv_ifnullN (tgt := 25) hx hb dX7_howManyBodies_19 (by decide) ?_
  refine lv_iinc (v := 14) (lv' := [(2, .int 14), (1, .int 0), (0, .ref h0)]) hx hb dX7_howManyBodies_25 hl (k := 0) rfl (by decide) (by decide) rfl (fun ls hl => ?_)
  refine lv_goto (tgt := 4) hx hb dX7_howManyBodies_28 (by decide) ?_
  refine lv_iload_n hx hb dX7_howManyBodies_4 rfl (lv_at hl 0 rfl) ?_
  refine lv_aload_n hx hb dX7_howManyBodies_5 rfl (lv_at hl 2 rfl) ?_
  refine va_get (D := (dC, dI)) (ci := 7) (v := .ref qb) (C := RX7) (T := TX7) (N := 1) hx hb hts (by decide +kernel) hown hK hP 0 rfl rfl 0 (by decide) (hts (.fieldLink RX7 11 "KeyAtlas" "bodies" "[LKeyAtlas$Body;") (by decide +kernel)) (fun _ h9 => h9) rfl dX7_howManyBodies_6 ?_
  refine va_alen (v := 16) hx hb hK hP 1 0 rfl rfl rfl dX7_howManyBodies_9 ?_
  refine lv_icmp_ge (tgt := 31) hx hb dX7_howManyBodies_10 (by decide) (fun c_15 => absurd c_15 (by decide)) (fun c_15 => ?_)
  refine lv_aload_n hx hb dX7_howManyBodies_13 rfl (lv_at hl 2 rfl) ?_
  refine va_get (D := (dC, dI)) (ci := 7) (v := .ref qb) (C := RX7) (T := TX7) (N := 1) hx hb hts (by decide +kernel) hown hK hP 0 rfl rfl 0 (by decide) (hts (.fieldLink RX7 11 "KeyAtlas" "bodies" "[LKeyAtlas$Body;") (by decide +kernel)) (fun _ h9 => h9) rfl dX7_howManyBodies_14 ?_
  refine lv_iload_n hx hb dX7_howManyBodies_17 rfl (lv_at hl 0 rfl) ?_
  refine va_aldq (i := 14) hx hb hK hP 1 0 rfl rfl (by unfold vp_in; decide) dX7_howManyBodies_18 ?_
  refine W.eq (g2 := F0 m 19 ls [.null]) rfl ?_
  refine lv_ifnullN (tgt := 25) hx hb dX7_howManyBodies_19 (by decide) ?_
  refine lv_iinc (v := 15) (lv' := [(2, .int 15), (1, .int 0), (0, .ref h0)]) hx hb dX7_howManyBodies_25 hl (k := 0) rfl (by decide) (by decide) rfl (fun ls hl => ?_)
  refine lv_goto (tgt := 4) hx hb dX7_howManyBodies_28 (by decide) ?_
  refine lv_iload_n hx hb dX7_howManyBodies_4 rfl (lv_at hl 0 rfl) ?_
  refine lv_aload_n hx hb dX7_howManyBodies_5 rfl (lv_at hl 2 rfl) ?_
  refine va_get (D := (dC, dI)) (ci := 7) (v := .ref qb) (C := RX7) (T := TX7) (N := 1) hx hb hts (by decide +kernel) hown hK hP 0 rfl rfl 0 (by decide) (hts (.fieldLink RX7 11 "KeyAtlas" "bodies" "[LKeyAtlas$Body;") (by decide +kernel)) (fun _ h9 => h9) rfl dX7_howManyBodies_6 ?_
  refine va_alen (v := 16) hx hb hK hP 1 0 rfl rfl rfl dX7_howManyBodies_9 ?_
  refine lv_icmp_ge (tgt := 31) hx hb dX7_howManyBodies_10 (by decide) (fun c_16 => absurd c_16 (by decide)) (fun c_16 => ?_)
  refine lv_aload_n hx hb dX7_howManyBodies_13 rfl (lv_at hl 2 rfl) ?_
  refine va_get (D := (dC, dI)) (ci := 7) (v := .ref qb) (C := RX7) (T := TX7) (N := 1) hx hb hts (by decide +kernel) hown hK hP 0 rfl rfl 0 (by decide) (hts (.fieldLink RX7 11 "KeyAtlas" "bodies" "[LKeyAtlas$Body;") (by decide +kernel)) (fun _ h9 => h9) rfl dX7_howManyBodies_14 ?_
  refine lv_iload_n hx hb dX7_howManyBodies_17 rfl (lv_at hl 0 rfl) ?_
  refine va_aldq (i := 15) hx hb hK hP 1 0 rfl rfl (by unfold vp_in; decide) dX7_howManyBodies_18 ?_
  refine W.eq (g2 := F0 m 19 ls [.null]) rfl ?_
  refine lv_ifnullN (tgt := 25) hx hb dX7_howManyBodies_19 (by decide) ?_
  refine lv_iinc (v := 16) (lv' := [(2, .int 16), (1, .int 0), (0, .ref h0)]) hx hb dX7_howManyBodies_25 hl (k := 0) rfl (by decide) (by decide) rfl (fun ls hl => ?_)
  refine lv_goto (tgt := 4) hx hb dX7_howManyBodies_28 (by decide) ?_
  refine lv_iload_n hx hb dX7_howManyBodies_4 rfl (lv_at hl 0 rfl) ?_
  refine lv_aload_n hx hb dX7_howManyBodies_5 rfl (lv_at hl 2 rfl) ?_
  refine va_get (D := (dC, dI)) (ci := 7) (v := .ref qb) (C := RX7) (T := TX7) (N := 1) hx hb hts (by decide +kernel) hown hK hP 0 rfl rfl 0 (by decide) (hts (.fieldLink RX7 11 "KeyAtlas" "bodies" "[LKeyAtlas$Body;") (by decide +kernel)) (fun _ h9 => h9) rfl dX7_howManyBodies_6 ?_
  refine va_alen (v := 16) hx hb hK hP 1 0 rfl rfl rfl dX7_howManyBodies_9 ?_
  refine lv_icmp_ge (tgt := 31) hx hb dX7_howManyBodies_10 (by decide) (fun c_17 => ?_) (fun c_17 => absurd c_17 (by decide))
  refine lv_iload_n hx hb dX7_howManyBodies_31 rfl (lv_at hl 1 rfl) ?_
  refine W.widen (k := 0) (n := 0) (Nat.le_of_ble_eq_true rfl) (Nat.le_of_ble_eq_true rfl) ?_
  exact W.iret (v := 0) hx hb hr (fun t ht hW => ⟨⟨0, (), rfl, rfl, trivial⟩, hS.F ht⟩) hS.2.2 dX7_howManyBodies_32
set_option maxHeartbeats 4000000 in
set_option maxRecDepth 100000 in
/-- kindOf: nothing is there -/
theorem c_X7_kindOf (l : Launch) (dC : Nat → ClassId) (dI : Nat → Nat → Nat) (sz : Nat) (h0 : Nat) (qb : Nat) (cb : ClassId) (p0 : Int32) : Met l yX7_kindOf wsX7_kindOf ({ frames := 1, cells := 0, slots := 0, locals := 30 }) (va_Pc [.ref h0, .int p0] (pk_Pre (dC, dI) [(h0, .inr (7, [.ref qb])), (qb, .inl (cb, 16, .inr (.inr (.inr (.inr (fun _ => none))))))] [(cb, .object "KeyAtlas$Body")] sz)) (va_Qi (fun (r : Int32) (_ : Unit) => r = -1) (fun (_ : Unit) (_ : State) => True) (va_A [(h0, .inr (7, [.ref qb])), (qb, .inl (cb, 16, .inr (.inr (.inr (.inr (fun _ => none))))))] sz)) 0 0 (va_A [(h0, .inr (7, [.ref qb])), (qb, .inl (cb, 16, .inr (.inr (.inr (.inr (fun _ => none))))))] sz) := by
  refine Met.ofW (cc := cX7_kindOf) (maxL := 3) (ret := (some .int)) (by decide) rfl ?_
  intro p e s m args below meth c s₁ B hml hv
  obtain ⟨rfl, hsz, hP, hK, hD0⟩ := hv
  have hx := B.exec
  have hb := B.bytes
  have hr := B.returns
  have hts := atoms_spec (ws := wsX7_kindOf) B.pre
  have hown : s.vm.findClass RX7 = some m.cls := findClass_of_methodNamed B.named
  have hlocks := B.notSynchronized
  subst hsz
  have hD := hD0.self (sz := s.heap.size)
  generalize hAe : va_A [(h0, .inr (7, [.ref qb])), (qb, .inl (cb, 16, .inr (.inr (.inr (.inr (fun _ => none))))))] s.heap.size = A at hD ⊢
  have hA : ∀ q : Nat, s.heap.size ≤ q → A q := fun q h => by rw [← hAe]; exact Or.inr h
  have hS : va_S A s.heap s.heap [] := va_S.rf
  have hP : va_P (dC, dI) vwCl [(h0, .inr (7, [.ref qb])), (qb, .inl (cb, 16, .inr (.inr (.inr (.inr (fun _ => none))))))] s.heap := hP
  have hl := lv_entry ([.ref h0, .int p0]) (n := 3) (Nat.le_of_ble_eq_true rfl)
  rw [lg_entry_eq]
  generalize (lg_sl ([.ref h0, .int p0]) ++ List.replicate (3 - (lg_sl ([.ref h0, .int p0])).length) Slot.unset).toArray = ls at hl ⊢
  have hl : lv_has ls 3 [(0, .ref h0), (1, .int p0)] := hl
  refine lv_aload_n hx hb dX7_kindOf_0 rfl (lv_at hl 0 rfl) ?_
  refine lv_iload_n hx hb dX7_kindOf_1 rfl (lv_at hl 1 rfl) ?_
  have hPc := hP.sub (ws' := [(h0, .inr (7, [.ref qb])), (qb, .inl (cb, 16, .inr (.inr (.inr (.inr (fun _ => none))))))]) [0, 1] rfl
  have hDc := hD.sub (ws' := [(h0, .inr (7, [.ref qb])), (qb, .inl (cb, 16, .inr (.inr (.inr (.inr (fun _ => none))))))]) [0, 1] (by decide) rfl
  have hKc := hK.sub (tys' := [(cb, .object "KeyAtlas$Body")]) [0] rfl
  have hFc := va_free (wc := [(h0, .inr (7, [.ref qb])), (qb, .inl (cb, 16, .inr (.inr (.inr (.inr (fun _ => none))))))]) hD hS hA [0, 1] rfl
  refine va_callq (va_runV (As := [.int p0]) (rest := []) ⟨hx, hb, hml, hown, hts⟩ (c_X7_bodyOrNull l  dC dI s.heap.size h0 qb cb p0) (cwV 1 hts gX7_kindOf_X7_bodyOrNull rfl rfl rfl (by decide +kernel) ⟨(Nat.le_of_ble_eq_true rfl), (Nat.le_of_ble_eq_true rfl)⟩) ⟨pk_blind, va_recv hKc hPc (ci := 7) (q0 := 0) rfl rfl, pk_call hPc hKc hDc⟩ rfl rfl hl.1 rfl (lv_room (Nat.le_of_ble_eq_true rfl)) dX7_kindOf_2 ⟨(Nat.le_of_ble_eq_true rfl), (Nat.le_of_ble_eq_true rfl)⟩) hS (fun q _ h => hFc q h) hFc (fun r_1 ur_1 t H1 locs ht hvm hw hB hz1 hk1 hS => ?_)
  try dsimp only at hw
  obtain ⟨hP, hD⟩ := va_join (wr := []) (w1 := []) hP hD [0, 1] [] rfl rfl (by decide) (by decide) hk1 hFc tx_P0 tx_D0
  clear hk1 hz1 ht hPc hDc hKc
  generalize H1 = H at hP hS ⊢
  have hP : va_P (dC, dI) vwCl [] H := hP
  have hD : va_D A [] := hD
  refine W.widen (k := 0) (n := 0) (Nat.le_of_ble_eq_true rfl) (Nat.le_of_ble_eq_true rfl) ?_
  obtain rfl : r_1 = none := hw
  refine W.eq (g2 := F0 m 5 ls [.null]) rfl ?_
  refine lv_astore_nN (lv' := [(2, .null), (0, .ref h0), (1, .int p0)]) hx hb dX7_kindOf_5 rfl hl (by decide) rfl (fun ls hl => ?_)
  refine lv_aload_nN hx hb dX7_kindOf_6 rfl (lv_at hl 0 rfl) ?_
  refine lv_ifnonnullN hx hb dX7_kindOf_7 ?_
  refine lv_iconst (v := (-1)) hx hb dX7_kindOf_10 (by decide) ?_
  refine lv_goto (tgt := 18) hx hb dX7_kindOf_11 (by decide) ?_
  refine W.widen (k := 0) (n := 0) (Nat.le_of_ble_eq_true rfl) (Nat.le_of_ble_eq_true rfl) ?_
  exact W.iret (v := -1) hx hb hr (fun t ht hW => ⟨⟨-1, (), rfl, rfl, trivial⟩, hS.F ht⟩) hS.2.2 dX7_kindOf_18
set_option maxHeartbeats 4000000 in
set_option maxRecDepth 100000 in
/-- sizeOf: nothing is there -/
theorem c_X7_sizeOf (l : Launch) (dC : Nat → ClassId) (dI : Nat → Nat → Nat) (sz : Nat) (h0 : Nat) (qb : Nat) (cb : ClassId) (p0 : Int32) : Met l yX7_sizeOf wsP_X7_sizeOf ({ frames := 1, cells := 0, slots := 0, locals := 30 }) (va_Pc [.ref h0, .int p0] (pk_Pre (dC, dI) [(h0, .inr (7, [.ref qb])), (qb, .inl (cb, 16, .inr (.inr (.inr (.inr (fun _ => none))))))] [(cb, .object "KeyAtlas$Body")] sz)) (va_Qi (fun (r : Int32) (_ : Unit) => r = -1) (fun (_ : Unit) (_ : State) => True) (va_A [(h0, .inr (7, [.ref qb])), (qb, .inl (cb, 16, .inr (.inr (.inr (.inr (fun _ => none))))))] sz)) 0 0 (va_A [(h0, .inr (7, [.ref qb])), (qb, .inl (cb, 16, .inr (.inr (.inr (.inr (fun _ => none))))))] sz) := by
  refine Met.ofW (cc := cX7_sizeOf) (maxL := 4) (ret := (some .int)) (by decide) rfl ?_
  intro p e s m args below meth c s₁ B hml hv
  obtain ⟨rfl, hsz, hP, hK, hD0⟩ := hv
  have hx := B.exec
  have hb := B.bytes
  have hr := B.returns
  have hts := atoms_spec (ws := wsP_X7_sizeOf) B.pre
  have hown : s.vm.findClass RX7 = some m.cls := findClass_of_methodNamed B.named
  have hlocks := B.notSynchronized
  subst hsz
  have hD := hD0.self (sz := s.heap.size)
  generalize hAe : va_A [(h0, .inr (7, [.ref qb])), (qb, .inl (cb, 16, .inr (.inr (.inr (.inr (fun _ => none))))))] s.heap.size = A at hD ⊢
  have hA : ∀ q : Nat, s.heap.size ≤ q → A q := fun q h => by rw [← hAe]; exact Or.inr h
  have hS : va_S A s.heap s.heap [] := va_S.rf
  have hP : va_P (dC, dI) vwCl [(h0, .inr (7, [.ref qb])), (qb, .inl (cb, 16, .inr (.inr (.inr (.inr (fun _ => none))))))] s.heap := hP
  have hl := lv_entry ([.ref h0, .int p0]) (n := 4) (Nat.le_of_ble_eq_true rfl)
  rw [lg_entry_eq]
  generalize (lg_sl ([.ref h0, .int p0]) ++ List.replicate (4 - (lg_sl ([.ref h0, .int p0])).length) Slot.unset).toArray = ls at hl ⊢
  have hl : lv_has ls 4 [(0, .ref h0), (1, .int p0)] := hl
  refine lv_aload_n hx hb dX7_sizeOf_0 rfl (lv_at hl 0 rfl) ?_
  refine lv_iload_n hx hb dX7_sizeOf_1 rfl (lv_at hl 1 rfl) ?_
  have hPc := hP.sub (ws' := [(h0, .inr (7, [.ref qb])), (qb, .inl (cb, 16, .inr (.inr (.inr (.inr (fun _ => none))))))]) [0, 1] rfl
  have hDc := hD.sub (ws' := [(h0, .inr (7, [.ref qb])), (qb, .inl (cb, 16, .inr (.inr (.inr (.inr (fun _ => none))))))]) [0, 1] (by decide) rfl
  have hKc := hK.sub (tys' := [(cb, .object "KeyAtlas$Body")]) [0] rfl
  have hFc := va_free (wc := [(h0, .inr (7, [.ref qb])), (qb, .inl (cb, 16, .inr (.inr (.inr (.inr (fun _ => none))))))]) hD hS hA [0, 1] rfl
  refine va_callq (va_runV (As := [.int p0]) (rest := []) ⟨hx, hb, hml, hown, hts⟩ (c_X7_bodyOrNull l  dC dI s.heap.size h0 qb cb p0) (cwV 1 hts gP_X7_sizeOf_bodyOrNull rfl rfl rfl (by decide +kernel) ⟨(Nat.le_of_ble_eq_true rfl), (Nat.le_of_ble_eq_true rfl)⟩) ⟨pk_blind, va_recv hKc hPc (ci := 7) (q0 := 0) rfl rfl, pk_call hPc hKc hDc⟩ rfl rfl hl.1 rfl (lv_room (Nat.le_of_ble_eq_true rfl)) dX7_sizeOf_2 ⟨(Nat.le_of_ble_eq_true rfl), (Nat.le_of_ble_eq_true rfl)⟩) hS (fun q _ h => hFc q h) hFc (fun r_1 ur_1 t H1 locs ht hvm hw hB hz1 hk1 hS => ?_)
  try dsimp only at hw
  obtain ⟨hP, hD⟩ := va_join (wr := []) (w1 := []) hP hD [0, 1] [] rfl rfl (by decide) (by decide) hk1 hFc tx_P0 tx_D0
  clear hk1 hz1 ht hPc hDc hKc
  generalize H1 = H at hP hS ⊢
  have hP : va_P (dC, dI) vwCl [] H := hP
  have hD : va_D A [] := hD
  refine W.widen (k := 0) (n := 0) (Nat.le_of_ble_eq_true rfl) (Nat.le_of_ble_eq_true rfl) ?_
  obtain rfl : r_1 = none := hw
  refine W.eq (g2 := F0 m 5 ls [.null]) rfl ?_
  refine lv_astore_nN (lv' := [(3, .null), (0, .ref h0), (1, .int p0)]) hx hb dX7_sizeOf_5 rfl hl (by decide) rfl (fun ls hl => ?_)
  refine lv_aload_nN hx hb dX7_sizeOf_6 rfl (lv_at hl 0 rfl) ?_
  refine lv_instN hx hb dX7_sizeOf_7 ?_
  refine lv_if_eq (tgt := 25) hx hb dX7_sizeOf_10 (by decide) (fun c_2 => ?_) (fun c_2 => absurd c_2 (by decide))
  refine lv_iconst (v := (-1)) hx hb dX7_sizeOf_25 (by decide) ?_
  refine W.widen (k := 0) (n := 0) (Nat.le_of_ble_eq_true rfl) (Nat.le_of_ble_eq_true rfl) ?_
  exact W.iret (v := -1) hx hb hr (fun t ht hW => ⟨⟨-1, (), rfl, rfl, trivial⟩, hS.F ht⟩) hS.2.2 dX7_sizeOf_26
set_option maxHeartbeats 4000000 in
set_option maxRecDepth 100000 in
/-- count, fresh -/
theorem c_X7_count (l : Launch) (hlt : l.stackTraces = false) (dC : Nat → ClassId) (dI : Nat → Nat → Nat) (sz : Nat) (h0 : Nat) (qb : Nat) (cb : ClassId) (p0 : Int32) : vx_Met l yX7_count wsP_X7_count ({ frames := 6, cells := 1, slots := 6, locals := 100 }) (va_Pc [.ref h0, .int p0] (pk_PreX (dC, dI) [(h0, .inr (7, [.ref qb])), (qb, .inl (cb, 16, .inr (.inr (.inr (.inr (fun _ => none))))))] [(cb, .object "KeyAtlas$Body")] sz)) (va_Qi (fun (r : Int32) (_ : Unit) => ctIs p0 0 r.toInt) (fun (_ : Unit) (_ : State) => True) (va_A [(h0, .inr (7, [.ref qb])), (qb, .inl (cb, 16, .inr (.inr (.inr (.inr (fun _ => none))))))] sz)) (vx_X (fun _ : Unit => True) (fun (E : String) (_ : Unit) (_ : State) => E = "java/lang/IllegalArgumentException" ∧ ctIs p0 1 0) (va_A [(h0, .inr (7, [.ref qb])), (qb, .inl (cb, 16, .inr (.inr (.inr (.inr (fun _ => none))))))] sz)) 1 6 (va_A [(h0, .inr (7, [.ref qb])), (qb, .inl (cb, 16, .inr (.inr (.inr (.inr (fun _ => none))))))] sz) := by
  refine vx_ofW (cc := cX7_count) (maxL := 2) (ret := (some .int)) (by decide) rfl ?_
  intro p e s m args below meth c s₁ B hml htab hv
  obtain ⟨rfl, hsz, hP, hK, hD0, hN, hZ⟩ := hv
  have hx := B.exec
  have hb := B.bytes
  have hr := B.returns
  have hts := atoms_spec (ws := wsP_X7_count) B.pre
  have hown : s.vm.findClass RX7 = some m.cls := findClass_of_methodNamed B.named
  have hlocks := B.notSynchronized
  subst hsz
  have hD := hD0.self (sz := s.heap.size)
  generalize hAe : va_A [(h0, .inr (7, [.ref qb])), (qb, .inl (cb, 16, .inr (.inr (.inr (.inr (fun _ => none))))))] s.heap.size = A at hZ hD ⊢
  have hA : ∀ q : Nat, s.heap.size ≤ q → A q := fun q h => by rw [← hAe]; exact Or.inr h
  have hS : va_S A s.heap s.heap [] := va_S.rf
  have hP : va_P (dC, dI) vwCl [(h0, .inr (7, [.ref qb])), (qb, .inl (cb, 16, .inr (.inr (.inr (.inr (fun _ => none))))))] s.heap := hP
  have hl := lv_entry ([.ref h0, .int p0]) (n := 2) (Nat.le_of_ble_eq_true rfl)
  rw [lg_entry_eq]
  generalize (lg_sl ([.ref h0, .int p0]) ++ List.replicate (2 - (lg_sl ([.ref h0, .int p0])).length) Slot.unset).toArray = ls at hl ⊢
  have hl : lv_has ls 2 [(0, .ref h0), (1, .int p0)] := hl
  refine lv_iload_n hx hb dX7_count_0 rfl (lv_at hl 1 rfl) ?_
  refine lv_if_ne (tgt := 9) hx hb dX7_count_1 (by decide) (fun c_1 => ?_) (fun c_1 => ?_)
  ·
    have ic_1 : ¬ p0.toInt = 0 := tx_ne rfl (by decide) c_1
    refine lv_iload_n hx hb dX7_count_9 rfl (lv_at hl 1 rfl) ?_
    refine lv_bipush (v := 10) hx hb dX7_count_10 (by decide) ?_
    refine lv_icmp_lt (tgt := 30) hx hb dX7_count_12 (by decide) (fun c_2 => ?_) (fun c_2 => ?_)
    ·
      have ic_2 : p0.toInt < 10 := tx_lt rfl (by decide) c_2
      refine lv_iload_n hx hb dX7_count_30 rfl (lv_at hl 1 rfl) ?_
      refine lv_bipush (v := 30) hx hb dX7_count_31 (by decide) ?_
      refine lv_icmp_lt (tgt := 51) hx hb dX7_count_33 (by decide) (fun c_3 => ?_) (fun c_3 => ?_)
      ·
        have ic_3 : p0.toInt < 30 := tx_lt rfl (by decide) c_3
        obtain ⟨sa, hsa⟩ := hN.stX7_221
        exact vx_throwS hx hb hlt (own := RX7) (cls := "java/lang/IllegalArgumentException") (text := "nothing is counted by that number") (names := ["java/lang/RuntimeException", "java/lang/Exception"]) hown (by decide +kernel) (by decide +kernel) (hts (.classLink RX7 15 "java/lang/IllegalArgumentException") (by decide +kernel)) (hts (.initialized "java/lang/IllegalArgumentException") (by decide +kernel)) hsa (tx_hat hN.xw (fun w h => hts w (List.mem_cons_of_mem _ (List.mem_append_right _ h))) (by decide +kernel)) (by decide +kernel) hZ.1 hZ.2 hS (by rw [hml]; exact hl.1) dX7_count_51 dX7_count_54 dX7_count_55 dX7_count_57 dX7_count_60 (fun x hx9 => (htab x hx9).elim) (by decide) (by decide) (Nat.le_of_ble_eq_true rfl) (Nat.le_of_ble_eq_true rfl) hlocks (fun t hvm hz hq => ⟨(), trivial, ⟨rfl, by unfold ctIs; omega⟩, ⟨Nat.le_trans hS.1 hz, fun q h1 h2 => (hq q (Nat.lt_of_lt_of_le h1 hS.1)).trans (hS.2.1 q h1 h2)⟩⟩) hS.2.2 (Nat.le_of_ble_eq_true rfl) (Nat.le_of_ble_eq_true rfl)
      ·
        have ic_3 : 30 ≤ p0.toInt := tx_nlt rfl (by decide) c_3
        refine lv_iload_n hx hb dX7_count_36 rfl (lv_at hl 1 rfl) ?_
        refine lv_bipush (v := 46) hx hb dX7_count_37 (by decide) ?_
        refine lv_icmp_ge (tgt := 51) hx hb dX7_count_39 (by decide) (fun c_4 => ?_) (fun c_4 => ?_)
        ·
          have ic_4 : 46 ≤ p0.toInt := tx_le (by decide) rfl c_4
          obtain ⟨sa, hsa⟩ := hN.stX7_221
          exact vx_throwS hx hb hlt (own := RX7) (cls := "java/lang/IllegalArgumentException") (text := "nothing is counted by that number") (names := ["java/lang/RuntimeException", "java/lang/Exception"]) hown (by decide +kernel) (by decide +kernel) (hts (.classLink RX7 15 "java/lang/IllegalArgumentException") (by decide +kernel)) (hts (.initialized "java/lang/IllegalArgumentException") (by decide +kernel)) hsa (tx_hat hN.xw (fun w h => hts w (List.mem_cons_of_mem _ (List.mem_append_right _ h))) (by decide +kernel)) (by decide +kernel) hZ.1 hZ.2 hS (by rw [hml]; exact hl.1) dX7_count_51 dX7_count_54 dX7_count_55 dX7_count_57 dX7_count_60 (fun x hx9 => (htab x hx9).elim) (by decide) (by decide) (Nat.le_of_ble_eq_true rfl) (Nat.le_of_ble_eq_true rfl) hlocks (fun t hvm hz hq => ⟨(), trivial, ⟨rfl, by unfold ctIs; omega⟩, ⟨Nat.le_trans hS.1 hz, fun q h1 h2 => (hq q (Nat.lt_of_lt_of_le h1 hS.1)).trans (hS.2.1 q h1 h2)⟩⟩) hS.2.2 (Nat.le_of_ble_eq_true rfl) (Nat.le_of_ble_eq_true rfl)
        ·
          have ic_4 : p0.toInt < 46 := tx_nle (by decide) rfl c_4
          refine lv_aload_n hx hb dX7_count_42 rfl (lv_at hl 0 rfl) ?_
          refine lv_iload_n hx hb dX7_count_43 rfl (lv_at hl 1 rfl) ?_
          refine lv_bipush (v := 30) hx hb dX7_count_44 (by decide) ?_
          refine lv_isub hx hb dX7_count_46 ?_
          have hPc := hP.sub (ws' := [(h0, .inr (7, [.ref qb])), (qb, .inl (cb, 16, .inr (.inr (.inr (.inr (fun _ => none))))))]) [0, 1] rfl
          have hDc := hD.sub (ws' := [(h0, .inr (7, [.ref qb])), (qb, .inl (cb, 16, .inr (.inr (.inr (.inr (fun _ => none))))))]) [0, 1] (by decide) rfl
          have hKc := hK.sub (tys' := [(cb, .object "KeyAtlas$Body")]) [0] rfl
          have hFc := va_free (wc := [(h0, .inr (7, [.ref qb])), (qb, .inl (cb, 16, .inr (.inr (.inr (.inr (fun _ => none))))))]) hD hS hA [0, 1] rfl
          refine va_calli (va_runV (As := [.int (p0 - 30)]) (rest := []) ⟨hx, hb, hml, hown, hts⟩ (c_X7_sizeOf l  dC dI s.heap.size h0 qb cb (p0 - 30)) (cwV 1 hts gP_X7_count_sizeOf rfl rfl rfl (by decide +kernel) ⟨(Nat.le_of_ble_eq_true rfl), (Nat.le_of_ble_eq_true rfl)⟩) ⟨pk_blind, va_recv hKc hPc (ci := 7) (q0 := 0) rfl rfl, pk_call hPc hKc hDc⟩ rfl rfl hl.1 rfl (lv_room (Nat.le_of_ble_eq_true rfl)) dX7_count_47 ⟨(Nat.le_of_ble_eq_true rfl), (Nat.le_of_ble_eq_true rfl)⟩) hS (fun q _ h => hFc q h) hFc (fun r_5 ur_5 t H1 locs ht hvm hw hB hz1 hk1 hS => ?_)
          try dsimp only at hw
          have jr_5 := hw
          obtain ⟨hP, hD⟩ := va_join (wr := []) (w1 := []) hP hD [0, 1] [] rfl rfl (by decide) (by decide) hk1 hFc tx_P0 tx_D0
          clear hk1 hz1 ht hPc hDc hKc
          generalize H1 = H at hP hS ⊢
          have hP : va_P (dC, dI) vwCl [] H := hP
          have hD : va_D A [] := hD
          refine W.widen (k := 0) (n := 0) (Nat.le_of_ble_eq_true rfl) (Nat.le_of_ble_eq_true rfl) ?_
          refine W.eq (g2 := F0 m 50 ls [.int r_5]) rfl ?_
          refine W.widen (k := 1) (n := 6) (Nat.le_of_ble_eq_true rfl) (Nat.le_of_ble_eq_true rfl) ?_
          refine vx_ret ?_
          exact W.iret (v := r_5) hx hb hr (fun t ht hW => ⟨⟨r_5, (), rfl, tx_at (P := ctIs p0 0) (n := -1) (by rw [jr_5]; decide) (by unfold ctIs; omega), trivial⟩, hS.F ht⟩) hS.2.2 dX7_count_50
    ·
      have ic_2 : 10 ≤ p0.toInt := tx_nlt rfl (by decide) c_2
      refine lv_iload_n hx hb dX7_count_15 rfl (lv_at hl 1 rfl) ?_
      refine lv_bipush (v := 26) hx hb dX7_count_16 (by decide) ?_
      refine lv_icmp_ge (tgt := 30) hx hb dX7_count_18 (by decide) (fun c_6 => ?_) (fun c_6 => ?_)
      ·
        have ic_6 : 26 ≤ p0.toInt := tx_le (by decide) rfl c_6
        refine lv_iload_n hx hb dX7_count_30 rfl (lv_at hl 1 rfl) ?_
        refine lv_bipush (v := 30) hx hb dX7_count_31 (by decide) ?_
        refine lv_icmp_lt (tgt := 51) hx hb dX7_count_33 (by decide) (fun c_7 => ?_) (fun c_7 => ?_)
        ·
          have ic_7 : p0.toInt < 30 := tx_lt rfl (by decide) c_7
          obtain ⟨sa, hsa⟩ := hN.stX7_221
          exact vx_throwS hx hb hlt (own := RX7) (cls := "java/lang/IllegalArgumentException") (text := "nothing is counted by that number") (names := ["java/lang/RuntimeException", "java/lang/Exception"]) hown (by decide +kernel) (by decide +kernel) (hts (.classLink RX7 15 "java/lang/IllegalArgumentException") (by decide +kernel)) (hts (.initialized "java/lang/IllegalArgumentException") (by decide +kernel)) hsa (tx_hat hN.xw (fun w h => hts w (List.mem_cons_of_mem _ (List.mem_append_right _ h))) (by decide +kernel)) (by decide +kernel) hZ.1 hZ.2 hS (by rw [hml]; exact hl.1) dX7_count_51 dX7_count_54 dX7_count_55 dX7_count_57 dX7_count_60 (fun x hx9 => (htab x hx9).elim) (by decide) (by decide) (Nat.le_of_ble_eq_true rfl) (Nat.le_of_ble_eq_true rfl) hlocks (fun t hvm hz hq => ⟨(), trivial, ⟨rfl, by unfold ctIs; omega⟩, ⟨Nat.le_trans hS.1 hz, fun q h1 h2 => (hq q (Nat.lt_of_lt_of_le h1 hS.1)).trans (hS.2.1 q h1 h2)⟩⟩) hS.2.2 (Nat.le_of_ble_eq_true rfl) (Nat.le_of_ble_eq_true rfl)
        ·
          have ic_7 : 30 ≤ p0.toInt := tx_nlt rfl (by decide) c_7
          refine lv_iload_n hx hb dX7_count_36 rfl (lv_at hl 1 rfl) ?_
          refine lv_bipush (v := 46) hx hb dX7_count_37 (by decide) ?_
          refine lv_icmp_ge (tgt := 51) hx hb dX7_count_39 (by decide) (fun c_8 => ?_) (fun c_8 => ?_)
          ·
            have ic_8 : 46 ≤ p0.toInt := tx_le (by decide) rfl c_8
            obtain ⟨sa, hsa⟩ := hN.stX7_221
            exact vx_throwS hx hb hlt (own := RX7) (cls := "java/lang/IllegalArgumentException") (text := "nothing is counted by that number") (names := ["java/lang/RuntimeException", "java/lang/Exception"]) hown (by decide +kernel) (by decide +kernel) (hts (.classLink RX7 15 "java/lang/IllegalArgumentException") (by decide +kernel)) (hts (.initialized "java/lang/IllegalArgumentException") (by decide +kernel)) hsa (tx_hat hN.xw (fun w h => hts w (List.mem_cons_of_mem _ (List.mem_append_right _ h))) (by decide +kernel)) (by decide +kernel) hZ.1 hZ.2 hS (by rw [hml]; exact hl.1) dX7_count_51 dX7_count_54 dX7_count_55 dX7_count_57 dX7_count_60 (fun x hx9 => (htab x hx9).elim) (by decide) (by decide) (Nat.le_of_ble_eq_true rfl) (Nat.le_of_ble_eq_true rfl) hlocks (fun t hvm hz hq => ⟨(), trivial, ⟨rfl, by unfold ctIs; omega⟩, ⟨Nat.le_trans hS.1 hz, fun q h1 h2 => (hq q (Nat.lt_of_lt_of_le h1 hS.1)).trans (hS.2.1 q h1 h2)⟩⟩) hS.2.2 (Nat.le_of_ble_eq_true rfl) (Nat.le_of_ble_eq_true rfl)
          ·
            have ic_8 : p0.toInt < 46 := tx_nle (by decide) rfl c_8
            refine lv_aload_n hx hb dX7_count_42 rfl (lv_at hl 0 rfl) ?_
            refine lv_iload_n hx hb dX7_count_43 rfl (lv_at hl 1 rfl) ?_
            refine lv_bipush (v := 30) hx hb dX7_count_44 (by decide) ?_
            refine lv_isub hx hb dX7_count_46 ?_
            have hPc := hP.sub (ws' := [(h0, .inr (7, [.ref qb])), (qb, .inl (cb, 16, .inr (.inr (.inr (.inr (fun _ => none))))))]) [0, 1] rfl
            have hDc := hD.sub (ws' := [(h0, .inr (7, [.ref qb])), (qb, .inl (cb, 16, .inr (.inr (.inr (.inr (fun _ => none))))))]) [0, 1] (by decide) rfl
            have hKc := hK.sub (tys' := [(cb, .object "KeyAtlas$Body")]) [0] rfl
            have hFc := va_free (wc := [(h0, .inr (7, [.ref qb])), (qb, .inl (cb, 16, .inr (.inr (.inr (.inr (fun _ => none))))))]) hD hS hA [0, 1] rfl
            refine va_calli (va_runV (As := [.int (p0 - 30)]) (rest := []) ⟨hx, hb, hml, hown, hts⟩ (c_X7_sizeOf l  dC dI s.heap.size h0 qb cb (p0 - 30)) (cwV 1 hts gP_X7_count_sizeOf rfl rfl rfl (by decide +kernel) ⟨(Nat.le_of_ble_eq_true rfl), (Nat.le_of_ble_eq_true rfl)⟩) ⟨pk_blind, va_recv hKc hPc (ci := 7) (q0 := 0) rfl rfl, pk_call hPc hKc hDc⟩ rfl rfl hl.1 rfl (lv_room (Nat.le_of_ble_eq_true rfl)) dX7_count_47 ⟨(Nat.le_of_ble_eq_true rfl), (Nat.le_of_ble_eq_true rfl)⟩) hS (fun q _ h => hFc q h) hFc (fun r_9 ur_9 t H1 locs ht hvm hw hB hz1 hk1 hS => ?_)
            try dsimp only at hw
            have jr_9 := hw
            obtain ⟨hP, hD⟩ := va_join (wr := []) (w1 := []) hP hD [0, 1] [] rfl rfl (by decide) (by decide) hk1 hFc tx_P0 tx_D0
            clear hk1 hz1 ht hPc hDc hKc
            generalize H1 = H at hP hS ⊢
            have hP : va_P (dC, dI) vwCl [] H := hP
            have hD : va_D A [] := hD
            refine W.widen (k := 0) (n := 0) (Nat.le_of_ble_eq_true rfl) (Nat.le_of_ble_eq_true rfl) ?_
            refine W.eq (g2 := F0 m 50 ls [.int r_9]) rfl ?_
            refine W.widen (k := 1) (n := 6) (Nat.le_of_ble_eq_true rfl) (Nat.le_of_ble_eq_true rfl) ?_
            refine vx_ret ?_
            exact W.iret (v := r_9) hx hb hr (fun t ht hW => ⟨⟨r_9, (), rfl, tx_at (P := ctIs p0 0) (n := -1) (by rw [jr_9]; decide) (by unfold ctIs; omega), trivial⟩, hS.F ht⟩) hS.2.2 dX7_count_50
      ·
        have ic_6 : p0.toInt < 26 := tx_nle (by decide) rfl c_6
        refine lv_aload_n hx hb dX7_count_21 rfl (lv_at hl 0 rfl) ?_
        refine lv_iload_n hx hb dX7_count_22 rfl (lv_at hl 1 rfl) ?_
        refine lv_bipush (v := 10) hx hb dX7_count_23 (by decide) ?_
        refine lv_isub hx hb dX7_count_25 ?_
        have hPc := hP.sub (ws' := [(h0, .inr (7, [.ref qb])), (qb, .inl (cb, 16, .inr (.inr (.inr (.inr (fun _ => none))))))]) [0, 1] rfl
        have hDc := hD.sub (ws' := [(h0, .inr (7, [.ref qb])), (qb, .inl (cb, 16, .inr (.inr (.inr (.inr (fun _ => none))))))]) [0, 1] (by decide) rfl
        have hKc := hK.sub (tys' := [(cb, .object "KeyAtlas$Body")]) [0] rfl
        have hFc := va_free (wc := [(h0, .inr (7, [.ref qb])), (qb, .inl (cb, 16, .inr (.inr (.inr (.inr (fun _ => none))))))]) hD hS hA [0, 1] rfl
        refine va_calli (va_runV (As := [.int (p0 - 10)]) (rest := []) ⟨hx, hb, hml, hown, hts⟩ (c_X7_kindOf l  dC dI s.heap.size h0 qb cb (p0 - 10)) (cwV 1 hts gP_X7_count_kindOf rfl rfl rfl (by decide +kernel) ⟨(Nat.le_of_ble_eq_true rfl), (Nat.le_of_ble_eq_true rfl)⟩) ⟨pk_blind, va_recv hKc hPc (ci := 7) (q0 := 0) rfl rfl, pk_call hPc hKc hDc⟩ rfl rfl hl.1 rfl (lv_room (Nat.le_of_ble_eq_true rfl)) dX7_count_26 ⟨(Nat.le_of_ble_eq_true rfl), (Nat.le_of_ble_eq_true rfl)⟩) hS (fun q _ h => hFc q h) hFc (fun r_10 ur_10 t H1 locs ht hvm hw hB hz1 hk1 hS => ?_)
        try dsimp only at hw
        have jr_10 := hw
        obtain ⟨hP, hD⟩ := va_join (wr := []) (w1 := []) hP hD [0, 1] [] rfl rfl (by decide) (by decide) hk1 hFc tx_P0 tx_D0
        clear hk1 hz1 ht hPc hDc hKc
        generalize H1 = H at hP hS ⊢
        have hP : va_P (dC, dI) vwCl [] H := hP
        have hD : va_D A [] := hD
        refine W.widen (k := 0) (n := 0) (Nat.le_of_ble_eq_true rfl) (Nat.le_of_ble_eq_true rfl) ?_
        refine W.eq (g2 := F0 m 29 ls [.int r_10]) rfl ?_
        refine W.widen (k := 1) (n := 6) (Nat.le_of_ble_eq_true rfl) (Nat.le_of_ble_eq_true rfl) ?_
        refine vx_ret ?_
        exact W.iret (v := r_10) hx hb hr (fun t ht hW => ⟨⟨r_10, (), rfl, tx_at (P := ctIs p0 0) (n := -1) (by rw [jr_10]; decide) (by unfold ctIs; omega), trivial⟩, hS.F ht⟩) hS.2.2 dX7_count_29
  ·
    have ic_1 : p0.toInt = 0 := tx_eq rfl (by decide) c_1
    refine lv_aload_n hx hb dX7_count_4 rfl (lv_at hl 0 rfl) ?_
    have hPc := hP.sub (ws' := [(h0, .inr (7, [.ref qb])), (qb, .inl (cb, 16, .inr (.inr (.inr (.inr (fun _ => none))))))]) [0, 1] rfl
    have hDc := hD.sub (ws' := [(h0, .inr (7, [.ref qb])), (qb, .inl (cb, 16, .inr (.inr (.inr (.inr (fun _ => none))))))]) [0, 1] (by decide) rfl
    have hKc := hK.sub (tys' := [(cb, .object "KeyAtlas$Body")]) [0] rfl
    have hFc := va_free (wc := [(h0, .inr (7, [.ref qb])), (qb, .inl (cb, 16, .inr (.inr (.inr (.inr (fun _ => none))))))]) hD hS hA [0, 1] rfl
    refine va_calli (va_runV (As := []) (rest := []) ⟨hx, hb, hml, hown, hts⟩ (c_X7_howManyBodies l  dC dI s.heap.size h0 qb cb) (cwV 0 hts gP_X7_count_howManyBodies rfl rfl rfl (by decide +kernel) ⟨(Nat.le_of_ble_eq_true rfl), (Nat.le_of_ble_eq_true rfl)⟩) ⟨pk_blind, va_recv hKc hPc (ci := 7) (q0 := 0) rfl rfl, pk_call hPc hKc hDc⟩ rfl rfl hl.1 rfl (lv_room (Nat.le_of_ble_eq_true rfl)) dX7_count_5 ⟨(Nat.le_of_ble_eq_true rfl), (Nat.le_of_ble_eq_true rfl)⟩) hS (fun q _ h => hFc q h) hFc (fun r_11 ur_11 t H1 locs ht hvm hw hB hz1 hk1 hS => ?_)
    try dsimp only at hw
    have jr_11 := hw
    obtain ⟨hP, hD⟩ := va_join (wr := []) (w1 := []) hP hD [0, 1] [] rfl rfl (by decide) (by decide) hk1 hFc tx_P0 tx_D0
    clear hk1 hz1 ht hPc hDc hKc
    generalize H1 = H at hP hS ⊢
    have hP : va_P (dC, dI) vwCl [] H := hP
    have hD : va_D A [] := hD
    refine W.widen (k := 0) (n := 0) (Nat.le_of_ble_eq_true rfl) (Nat.le_of_ble_eq_true rfl) ?_
    refine W.eq (g2 := F0 m 8 ls [.int r_11]) rfl ?_
    refine W.widen (k := 1) (n := 6) (Nat.le_of_ble_eq_true rfl) (Nat.le_of_ble_eq_true rfl) ?_
    refine vx_ret ?_
    exact W.iret (v := r_11) hx hb hr (fun t ht hW => ⟨⟨r_11, (), rfl, tx_at (P := ctIs p0 0) (n := 0) (by rw [jr_11]; decide) (by unfold ctIs; omega), trivial⟩, hS.F ht⟩) hS.2.2 dX7_count_8
