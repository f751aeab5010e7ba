set_option maxHeartbeats 4000000 in
set_option maxRecDepth 100000 in
/-- a new atlas -/
theorem c_X7_init (l : Launch) (hlt : l.stackTraces = false) (dC : Nat → ClassId) (dI : Nat → Nat → Nat) (sz : Nat) (h0 : Nat) : Met l yX7_init wsX7_init ({ frames := 1, cells := 1, slots := 16, locals := 16 }) (va_Pc [.ref h0] (pk_PreX (dC, dI) [(h0, .inr (7, [.null]))] [] sz)) (va_Qv (fun (_ : Unit) => True) (fun (_ : Unit) (t : State) => ∃ (qb : Nat) (cb : ClassId), va_P (dC, dI) vwCl [(h0, .inr (7, [.ref qb])), (qb, .inl (cb, 16, .inr (.inr (.inr (.inr (fun _ => none))))))] t.heap ∧ va_K (dC, dI) vwCl [(cb, .object "KeyAtlas$Body")] t ∧ va_D (va_A [(h0, .inr (7, [.null]))] sz) [(h0, .inr (7, [.ref qb])), (qb, .inl (cb, 16, .inr (.inr (.inr (.inr (fun _ => none))))))]) (va_A [(h0, .inr (7, [.null]))] sz)) 1 16 (va_A [(h0, .inr (7, [.null]))] sz) := by
  refine Met.ofW (cc := cX7_init) (maxL := 1) (ret := none) (by decide) rfl ?_
  intro p e s m args below meth c s₁ B hml hv
  obtain ⟨rfl, hsz, hP, hK, hD0, hN, hZ⟩ := hv
  have hx := B.exec
  have hb := B.bytes
  have hr := B.returns
  have hts := atoms_spec (ws := wsX7_init) B.pre
  have hown : s.vm.findClass RX7 = some m.cls := findClass_of_methodNamed B.named
  have hlocks := B.notSynchronized
  have hin : meth.name = "<init>" := (name_of_methodNamed B.named B.method).1
  subst hsz
  have hD := hD0.self (sz := s.heap.size)
  generalize hAe : va_A [(h0, .inr (7, [.null]))] s.heap.size = A at hZ hD ⊢
  have hA : ∀ q : Nat, s.heap.size ≤ q → A q := fun q h => by rw [← hAe]; exact Or.inr h
  have hS : va_S A s.heap s.heap [] := va_S.rf
  have hP : va_P (dC, dI) vwCl [(h0, .inr (7, [.null]))] s.heap := hP
  have hl := lv_entry ([.ref h0]) (n := 1) (Nat.le_of_ble_eq_true rfl)
  rw [lg_entry_eq]
  generalize (lg_sl ([.ref h0]) ++ List.replicate (1 - (lg_sl ([.ref h0])).length) Slot.unset).toArray = ls at hl ⊢
  have hl : lv_has ls 1 [(0, .ref h0)] := hl
  have hw0_ := hts (.methodLink RX7 1 objectInit) (by decide +kernel)
  have hw1_ := hts (.instanceMethod objectInit) (by decide +kernel)
  have hw2_ := hts (.classLink RX7 9 "KeyAtlas$Body") (by decide +kernel)
  have hw3_ := hts (.fieldLink RX7 11 "KeyAtlas" "bodies" "[LKeyAtlas$Body;") (by decide +kernel)
  have hi0_ : ∀ w ∈ u_ws RX7 TX7 1, w ∈ wsX7_init := by decide +kernel
  refine lv_aload_n hx hb dX7_init_0 rfl (lv_at hl 0 rfl) ?_
  refine W.objInit hx hb hown hw0_ hw1_ (hts _ (List.mem_cons_of_mem _ (List.mem_append_left _ (List.mem_of_getElem? (i := 2) rfl)))) rfl (by rw [hml]; exact hl.1) rfl dX7_init_1 (Nat.le_of_ble_eq_true rfl) (Nat.le_of_ble_eq_true rfl) ?_
  refine W.eq (g2 := F0 m 4 ls []) rfl ?_
  refine lv_aload_n hx hb dX7_init_4 rfl (lv_at hl 0 rfl) ?_
  refine lv_bipush (v := 16) hx hb dX7_init_5 (by decide) ?_
  refine va_newq (C := "KeyAtlas$Body") (n := 16) (N' := 16) hx hb hown hw2_ hN.ao hK hP hD hS hA (by decide) (by decide) (by decide) (Nat.le_of_ble_eq_true rfl) (Nat.le_of_ble_eq_true rfl) dX7_init_7 (fun q_1 cA_2 H hK hP hD hS => ?_)
  have hK : va_K (dC, dI) vwCl [(cA_2, .object "KeyAtlas$Body")] s := hK
  have hP : va_P (dC, dI) vwCl [(h0, .inr (7, [.null])), (q_1, .inl (cA_2, 16, .inr (.inr (.inr (.inr (fun _ => none))))))] H := hP
  have hD : va_D A [(h0, .inr (7, [.null])), (q_1, .inl (cA_2, 16, .inr (.inr (.inr (.inr (fun _ => none))))))] := hD
  refine W.widen (k := 1) (n := 16) (Nat.le_of_ble_eq_true rfl) (Nat.le_of_ble_eq_true rfl) ?_
  refine va_putF (D := (dC, dI)) (ci := 7) (v := .ref q_1) (ty := .array (.object "KeyAtlas$Body")) (C := RX7) (T := TX7) (N := 1) hx hb hts hi0_ tyX7 tyX7_ok nmX7 hown hK hP hD hS 0 rfl rfl 0 (by decide) hw3_ (fun _ h9 => h9) rfl hin rfl (by decide +kernel) rfl rfl (Nat.le_of_ble_eq_true rfl) dX7_init_10 (fun H locs hP hD hS => ?_)
  have hP : va_P (dC, dI) vwCl [(h0, .inr (7, [.ref q_1])), (q_1, .inl (cA_2, 16, .inr (.inr (.inr (.inr (fun _ => none))))))] H := hP
  have hD : va_D A [(h0, .inr (7, [.ref q_1])), (q_1, .inl (cA_2, 16, .inr (.inr (.inr (.inr (fun _ => none))))))] := hD
  have hP9 := hP.sub (ws' := [(h0, .inr (7, [.ref q_1])), (q_1, .inl (cA_2, 16, .inr (.inr (.inr (.inr (fun _ => none))))))]) [0, 1] rfl
  have hD9 := hD.sub (ws' := [(h0, .inr (7, [.ref q_1])), (q_1, .inl (cA_2, 16, .inr (.inr (.inr (.inr (fun _ => none))))))]) [0, 1] (by decide) rfl
  have hK9 := hK.sub (tys' := [(cA_2, .object "KeyAtlas$Body")]) [0] rfl
  refine W.widen (k := 1) (n := 16) (Nat.le_of_ble_eq_true rfl) (Nat.le_of_ble_eq_true rfl) ?_
  exact W.vret hx hb hr (fun t ht hW => ⟨⟨(), rfl, trivial, q_1, cA_2, by rw [ht]; exact hP9, va_K.moved hW.alike hK9, hD9⟩, hS.F ht⟩) hS.2.2 dX7_init_13
set_option maxHeartbeats 4000000 in
set_option maxRecDepth 100000 in
/-- a and b in their ranges -/
theorem c_X7_areInRange (l : Launch) (dC : Nat → ClassId) (dI : Nat → Nat → Nat) (sz : Nat) (p0 : Int32) (p1 : Int32) (p2 : Int32) : Met l yX7_areInRange wsX7_areInRange ({ frames := 0, cells := 0, slots := 0, locals := 0 }) (va_Pc [.int p0, .int p1, .int p2] (pk_Pre (dC, dI) [] [] sz)) (va_Qi (fun (r : Int32) (_ : Unit) => (r.toInt = 1 ∧ mkRng p0 p1 p2) ∨ (r.toInt = 0 ∧ ¬ mkRng p0 p1 p2)) (fun (_ : Unit) (_ : State) => True) (va_A [] sz)) 0 0 (va_A [] sz) := by
  refine Met.ofW (cc := cX7_areInRange) (maxL := 3) (ret := (some .boolean)) (by decide) rfl ?_
  intro p e s m args below meth c s₁ B hml hv
  obtain ⟨rfl, hsz, hP, hK, hD0⟩ := hv
  have hx := B.exec
  have hb := B.bytes
  have hr := B.returns
  have hts := atoms_spec (ws := wsX7_areInRange) B.pre
  have hown : s.vm.findClass RX7 = some m.cls := findClass_of_methodNamed B.named
  have hlocks := B.notSynchronized
  subst hsz
  have hD := hD0.self (sz := s.heap.size)
  generalize hAe : va_A [] s.heap.size = A at hD ⊢
  have hA : ∀ q : Nat, s.heap.size ≤ q → A q := fun q h => by rw [← hAe]; exact Or.inr h
  have hS : va_S A s.heap s.heap [] := va_S.rf
  have hP : va_P (dC, dI) vwCl [] s.heap := hP
  have hl := lv_entry ([.int p0, .int p1, .int p2]) (n := 3) (Nat.le_of_ble_eq_true rfl)
  rw [lg_entry_eq]
  generalize (lg_sl ([.int p0, .int p1, .int p2]) ++ List.replicate (3 - (lg_sl ([.int p0, .int p1, .int p2])).length) Slot.unset).toArray = ls at hl ⊢
  have hl : lv_has ls 3 [(0, .int p0), (1, .int p1), (2, .int p2)] := hl

  refine lv_iload_n hx hb dX7_areInRange_0 rfl (lv_at hl 0 rfl) ?_
  by_cases c_1 : p0 = 0
  ·
    have ic_1 : p0.toInt = 0 := tx_eq rfl (by decide) c_1
    refine lv_lookup (off := 27) (tgt := 28) hx hb dX7_areInRange_1 (by decide) (by rw [c_1]; rfl) (by decide) ?_
    refine lv_iload_n hx hb dX7_areInRange_28 rfl (lv_at hl 1 rfl) ?_
    refine lv_if_lt (tgt := 52) hx hb dX7_areInRange_29 (by decide) (fun c_2 => ?_) (fun c_2 => ?_)
    ·
      have ic_2 : p1.toInt < 0 := tx_lt rfl (by decide) c_2
      refine lv_iconst (v := 0) hx hb dX7_areInRange_52 (by decide) ?_
      refine W.widen (k := 0) (n := 0) (Nat.le_of_ble_eq_true rfl) (Nat.le_of_ble_eq_true rfl) ?_
      exact W.zret (v := 0) hx hb hr rfl (fun t ht hW => ⟨⟨0, (), rfl, Or.inr ⟨by decide, by unfold mkRng; omega⟩, trivial⟩, hS.F ht⟩) hS.2.2 dX7_areInRange_53
    ·
      have ic_2 : 0 ≤ p1.toInt := tx_nlt rfl (by decide) c_2
      refine lv_iload_n hx hb dX7_areInRange_32 rfl (lv_at hl 1 rfl) ?_
      refine lv_sipush (v := 1000) hx hb dX7_areInRange_33 (by decide) ?_
      refine lv_icmp_gt (tgt := 52) hx hb dX7_areInRange_36 (by decide) (fun c_3 => ?_) (fun c_3 => ?_)
      ·
        have ic_3 : 1000 < p1.toInt := tx_lt (by decide) rfl c_3
        refine lv_iconst (v := 0) hx hb dX7_areInRange_52 (by decide) ?_
        refine W.widen (k := 0) (n := 0) (Nat.le_of_ble_eq_true rfl) (Nat.le_of_ble_eq_true rfl) ?_
        exact W.zret (v := 0) hx hb hr rfl (fun t ht hW => ⟨⟨0, (), rfl, Or.inr ⟨by decide, by unfold mkRng; omega⟩, trivial⟩, hS.F ht⟩) hS.2.2 dX7_areInRange_53
      ·
        have ic_3 : p1.toInt ≤ 1000 := tx_nlt (by decide) rfl c_3
        refine lv_iload_n hx hb dX7_areInRange_39 rfl (lv_at hl 2 rfl) ?_
        refine lv_if_lt (tgt := 52) hx hb dX7_areInRange_40 (by decide) (fun c_4 => ?_) (fun c_4 => ?_)
        ·
          have ic_4 : p2.toInt < 0 := tx_lt rfl (by decide) c_4
          refine lv_iconst (v := 0) hx hb dX7_areInRange_52 (by decide) ?_
          refine W.widen (k := 0) (n := 0) (Nat.le_of_ble_eq_true rfl) (Nat.le_of_ble_eq_true rfl) ?_
          exact W.zret (v := 0) hx hb hr rfl (fun t ht hW => ⟨⟨0, (), rfl, Or.inr ⟨by decide, by unfold mkRng; omega⟩, trivial⟩, hS.F ht⟩) hS.2.2 dX7_areInRange_53
        ·
          have ic_4 : 0 ≤ p2.toInt := tx_nlt rfl (by decide) c_4
          refine lv_iload_n hx hb dX7_areInRange_43 rfl (lv_at hl 2 rfl) ?_
          refine lv_iconst (v := 3) hx hb dX7_areInRange_44 (by decide) ?_
          refine lv_icmp_gt (tgt := 52) hx hb dX7_areInRange_45 (by decide) (fun c_5 => ?_) (fun c_5 => ?_)
          ·
            have ic_5 : 3 < p2.toInt := tx_lt (by decide) rfl c_5
            refine lv_iconst (v := 0) hx hb dX7_areInRange_52 (by decide) ?_
            refine W.widen (k := 0) (n := 0) (Nat.le_of_ble_eq_true rfl) (Nat.le_of_ble_eq_true rfl) ?_
            exact W.zret (v := 0) hx hb hr rfl (fun t ht hW => ⟨⟨0, (), rfl, Or.inr ⟨by decide, by unfold mkRng; omega⟩, trivial⟩, hS.F ht⟩) hS.2.2 dX7_areInRange_53
          ·
            have ic_5 : p2.toInt ≤ 3 := tx_nlt (by decide) rfl c_5
            refine lv_iconst (v := 1) hx hb dX7_areInRange_48 (by decide) ?_
            refine lv_goto (tgt := 53) hx hb dX7_areInRange_49 (by decide) ?_
            refine W.widen (k := 0) (n := 0) (Nat.le_of_ble_eq_true rfl) (Nat.le_of_ble_eq_true rfl) ?_
            exact W.zret (v := 1) hx hb hr rfl (fun t ht hW => ⟨⟨1, (), rfl, Or.inl ⟨by decide, by unfold mkRng; omega⟩, trivial⟩, hS.F ht⟩) hS.2.2 dX7_areInRange_53
  have ic_1 : ¬ p0.toInt = 0 := tx_ne rfl (by decide) c_1
  by_cases c_6 : p0 = 1
  ·
    have ic_6 : p0.toInt = 1 := tx_eq rfl (by decide) c_6
    refine lv_lookup (off := 53) (tgt := 54) hx hb dX7_areInRange_1 (by decide) (by rw [c_6]; rfl) (by decide) ?_
    refine lv_iload_n hx hb dX7_areInRange_54 rfl (lv_at hl 1 rfl) ?_
    refine lv_if_lt (tgt := 78) hx hb dX7_areInRange_55 (by decide) (fun c_7 => ?_) (fun c_7 => ?_)
    ·
      have ic_7 : p1.toInt < 0 := tx_lt rfl (by decide) c_7
      refine lv_iconst (v := 0) hx hb dX7_areInRange_78 (by decide) ?_
      refine W.widen (k := 0) (n := 0) (Nat.le_of_ble_eq_true rfl) (Nat.le_of_ble_eq_true rfl) ?_
      exact W.zret (v := 0) hx hb hr rfl (fun t ht hW => ⟨⟨0, (), rfl, Or.inr ⟨by decide, by unfold mkRng; omega⟩, trivial⟩, hS.F ht⟩) hS.2.2 dX7_areInRange_79
    ·
      have ic_7 : 0 ≤ p1.toInt := tx_nlt rfl (by decide) c_7
      refine lv_iload_n hx hb dX7_areInRange_58 rfl (lv_at hl 1 rfl) ?_
      refine lv_sipush (v := 1000) hx hb dX7_areInRange_59 (by decide) ?_
      refine lv_icmp_gt (tgt := 78) hx hb dX7_areInRange_62 (by decide) (fun c_8 => ?_) (fun c_8 => ?_)
      ·
        have ic_8 : 1000 < p1.toInt := tx_lt (by decide) rfl c_8
        refine lv_iconst (v := 0) hx hb dX7_areInRange_78 (by decide) ?_
        refine W.widen (k := 0) (n := 0) (Nat.le_of_ble_eq_true rfl) (Nat.le_of_ble_eq_true rfl) ?_
        exact W.zret (v := 0) hx hb hr rfl (fun t ht hW => ⟨⟨0, (), rfl, Or.inr ⟨by decide, by unfold mkRng; omega⟩, trivial⟩, hS.F ht⟩) hS.2.2 dX7_areInRange_79
      ·
        have ic_8 : p1.toInt ≤ 1000 := tx_nlt (by decide) rfl c_8
        refine lv_iload_n hx hb dX7_areInRange_65 rfl (lv_at hl 2 rfl) ?_
        refine lv_if_lt (tgt := 78) hx hb dX7_areInRange_66 (by decide) (fun c_9 => ?_) (fun c_9 => ?_)
        ·
          have ic_9 : p2.toInt < 0 := tx_lt rfl (by decide) c_9
          refine lv_iconst (v := 0) hx hb dX7_areInRange_78 (by decide) ?_
          refine W.widen (k := 0) (n := 0) (Nat.le_of_ble_eq_true rfl) (Nat.le_of_ble_eq_true rfl) ?_
          exact W.zret (v := 0) hx hb hr rfl (fun t ht hW => ⟨⟨0, (), rfl, Or.inr ⟨by decide, by unfold mkRng; omega⟩, trivial⟩, hS.F ht⟩) hS.2.2 dX7_areInRange_79
        ·
          have ic_9 : 0 ≤ p2.toInt := tx_nlt rfl (by decide) c_9
          refine lv_iload_n hx hb dX7_areInRange_69 rfl (lv_at hl 2 rfl) ?_
          refine lv_iconst (v := 1) hx hb dX7_areInRange_70 (by decide) ?_
          refine lv_icmp_gt (tgt := 78) hx hb dX7_areInRange_71 (by decide) (fun c_10 => ?_) (fun c_10 => ?_)
          ·
            have ic_10 : 1 < p2.toInt := tx_lt (by decide) rfl c_10
            refine lv_iconst (v := 0) hx hb dX7_areInRange_78 (by decide) ?_
            refine W.widen (k := 0) (n := 0) (Nat.le_of_ble_eq_true rfl) (Nat.le_of_ble_eq_true rfl) ?_
            exact W.zret (v := 0) hx hb hr rfl (fun t ht hW => ⟨⟨0, (), rfl, Or.inr ⟨by decide, by unfold mkRng; omega⟩, trivial⟩, hS.F ht⟩) hS.2.2 dX7_areInRange_79
          ·
            have ic_10 : p2.toInt ≤ 1 := tx_nlt (by decide) rfl c_10
            refine lv_iconst (v := 1) hx hb dX7_areInRange_74 (by decide) ?_
            refine lv_goto (tgt := 79) hx hb dX7_areInRange_75 (by decide) ?_
            refine W.widen (k := 0) (n := 0) (Nat.le_of_ble_eq_true rfl) (Nat.le_of_ble_eq_true rfl) ?_
            exact W.zret (v := 1) hx hb hr rfl (fun t ht hW => ⟨⟨1, (), rfl, Or.inl ⟨by decide, by unfold mkRng; omega⟩, trivial⟩, hS.F ht⟩) hS.2.2 dX7_areInRange_79
  have ic_6 : ¬ p0.toInt = 1 := tx_ne rfl (by decide) c_6
  refine lv_lookup (off := 79) (tgt := 80) hx hb dX7_areInRange_1 (by decide) ((lv_osw c_1 (by decide)).trans ((lv_osw c_6 (by decide)).trans (rfl))) (by decide) ?_
  refine lv_iload_n hx hb dX7_areInRange_80 rfl (lv_at hl 1 rfl) ?_
  refine lv_if_lt (tgt := 93) hx hb dX7_areInRange_81 (by decide) (fun c_11 => ?_) (fun c_11 => ?_)
  ·
    have ic_11 : p1.toInt < 0 := tx_lt rfl (by decide) c_11
    refine lv_iconst (v := 0) hx hb dX7_areInRange_93 (by decide) ?_
    refine W.widen (k := 0) (n := 0) (Nat.le_of_ble_eq_true rfl) (Nat.le_of_ble_eq_true rfl) ?_
    exact W.zret (v := 0) hx hb hr rfl (fun t ht hW => ⟨⟨0, (), rfl, Or.inr ⟨by decide, by unfold mkRng; omega⟩, trivial⟩, hS.F ht⟩) hS.2.2 dX7_areInRange_94
  ·
    have ic_11 : 0 ≤ p1.toInt := tx_nlt rfl (by decide) c_11
    refine lv_iload_n hx hb dX7_areInRange_84 rfl (lv_at hl 1 rfl) ?_
    refine lv_iconst (v := 3) hx hb dX7_areInRange_85 (by decide) ?_
    refine lv_icmp_gt (tgt := 93) hx hb dX7_areInRange_86 (by decide) (fun c_12 => ?_) (fun c_12 => ?_)
    ·
      have ic_12 : 3 < p1.toInt := tx_lt (by decide) rfl c_12
      refine lv_iconst (v := 0) hx hb dX7_areInRange_93 (by decide) ?_
      refine W.widen (k := 0) (n := 0) (Nat.le_of_ble_eq_true rfl) (Nat.le_of_ble_eq_true rfl) ?_
      exact W.zret (v := 0) hx hb hr rfl (fun t ht hW => ⟨⟨0, (), rfl, Or.inr ⟨by decide, by unfold mkRng; omega⟩, trivial⟩, hS.F ht⟩) hS.2.2 dX7_areInRange_94
    ·
      have ic_12 : p1.toInt ≤ 3 := tx_nlt (by decide) rfl c_12
      refine lv_iconst (v := 1) hx hb dX7_areInRange_89 (by decide) ?_
      refine lv_goto (tgt := 94) hx hb dX7_areInRange_90 (by decide) ?_
      refine W.widen (k := 0) (n := 0) (Nat.le_of_ble_eq_true rfl) (Nat.le_of_ble_eq_true rfl) ?_
      exact W.zret (v := 1) hx hb hr rfl (fun t ht hW => ⟨⟨1, (), rfl, Or.inl ⟨by decide, by unfold mkRng; omega⟩, trivial⟩, hS.F ht⟩) hS.2.2 dX7_areInRange_94
set_option maxHeartbeats 4000000 in
set_option maxRecDepth 100000 in
/-- a new map of its kind -/
theorem c_X7_newMap (l : Launch) (hlt : l.stackTraces = false) (dC : Nat → ClassId) (dI : Nat → Nat → Nat) (sz : Nat) (p0 : Int32) (p1 : Int32) (p2 : Int32) : Met l yX7_newMap wsX7_newMap ({ frames := 4, cells := 5, slots := 43, locals := 90 }) (va_Pc [.int p0, .int p1, .int p2] (pk_PreX (dC, dI) [] [] sz)) (va_Qr (fun (u : Nat × List Value) => u.1 = 3 ∨ u.1 = 4 ∨ u.1 = 6) (fun (u : Nat × List Value) (a : Nat) (t : State) => va_P (dC, dI) vwCl [(a, .inr (u.1, u.2))] t.heap ∧ va_K (dC, dI) vwCl [] t ∧ va_D (va_A [] sz) [(a, .inr (u.1, u.2))]) (va_A [] sz)) 5 43 (va_A [] sz) := by
  refine Met.ofW (cc := cX7_newMap) (maxL := 3) (ret := (some (.object "KeyAtlas$Keyed"))) (by decide) rfl ?_
  intro p e s m args below meth c s₁ B hml hv
  obtain ⟨rfl, hsz, hP, hK, hD0, hN, hZ⟩ := hv
  have hx := B.exec
  have hb := B.bytes
  have hr := B.returns
  have hts := atoms_spec (ws := wsX7_newMap) B.pre
  have hown : s.vm.findClass RX7 = some m.cls := findClass_of_methodNamed B.named
  have hlocks := B.notSynchronized
  subst hsz
  have hD := hD0.self (sz := s.heap.size)
  generalize hAe : va_A [] s.heap.size = A at hZ hD ⊢
  have hA : ∀ q : Nat, s.heap.size ≤ q → A q := fun q h => by rw [← hAe]; exact Or.inr h
  have hS : va_S A s.heap s.heap [] := va_S.rf
  have hP : va_P (dC, dI) vwCl [] s.heap := hP
  have hl := lv_entry ([.int p0, .int p1, .int p2]) (n := 3) (Nat.le_of_ble_eq_true rfl)
  rw [lg_entry_eq]
  generalize (lg_sl ([.int p0, .int p1, .int p2]) ++ List.replicate (3 - (lg_sl ([.int p0, .int p1, .int p2])).length) Slot.unset).toArray = ls at hl ⊢
  have hl : lv_has ls 3 [(0, .int p0), (1, .int p1), (2, .int p2)] := hl
  have hw0_ := hts (.classLink RX7 223 RX2) (by decide +kernel)
  have hw1_ := hts (.instantiable RX2 7) (by decide +kernel)
  have hw2_ := hts (.initialized RX2) (by decide +kernel)
  have hw3_ := hts (.methodLink RX7 225 yX2_init) (by decide +kernel)
  have hw4_ := hts (.instanceMethod yX2_init) (by decide +kernel)
  have hw5_ := hts (.classLink RX7 228 RX4) (by decide +kernel)
  have hw6_ := hts (.instantiable RX4 5) (by decide +kernel)
  have hw7_ := hts (.initialized RX4) (by decide +kernel)
  have hw8_ := hts (.methodLink RX7 230 yX4_init) (by decide +kernel)
  have hw9_ := hts (.instanceMethod yX4_init) (by decide +kernel)
  have hw10_ := hts (.classLink RX7 147 RX6) (by decide +kernel)
  have hw11_ := hts (.instantiable RX6 7) (by decide +kernel)
  have hw12_ := hts (.initialized RX6) (by decide +kernel)
  have hw13_ := hts (.methodLink RX7 233 yX6_init) (by decide +kernel)
  have hw14_ := hts (.instanceMethod yX6_init) (by decide +kernel)
  have hi0_ : ∀ w ∈ u_ws RX2 TX2 7, w ∈ wsX7_newMap := by decide +kernel
  have hi1_ : ∀ w ∈ u_ws RX4 TX4 5, w ∈ wsX7_newMap := by decide +kernel
  have hi2_ : ∀ w ∈ u_ws RX6 TX6 7, w ∈ wsX7_newMap := by decide +kernel
  refine lv_iload_n hx hb dX7_newMap_0 rfl (lv_at hl 0 rfl) ?_
  by_cases c_1 : p0 = 0
  ·
    have ic_1 : p0.toInt = 0 := tx_eq rfl (by decide) c_1
    refine lv_lookup (off := 27) (tgt := 28) hx hb dX7_newMap_1 (by decide) (by rw [c_1]; rfl) (by decide) ?_
    refine va_new (ci := 3) (fs := [.null, .int 0, .int 0, .int 0, .int 0, .int 0, .null]) (C := RX2) (T := TX2) (N := 7) hx hb hts hi0_ tyX2 tyX2_ok hown hw0_ hw1_ hw2_ hK hP hD hS hA rfl (by decide +kernel) (Nat.le_of_ble_eq_true rfl) (Nat.le_of_ble_eq_true rfl) dX7_newMap_28 (fun q_2 H hP hD hS => ?_)
    have hP : va_P (dC, dI) vwCl [(q_2, .inr (3, [.null, .int 0, .int 0, .int 0, .int 0, .int 0, .null]))] H := hP
    have hD : va_D A [(q_2, .inr (3, [.null, .int 0, .int 0, .int 0, .int 0, .int 0, .null]))] := hD
    refine W.widen (k := 1) (n := 7) (Nat.le_of_ble_eq_true rfl) (Nat.le_of_ble_eq_true rfl) ?_
    refine lv_dup hx hb dX7_newMap_31 rfl ?_
    refine lv_iload_n hx hb dX7_newMap_32 rfl (lv_at hl 1 rfl) ?_
    refine lv_iload_n hx hb dX7_newMap_33 rfl (lv_at hl 2 rfl) ?_
    have hPc := hP.sub (ws' := [(q_2, .inr (3, [.null, .int 0, .int 0, .int 0, .int 0, .int 0, .null]))]) [0] rfl
    have hDc := hD.sub (ws' := [(q_2, .inr (3, [.null, .int 0, .int 0, .int 0, .int 0, .int 0, .null]))]) [0] (by decide) rfl
    have hKc := hK.sub (tys' := []) [] rfl
    have hFc := va_free (wc := [(q_2, .inr (3, [.null, .int 0, .int 0, .int 0, .int 0, .int 0, .null]))]) hD hS hA [0] rfl
    have hZc := (hZ.kept hS.2.1).narrow hFc
    refine va_callv (va_runI (As := [.int p1, .int p2]) (rest := [.ref q_2]) ⟨hx, hb, hml, hown, hts⟩ (c_X2_init l hlt dC dI H.size q_2 p1 p2) (cwI 2 hts gX7_newMap_X2_init rfl rfl rfl hw2_ hw3_ hw4_ rfl (by decide +kernel) ⟨(Nat.le_of_ble_eq_true rfl), (Nat.le_of_ble_eq_true rfl)⟩) ⟨pk_blindX, pk_callX hPc hKc hDc hN hZc⟩ rfl rfl hl.1 rfl (lv_room (Nat.le_of_ble_eq_true rfl)) dX7_newMap_34 ⟨(Nat.le_of_ble_eq_true rfl), (Nat.le_of_ble_eq_true rfl)⟩) hS (fun q _ h => hFc q h) hFc (fun ur_3 t H1 locs ht hvm hw hB hz1 hk1 hS => ?_)
    try dsimp only at hw
    have jr_3 := hw
    obtain ⟨hP1, hK1, hD1⟩ := hB
    rw [ht] at hP1
    have hK1 := va_K.moved hvm.symm hK1
    obtain ⟨hP, hD⟩ := va_join (wr := []) (w1 := [(q_2, .inr (3, ur_3))]) hP hD [0] [] rfl rfl (by decide) (by decide) hk1 hFc hP1 hD1
    clear hk1 hz1 ht hPc hDc hKc
    generalize H1 = H at hP hS ⊢
    have hP : va_P (dC, dI) vwCl [(q_2, .inr (3, ur_3))] H := hP
    have hD : va_D A [(q_2, .inr (3, ur_3))] := hD
    refine W.widen (k := 5) (n := 43) (Nat.le_of_ble_eq_true rfl) (Nat.le_of_ble_eq_true rfl) ?_
    refine W.eq (g2 := F0 m 37 ls [.ref q_2]) rfl ?_
    have hP9 := hP.sub (ws' := [(q_2, .inr (3, ur_3))]) [0] rfl
    have hD9 := hD.sub (ws' := [(q_2, .inr (3, ur_3))]) [0] (by decide) rfl
    have hK9 := hK.sub (tys' := []) [] rfl
    refine W.widen (k := 5) (n := 43) (Nat.le_of_ble_eq_true rfl) (Nat.le_of_ble_eq_true rfl) ?_
    exact W.aret (v := .ref q_2) hx hb hr (Or.inl ⟨_, rfl⟩) (Or.inr ⟨_, rfl⟩) (fun t ht hW => ⟨⟨(3, ur_3), q_2, rfl, Or.inl rfl, by rw [ht]; exact hP9, va_K.moved hW.alike hK9, hD9⟩, hS.F ht⟩) hS.2.2 dX7_newMap_37
  have ic_1 : ¬ p0.toInt = 0 := tx_ne rfl (by decide) c_1
  by_cases c_4 : p0 = 1
  ·
    have ic_4 : p0.toInt = 1 := tx_eq rfl (by decide) c_4
    refine lv_lookup (off := 37) (tgt := 38) hx hb dX7_newMap_1 (by decide) (by rw [c_4]; rfl) (by decide) ?_
    refine va_new (ci := 4) (fs := [.null, .int 0, .int 0, .int 0, .int 0]) (C := RX4) (T := TX4) (N := 5) hx hb hts hi1_ tyX4 tyX4_ok hown hw5_ hw6_ hw7_ hK hP hD hS hA rfl (by decide +kernel) (Nat.le_of_ble_eq_true rfl) (Nat.le_of_ble_eq_true rfl) dX7_newMap_38 (fun q_5 H hP hD hS => ?_)
    have hP : va_P (dC, dI) vwCl [(q_5, .inr (4, [.null, .int 0, .int 0, .int 0, .int 0]))] H := hP
    have hD : va_D A [(q_5, .inr (4, [.null, .int 0, .int 0, .int 0, .int 0]))] := hD
    refine W.widen (k := 1) (n := 5) (Nat.le_of_ble_eq_true rfl) (Nat.le_of_ble_eq_true rfl) ?_
    refine lv_dup hx hb dX7_newMap_41 rfl ?_
    refine lv_iload_n hx hb dX7_newMap_42 rfl (lv_at hl 1 rfl) ?_
    refine lv_iload_n hx hb dX7_newMap_43 rfl (lv_at hl 2 rfl) ?_
    refine lv_iconst (v := 1) hx hb dX7_newMap_44 (by decide) ?_
    refine lv_icmp_ne (tgt := 52) hx hb dX7_newMap_45 (by decide) (fun c_6 => ?_) (fun c_6 => ?_)
    ·
      have ic_6 : ¬ p2.toInt = 1 := tx_ne rfl (by decide) c_6
      refine lv_iconst (v := 0) hx hb dX7_newMap_52 (by decide) ?_
      have hPc := hP.sub (ws' := [(q_5, .inr (4, [.null, .int 0, .int 0, .int 0, .int 0]))]) [0] rfl
      have hDc := hD.sub (ws' := [(q_5, .inr (4, [.null, .int 0, .int 0, .int 0, .int 0]))]) [0] (by decide) rfl
      have hKc := hK.sub (tys' := []) [] rfl
      have hFc := va_free (wc := [(q_5, .inr (4, [.null, .int 0, .int 0, .int 0, .int 0]))]) hD hS hA [0] rfl
      have hZc := (hZ.kept hS.2.1).narrow hFc
      refine va_callv (va_runI (As := [.int p1, .int 0]) (rest := [.ref q_5]) ⟨hx, hb, hml, hown, hts⟩ (c_X4_init l hlt dC dI H.size q_5 p1 0 (Or.inl rfl)) (cwI 2 hts gX7_newMap_X4_init rfl rfl rfl hw7_ hw8_ hw9_ rfl (by decide +kernel) ⟨(Nat.le_of_ble_eq_true rfl), (Nat.le_of_ble_eq_true rfl)⟩) ⟨pk_blindX, pk_callX hPc hKc hDc hN hZc⟩ rfl rfl hl.1 rfl (lv_room (Nat.le_of_ble_eq_true rfl)) dX7_newMap_53 ⟨(Nat.le_of_ble_eq_true rfl), (Nat.le_of_ble_eq_true rfl)⟩) hS (fun q _ h => hFc q h) hFc (fun ur_7 t H1 locs ht hvm hw hB hz1 hk1 hS => ?_)
      try dsimp only at hw
      have jr_7 := hw
      obtain ⟨hP1, hK1, hD1⟩ := hB
      rw [ht] at hP1
      have hK1 := va_K.moved hvm.symm hK1
      obtain ⟨hP, hD⟩ := va_join (wr := []) (w1 := [(q_5, .inr (4, ur_7))]) hP hD [0] [] rfl rfl (by decide) (by decide) hk1 hFc hP1 hD1
      clear hk1 hz1 ht hPc hDc hKc
      generalize H1 = H at hP hS ⊢
      have hP : va_P (dC, dI) vwCl [(q_5, .inr (4, ur_7))] H := hP
      have hD : va_D A [(q_5, .inr (4, ur_7))] := hD
      refine W.widen (k := 5) (n := 41) (Nat.le_of_ble_eq_true rfl) (Nat.le_of_ble_eq_true rfl) ?_
      refine W.eq (g2 := F0 m 56 ls [.ref q_5]) rfl ?_
      have hP9 := hP.sub (ws' := [(q_5, .inr (4, ur_7))]) [0] rfl
      have hD9 := hD.sub (ws' := [(q_5, .inr (4, ur_7))]) [0] (by decide) rfl
      have hK9 := hK.sub (tys' := []) [] rfl
      refine W.widen (k := 5) (n := 43) (Nat.le_of_ble_eq_true rfl) (Nat.le_of_ble_eq_true rfl) ?_
      exact W.aret (v := .ref q_5) hx hb hr (Or.inl ⟨_, rfl⟩) (Or.inr ⟨_, rfl⟩) (fun t ht hW => ⟨⟨(4, ur_7), q_5, rfl, Or.inr (Or.inl rfl), by rw [ht]; exact hP9, va_K.moved hW.alike hK9, hD9⟩, hS.F ht⟩) hS.2.2 dX7_newMap_56
    ·
      have ic_6 : p2.toInt = 1 := tx_eq rfl (by decide) c_6
      refine lv_iconst (v := 1) hx hb dX7_newMap_48 (by decide) ?_
      refine lv_goto (tgt := 53) hx hb dX7_newMap_49 (by decide) ?_
      have hPc := hP.sub (ws' := [(q_5, .inr (4, [.null, .int 0, .int 0, .int 0, .int 0]))]) [0] rfl
      have hDc := hD.sub (ws' := [(q_5, .inr (4, [.null, .int 0, .int 0, .int 0, .int 0]))]) [0] (by decide) rfl
      have hKc := hK.sub (tys' := []) [] rfl
      have hFc := va_free (wc := [(q_5, .inr (4, [.null, .int 0, .int 0, .int 0, .int 0]))]) hD hS hA [0] rfl
      have hZc := (hZ.kept hS.2.1).narrow hFc
      refine va_callv (va_runI (As := [.int p1, .int 1]) (rest := [.ref q_5]) ⟨hx, hb, hml, hown, hts⟩ (c_X4_init l hlt dC dI H.size q_5 p1 1 (Or.inr rfl)) (cwI 2 hts gX7_newMap_X4_init rfl rfl rfl hw7_ hw8_ hw9_ rfl (by decide +kernel) ⟨(Nat.le_of_ble_eq_true rfl), (Nat.le_of_ble_eq_true rfl)⟩) ⟨pk_blindX, pk_callX hPc hKc hDc hN hZc⟩ rfl rfl hl.1 rfl (lv_room (Nat.le_of_ble_eq_true rfl)) dX7_newMap_53 ⟨(Nat.le_of_ble_eq_true rfl), (Nat.le_of_ble_eq_true rfl)⟩) hS (fun q _ h => hFc q h) hFc (fun ur_8 t H1 locs ht hvm hw hB hz1 hk1 hS => ?_)
      try dsimp only at hw
      have jr_8 := hw
      obtain ⟨hP1, hK1, hD1⟩ := hB
      rw [ht] at hP1
      have hK1 := va_K.moved hvm.symm hK1
      obtain ⟨hP, hD⟩ := va_join (wr := []) (w1 := [(q_5, .inr (4, ur_8))]) hP hD [0] [] rfl rfl (by decide) (by decide) hk1 hFc hP1 hD1
      clear hk1 hz1 ht hPc hDc hKc
      generalize H1 = H at hP hS ⊢
      have hP : va_P (dC, dI) vwCl [(q_5, .inr (4, ur_8))] H := hP
      have hD : va_D A [(q_5, .inr (4, ur_8))] := hD
      refine W.widen (k := 5) (n := 41) (Nat.le_of_ble_eq_true rfl) (Nat.le_of_ble_eq_true rfl) ?_
      refine W.eq (g2 := F0 m 56 ls [.ref q_5]) rfl ?_
      have hP9 := hP.sub (ws' := [(q_5, .inr (4, ur_8))]) [0] rfl
      have hD9 := hD.sub (ws' := [(q_5, .inr (4, ur_8))]) [0] (by decide) rfl
      have hK9 := hK.sub (tys' := []) [] rfl
      refine W.widen (k := 5) (n := 43) (Nat.le_of_ble_eq_true rfl) (Nat.le_of_ble_eq_true rfl) ?_
      exact W.aret (v := .ref q_5) hx hb hr (Or.inl ⟨_, rfl⟩) (Or.inr ⟨_, rfl⟩) (fun t ht hW => ⟨⟨(4, ur_8), q_5, rfl, Or.inr (Or.inl rfl), by rw [ht]; exact hP9, va_K.moved hW.alike hK9, hD9⟩, hS.F ht⟩) hS.2.2 dX7_newMap_56
  have ic_4 : ¬ p0.toInt = 1 := tx_ne rfl (by decide) c_4
  refine lv_lookup (off := 56) (tgt := 57) hx hb dX7_newMap_1 (by decide) ((lv_osw c_1 (by decide)).trans ((lv_osw c_4 (by decide)).trans (rfl))) (by decide) ?_
  refine va_new (ci := 6) (fs := [.null, .int 0, .int 0, .int 0, .int 0, .long 0, .long 0]) (C := RX6) (T := TX6) (N := 7) hx hb hts hi2_ tyX6 tyX6_ok hown hw10_ hw11_ hw12_ hK hP hD hS hA rfl (by decide +kernel) (Nat.le_of_ble_eq_true rfl) (Nat.le_of_ble_eq_true rfl) dX7_newMap_57 (fun q_9 H hP hD hS => ?_)
  have hP : va_P (dC, dI) vwCl [(q_9, .inr (6, [.null, .int 0, .int 0, .int 0, .int 0, .long 0, .long 0]))] H := hP
  have hD : va_D A [(q_9, .inr (6, [.null, .int 0, .int 0, .int 0, .int 0, .long 0, .long 0]))] := hD
  refine W.widen (k := 1) (n := 7) (Nat.le_of_ble_eq_true rfl) (Nat.le_of_ble_eq_true rfl) ?_
  refine lv_dup hx hb dX7_newMap_60 rfl ?_
  refine lv_iload_n hx hb dX7_newMap_61 rfl (lv_at hl 1 rfl) ?_
  have hPc := hP.sub (ws' := [(q_9, .inr (6, [.null, .int 0, .int 0, .int 0, .int 0, .long 0, .long 0]))]) [0] rfl
  have hDc := hD.sub (ws' := [(q_9, .inr (6, [.null, .int 0, .int 0, .int 0, .int 0, .long 0, .long 0]))]) [0] (by decide) rfl
  have hKc := hK.sub (tys' := []) [] rfl
  have hFc := va_free (wc := [(q_9, .inr (6, [.null, .int 0, .int 0, .int 0, .int 0, .long 0, .long 0]))]) hD hS hA [0] rfl
  have hZc := (hZ.kept hS.2.1).narrow hFc
  refine va_callv (va_runI (As := [.int p1]) (rest := [.ref q_9]) ⟨hx, hb, hml, hown, hts⟩ (c_X6_init l hlt dC dI H.size q_9 p1) (cwI 1 hts gX7_newMap_X6_init rfl rfl rfl hw12_ hw13_ hw14_ rfl (by decide +kernel) ⟨(Nat.le_of_ble_eq_true rfl), (Nat.le_of_ble_eq_true rfl)⟩) ⟨pk_blindX, pk_callX hPc hKc hDc hN hZc⟩ rfl rfl hl.1 rfl (lv_room (Nat.le_of_ble_eq_true rfl)) dX7_newMap_62 ⟨(Nat.le_of_ble_eq_true rfl), (Nat.le_of_ble_eq_true rfl)⟩) hS (fun q _ h => hFc q h) hFc (fun ur_10 t H1 locs ht hvm hw hB hz1 hk1 hS => ?_)
  try dsimp only at hw
  have jr_10 := hw
  obtain ⟨hP1, hK1, hD1⟩ := hB
  rw [ht] at hP1
  have hK1 := va_K.moved hvm.symm hK1
  obtain ⟨hP, hD⟩ := va_join (wr := []) (w1 := [(q_9, .inr (6, ur_10))]) hP hD [0] [] rfl rfl (by decide) (by decide) hk1 hFc hP1 hD1
  clear hk1 hz1 ht hPc hDc hKc
  generalize H1 = H at hP hS ⊢
  have hP : va_P (dC, dI) vwCl [(q_9, .inr (6, ur_10))] H := hP
  have hD : va_D A [(q_9, .inr (6, ur_10))] := hD
  refine W.widen (k := 5) (n := 43) (Nat.le_of_ble_eq_true rfl) (Nat.le_of_ble_eq_true rfl) ?_
  refine W.eq (g2 := F0 m 65 ls [.ref q_9]) rfl ?_
  have hP9 := hP.sub (ws' := [(q_9, .inr (6, ur_10))]) [0] rfl
  have hD9 := hD.sub (ws' := [(q_9, .inr (6, ur_10))]) [0] (by decide) rfl
  have hK9 := hK.sub (tys' := []) [] rfl
  refine W.widen (k := 5) (n := 43) (Nat.le_of_ble_eq_true rfl) (Nat.le_of_ble_eq_true rfl) ?_
  exact W.aret (v := .ref q_9) hx hb hr (Or.inl ⟨_, rfl⟩) (Or.inr ⟨_, rfl⟩) (fun t ht hW => ⟨⟨(6, ur_10), q_9, rfl, Or.inr (Or.inr rfl), by rw [ht]; exact hP9, va_K.moved hW.alike hK9, hD9⟩, hS.F ht⟩) hS.2.2 dX7_newMap_65
set_option maxHeartbeats 4000000 in
set_option maxRecDepth 100000 in
/-- the first place is free -/
theorem c_X7_settle_X2 (l : Launch) (hlt : l.stackTraces = false) (dC : Nat → ClassId) (dI : Nat → Nat → Nat) (sz : Nat) (h0 : Nat) (qb : Nat) (cb : ClassId) (v0 : Nat) (vs : List Value) : Met l yX7_settle wsX7_settle ({ frames := 0, cells := 0, slots := 0, locals := 0 }) (va_Pc [.ref h0, .ref v0] (pk_PreX (dC, dI) [(h0, .inr (7, [.ref qb])), (qb, .inl (cb, 16, .inr (.inr (.inr (.inr (fun _ => none)))))), (v0, .inr (3, vs))] [(cb, .object "KeyAtlas$Body")] sz)) (va_Qi (fun (r : Int32) (_ : Unit) => r = 0) (fun (_ : Unit) (_ : State) => True) (va_A [(h0, .inr (7, [.ref qb])), (qb, .inl (cb, 16, .inr (.inr (.inr (.inr (fun _ => none)))))), (v0, .inr (3, vs))] sz)) 0 0 (va_A [(h0, .inr (7, [.ref qb])), (qb, .inl (cb, 16, .inr (.inr (.inr (.inr (fun _ => none)))))), (v0, .inr (3, vs))] sz) := by
  refine Met.ofW (cc := cX7_settle) (maxL := 3) (ret := (some .int)) (by decide) rfl ?_
  intro p e s m args below meth c s₁ B hml hv
  obtain ⟨rfl, hsz, hP, hK, hD0, hN, hZ⟩ := hv
  have hx := B.exec
  have hb := B.bytes
  have hr := B.returns
  have hts := atoms_spec (ws := wsX7_settle) B.pre
  have hown : s.vm.findClass RX7 = some m.cls := findClass_of_methodNamed B.named
  have hlocks := B.notSynchronized
  subst hsz
  have hD := hD0.self (sz := s.heap.size)
  generalize hAe : va_A [(h0, .inr (7, [.ref qb])), (qb, .inl (cb, 16, .inr (.inr (.inr (.inr (fun _ => none)))))), (v0, .inr (3, vs))] s.heap.size = A at hZ hD ⊢
  have hA : ∀ q : Nat, s.heap.size ≤ q → A q := fun q h => by rw [← hAe]; exact Or.inr h
  have hS : va_S A s.heap s.heap [] := va_S.rf
  have hP : va_P (dC, dI) vwCl [(h0, .inr (7, [.ref qb])), (qb, .inl (cb, 16, .inr (.inr (.inr (.inr (fun _ => none)))))), (v0, .inr (3, vs))] s.heap := hP
  have hl := lv_entry ([.ref h0, .ref v0]) (n := 3) (Nat.le_of_ble_eq_true rfl)
  rw [lg_entry_eq]
  generalize (lg_sl ([.ref h0, .ref v0]) ++ List.replicate (3 - (lg_sl ([.ref h0, .ref v0])).length) Slot.unset).toArray = ls at hl ⊢
  have hl : lv_has ls 3 [(0, .ref h0), (1, .ref v0)] := hl
  have hw0_ := hts (.fieldLink RX7 11 "KeyAtlas" "bodies" "[LKeyAtlas$Body;") (by decide +kernel)
  have hi0_ : ∀ w ∈ u_ws RX7 TX7 1, w ∈ wsX7_settle := by decide +kernel
  refine lv_iconst (v := 0) hx hb dX7_settle_0 (by decide) ?_
  refine lv_istore_n (lv' := [(2, .int 0), (0, .ref h0), (1, .ref v0)]) hx hb dX7_settle_1 rfl hl (by decide) rfl (fun ls hl => ?_)
  refine lv_iload_n hx hb dX7_settle_2 rfl (lv_at hl 0 rfl) ?_
  refine lv_aload_n hx hb dX7_settle_3 rfl (lv_at hl 1 rfl) ?_
  refine va_get (D := (dC, dI)) (ci := 7) (v := .ref qb) (C := RX7) (T := TX7) (N := 1) hx hb hts hi0_ hown hK hP 0 rfl rfl 0 (by decide) hw0_ (fun _ h9 => h9) rfl dX7_settle_4 ?_
  refine va_alen (v := 16) hx hb hK hP 1 0 rfl rfl rfl dX7_settle_7 ?_
  refine lv_icmp_ge (tgt := 35) hx hb dX7_settle_8 (by decide) (fun c_1 => absurd c_1 (by decide)) (fun c_1 => ?_)
  refine lv_aload_n hx hb dX7_settle_11 rfl (lv_at hl 1 rfl) ?_
  refine va_get (D := (dC, dI)) (ci := 7) (v := .ref qb) (C := RX7) (T := TX7) (N := 1) hx hb hts hi0_ hown hK hP 0 rfl rfl 0 (by decide) hw0_ (fun _ h9 => h9) rfl dX7_settle_12 ?_
  refine lv_iload_n hx hb dX7_settle_15 rfl (lv_at hl 0 rfl) ?_
  refine va_aldq (i := 0) hx hb hK hP 1 0 rfl rfl (by unfold vp_in; decide) dX7_settle_16 ?_
  refine W.eq (g2 := F0 m 17 ls [.null]) rfl ?_
  refine lv_ifnonnullN hx hb dX7_settle_17 ?_
  refine lv_aload_n hx hb dX7_settle_20 rfl (lv_at hl 1 rfl) ?_
  refine va_get (D := (dC, dI)) (ci := 7) (v := .ref qb) (C := RX7) (T := TX7) (N := 1) hx hb hts hi0_ hown hK hP 0 rfl rfl 0 (by decide) hw0_ (fun _ h9 => h9) rfl dX7_settle_21 ?_
  refine lv_iload_n hx hb dX7_settle_24 rfl (lv_at hl 0 rfl) ?_
  refine lv_aload_n hx hb dX7_settle_25 rfl (lv_at hl 2 rfl) ?_
  refine va_astqO (i := 0) hx hb hK hP hD hS 1 0 2 3 rfl rfl (r := (RX2, TX2, 7)) (hN.xw (.castable RX2 "KeyAtlas$Body") (by decide +kernel)) rfl rfl (by unfold vp_in; decide) dX7_settle_26 (fun H locs hP hD hS => ?_)
  have hP : va_P (dC, dI) vwCl [(h0, .inr (7, [.ref qb])), (qb, .inl (cb, 16, .inr (.inr (.inr (.inr (va_up (fun _ => none) (0 : Int32).toNatClampNeg (some v0))))))), (v0, .inr (3, vs))] H := hP
  have hD : va_D A [(h0, .inr (7, [.ref qb])), (qb, .inl (cb, 16, .inr (.inr (.inr (.inr (va_up (fun _ => none) (0 : Int32).toNatClampNeg (some v0))))))), (v0, .inr (3, vs))] := hD
  refine lv_iload_n hx hb dX7_settle_27 rfl (lv_at hl 0 rfl) ?_
  refine W.widen (k := 0) (n := 0) (Nat.le_of_ble_eq_true rfl) (Nat.le_of_ble_eq_true rfl) ?_
  exact W.iret (v := 0) hx hb hr (fun t ht hW => ⟨⟨0, (), rfl, rfl, trivial⟩, hS.F ht⟩) hS.2.2 dX7_settle_28
set_option maxHeartbeats 4000000 in
set_option maxRecDepth 100000 in
/-- the first place is free -/
theorem c_X7_settle_X4 (l : Launch) (hlt : l.stackTraces = false) (dC : Nat → ClassId) (dI : Nat → Nat → Nat) (sz : Nat) (h0 : Nat) (qb : Nat) (cb : ClassId) (v0 : Nat) (vs : List Value) : Met l yX7_settle wsX7_settle ({ frames := 0, cells := 0, slots := 0, locals := 0 }) (va_Pc [.ref h0, .ref v0] (pk_PreX (dC, dI) [(h0, .inr (7, [.ref qb])), (qb, .inl (cb, 16, .inr (.inr (.inr (.inr (fun _ => none)))))), (v0, .inr (4, vs))] [(cb, .object "KeyAtlas$Body")] sz)) (va_Qi (fun (r : Int32) (_ : Unit) => r = 0) (fun (_ : Unit) (_ : State) => True) (va_A [(h0, .inr (7, [.ref qb])), (qb, .inl (cb, 16, .inr (.inr (.inr (.inr (fun _ => none)))))), (v0, .inr (4, vs))] sz)) 0 0 (va_A [(h0, .inr (7, [.ref qb])), (qb, .inl (cb, 16, .inr (.inr (.inr (.inr (fun _ => none)))))), (v0, .inr (4, vs))] sz) := by
  refine Met.ofW (cc := cX7_settle) (maxL := 3) (ret := (some .int)) (by decide) rfl ?_
  intro p e s m args below meth c s₁ B hml hv
  obtain ⟨rfl, hsz, hP, hK, hD0, hN, hZ⟩ := hv
  have hx := B.exec
  have hb := B.bytes
  have hr := B.returns
  have hts := atoms_spec (ws := wsX7_settle) B.pre
  have hown : s.vm.findClass RX7 = some m.cls := findClass_of_methodNamed B.named
  have hlocks := B.notSynchronized
  subst hsz
  have hD := hD0.self (sz := s.heap.size)
  generalize hAe : va_A [(h0, .inr (7, [.ref qb])), (qb, .inl (cb, 16, .inr (.inr (.inr (.inr (fun _ => none)))))), (v0, .inr (4, vs))] s.heap.size = A at hZ hD ⊢
  have hA : ∀ q : Nat, s.heap.size ≤ q → A q := fun q h => by rw [← hAe]; exact Or.inr h
  have hS : va_S A s.heap s.heap [] := va_S.rf
  have hP : va_P (dC, dI) vwCl [(h0, .inr (7, [.ref qb])), (qb, .inl (cb, 16, .inr (.inr (.inr (.inr (fun _ => none)))))), (v0, .inr (4, vs))] s.heap := hP
  have hl := lv_entry ([.ref h0, .ref v0]) (n := 3) (Nat.le_of_ble_eq_true rfl)
  rw [lg_entry_eq]
  generalize (lg_sl ([.ref h0, .ref v0]) ++ List.replicate (3 - (lg_sl ([.ref h0, .ref v0])).length) Slot.unset).toArray = ls at hl ⊢
  have hl : lv_has ls 3 [(0, .ref h0), (1, .ref v0)] := hl
  have hw0_ := hts (.fieldLink RX7 11 "KeyAtlas" "bodies" "[LKeyAtlas$Body;") (by decide +kernel)
  have hi0_ : ∀ w ∈ u_ws RX7 TX7 1, w ∈ wsX7_settle := by decide +kernel
  refine lv_iconst (v := 0) hx hb dX7_settle_0 (by decide) ?_
  refine lv_istore_n (lv' := [(2, .int 0), (0, .ref h0), (1, .ref v0)]) hx hb dX7_settle_1 rfl hl (by decide) rfl (fun ls hl => ?_)
  refine lv_iload_n hx hb dX7_settle_2 rfl (lv_at hl 0 rfl) ?_
  refine lv_aload_n hx hb dX7_settle_3 rfl (lv_at hl 1 rfl) ?_
  refine va_get (D := (dC, dI)) (ci := 7) (v := .ref qb) (C := RX7) (T := TX7) (N := 1) hx hb hts hi0_ hown hK hP 0 rfl rfl 0 (by decide) hw0_ (fun _ h9 => h9) rfl dX7_settle_4 ?_
  refine va_alen (v := 16) hx hb hK hP 1 0 rfl rfl rfl dX7_settle_7 ?_
  refine lv_icmp_ge (tgt := 35) hx hb dX7_settle_8 (by decide) (fun c_1 => absurd c_1 (by decide)) (fun c_1 => ?_)
  refine lv_aload_n hx hb dX7_settle_11 rfl (lv_at hl 1 rfl) ?_
  refine va_get (D := (dC, dI)) (ci := 7) (v := .ref qb) (C := RX7) (T := TX7) (N := 1) hx hb hts hi0_ hown hK hP 0 rfl rfl 0 (by decide) hw0_ (fun _ h9 => h9) rfl dX7_settle_12 ?_
  refine lv_iload_n hx hb dX7_settle_15 rfl (lv_at hl 0 rfl) ?_
  refine va_aldq (i := 0) hx hb hK hP 1 0 rfl rfl (by unfold vp_in; decide) dX7_settle_16 ?_
  refine W.eq (g2 := F0 m 17 ls [.null]) rfl ?_
  refine lv_ifnonnullN hx hb dX7_settle_17 ?_
  refine lv_aload_n hx hb dX7_settle_20 rfl (lv_at hl 1 rfl) ?_
  refine va_get (D := (dC, dI)) (ci := 7) (v := .ref qb) (C := RX7) (T := TX7) (N := 1) hx hb hts hi0_ hown hK hP 0 rfl rfl 0 (by decide) hw0_ (fun _ h9 => h9) rfl dX7_settle_21 ?_
  refine lv_iload_n hx hb dX7_settle_24 rfl (lv_at hl 0 rfl) ?_
  refine lv_aload_n hx hb dX7_settle_25 rfl (lv_at hl 2 rfl) ?_
  refine va_astqO (i := 0) hx hb hK hP hD hS 1 0 2 4 rfl rfl (r := (RX4, TX4, 5)) (hN.xw (.castable RX4 "KeyAtlas$Body") (by decide +kernel)) rfl rfl (by unfold vp_in; decide) dX7_settle_26 (fun H locs hP hD hS => ?_)
  have hP : va_P (dC, dI) vwCl [(h0, .inr (7, [.ref qb])), (qb, .inl (cb, 16, .inr (.inr (.inr (.inr (va_up (fun _ => none) (0 : Int32).toNatClampNeg (some v0))))))), (v0, .inr (4, vs))] H := hP
  have hD : va_D A [(h0, .inr (7, [.ref qb])), (qb, .inl (cb, 16, .inr (.inr (.inr (.inr (va_up (fun _ => none) (0 : Int32).toNatClampNeg (some v0))))))), (v0, .inr (4, vs))] := hD
  refine lv_iload_n hx hb dX7_settle_27 rfl (lv_at hl 0 rfl) ?_
  refine W.widen (k := 0) (n := 0) (Nat.le_of_ble_eq_true rfl) (Nat.le_of_ble_eq_true rfl) ?_
  exact W.iret (v := 0) hx hb hr (fun t ht hW => ⟨⟨0, (), rfl, rfl, trivial⟩, hS.F ht⟩) hS.2.2 dX7_settle_28
set_option maxHeartbeats 4000000 in
set_option maxRecDepth 100000 in
/-- the first place is free -/
theorem c_X7_settle_X6 (l : Launch) (hlt : l.stackTraces = false) (dC : Nat → ClassId) (dI : Nat → Nat → Nat) (sz : Nat) (h0 : Nat) (qb : Nat) (cb : ClassId) (v0 : Nat) (vs : List Value) : Met l yX7_settle wsX7_settle ({ frames := 0, cells := 0, slots := 0, locals := 0 }) (va_Pc [.ref h0, .ref v0] (pk_PreX (dC, dI) [(h0, .inr (7, [.ref qb])), (qb, .inl (cb, 16, .inr (.inr (.inr (.inr (fun _ => none)))))), (v0, .inr (6, vs))] [(cb, .object "KeyAtlas$Body")] sz)) (va_Qi (fun (r : Int32) (_ : Unit) => r = 0) (fun (_ : Unit) (_ : State) => True) (va_A [(h0, .inr (7, [.ref qb])), (qb, .inl (cb, 16, .inr (.inr (.inr (.inr (fun _ => none)))))), (v0, .inr (6, vs))] sz)) 0 0 (va_A [(h0, .inr (7, [.ref qb])), (qb, .inl (cb, 16, .inr (.inr (.inr (.inr (fun _ => none)))))), (v0, .inr (6, vs))] sz) := by
  refine Met.ofW (cc := cX7_settle) (maxL := 3) (ret := (some .int)) (by decide) rfl ?_
  intro p e s m args below meth c s₁ B hml hv
  obtain ⟨rfl, hsz, hP, hK, hD0, hN, hZ⟩ := hv
  have hx := B.exec
  have hb := B.bytes
  have hr := B.returns
  have hts := atoms_spec (ws := wsX7_settle) B.pre
  have hown : s.vm.findClass RX7 = some m.cls := findClass_of_methodNamed B.named
  have hlocks := B.notSynchronized
  subst hsz
  have hD := hD0.self (sz := s.heap.size)
  generalize hAe : va_A [(h0, .inr (7, [.ref qb])), (qb, .inl (cb, 16, .inr (.inr (.inr (.inr (fun _ => none)))))), (v0, .inr (6, vs))] s.heap.size = A at hZ hD ⊢
  have hA : ∀ q : Nat, s.heap.size ≤ q → A q := fun q h => by rw [← hAe]; exact Or.inr h
  have hS : va_S A s.heap s.heap [] := va_S.rf
  have hP : va_P (dC, dI) vwCl [(h0, .inr (7, [.ref qb])), (qb, .inl (cb, 16, .inr (.inr (.inr (.inr (fun _ => none)))))), (v0, .inr (6, vs))] s.heap := hP
  have hl := lv_entry ([.ref h0, .ref v0]) (n := 3) (Nat.le_of_ble_eq_true rfl)
  rw [lg_entry_eq]
  generalize (lg_sl ([.ref h0, .ref v0]) ++ List.replicate (3 - (lg_sl ([.ref h0, .ref v0])).length) Slot.unset).toArray = ls at hl ⊢
  have hl : lv_has ls 3 [(0, .ref h0), (1, .ref v0)] := hl
  have hw0_ := hts (.fieldLink RX7 11 "KeyAtlas" "bodies" "[LKeyAtlas$Body;") (by decide +kernel)
  have hi0_ : ∀ w ∈ u_ws RX7 TX7 1, w ∈ wsX7_settle := by decide +kernel
  refine lv_iconst (v := 0) hx hb dX7_settle_0 (by decide) ?_
  refine lv_istore_n (lv' := [(2, .int 0), (0, .ref h0), (1, .ref v0)]) hx hb dX7_settle_1 rfl hl (by decide) rfl (fun ls hl => ?_)
  refine lv_iload_n hx hb dX7_settle_2 rfl (lv_at hl 0 rfl) ?_
  refine lv_aload_n hx hb dX7_settle_3 rfl (lv_at hl 1 rfl) ?_
  refine va_get (D := (dC, dI)) (ci := 7) (v := .ref qb) (C := RX7) (T := TX7) (N := 1) hx hb hts hi0_ hown hK hP 0 rfl rfl 0 (by decide) hw0_ (fun _ h9 => h9) rfl dX7_settle_4 ?_
  refine va_alen (v := 16) hx hb hK hP 1 0 rfl rfl rfl dX7_settle_7 ?_
  refine lv_icmp_ge (tgt := 35) hx hb dX7_settle_8 (by decide) (fun c_1 => absurd c_1 (by decide)) (fun c_1 => ?_)
  refine lv_aload_n hx hb dX7_settle_11 rfl (lv_at hl 1 rfl) ?_
  refine va_get (D := (dC, dI)) (ci := 7) (v := .ref qb) (C := RX7) (T := TX7) (N := 1) hx hb hts hi0_ hown hK hP 0 rfl rfl 0 (by decide) hw0_ (fun _ h9 => h9) rfl dX7_settle_12 ?_
  refine lv_iload_n hx hb dX7_settle_15 rfl (lv_at hl 0 rfl) ?_
  refine va_aldq (i := 0) hx hb hK hP 1 0 rfl rfl (by unfold vp_in; decide) dX7_settle_16 ?_
  refine W.eq (g2 := F0 m 17 ls [.null]) rfl ?_
  refine lv_ifnonnullN hx hb dX7_settle_17 ?_
  refine lv_aload_n hx hb dX7_settle_20 rfl (lv_at hl 1 rfl) ?_
  refine va_get (D := (dC, dI)) (ci := 7) (v := .ref qb) (C := RX7) (T := TX7) (N := 1) hx hb hts hi0_ hown hK hP 0 rfl rfl 0 (by decide) hw0_ (fun _ h9 => h9) rfl dX7_settle_21 ?_
  refine lv_iload_n hx hb dX7_settle_24 rfl (lv_at hl 0 rfl) ?_
  refine lv_aload_n hx hb dX7_settle_25 rfl (lv_at hl 2 rfl) ?_
  refine va_astqO (i := 0) hx hb hK hP hD hS 1 0 2 6 rfl rfl (r := (RX6, TX6, 7)) (hN.xw (.castable RX6 "KeyAtlas$Body") (by decide +kernel)) rfl rfl (by unfold vp_in; decide) dX7_settle_26 (fun H locs hP hD hS => ?_)
  have hP : va_P (dC, dI) vwCl [(h0, .inr (7, [.ref qb])), (qb, .inl (cb, 16, .inr (.inr (.inr (.inr (va_up (fun _ => none) (0 : Int32).toNatClampNeg (some v0))))))), (v0, .inr (6, vs))] H := hP
  have hD : va_D A [(h0, .inr (7, [.ref qb])), (qb, .inl (cb, 16, .inr (.inr (.inr (.inr (va_up (fun _ => none) (0 : Int32).toNatClampNeg (some v0))))))), (v0, .inr (6, vs))] := hD
  refine lv_iload_n hx hb dX7_settle_27 rfl (lv_at hl 0 rfl) ?_
  refine W.widen (k := 0) (n := 0) (Nat.le_of_ble_eq_true rfl) (Nat.le_of_ble_eq_true rfl) ?_
  exact W.iret (v := 0) hx hb hr (fun t ht hW => ⟨⟨0, (), rfl, rfl, trivial⟩, hS.F ht⟩) hS.2.2 dX7_settle_28
