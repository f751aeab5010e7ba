theorem dX7_isPartOf_0 : decode cX7_isPartOf 0 = .ok (.iload_n 1, 1) := by decide +kernel
theorem dX7_isPartOf_1 : decode cX7_isPartOf 1 = .ok (.istore_n 3, 1) := by decide +kernel
theorem dX7_isPartOf_2 : decode cX7_isPartOf 2 = .ok (.iconst 0, 1) := by decide +kernel
theorem dX7_isPartOf_3 : decode cX7_isPartOf 3 = .ok (.istore 4, 2) := by decide +kernel
theorem dX7_isPartOf_5 : decode cX7_isPartOf 5 = .ok (.iload 4, 2) := by decide +kernel
theorem dX7_isPartOf_7 : decode cX7_isPartOf 7 = .ok (.bipush 16, 2) := by decide +kernel
theorem dX7_isPartOf_9 : decode cX7_isPartOf 9 = .ok (.if_icmp .ge 34, 3) := by decide +kernel
theorem dX7_isPartOf_43 : decode cX7_isPartOf 43 = .ok (.iload_n 3, 1) := by decide +kernel
theorem dX7_isPartOf_44 : decode cX7_isPartOf 44 = .ok (.iload_n 2, 1) := by decide +kernel
theorem dX7_isPartOf_45 : decode cX7_isPartOf 45 = .ok (.if_icmp .ne 7, 3) := by decide +kernel
theorem dX7_isPartOf_52 : decode cX7_isPartOf 52 = .ok (.iconst 0, 1) := by decide +kernel
theorem dX7_isPartOf_53 : decode cX7_isPartOf 53 = .ok (.ireturn, 1) := by decide +kernel
theorem dX7_isPartOf_48 : decode cX7_isPartOf 48 = .ok (.iconst 1, 1) := by decide +kernel
theorem dX7_isPartOf_49 : decode cX7_isPartOf 49 = .ok (.goto 4, 3) := by decide +kernel
theorem dX7_isPartOf_12 : decode cX7_isPartOf 12 = .ok (.iload_n 3, 1) := by decide +kernel
theorem dX7_isPartOf_13 : decode cX7_isPartOf 13 = .ok (.iload_n 2, 1) := by decide +kernel
theorem dX7_isPartOf_14 : decode cX7_isPartOf 14 = .ok (.if_icmp .eq 29, 3) := by decide +kernel
theorem dX7_isPartOf_17 : decode cX7_isPartOf 17 = .ok (.aload_n 0, 1) := by decide +kernel
theorem dX7_isPartOf_18 : decode cX7_isPartOf 18 = .ok (.iload_n 3, 1) := by decide +kernel
set_option maxRecDepth 20000 in
theorem ggX7_isPartOf_X7_bodyOrNull : GoodIn wsX7_isPartOf wsX7_bodyOrNull := goodIn_r _ [6, 7, 33] rfl (by decide +kernel)
set_option maxRecDepth 20000 in
theorem gX7_isPartOf_X7_bodyOrNull : GoodIn wsX7_isPartOf (wsV RX7 236 RX7 yX7_bodyOrNull wsX7_bodyOrNull) := goodIn_app (goodIn_of _ (by decide +kernel)) ggX7_isPartOf_X7_bodyOrNull
theorem dX7_isPartOf_19 : decode cX7_isPartOf 19 = .ok (.invokevirtual 236, 3) := by decide +kernel
theorem dX7_isPartOf_22 : decode cX7_isPartOf 22 = .ok (.astore 5, 2) := by decide +kernel
theorem dX7_isPartOf_24 : decode cX7_isPartOf 24 = .ok (.aload 5, 2) := by decide +kernel
theorem dX7_isPartOf_26 : decode cX7_isPartOf 26 = .ok (.ifnonnull 5, 3) := by decide +kernel
theorem dX7_isPartOf_29 : decode cX7_isPartOf 29 = .ok (.iconst 0, 1) := by decide +kernel
theorem dX7_isPartOf_30 : decode cX7_isPartOf 30 = .ok (.ireturn, 1) := by decide +kernel
theorem dX7_isPartOf_31 : decode cX7_isPartOf 31 = .ok (.aload 5, 2) := by decide +kernel
theorem dX7_isPartOf_33 : decode cX7_isPartOf 33 = .ok (.getfield 255, 3) := by decide +kernel
theorem dX7_isPartOf_36 : decode cX7_isPartOf 36 = .ok (.istore_n 3, 1) := by decide +kernel
theorem dX7_isPartOf_37 : decode cX7_isPartOf 37 = .ok (.iinc 4 1, 3) := by decide +kernel
theorem dX7_isPartOf_40 : decode cX7_isPartOf 40 = .ok (.goto (-35), 3) := by decide +kernel
set_option maxHeartbeats 4000000 in
set_option maxRecDepth 100000 in
/-- isPartOf -/
theorem c_X7_isPartOf (l : Launch) (dC : Nat → ClassId) (dI : Nat → Nat → Nat) (sz : Nat) (a0 : Nat) (qb : Nat) (cq : ClassId) (bq : Nat → Option Nat) (wh : Nat → Int32) (p0 : Int32) (p1 : Int32) : Met l yX7_isPartOf wsX7_isPartOf ({ frames := 1, cells := 0, slots := 0, locals := 30 }) (va_Pc [.ref a0, .int p0, .int p1] (pk_PreRB (dC, dI) [(a0, .inr (7, [.ref qb])), (qb, .inl (cq, 16, .inr (.inr (.inr (.inr bq)))))] [(cq, .object "KeyAtlas$Body")] bq wh sz)) (va_Qi (fun (x : Int32) (_ : Unit) => x = tz (ipN bq wh 16 p0 p1)) (fun _ (t : State) => t.heap.size = sz) ro_A) 0 0 ro_A := by
  refine Met.ofW (cc := cX7_isPartOf) (maxL := 6) (ret := (some .boolean)) (by decide) rfl ?_
  intro p e s m args below meth c s₁ B hml hv
  obtain ⟨rfl, ⟨hsz, hP, hK⟩, hBW⟩ := hv
  have hx := B.exec
  have hb := B.bytes
  have hr := B.returns
  have hts := atoms_spec (ws := wsX7_isPartOf) B.pre
  have hown : s.vm.findClass RX7 = some m.cls := findClass_of_methodNamed B.named
  have hlocks := B.notSynchronized
  subst hsz
  have hS : va_S ro_A s.heap s.heap [] := va_S.rf
  have hP : va_P (dC, dI) vwCl [(a0, .inr (7, [.ref qb])), (qb, .inl (cq, 16, .inr (.inr (.inr (.inr bq)))))] s.heap := hP
  have hl := lv_entry ([.ref a0, .int p0, .int p1]) (n := 6) (Nat.le_of_ble_eq_true rfl)
  rw [lg_entry_eq]
  generalize (lg_sl ([.ref a0, .int p0, .int p1]) ++ List.replicate (6 - (lg_sl ([.ref a0, .int p0, .int p1])).length) Slot.unset).toArray = ls at hl ⊢
  have hl : lv_has ls 6 [(0, .ref a0), (1, .int p0), (2, .int p1)] := hl
  have hw0_ := hts (.fieldLink RX7 255 "KeyAtlas$Body" "whole" "I") (List.mem_of_getElem? (l := wsX7_isPartOf) (i := 1) rfl)
  have hi0_ : ∀ w ∈ u_ws RX1 TX1 6, w ∈ wsX7_isPartOf := fun w h => List.mem_cons_of_mem _ (List.mem_append_left _ (List.mem_append_left _ (List.mem_append_left _ (List.mem_append_left _ (List.mem_append_right _ h)))))
  have hi1_ : ∀ w ∈ u_ws RX2 TX2 7, w ∈ wsX7_isPartOf := fun w h => List.mem_cons_of_mem _ (List.mem_append_left _ (List.mem_append_left _ (List.mem_append_left _ (List.mem_append_right _ h))))
  have hi2_ : ∀ w ∈ u_ws RX4 TX4 5, w ∈ wsX7_isPartOf := fun w h => List.mem_cons_of_mem _ (List.mem_append_left _ (List.mem_append_left _ (List.mem_append_right _ h)))
  have hi3_ : ∀ w ∈ u_ws RX6 TX6 7, w ∈ wsX7_isPartOf := fun w h => List.mem_cons_of_mem _ (List.mem_append_left _ (List.mem_append_right _ h))
  refine lv_iload_n hx hb dX7_isPartOf_0 rfl (lv_at hl 1 rfl) ?_
  refine lv_istore_n (lv' := [(3, .int p0), (0, .ref a0), (1, .int p0), (2, .int p1)]) hx hb dX7_isPartOf_1 rfl hl (by decide) rfl (fun ls hl => ?_)
  refine lv_iconst (v := 0) hx hb dX7_isPartOf_2 (by decide) ?_
  refine lv_istore (lv' := [(4, .int 0), (3, .int p0), (0, .ref a0), (1, .int p0), (2, .int p1)]) hx hb dX7_isPartOf_3 hl (by decide) rfl (fun ls hl => ?_)
  obtain ⟨i, es_i⟩ : ∃ z : Nat, z = 0 := ⟨_, rfl⟩
  obtain ⟨y9, ey9⟩ : ∃ y : Int32, y = nI i := ⟨_, rfl⟩
  obtain ⟨x9, es_x9⟩ : ∃ z : Int32, z = p0 := ⟨_, rfl⟩
  obtain ⟨n9, en9⟩ : ∃ n : Nat, n = 17 := ⟨_, rfl⟩
  replace hl : lv_has ls 6 [(4, .int y9), (3, .int x9), (0, .ref a0), (1, .int p0), (2, .int p1)] := by subst ey9; subst es_i; subst es_x9; exact hl
  have hi9 : i ≤ 16 := by subst ey9; subst es_i; subst es_x9; subst en9; exact by omega
  have hn9 : 17 ≤ i + n9 := by subst ey9; subst es_i; subst es_x9; subst en9; exact by omega
  have hv9 : ipN bq wh (16 - i) x9 p1 = ipN bq wh 16 p0 p1 := by subst ey9; subst es_i; subst es_x9; subst en9; exact rfl
  clear en9 es_i es_x9
  induction n9 generalizing i y9 x9 ls with
  | zero => exact absurd hn9 (by omega)
  | succ n9 ih =>
    subst ey9
    refine lv_iload hx hb dX7_isPartOf_5 (lv_at hl 0 rfl) ?_
    refine lv_bipush (v := 16) hx hb dX7_isPartOf_7 (by decide) ?_
    refine lv_icmp_ge (tgt := 43) hx hb dX7_isPartOf_9 (by decide) (fun c_1 => ?_) (fun c_1 => ?_)
    ·
      have ic_1 : 16 ≤ ((i : Nat) : Int) := tx_le (by decide) (nI_toInt (by omega)) c_1
      refine lv_iload_n hx hb dX7_isPartOf_43 rfl (lv_at hl 1 rfl) ?_
      refine lv_iload_n hx hb dX7_isPartOf_44 rfl (lv_at hl 4 rfl) ?_
      refine lv_icmp_ne (tgt := 52) hx hb dX7_isPartOf_45 (by decide) (fun c_2 => ?_) (fun c_2 => ?_)
      ·
        have ic_2 : ¬ x9.toInt = p1.toInt := tx_ne rfl rfl c_2
        refine lv_iconst (v := 0) hx hb dX7_isPartOf_52 (by decide) ?_
        refine W.widen (k := 0) (n := 0) (Nat.le_of_ble_eq_true rfl) (Nat.le_of_ble_eq_true rfl) ?_
        exact W.zret (v := 0) hx hb hr rfl (fun t ht hW => ⟨⟨0, (), rfl, by show (0 : Int32) = tz (ipN bq wh 16 p0 p1); rw [← hv9, show 16 - i = 0 by omega]; unfold ipN; rw [decide_eq_false (fun z => ic_2 (by rw [z]))]; rfl, congrArg Array.size ht⟩, hS.F ht⟩) hS.2.2 dX7_isPartOf_53
      ·
        have ic_2 : x9.toInt = p1.toInt := tx_eq rfl rfl c_2
        refine lv_iconst (v := 1) hx hb dX7_isPartOf_48 (by decide) ?_
        refine lv_goto (tgt := 53) hx hb dX7_isPartOf_49 (by decide) ?_
        refine W.widen (k := 0) (n := 0) (Nat.le_of_ble_eq_true rfl) (Nat.le_of_ble_eq_true rfl) ?_
        exact W.zret (v := 1) hx hb hr rfl (fun t ht hW => ⟨⟨1, (), rfl, by show (1 : Int32) = tz (ipN bq wh 16 p0 p1); rw [← hv9, ip_eq (Int32.toInt_inj.mp ic_2)]; rfl, congrArg Array.size ht⟩, hS.F ht⟩) hS.2.2 dX7_isPartOf_53
    ·
      have ic_1 : ((i : Nat) : Int) < 16 := tx_nle (by decide) (nI_toInt (by omega)) c_1
      refine lv_iload_n hx hb dX7_isPartOf_12 rfl (lv_at hl 1 rfl) ?_
      refine lv_iload_n hx hb dX7_isPartOf_13 rfl (lv_at hl 4 rfl) ?_
      refine lv_icmp_eq (tgt := 43) hx hb dX7_isPartOf_14 (by decide) (fun c_3 => ?_) (fun c_3 => ?_)
      ·
        have ic_3 : x9.toInt = p1.toInt := tx_eq rfl rfl c_3
        refine lv_iload_n hx hb dX7_isPartOf_43 rfl (lv_at hl 1 rfl) ?_
        refine lv_iload_n hx hb dX7_isPartOf_44 rfl (lv_at hl 4 rfl) ?_
        refine lv_icmp_ne (tgt := 52) hx hb dX7_isPartOf_45 (by decide) (fun c_4 => ?_) (fun c_4 => ?_)
        ·
          have ic_4 : ¬ x9.toInt = p1.toInt := tx_ne rfl rfl c_4
          refine lv_iconst (v := 0) hx hb dX7_isPartOf_52 (by decide) ?_
          refine W.widen (k := 0) (n := 0) (Nat.le_of_ble_eq_true rfl) (Nat.le_of_ble_eq_true rfl) ?_
          exact W.zret (v := 0) hx hb hr rfl (fun t ht hW => ⟨⟨0, (), rfl, absurd ic_3 ic_4, congrArg Array.size ht⟩, hS.F ht⟩) hS.2.2 dX7_isPartOf_53
        ·
          have ic_4 : x9.toInt = p1.toInt := tx_eq rfl rfl c_4
          refine lv_iconst (v := 1) hx hb dX7_isPartOf_48 (by decide) ?_
          refine lv_goto (tgt := 53) hx hb dX7_isPartOf_49 (by decide) ?_
          refine W.widen (k := 0) (n := 0) (Nat.le_of_ble_eq_true rfl) (Nat.le_of_ble_eq_true rfl) ?_
          exact W.zret (v := 1) hx hb hr rfl (fun t ht hW => ⟨⟨1, (), rfl, by show (1 : Int32) = tz (ipN bq wh 16 p0 p1); rw [← hv9, ip_eq (Int32.toInt_inj.mp ic_4)]; rfl, congrArg Array.size ht⟩, hS.F ht⟩) hS.2.2 dX7_isPartOf_53
      ·
        have ic_3 : ¬ x9.toInt = p1.toInt := tx_ne rfl rfl c_3
        refine lv_aload_n hx hb dX7_isPartOf_17 rfl (lv_at hl 2 rfl) ?_
        refine lv_iload_n hx hb dX7_isPartOf_18 rfl (lv_at hl 1 rfl) ?_
        have hPc := hP.sub (ws' := [(a0, .inr (7, [.ref qb])), (qb, .inl (cq, 16, .inr (.inr (.inr (.inr bq)))))]) [0, 1] rfl
        have hKc := hK.sub (tys' := [(cq, .object "KeyAtlas$Body")]) [0] rfl
        refine ro_callq (va_runV (As := [.int x9]) (rest := []) ⟨hx, hb, hml, hown, hts⟩ (c_X7_bodyOrNull l  dC dI s.heap.size a0 qb cq bq x9) (cwV 1 hts gX7_isPartOf_X7_bodyOrNull rfl rfl rfl (by decide +kernel) ⟨(Nat.le_of_ble_eq_true rfl), (Nat.le_of_ble_eq_true rfl)⟩) ⟨pk_blindR, va_recv hKc hPc (ci := 7) (q0 := 0) rfl rfl, pk_callR hPc hKc⟩ rfl rfl hl.1 rfl (lv_room (Nat.le_of_ble_eq_true rfl)) dX7_isPartOf_19 ⟨(Nat.le_of_ble_eq_true rfl), (Nat.le_of_ble_eq_true rfl)⟩) (fun r_5 ur_5 hw => ?_)
        clear hPc hKc
        try dsimp only at hw
        have jr_5 := hw
        refine W.eq (g2 := F0 m 22 ls [va_rf r_5]) rfl ?_
        rcases r_5 with _ | yb
        ·
          refine W.eq (g2 := F0 m 22 ls [.null]) rfl ?_
          have hz9 : ipN bq wh 16 p0 p1 = false := by rw [← hv9]; exact ip_no (fun z => ic_3 (by rw [z])) (bqI_none jr_5)
          refine lv_astoreN (lv' := [(5, .null), (4, .int (nI i)), (3, .int x9), (0, .ref a0), (1, .int p0), (2, .int p1)]) hx hb dX7_isPartOf_22 hl (by decide) rfl (fun ls hl => ?_)
          refine lv_aloadN hx hb dX7_isPartOf_24 (lv_at hl 0 rfl) ?_
          refine lv_ifnonnullN hx hb dX7_isPartOf_26 ?_
          refine lv_iconst (v := 0) hx hb dX7_isPartOf_29 (by decide) ?_
          refine W.widen (k := 0) (n := 0) (Nat.le_of_ble_eq_true rfl) (Nat.le_of_ble_eq_true rfl) ?_
          exact W.zret (v := 0) hx hb hr rfl (fun t ht hW => ⟨⟨0, (), rfl, by show (0 : Int32) = tz (ipN bq wh 16 p0 p1); rw [hz9]; rfl, congrArg Array.size ht⟩, hS.F ht⟩) hS.2.2 dX7_isPartOf_30
        ·
          refine W.eq (g2 := F0 m 22 ls [.ref yb]) rfl ?_
          obtain ⟨jj, hjj, ejj, hbj⟩ := bq_some jr_5
          have hb1 : bqI bq x9 = some jj := by rw [ejj]; exact bqI_some hjj hbj
          rcases hBW jj yb hjj hbj with ⟨v0, v2, v3, v4, v5, hY⟩ | ⟨v0, v1, v3, v4, v5, v6, hY⟩ | ⟨v0, v1, v3, v4, hY⟩ | ⟨v0, v1, v3, v4, v5, v6, hY⟩
          ·
            have hP : va_P (dC, dI) vwCl [(a0, .inr (7, [.ref qb])), (qb, .inl (cq, 16, .inr (.inr (.inr (.inr bq))))), (yb, .inr (2, [v0, .int (wh jj), v2, v3, v4, v5]))] s.heap := hP.app (va_P1 hY)
            refine lv_astore (lv' := [(5, .ref yb), (4, .int (nI i)), (3, .int x9), (0, .ref a0), (1, .int p0), (2, .int p1)]) hx hb dX7_isPartOf_22 hl (by decide) rfl (fun ls hl => ?_)
            refine lv_aload hx hb dX7_isPartOf_24 (lv_at hl 0 rfl) ?_
            refine lv_ifnonnull (tgt := 31) hx hb dX7_isPartOf_26 (by decide) ?_
            refine lv_aload hx hb dX7_isPartOf_31 (lv_at hl 0 rfl) ?_
            refine va_get (D := (dC, dI)) (ci := 2) (v := .int (wh jj)) (C := RX1) (T := TX1) (N := 6) hx hb hts hi0_ hown hK hP 2 rfl rfl 1 (by decide) hw0_ (fun _ h9 => h9) rfl dX7_isPartOf_33 ?_
            refine lv_istore_n (lv' := [(3, .int (wh jj)), (5, .ref yb), (4, .int (nI i)), (0, .ref a0), (1, .int p0), (2, .int p1)]) hx hb dX7_isPartOf_36 rfl hl (by decide) rfl (fun ls hl => ?_)
            refine lv_iinc (v := nI (i + 1)) (lv' := [(4, .int (nI (i + 1))), (3, .int (wh jj)), (5, .ref yb), (0, .ref a0), (1, .int p0), (2, .int p1)]) hx hb dX7_isPartOf_37 hl (k := 2) rfl (by rw [show Int32.ofInt 1 = nI 1 from rfl, nI_add]) (by decide) rfl (fun ls hl => ?_)
            refine lv_goto (tgt := 5) hx hb dX7_isPartOf_40 (by decide) ?_
            exact ih (i := i + 1) (y9 := nI (i + 1)) (ey9 := rfl) (x9 := wh jj) (ls := ls) (hi9 := by omega) (hn9 := by omega) (hv9 := by rw [← hv9, show 16 - i = (16 - (i + 1)) + 1 by omega, ip_up (fun z => ic_3 (by rw [z])) hb1]) (hl := lv_sub hl [0, 1, 3, 4, 5] rfl)
          ·
            have hP : va_P (dC, dI) vwCl [(a0, .inr (7, [.ref qb])), (qb, .inl (cq, 16, .inr (.inr (.inr (.inr bq))))), (yb, .inr (3, [v0, v1, .int (wh jj), v3, v4, v5, v6]))] s.heap := hP.app (va_P1 hY)
            refine lv_astore (lv' := [(5, .ref yb), (4, .int (nI i)), (3, .int x9), (0, .ref a0), (1, .int p0), (2, .int p1)]) hx hb dX7_isPartOf_22 hl (by decide) rfl (fun ls hl => ?_)
            refine lv_aload hx hb dX7_isPartOf_24 (lv_at hl 0 rfl) ?_
            refine lv_ifnonnull (tgt := 31) hx hb dX7_isPartOf_26 (by decide) ?_
            refine lv_aload hx hb dX7_isPartOf_31 (lv_at hl 0 rfl) ?_
            refine va_get (D := (dC, dI)) (ci := 3) (v := .int (wh jj)) (C := RX2) (T := TX2) (N := 7) hx hb hts hi1_ hown hK hP 2 rfl rfl 2 (by decide) hw0_ (fun _ h9 => h9) rfl dX7_isPartOf_33 ?_
            refine lv_istore_n (lv' := [(3, .int (wh jj)), (5, .ref yb), (4, .int (nI i)), (0, .ref a0), (1, .int p0), (2, .int p1)]) hx hb dX7_isPartOf_36 rfl hl (by decide) rfl (fun ls hl => ?_)
            refine lv_iinc (v := nI (i + 1)) (lv' := [(4, .int (nI (i + 1))), (3, .int (wh jj)), (5, .ref yb), (0, .ref a0), (1, .int p0), (2, .int p1)]) hx hb dX7_isPartOf_37 hl (k := 2) rfl (by rw [show Int32.ofInt 1 = nI 1 from rfl, nI_add]) (by decide) rfl (fun ls hl => ?_)
            refine lv_goto (tgt := 5) hx hb dX7_isPartOf_40 (by decide) ?_
            exact ih (i := i + 1) (y9 := nI (i + 1)) (ey9 := rfl) (x9 := wh jj) (ls := ls) (hi9 := by omega) (hn9 := by omega) (hv9 := by rw [← hv9, show 16 - i = (16 - (i + 1)) + 1 by omega, ip_up (fun z => ic_3 (by rw [z])) hb1]) (hl := lv_sub hl [0, 1, 3, 4, 5] rfl)
          ·
            have hP : va_P (dC, dI) vwCl [(a0, .inr (7, [.ref qb])), (qb, .inl (cq, 16, .inr (.inr (.inr (.inr bq))))), (yb, .inr (4, [v0, v1, .int (wh jj), v3, v4]))] s.heap := hP.app (va_P1 hY)
            refine lv_astore (lv' := [(5, .ref yb), (4, .int (nI i)), (3, .int x9), (0, .ref a0), (1, .int p0), (2, .int p1)]) hx hb dX7_isPartOf_22 hl (by decide) rfl (fun ls hl => ?_)
            refine lv_aload hx hb dX7_isPartOf_24 (lv_at hl 0 rfl) ?_
            refine lv_ifnonnull (tgt := 31) hx hb dX7_isPartOf_26 (by decide) ?_
            refine lv_aload hx hb dX7_isPartOf_31 (lv_at hl 0 rfl) ?_
            refine va_get (D := (dC, dI)) (ci := 4) (v := .int (wh jj)) (C := RX4) (T := TX4) (N := 5) hx hb hts hi2_ hown hK hP 2 rfl rfl 2 (by decide) hw0_ (fun _ h9 => h9) rfl dX7_isPartOf_33 ?_
            refine lv_istore_n (lv' := [(3, .int (wh jj)), (5, .ref yb), (4, .int (nI i)), (0, .ref a0), (1, .int p0), (2, .int p1)]) hx hb dX7_isPartOf_36 rfl hl (by decide) rfl (fun ls hl => ?_)
            refine lv_iinc (v := nI (i + 1)) (lv' := [(4, .int (nI (i + 1))), (3, .int (wh jj)), (5, .ref yb), (0, .ref a0), (1, .int p0), (2, .int p1)]) hx hb dX7_isPartOf_37 hl (k := 2) rfl (by rw [show Int32.ofInt 1 = nI 1 from rfl, nI_add]) (by decide) rfl (fun ls hl => ?_)
            refine lv_goto (tgt := 5) hx hb dX7_isPartOf_40 (by decide) ?_
            exact ih (i := i + 1) (y9 := nI (i + 1)) (ey9 := rfl) (x9 := wh jj) (ls := ls) (hi9 := by omega) (hn9 := by omega) (hv9 := by rw [← hv9, show 16 - i = (16 - (i + 1)) + 1 by omega, ip_up (fun z => ic_3 (by rw [z])) hb1]) (hl := lv_sub hl [0, 1, 3, 4, 5] rfl)
          ·
            have hP : va_P (dC, dI) vwCl [(a0, .inr (7, [.ref qb])), (qb, .inl (cq, 16, .inr (.inr (.inr (.inr bq))))), (yb, .inr (6, [v0, v1, .int (wh jj), v3, v4, v5, v6]))] s.heap := hP.app (va_P1 hY)
            refine lv_astore (lv' := [(5, .ref yb), (4, .int (nI i)), (3, .int x9), (0, .ref a0), (1, .int p0), (2, .int p1)]) hx hb dX7_isPartOf_22 hl (by decide) rfl (fun ls hl => ?_)
            refine lv_aload hx hb dX7_isPartOf_24 (lv_at hl 0 rfl) ?_
            refine lv_ifnonnull (tgt := 31) hx hb dX7_isPartOf_26 (by decide) ?_
            refine lv_aload hx hb dX7_isPartOf_31 (lv_at hl 0 rfl) ?_
            refine va_get (D := (dC, dI)) (ci := 6) (v := .int (wh jj)) (C := RX6) (T := TX6) (N := 7) hx hb hts hi3_ hown hK hP 2 rfl rfl 2 (by decide) hw0_ (fun _ h9 => h9) rfl dX7_isPartOf_33 ?_
            refine lv_istore_n (lv' := [(3, .int (wh jj)), (5, .ref yb), (4, .int (nI i)), (0, .ref a0), (1, .int p0), (2, .int p1)]) hx hb dX7_isPartOf_36 rfl hl (by decide) rfl (fun ls hl => ?_)
            refine lv_iinc (v := nI (i + 1)) (lv' := [(4, .int (nI (i + 1))), (3, .int (wh jj)), (5, .ref yb), (0, .ref a0), (1, .int p0), (2, .int p1)]) hx hb dX7_isPartOf_37 hl (k := 2) rfl (by rw [show Int32.ofInt 1 = nI 1 from rfl, nI_add]) (by decide) rfl (fun ls hl => ?_)
            refine lv_goto (tgt := 5) hx hb dX7_isPartOf_40 (by decide) ?_
            exact ih (i := i + 1) (y9 := nI (i + 1)) (ey9 := rfl) (x9 := wh jj) (ls := ls) (hi9 := by omega) (hn9 := by omega) (hv9 := by rw [← hv9, show 16 - i = (16 - (i + 1)) + 1 by omega, ip_up (fun z => ic_3 (by rw [z])) hb1]) (hl := lv_sub hl [0, 1, 3, 4, 5] rfl)
