theorem dX7_drop_5 : decode cX7_drop 5 = .ok (.pop, 1) := by decide +kernel
theorem dX7_drop_6 : decode cX7_drop 6 = .ok (.bipush 16, 2) := by decide +kernel
theorem dX7_drop_8 : decode cX7_drop 8 = .ok (.newarray .boolean, 2) := by decide +kernel
theorem dX7_drop_10 : decode cX7_drop 10 = .ok (.astore_n 2, 1) := by decide +kernel
theorem dX7_drop_11 : decode cX7_drop 11 = .ok (.iconst 0, 1) := by decide +kernel
theorem dX7_drop_12 : decode cX7_drop 12 = .ok (.istore_n 3, 1) := by decide +kernel
theorem dX7_drop_13 : decode cX7_drop 13 = .ok (.iload_n 3, 1) := by decide +kernel
theorem dX7_drop_14 : decode cX7_drop 14 = .ok (.bipush 16, 2) := by decide +kernel
theorem dX7_drop_16 : decode cX7_drop 16 = .ok (.if_icmp .ge 18, 3) := by decide +kernel
theorem dX7_drop_34 : decode cX7_drop 34 = .ok (.iconst 0, 1) := by decide +kernel
theorem dX7_drop_35 : decode cX7_drop 35 = .ok (.istore_n 3, 1) := by decide +kernel
theorem dX7_drop_36 : decode cX7_drop 36 = .ok (.iconst 0, 1) := by decide +kernel
theorem dX7_drop_37 : decode cX7_drop 37 = .ok (.istore 4, 2) := by decide +kernel
theorem dX7_drop_39 : decode cX7_drop 39 = .ok (.iload 4, 2) := by decide +kernel
theorem dX7_drop_41 : decode cX7_drop 41 = .ok (.bipush 16, 2) := by decide +kernel
theorem dX7_drop_43 : decode cX7_drop 43 = .ok (.if_icmp .ge 27, 3) := by decide +kernel
theorem dX7_drop_70 : decode cX7_drop 70 = .ok (.iload_n 3, 1) := by decide +kernel
theorem dX7_drop_71 : decode cX7_drop 71 = .ok (.ireturn, 1) := by decide +kernel
theorem dX7_drop_46 : decode cX7_drop 46 = .ok (.aload_n 2, 1) := by decide +kernel
theorem dX7_drop_47 : decode cX7_drop 47 = .ok (.iload 4, 2) := by decide +kernel
theorem dX7_drop_49 : decode cX7_drop 49 = .ok (.baload, 1) := by decide +kernel
theorem dX7_drop_50 : decode cX7_drop 50 = .ok (.ifCond .eq 14, 3) := by decide +kernel
theorem dX7_drop_64 : decode cX7_drop 64 = .ok (.iinc 4 1, 3) := by decide +kernel
theorem dX7_drop_67 : decode cX7_drop 67 = .ok (.goto (-28), 3) := by decide +kernel
theorem dX7_drop_53 : decode cX7_drop 53 = .ok (.aload_n 0, 1) := by decide +kernel
theorem dX7_drop_54 : decode cX7_drop 54 = .ok (.getfield 11, 3) := by decide +kernel
theorem dX7_drop_57 : decode cX7_drop 57 = .ok (.iload 4, 2) := by decide +kernel
theorem dX7_drop_59 : decode cX7_drop 59 = .ok (.aconst_null, 1) := by decide +kernel
theorem dX7_drop_60 : decode cX7_drop 60 = .ok (.aastore, 1) := by decide +kernel
theorem dX7_drop_61 : decode cX7_drop 61 = .ok (.iinc 3 1, 3) := by decide +kernel
theorem dX7_drop_19 : decode cX7_drop 19 = .ok (.aload_n 2, 1) := by decide +kernel
theorem dX7_drop_20 : decode cX7_drop 20 = .ok (.iload_n 3, 1) := by decide +kernel
theorem dX7_drop_21 : decode cX7_drop 21 = .ok (.aload_n 0, 1) := by decide +kernel
theorem dX7_drop_22 : decode cX7_drop 22 = .ok (.iload_n 3, 1) := by decide +kernel
theorem dX7_drop_23 : decode cX7_drop 23 = .ok (.iload_n 1, 1) := by decide +kernel
set_option maxRecDepth 20000 in
theorem ggX7_drop_X7_isPartOf : GoodIn wqX7_drop wsX7_isPartOf := goodIn_r _ [17, 18, 10, 11, 12, 6, 13, 2, 20, 21, 22, 23, 24, 25, 26, 27, 28, 29, 30, 31, 32, 33, 34, 35, 36, 37, 38, 39, 40, 41, 42, 43, 44, 19] rfl (by decide +kernel)
set_option maxRecDepth 20000 in
theorem gX7_drop_X7_isPartOf : GoodIn wqX7_drop (wsV RX7 45 RX7 yX7_isPartOf wsX7_isPartOf) := goodIn_app (goodIn_of _ (by decide +kernel)) ggX7_drop_X7_isPartOf
theorem dX7_drop_24 : decode cX7_drop 24 = .ok (.invokevirtual 45, 3) := by decide +kernel
theorem dX7_drop_27 : decode cX7_drop 27 = .ok (.bastore, 1) := by decide +kernel
theorem dX7_drop_28 : decode cX7_drop 28 = .ok (.iinc 3 1, 3) := by decide +kernel
theorem dX7_drop_31 : decode cX7_drop 31 = .ok (.goto (-18), 3) := by decide +kernel
set_option maxHeartbeats 4000000 in
set_option maxRecDepth 100000 in
/-- drop -/
theorem c_X7_drop (l : Launch) (hlt : l.stackTraces = false) (dC : Nat → ClassId) (dI : Nat → Nat → Nat) (sz : Nat) (a0 : Nat) (qb : Nat) (cq : ClassId) (bq : Nat → Option Nat) (wh : Nat → Int32) (o : Nat) (y0 : Nat) (ho9 : o < 16) (hbo : bq o = some y0) (hya : ∀ j y : Nat, j < 16 → bq j = some y → y ≠ a0 ∧ y ≠ qb) : vx_Met l yX7_drop wqX7_drop ({ frames := 7, cells := 2, slots := 22, locals := 140 }) (va_Pc [.ref a0, .int (nI o)] (pk_PreXB (dC, dI) [(a0, .inr (7, [.ref qb])), (qb, .inl (cq, 16, .inr (.inr (.inr (.inr bq)))))] [(cq, .object "KeyAtlas$Body")] bq wh sz)) (va_Qi (fun (x : Int32) (u : Nat → Option Nat) => x = nI (cntN (fun j => ipN bq wh 16 (nI j) (nI o)) 16) ∧ ∀ j : Nat, u j = if j < 16 ∧ ipN bq wh 16 (nI j) (nI o) = true then none else bq j) (fun (u : Nat → Option Nat) (t : State) => va_P (dC, dI) vwCl [(a0, .inr (7, [.ref qb])), (qb, .inl (cq, 16, .inr (.inr (.inr (.inr u)))))] t.heap ∧ va_K (dC, dI) vwCl [(cq, .object "KeyAtlas$Body")] t ∧ va_D (va_A [(a0, .inr (7, [.ref qb])), (qb, .inl (cq, 16, .inr (.inr (.inr (.inr bq)))))] sz) [(a0, .inr (7, [.ref qb])), (qb, .inl (cq, 16, .inr (.inr (.inr (.inr u)))))]) (va_A [(a0, .inr (7, [.ref qb])), (qb, .inl (cq, 16, .inr (.inr (.inr (.inr bq)))))] sz)) (vx_X (fun _ : Unit => True) (fun (E : String) (_ : Unit) (t : State) => False) (va_A [(a0, .inr (7, [.ref qb])), (qb, .inl (cq, 16, .inr (.inr (.inr (.inr bq)))))] sz)) 2 22 (va_A [(a0, .inr (7, [.ref qb])), (qb, .inl (cq, 16, .inr (.inr (.inr (.inr bq)))))] sz) := by
  refine vx_ofW (cc := cX7_drop) (maxL := 5) (ret := (some .int)) (by decide) rfl ?_
  intro p e s m args below meth c s₁ B hml htab hv
  obtain ⟨rfl, ⟨hsz, hP, hK, hD0, hN, hZ⟩, hBW⟩ := hv
  have hx := B.exec
  have hb := B.bytes
  have hr := B.returns
  have hts := atoms_spec (ws := wqX7_drop) B.pre
  have hown : s.vm.findClass RX7 = some m.cls := findClass_of_methodNamed B.named
  have hlocks := B.notSynchronized
  subst hsz
  have hD := hD0.self (sz := s.heap.size)
  generalize hAe : va_A [(a0, .inr (7, [.ref qb])), (qb, .inl (cq, 16, .inr (.inr (.inr (.inr bq)))))] s.heap.size = A at hZ hD ⊢
  have hA : ∀ q : Nat, s.heap.size ≤ q → A q := fun q h => by rw [← hAe]; exact Or.inr h
  have hS : va_S A s.heap s.heap [] := va_S.rf
  have hP : va_P (dC, dI) vwCl [(a0, .inr (7, [.ref qb])), (qb, .inl (cq, 16, .inr (.inr (.inr (.inr bq)))))] s.heap := hP
  have hl := lv_entry ([.ref a0, .int (nI o)]) (n := 5) (Nat.le_of_ble_eq_true rfl)
  rw [lg_entry_eq]
  generalize (lg_sl ([.ref a0, .int (nI o)]) ++ List.replicate (5 - (lg_sl ([.ref a0, .int (nI o)])).length) Slot.unset).toArray = ls at hl ⊢
  have hl : lv_has ls 5 [(0, .ref a0), (1, .int (nI o))] := hl
  have hw0_ := hts (.arrayClass .boolean) (List.mem_of_getElem? (l := wqX7_drop) (i := 1) rfl)
  have hw1_ := hts (.fieldLink RX7 11 "KeyAtlas" "bodies" "[LKeyAtlas$Body;") (List.mem_of_getElem? (l := wqX7_drop) (i := 2) rfl)
  have hi0_ : ∀ w ∈ u_ws RX7 TX7 1, w ∈ wqX7_drop := fun w h => List.mem_cons_of_mem _ (List.mem_append_left _ (List.mem_append_left _ (List.mem_append_left _ (List.mem_append_left _ (List.mem_append_left _ (List.mem_append_right _ h))))))
  have hnA : ∀ j y : Nat, j < 16 → bq j = some y → ¬ A y := fun j y hj hy hc => by
    rw [← hAe] at hc
    rcases hc with ⟨k, e, hk⟩ | hk
    · match k, hk with
      | 0, hk => cases hk; exact (hya j _ hj hy).1 rfl
      | 1, hk => cases hk; exact (hya j _ hj hy).2 rfl
      | k + 2, hk => simp at hk
    · exact Nat.not_le.mpr (hBW j y hj hy).lt hk
  refine lv_aload_n hx hb dX7_drop_0 rfl (lv_at hl 0 rfl) ?_
  refine lv_iload_n hx hb dX7_drop_1 rfl (lv_at hl 1 rfl) ?_
  have hPc := hP.sub (ws' := [(a0, .inr (7, [.ref qb])), (qb, .inl (cq, 16, .inr (.inr (.inr (.inr bq)))))]) [0, 1] rfl
  have hKc := hK.sub (tys' := [(cq, .object "KeyAtlas$Body")]) [0] rfl
  refine rox_callr (B := (fun (_ : Unit) (a : Nat) (t : State) => t.heap.size = s.heap.size ∧ ∃ j : Nat, j < 16 ∧ nI o = nI j ∧ bq j = some a)) (fun u9 x9 t9 h9 => h9.1) (vx_runV (As := [.int (nI o)]) (rest := []) ⟨hx, hb, hml, hown, hts⟩ (c_X7_bodyAt l hlt dC dI s.heap.size a0 qb cq bq (nI o)) (cwV 1 hts gX7_drop_X7_bodyAt rfl rfl rfl (by decide +kernel) ⟨(Nat.le_of_ble_eq_true rfl), (Nat.le_of_ble_eq_true rfl)⟩) ⟨pk_blindXR, va_recv hKc hPc (ci := 7) (q0 := 0) rfl rfl, pk_callXR hPc hKc hN ((hZ.kept hS.2.1).narrow (fun q h9 => hA q (Nat.le_trans hS.1 h9)))⟩ rfl rfl hl.1 rfl (lv_room (Nat.le_of_ble_eq_true rfl)) dX7_drop_2 ⟨(Nat.le_of_ble_eq_true rfl), (Nat.le_of_ble_eq_true rfl)⟩) hS (fun q h9 => hA q (Nat.le_trans hS.1 h9)) (fun E ce q9 u9 t H1 locs ht hvm hw hB hz1 hk1 hS hce hcv hcl => ?_) (fun r_1 ur_1 t9 locs hw hB9 hS => ?_)
  ·
    try dsimp only at hB
    exact bq_no ho9 hbo hB.2
  ·
    refine W.tight (k := 0) (n := 0) (Nat.le_refl _) (Nat.le_refl _) ?_
    clear hPc hKc
    try dsimp only at hw
    have jr_1 := hw
    refine W.eq (g2 := F0 m 5 ls [.ref y0]) (by rw [show r_1 = y0 from bq_is ho9 hbo hB9.2]) ?_
    refine lv_pop hx hb dX7_drop_5 rfl ?_
    refine lv_bipush (v := 16) hx hb dX7_drop_6 (by decide) ?_
    have hS0_ := hS
    clear hS
    refine va_newa (atype := .boolean) (ty := .boolean) (n := 16) (N' := 16) (a0 := (16, .inl (fun _ => (0 : Int32)))) hx hb hw0_ rfl hK hP hD hS0_ hA (fun _ => rfl) (by decide) (by decide) (by decide) (Nat.le_of_ble_eq_true rfl) (Nat.le_of_ble_eq_true rfl) dX7_drop_8 (fun q_2 cA_3 H hK hP hD hS => ?_)
    clear hS0_
    have hK : va_K (dC, dI) vwCl [(cq, .object "KeyAtlas$Body"), (cA_3, .boolean)] s := hK
    replace hP : va_P (dC, dI) vwCl [(a0, .inr (7, [.ref qb])), (qb, .inl (cq, 16, .inr (.inr (.inr (.inr bq))))), (q_2, .inl (cA_3, 16, .inl (fun _ => (0 : Int32))))] H := hP
    replace hD : va_D A [(a0, .inr (7, [.ref qb])), (qb, .inl (cq, 16, .inr (.inr (.inr (.inr bq))))), (q_2, .inl (cA_3, 16, .inl (fun _ => (0 : Int32))))] := hD
    refine W.widen (k := 1) (n := 16) (Nat.le_of_ble_eq_true rfl) (Nat.le_of_ble_eq_true rfl) ?_
    refine lv_astore_n (lv' := [(2, .ref q_2), (0, .ref a0), (1, .int (nI o))]) hx hb dX7_drop_10 rfl hl (by decide) rfl (fun ls hl => ?_)
    refine lv_iconst (v := 0) hx hb dX7_drop_11 (by decide) ?_
    refine lv_istore_n (lv' := [(3, .int 0), (2, .ref q_2), (0, .ref a0), (1, .int (nI o))]) hx hb dX7_drop_12 rfl hl (by decide) rfl (fun ls hl => ?_)
    obtain ⟨i, es_i⟩ : ∃ z : Nat, z = 0 := ⟨_, rfl⟩
    obtain ⟨x9, ex9⟩ : ∃ y : Int32, y = nI i := ⟨_, rfl⟩
    obtain ⟨gf, ef_gf⟩ : ∃ z : Nat → Int32, z = (fun _ => (0 : Int32)) := ⟨_, rfl⟩
    obtain ⟨n9A, en9⟩ : ∃ n : Nat, n = 17 := ⟨_, rfl⟩
    replace hl : lv_has ls 5 [(3, .int x9), (2, .ref q_2), (0, .ref a0), (1, .int (nI o))] := by subst ex9; subst es_i; exact hl
    replace hP : va_P (dC, dI) vwCl [(a0, .inr (7, [.ref qb])), (qb, .inl (cq, 16, .inr (.inr (.inr (.inr bq))))), (q_2, .inl (cA_3, 16, .inl gf))] H := by subst ef_gf; exact hP
    replace hD : va_D A [(a0, .inr (7, [.ref qb])), (qb, .inl (cq, 16, .inr (.inr (.inr (.inr bq))))), (q_2, .inl (cA_3, 16, .inl gf))] := by subst ef_gf; exact hD
    have hi9 : i ≤ 16 := by subst ex9; subst es_i; subst ef_gf; subst en9; exact by omega
    have hn9 : 17 ≤ i + n9A := by subst ex9; subst es_i; subst ef_gf; subst en9; exact by omega
    have hv9 : ∀ j : Nat, j < i → gf j = tz (ipN bq wh 16 (nI j) (nI o)) := by subst ex9; subst es_i; subst ef_gf; subst en9; exact fun j h => absurd h (Nat.not_lt_zero j)
    clear en9 es_i ef_gf
    induction n9A generalizing i x9 ls H locs gf with
    | zero => exact absurd hn9 (by omega)
    | succ n9A ihA =>
      subst ex9
      refine lv_iload_n hx hb dX7_drop_13 rfl (lv_at hl 0 rfl) ?_
      refine lv_bipush (v := 16) hx hb dX7_drop_14 (by decide) ?_
      refine lv_icmp_ge (tgt := 34) hx hb dX7_drop_16 (by decide) (fun c_4 => ?_) (fun c_4 => ?_)
      ·
        have ic_4 : 16 ≤ ((i : Nat) : Int) := tx_le (by decide) (nI_toInt (by omega)) c_4
        refine lv_iconst (v := 0) hx hb dX7_drop_34 (by decide) ?_
        refine lv_istore_n (lv' := [(3, .int 0), (2, .ref q_2), (0, .ref a0), (1, .int (nI o))]) hx hb dX7_drop_35 rfl hl (by decide) rfl (fun ls hl => ?_)
        refine lv_iconst (v := 0) hx hb dX7_drop_36 (by decide) ?_
        refine lv_istore (lv' := [(4, .int 0), (3, .int 0), (2, .ref q_2), (0, .ref a0), (1, .int (nI o))]) hx hb dX7_drop_37 hl (by decide) rfl (fun ls hl => ?_)
        obtain ⟨k, es_k⟩ : ∃ z : Nat, z = 0 := ⟨_, rfl⟩
        obtain ⟨x4, ex4⟩ : ∃ y : Int32, y = nI k := ⟨_, rfl⟩
        obtain ⟨g9, es_g9⟩ : ∃ z : Int32, z = 0 := ⟨_, rfl⟩
        obtain ⟨bg, ef_bg⟩ : ∃ z : Nat → Option Nat, z = bq := ⟨_, rfl⟩
        obtain ⟨n9B, en9⟩ : ∃ n : Nat, n = 17 := ⟨_, rfl⟩
        replace hl : lv_has ls 5 [(4, .int x4), (3, .int g9), (2, .ref q_2), (0, .ref a0), (1, .int (nI o))] := by subst ex4; subst es_k; subst es_g9; exact hl
        replace hP : va_P (dC, dI) vwCl [(a0, .inr (7, [.ref qb])), (qb, .inl (cq, 16, .inr (.inr (.inr (.inr bg))))), (q_2, .inl (cA_3, 16, .inl gf))] H := by subst ef_bg; exact hP
        replace hD : va_D A [(a0, .inr (7, [.ref qb])), (qb, .inl (cq, 16, .inr (.inr (.inr (.inr bg))))), (q_2, .inl (cA_3, 16, .inl gf))] := by subst ef_bg; exact hD
        have hi8 : k ≤ 16 := by subst ex4; subst es_k; subst es_g9; subst ef_bg; subst en9; exact by omega
        have hn8 : 17 ≤ k + n9B := by subst ex4; subst es_k; subst es_g9; subst ef_bg; subst en9; exact by omega
        have hv8 : ∀ j : Nat, bg j = if j < k ∧ ipN bq wh 16 (nI j) (nI o) = true then none else bq j := by subst ex4; subst es_k; subst es_g9; subst ef_bg; subst en9; exact fun j => (if_neg (fun z => absurd z.1 (Nat.not_lt_zero _))).symm
        have hg8 : g9 = nI (cntN (fun j => ipN bq wh 16 (nI j) (nI o)) k) := by subst ex4; subst es_k; subst es_g9; subst ef_bg; subst en9; exact rfl
        clear en9 es_k es_g9 ef_bg
        induction n9B generalizing k x4 g9 ls H locs bg with
        | zero => exact absurd hn8 (by omega)
        | succ n9B ihB =>
          subst ex4
          refine lv_iload hx hb dX7_drop_39 (lv_at hl 0 rfl) ?_
          refine lv_bipush (v := 16) hx hb dX7_drop_41 (by decide) ?_
          refine lv_icmp_ge (tgt := 70) hx hb dX7_drop_43 (by decide) (fun c_5 => ?_) (fun c_5 => ?_)
          ·
            have ic_5 : 16 ≤ ((k : Nat) : Int) := tx_le (by decide) (nI_toInt (by omega)) c_5
            refine lv_iload_n hx hb dX7_drop_70 rfl (lv_at hl 1 rfl) ?_
            obtain rfl : k = 16 := by omega
            have hP9 := hP.sub (ws' := [(a0, .inr (7, [.ref qb])), (qb, .inl (cq, 16, .inr (.inr (.inr (.inr bg)))))]) [0, 1] rfl
            have hD9 := hD.sub (ws' := [(a0, .inr (7, [.ref qb])), (qb, .inl (cq, 16, .inr (.inr (.inr (.inr bg)))))]) [0, 1] (by decide) rfl
            have hK9 := hK.sub (tys' := [(cq, .object "KeyAtlas$Body")]) [0] rfl
            refine W.widen (k := 2) (n := 22) (Nat.le_of_ble_eq_true rfl) (Nat.le_of_ble_eq_true rfl) ?_
            refine vx_ret ?_
            exact W.iret (v := g9) hx hb hr (fun t ht hW => ⟨⟨g9, bg, rfl, ⟨hg8, hv8⟩, by rw [ht]; exact hP9, va_K.moved hW.alike hK9, hD9⟩, hS.F ht⟩) hS.2.2 dX7_drop_71
          ·
            have ic_5 : ((k : Nat) : Int) < 16 := tx_nle (by decide) (nI_toInt (by omega)) c_5
            refine lv_aload_n hx hb dX7_drop_46 rfl (lv_at hl 2 rfl) ?_
            refine lv_iload hx hb dX7_drop_47 (lv_at hl 0 rfl) ?_
            refine va_zald (i := nI k) hx hb hK hP 2 1 rfl rfl (vp_in_nI (by omega) (by omega)) dX7_drop_49 ?_
            refine W.eq (g2 := F0 m 50 ls [.int (gf k)]) (by rw [nI_clamp (by omega)]) ?_
            refine lv_if_eq (tgt := 64) hx hb dX7_drop_50 (by decide) (fun c_6 => ?_) (fun c_6 => ?_)
            ·
              have ic_6 : (gf k).toInt = 0 := tx_eq rfl (by decide) c_6
              refine lv_iinc (v := nI (k + 1)) (lv' := [(4, .int (nI (k + 1))), (3, .int g9), (2, .ref q_2), (0, .ref a0), (1, .int (nI o))]) hx hb dX7_drop_64 hl (k := 0) rfl (by rw [show Int32.ofInt 1 = nI 1 from rfl, nI_add]) (by decide) rfl (fun ls hl => ?_)
              refine lv_goto (tgt := 39) hx hb dX7_drop_67 (by decide) ?_
              exact ihB (k := k + 1) (x4 := nI (k + 1)) (ex4 := rfl) (g9 := g9) (ls := ls) (bg := bg) (H := H) (locs := locs) (hP := hP.sub (ws' := [(a0, .inr (7, [.ref qb])), (qb, .inl (cq, 16, .inr (.inr (.inr (.inr bg))))), (q_2, .inl (cA_3, 16, .inl gf))]) [0, 1, 2] rfl) (hS := hS) (hD := hD.sub (ws' := [(a0, .inr (7, [.ref qb])), (qb, .inl (cq, 16, .inr (.inr (.inr (.inr bg))))), (q_2, .inl (cA_3, 16, .inl gf))]) [0, 1, 2] (by decide) rfl) (hi8 := by omega) (hn8 := by omega) (hv8 := fun j => up_no hv8 (tz_0 (by rw [← hv9 k (by omega)]; exact ic_6))) (hg8 := by rw [cnt_f (f := fun j => ipN bq wh 16 (nI j) (nI o)) (tz_0 (by rw [← hv9 k (by omega)]; exact ic_6)), Nat.add_zero]; exact hg8) (hl := lv_sub hl [0, 1, 2, 3, 4] rfl)
            ·
              have ic_6 : ¬ (gf k).toInt = 0 := tx_ne rfl (by decide) c_6
              refine lv_aload_n hx hb dX7_drop_53 rfl (lv_at hl 3 rfl) ?_
              refine va_get (D := (dC, dI)) (ci := 7) (v := .ref qb) (C := RX7) (T := TX7) (N := 1) hx hb hts hi0_ hown hK hP 0 rfl rfl 0 (by decide) hw1_ (fun _ h9 => h9) rfl dX7_drop_54 ?_
              refine lv_iload hx hb dX7_drop_57 (lv_at hl 0 rfl) ?_
              refine lv_null hx hb dX7_drop_59 ?_
              refine va_astqN (i := nI k) hx hb hK hP hD hS 1 0 rfl rfl (vp_in_nI (by omega) (by omega)) dX7_drop_60 (fun H locs hP hD hS => ?_)
              rw [nI_clamp (by omega)] at hP hD
              replace hP : va_P (dC, dI) vwCl [(a0, .inr (7, [.ref qb])), (qb, .inl (cq, 16, .inr (.inr (.inr (.inr (va_up bg k (none))))))), (q_2, .inl (cA_3, 16, .inl gf))] H := hP
              replace hD : va_D A [(a0, .inr (7, [.ref qb])), (qb, .inl (cq, 16, .inr (.inr (.inr (.inr (va_up bg k (none))))))), (q_2, .inl (cA_3, 16, .inl gf))] := hD
              refine lv_iinc (v := g9 + 1) (lv' := [(3, .int (g9 + 1)), (4, .int (nI k)), (2, .ref q_2), (0, .ref a0), (1, .int (nI o))]) hx hb dX7_drop_61 hl (k := 1) rfl rfl (by decide) rfl (fun ls hl => ?_)
              refine lv_iinc (v := nI (k + 1)) (lv' := [(4, .int (nI (k + 1))), (3, .int (g9 + 1)), (2, .ref q_2), (0, .ref a0), (1, .int (nI o))]) hx hb dX7_drop_64 hl (k := 1) rfl (by rw [show Int32.ofInt 1 = nI 1 from rfl, nI_add]) (by decide) rfl (fun ls hl => ?_)
              refine lv_goto (tgt := 39) hx hb dX7_drop_67 (by decide) ?_
              exact ihB (k := k + 1) (x4 := nI (k + 1)) (ex4 := rfl) (g9 := g9 + 1) (ls := ls) (bg := (va_up bg k (none))) (H := H) (locs := locs) (hP := hP.sub (ws' := [(a0, .inr (7, [.ref qb])), (qb, .inl (cq, 16, .inr (.inr (.inr (.inr (va_up bg k (none))))))), (q_2, .inl (cA_3, 16, .inl gf))]) [0, 1, 2] rfl) (hS := hS) (hD := hD.sub (ws' := [(a0, .inr (7, [.ref qb])), (qb, .inl (cq, 16, .inr (.inr (.inr (.inr (va_up bg k (none))))))), (q_2, .inl (cA_3, 16, .inl gf))]) [0, 1, 2] (by decide) rfl) (hi8 := by omega) (hn8 := by omega) (hv8 := fun j => up_if hv8 (tz_1 (by rw [← hv9 k (by omega)]; exact ic_6))) (hg8 := by rw [cnt_t (f := fun j => ipN bq wh 16 (nI j) (nI o)) (tz_1 (by rw [← hv9 k (by omega)]; exact ic_6)), hg8]; exact nI_1 _) (hl := lv_sub hl [0, 1, 2, 3, 4] rfl)
      ·
        have ic_4 : ((i : Nat) : Int) < 16 := tx_nle (by decide) (nI_toInt (by omega)) c_4
        refine lv_aload_n hx hb dX7_drop_19 rfl (lv_at hl 1 rfl) ?_
        refine lv_iload_n hx hb dX7_drop_20 rfl (lv_at hl 0 rfl) ?_
        refine lv_aload_n hx hb dX7_drop_21 rfl (lv_at hl 2 rfl) ?_
        refine lv_iload_n hx hb dX7_drop_22 rfl (lv_at hl 0 rfl) ?_
        refine lv_iload_n hx hb dX7_drop_23 rfl (lv_at hl 3 rfl) ?_
        have hPc := hP.sub (ws' := [(a0, .inr (7, [.ref qb])), (qb, .inl (cq, 16, .inr (.inr (.inr (.inr bq)))))]) [0, 1] rfl
        have hKc := hK.sub (tys' := [(cq, .object "KeyAtlas$Body")]) [0] rfl
        refine ro_calli (va_runV (As := [.int (nI i), .int (nI o)]) (rest := [.int (nI i), .ref q_2]) ⟨hx, hb, hml, hown, hts⟩ (c_X7_isPartOf l  dC dI H.size a0 qb cq bq wh (nI i) (nI o)) (cwV 2 hts gX7_drop_X7_isPartOf rfl rfl rfl (by decide +kernel) ⟨(Nat.le_of_ble_eq_true rfl), (Nat.le_of_ble_eq_true rfl)⟩) ⟨pk_blindRB, va_recv hKc hPc (ci := 7) (q0 := 0) rfl rfl, pk_callRB hPc hKc (bdW_kept hBW hnA hS)⟩ rfl rfl hl.1 rfl (lv_room (Nat.le_of_ble_eq_true rfl)) dX7_drop_24 ⟨(Nat.le_of_ble_eq_true rfl), (Nat.le_of_ble_eq_true rfl)⟩) (fun r_7 ur_7 hw => ?_)
        clear hPc hKc
        try dsimp only at hw
        have jr_7 := hw
        refine W.eq (g2 := F0 m 27 ls [.int r_7, .int (nI i), .ref q_2]) rfl ?_
        refine va_zast (i := nI i) hx hb hK hP hD hS 2 1 rfl rfl (vp_in_nI (by omega) (by omega)) dX7_drop_27 (fun H locs hP hD hS => ?_)
        rw [nI_clamp (by omega)] at hP hD
        replace hP : va_P (dC, dI) vwCl [(a0, .inr (7, [.ref qb])), (qb, .inl (cq, 16, .inr (.inr (.inr (.inr bq))))), (q_2, .inl (cA_3, 16, .inl (upd gf i (vp_nar .boolean r_7))))] H := hP
        replace hD : va_D A [(a0, .inr (7, [.ref qb])), (qb, .inl (cq, 16, .inr (.inr (.inr (.inr bq))))), (q_2, .inl (cA_3, 16, .inl (upd gf i (vp_nar .boolean r_7))))] := hD
        refine lv_iinc (v := nI (i + 1)) (lv' := [(3, .int (nI (i + 1))), (2, .ref q_2), (0, .ref a0), (1, .int (nI o))]) hx hb dX7_drop_28 hl (k := 0) rfl (by rw [show Int32.ofInt 1 = nI 1 from rfl, nI_add]) (by decide) rfl (fun ls hl => ?_)
        refine lv_goto (tgt := 13) hx hb dX7_drop_31 (by decide) ?_
        exact ihA (i := i + 1) (x9 := nI (i + 1)) (ex9 := rfl) (ls := ls) (gf := (upd gf i (vp_nar .boolean r_7))) (H := H) (locs := locs) (hP := hP.sub (ws' := [(a0, .inr (7, [.ref qb])), (qb, .inl (cq, 16, .inr (.inr (.inr (.inr bq))))), (q_2, .inl (cA_3, 16, .inl (upd gf i (vp_nar .boolean r_7))))]) [0, 1, 2] rfl) (hS := hS) (hD := hD.sub (ws' := [(a0, .inr (7, [.ref qb])), (qb, .inl (cq, 16, .inr (.inr (.inr (.inr bq))))), (q_2, .inl (cA_3, 16, .inl (upd gf i (vp_nar .boolean r_7))))]) [0, 1, 2] (by decide) rfl) (hi9 := by omega) (hn9 := by omega) (hv9 := fun j h => by rcases (show j < i ∨ j = i by omega) with h1 | h1; rw [pk_un (by omega)]; exact hv9 j h1; rw [h1, pk_us, jr_7, tz_nar]) (hl := lv_sub hl [0, 1, 2, 3] rfl)
