theorem dJ7_copyOf_59c91_0 : decode cJ7_copyOf_59c91 0 = .ok (.iload_n 1, 1) := by decide +kernel
theorem dJ7_copyOf_59c91_1 : decode cJ7_copyOf_59c91 1 = .ok (.aload_n 0, 1) := by decide +kernel
theorem dJ7_copyOf_59c91_2 : decode cJ7_copyOf_59c91 2 = .ok (.arraylength, 1) := by decide +kernel
theorem dJ7_copyOf_59c91_3 : decode cJ7_copyOf_59c91 3 = .ok (.if_icmp .ne 11, 3) := by decide +kernel
theorem dJ7_copyOf_59c91_14 : decode cJ7_copyOf_59c91 14 = .ok (.iload_n 1, 1) := by decide +kernel
theorem dJ7_copyOf_59c91_15 : decode cJ7_copyOf_59c91 15 = .ok (.newarray .int, 2) := by decide +kernel
theorem dJ7_copyOf_59c91_17 : decode cJ7_copyOf_59c91 17 = .ok (.astore_n 2, 1) := by decide +kernel
theorem dJ7_copyOf_59c91_18 : decode cJ7_copyOf_59c91 18 = .ok (.aload_n 0, 1) := by decide +kernel
theorem dJ7_copyOf_59c91_19 : decode cJ7_copyOf_59c91 19 = .ok (.iconst 0, 1) := by decide +kernel
theorem dJ7_copyOf_59c91_20 : decode cJ7_copyOf_59c91 20 = .ok (.aload_n 2, 1) := by decide +kernel
theorem dJ7_copyOf_59c91_21 : decode cJ7_copyOf_59c91 21 = .ok (.iconst 0, 1) := by decide +kernel
theorem dJ7_copyOf_59c91_22 : decode cJ7_copyOf_59c91 22 = .ok (.aload_n 0, 1) := by decide +kernel
theorem dJ7_copyOf_59c91_23 : decode cJ7_copyOf_59c91 23 = .ok (.arraylength, 1) := by decide +kernel
theorem dJ7_copyOf_59c91_24 : decode cJ7_copyOf_59c91 24 = .ok (.iload_n 1, 1) := by decide +kernel
theorem dJ7_copyOf_59c91_25 : decode cJ7_copyOf_59c91 25 = .ok (.invokestatic 304, 3) := by decide +kernel
theorem dJ7_copyOf_59c91_28 : decode cJ7_copyOf_59c91 28 = .ok (.invokestatic 150, 3) := by decide +kernel
theorem dJ7_copyOf_59c91_31 : decode cJ7_copyOf_59c91 31 = .ok (.aload_n 2, 1) := by decide +kernel
theorem dJ7_copyOf_59c91_32 : decode cJ7_copyOf_59c91 32 = .ok (.areturn, 1) := by decide +kernel
set_option maxHeartbeats 4000000 in
set_option maxRecDepth 100000 in
/-- Arrays.copyOf -/
theorem c_J7_copyOf (l : Launch) (dC : Nat → ClassId) (dI : Nat → Nat → Nat) (sz : Nat) (k0 : Nat) (ck : ClassId) (L : Nat) (n : Nat) (f : Nat → Int32) (hLn : L < n) (hn4 : n ≤ 4000) : Met l yJ7_copyOf_59c91 wsJ7_copyOf_59c91 ({ frames := 1, cells := 1, slots := n, locals := 60 }) (va_Pc [.ref k0, .int (nI n)] (pk_Pre (dC, dI) [(k0, .inl (ck, L, .inl f))] [(ck, .int)] sz)) (va_Qr (fun (_ : ClassId × (Nat → Int32)) => True) (fun (u : ClassId × (Nat → Int32)) (a : Nat) (t : State) => va_P (dC, dI) vwCl [(k0, .inl (ck, L, .inl f)), (a, .inl (u.1, n, .inl u.2))] t.heap ∧ va_K (dC, dI) vwCl [(ck, .int), (u.1, .int)] t ∧ va_D (va_A [(k0, .inl (ck, L, .inl f))] sz) [(k0, .inl (ck, L, .inl f)), (a, .inl (u.1, n, .inl u.2))]) (va_A [(k0, .inl (ck, L, .inl f))] sz)) 1 n (va_A [(k0, .inl (ck, L, .inl f))] sz) := by
  refine Met.ofW (cc := cJ7_copyOf_59c91) (maxL := 3) (ret := (some (.array .int))) (by decide) rfl ?_
  intro p e s m args below meth c s₁ B hml hv
  obtain ⟨rfl, hsz, hP, hK, hD0⟩ := hv
  have hx := B.exec
  have hb := B.bytes
  have hr := B.returns
  have hts := atoms_spec (ws := wsJ7_copyOf_59c91) B.pre
  have hown : s.vm.findClass RJ7 = some m.cls := findClass_of_methodNamed B.named
  have hlocks := B.notSynchronized
  subst hsz
  have hD := hD0.self (sz := s.heap.size)
  generalize hAe : va_A [(k0, .inl (ck, L, .inl f))] s.heap.size = A at hD ⊢
  have hA : ∀ q : Nat, s.heap.size ≤ q → A q := fun q h => by rw [← hAe]; exact Or.inr h
  have hS : va_S A s.heap s.heap [] := va_S.rf
  have hP : va_P (dC, dI) vwCl [(k0, .inl (ck, L, .inl f))] s.heap := hP
  have hl := lv_entry ([.ref k0, .int (nI n)]) (n := 3) (Nat.le_of_ble_eq_true rfl)
  rw [lg_entry_eq]
  generalize (lg_sl ([.ref k0, .int (nI n)]) ++ List.replicate (3 - (lg_sl ([.ref k0, .int (nI n)])).length) Slot.unset).toArray = ls at hl ⊢
  have hl : lv_has ls 3 [(0, .ref k0), (1, .int (nI n))] := hl
  have hw0_ := hts (.arrayClass .int) (List.mem_of_getElem? (l := wsJ7_copyOf_59c91) (i := 7) rfl)
  have hw1_ := hts (.methodLink RJ7 304 Lib.Math.min.name) (List.mem_of_getElem? (l := wsJ7_copyOf_59c91) (i := 8) rfl)
  have hw2_ := hts (.static Lib.Math.min.name) (List.mem_of_getElem? (l := wsJ7_copyOf_59c91) (i := 9) rfl)
  have hw3_ := hts (.initialized "java/lang/Math") (List.mem_of_getElem? (l := wsJ7_copyOf_59c91) (i := 10) rfl)
  have hw4_ := hts (.methodLink RJ7 150 arraycopyName) (List.mem_of_getElem? (l := wsJ7_copyOf_59c91) (i := 12) rfl)
  have hw5_ := hts (.native arraycopyName) (List.mem_of_getElem? (l := wsJ7_copyOf_59c91) (i := 13) rfl)
  have hw6_ := hts (.static arraycopyName) (List.mem_of_getElem? (l := wsJ7_copyOf_59c91) (i := 14) rfl)
  have hw7_ := hts (.initialized "java/lang/System") (List.mem_of_getElem? (l := wsJ7_copyOf_59c91) (i := 15) rfl)
  refine lv_iload_n hx hb dJ7_copyOf_59c91_0 rfl (lv_at hl 1 rfl) ?_
  refine lv_aload_n hx hb dJ7_copyOf_59c91_1 rfl (lv_at hl 0 rfl) ?_
  refine va_alen (v := nI L) hx hb hK hP 0 0 rfl rfl rfl dJ7_copyOf_59c91_2 ?_
  refine lv_icmp_ne (tgt := 14) hx hb dJ7_copyOf_59c91_3 (by decide) (fun c_1 => ?_) (fun c_1 => absurd c_1 (fun h => absurd ((nI_eq (by omega) (by omega)).mp h) (by omega)))
  refine lv_iload_n hx hb dJ7_copyOf_59c91_14 rfl (lv_at hl 1 rfl) ?_
  refine va_newa (atype := .int) (ty := .int) (n := nI n) (N' := n) (a0 := (n, .inl (fun _ => (0 : Int32)))) hx hb hw0_ rfl hK hP hD hS hA (fun _ => rfl) (Int32.not_lt.mpr (Int32.le_iff_toInt_le.mpr (by rw [nI_toInt (by omega)]; exact Int.ofNat_nonneg _))) (nI_clamp (by omega)) (by show n * 4 ≤ 536870912; omega) (Nat.le_of_ble_eq_true rfl) (show 0 + n ≤ n by omega) dJ7_copyOf_59c91_15 (fun q_2 cA_3 H hK hP hD hS => ?_)
  have hK : va_K (dC, dI) vwCl [(ck, .int), (cA_3, .int)] s := hK
  replace hP : va_P (dC, dI) vwCl [(k0, .inl (ck, L, .inl f)), (q_2, .inl (cA_3, n, .inl (fun _ => (0 : Int32))))] H := hP
  replace hD : va_D A [(k0, .inl (ck, L, .inl f)), (q_2, .inl (cA_3, n, .inl (fun _ => (0 : Int32))))] := hD
  refine W.widen (k := 1) (n := n) (by omega) (by omega) ?_
  refine lv_astore_n (lv' := [(2, .ref q_2), (0, .ref k0), (1, .int (nI n))]) hx hb dJ7_copyOf_59c91_17 rfl hl (by decide) rfl (fun ls hl => ?_)
  refine lv_aload_n hx hb dJ7_copyOf_59c91_18 rfl (lv_at hl 1 rfl) ?_
  refine lv_iconst (v := 0) hx hb dJ7_copyOf_59c91_19 (by decide) ?_
  refine lv_aload_n hx hb dJ7_copyOf_59c91_20 rfl (lv_at hl 0 rfl) ?_
  refine lv_iconst (v := 0) hx hb dJ7_copyOf_59c91_21 (by decide) ?_
  refine lv_aload_n hx hb dJ7_copyOf_59c91_22 rfl (lv_at hl 1 rfl) ?_
  refine va_alen (v := nI L) hx hb hK hP 0 0 rfl rfl rfl dJ7_copyOf_59c91_23 ?_
  refine lv_iload_n hx hb dJ7_copyOf_59c91_24 rfl (lv_at hl 2 rfl) ?_
  refine va_mmin hx hb (hml.trans hl.1.symm) hown hw1_ hw2_ hw3_ (hts (.code Lib.Math.min.name Lib.Math.min.code 2 (some .int)) (List.mem_of_getElem? (l := wsJ7_copyOf_59c91) (i := 11) rfl)) (Nat.le_of_ble_eq_true rfl) (Nat.le_of_ble_eq_true rfl) (Nat.le_of_ble_eq_true rfl) (show n ≤ n by omega) dJ7_copyOf_59c91_25 ?_
  refine lv_topi (fun z_4 ez_4 => ?_)
  have jz_4 := mm_min ez_4
  refine W.eq (g2 := F0 m 28 ls [.int z_4, .int 0, .ref q_2, .int 0, .ref k0]) rfl ?_
  obtain rfl : z_4 = nI L := (jz_4.resolve_right (fun h => absurd h.2 (by rw [nI_toInt (by omega), nI_toInt (by omega)]; omega))).1
  have hcp_ : va_cpy f (fun _ => (0 : Int32)) (0 : Int32).toNatClampNeg (0 : Int32).toNatClampNeg (nI L : Int32).toNatClampNeg = va_cpy f (fun _ => (0 : Int32)) 0 0 L := by rw [show (0 : Int32).toNatClampNeg = 0 from rfl, nI_clamp (n := L) (by omega)]
  refine va_copyi (sp := 0) (dp := 0) (n := nI L) (ty := .int) hx hb (hml.trans hl.1.symm) hown hw4_ hw5_ hw6_ hw7_ hK hP hD hS 0 1 0 1 rfl rfl rfl rfl rfl (by decide) (by decide) (nI_n0 (by omega)) (by rw [show (0 : Int32).toNatClampNeg = 0 from rfl, nI_clamp (n := L) (by omega)]; omega) (by rw [show (0 : Int32).toNatClampNeg = 0 from rfl, nI_clamp (n := L) (by omega)]; omega) (fun _ _ => rfl) (Nat.le_of_ble_eq_true rfl) (Nat.le_of_ble_eq_true rfl) dJ7_copyOf_59c91_28 (fun H locs hP hD hS => ?_)
  rw [hcp_] at hP hD
  replace hP : va_P (dC, dI) vwCl [(k0, .inl (ck, L, .inl f)), (q_2, .inl (cA_3, n, .inl (va_cpy f (fun _ => (0 : Int32)) 0 0 L)))] H := hP
  replace hD : va_D A [(k0, .inl (ck, L, .inl f)), (q_2, .inl (cA_3, n, .inl (va_cpy f (fun _ => (0 : Int32)) 0 0 L)))] := hD
  refine lv_aload_n hx hb dJ7_copyOf_59c91_31 rfl (lv_at hl 0 rfl) ?_
  have hP9 := hP.sub (ws' := [(k0, .inl (ck, L, .inl f)), (q_2, .inl (cA_3, n, .inl (va_cpy f (fun _ => (0 : Int32)) 0 0 L)))]) [0, 1] rfl
  have hD9 := hD.sub (ws' := [(k0, .inl (ck, L, .inl f)), (q_2, .inl (cA_3, n, .inl (va_cpy f (fun _ => (0 : Int32)) 0 0 L)))]) [0, 1] (by decide) rfl
  have hK9 := hK.sub (tys' := [(ck, .int), (cA_3, .int)]) [0, 1] rfl
  refine W.widen (k := 1) (n := n) (by omega) (by omega) ?_
  exact W.aret (v := .ref q_2) hx hb hr (Or.inr ⟨_, rfl⟩) (Or.inr ⟨_, rfl⟩) (fun t ht hW => ⟨⟨(cA_3, (va_cpy f (fun _ => (0 : Int32)) 0 0 L)), q_2, rfl, trivial, by rw [ht]; exact hP9, va_K.moved hW.alike hK9, hD9⟩, hS.F ht⟩) hS.2.2 dJ7_copyOf_59c91_32
