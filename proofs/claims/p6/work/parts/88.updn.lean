set_option maxRecDepth 20000 in
theorem updN_mkH {D : va_G} {U : State} {H H1 : Heap} {a0 qb : Nat} {cq : ClassId} {bq : Nat → Option Nat} {ow rx cr cr1 : Nat → Nat} {a1 a4 a8 a11 : Nat → Int32} {xx : Nat} {bq2 : Nat → Option Nat} {yn : Nat} {xn : Nat} {kn : Nat} {wn : Nat} {bn : Nat} {ckn : ClassId} {cwn : ClassId} {cbn : ClassId} {p1 : Int32} {p2 : Int32} (hI : aI D U H a0 qb cq bq ow rx cr a1 a4 a8 a11) (hF : ∀ q : Nat, q < H.size → ¬ va_A [(a0, .inr (7, [.ref qb])), (qb, .inl (cq, 16, .inr (.inr (.inr (.inr bq)))))] H.size q → H1[q]? = H[q]?) (hP : va_P D vwCl [(a0, .inr (7, [.ref qb])), (qb, .inl (cq, 16, .inr (.inr (.inr (.inr bq2))))), (yn, .inr (3, [.ref xn, .int 0, .int (-1), .int p1, .int p2, .int (nI 0), .ref bn])), (xn, .inr (5, [.ref kn, .ref wn, .int (nI 0), .int 0])), (kn, .inl (ckn, 16, .inl (fun _ => (0 : Int32)))), (wn, .inl (cwn, 16, .inl (fun _ => (0 : Int32)))), (bn, .inl (cbn, 0, .inl (fun _ => (0 : Int32))))] H1) (hK : va_K D vwCl [(cq, .object "KeyAtlas$Body")] U) (hD : va_D (va_A [(a0, .inr (7, [.ref qb])), (qb, .inl (cq, 16, .inr (.inr (.inr (.inr bq)))))] H.size) [(a0, .inr (7, [.ref qb])), (qb, .inl (cq, 16, .inr (.inr (.inr (.inr bq2))))), (yn, .inr (3, [.ref xn, .int 0, .int (-1), .int p1, .int p2, .int (nI 0), .ref bn])), (xn, .inr (5, [.ref kn, .ref wn, .int (nI 0), .int 0])), (kn, .inl (ckn, 16, .inl (fun _ => (0 : Int32)))), (wn, .inl (cwn, 16, .inl (fun _ => (0 : Int32)))), (bn, .inl (cbn, 0, .inl (fun _ => (0 : Int32))))]) (hcr : ∀ i : Nat, True → cr i ≤ cr1 i) : ((∀ j y : Nat, j < 16 → bq j = some y → bdI D U H1 bq (owU [(yn, 100 + xx), (xn, 200 + xx), (kn, 300 + xx), (wn, 400 + xx), (bn, 500 + xx)] ow) rx cr1 a1 a4 a8 a11 j y) ∧ (∀ r : Nat, r < 16 → (a1 r).toInt = 3 → rwI D U H1 (owU [(yn, 100 + xx), (xn, 200 + xx), (kn, 300 + xx), (wn, 400 + xx), (bn, 500 + xx)] ow) r (rx r))) ∧ (∀ q : Nat, 0 < (owU [(yn, 100 + xx), (xn, 200 + xx), (kn, 300 + xx), (wn, 400 + xx), (bn, 500 + xx)] ow) q → 0 < ow q ∨ H.size ≤ q) ∧ (owU [(yn, 100 + xx), (xn, 200 + xx), (kn, 300 + xx), (wn, 400 + xx), (bn, 500 + xx)] ow) a0 = 1 ∧ (owU [(yn, 100 + xx), (xn, 200 + xx), (kn, 300 + xx), (wn, 400 + xx), (bn, 500 + xx)] ow) qb = 2 ∧ (owU [(yn, 100 + xx), (xn, 200 + xx), (kn, 300 + xx), (wn, 400 + xx), (bn, 500 + xx)] ow) yn = 100 + xx ∧ (owU [(yn, 100 + xx), (xn, 200 + xx), (kn, 300 + xx), (wn, 400 + xx), (bn, 500 + xx)] ow) xn = 200 + xx ∧ (owU [(yn, 100 + xx), (xn, 200 + xx), (kn, 300 + xx), (wn, 400 + xx), (bn, 500 + xx)] ow) kn = 300 + xx ∧ (owU [(yn, 100 + xx), (xn, 200 + xx), (kn, 300 + xx), (wn, 400 + xx), (bn, 500 + xx)] ow) wn = 400 + xx ∧ (owU [(yn, 100 + xx), (xn, 200 + xx), (kn, 300 + xx), (wn, 400 + xx), (bn, 500 + xx)] ow) bn = 500 + xx := by
  have ha0 := hI.2.2.1
  have hq0 := hI.2.2.2.1
  have n2_0 : yn ≠ a0 := fun z => absurd (hD.1 2 0 _ _ rfl rfl z) (by decide)
  have n2_1 : yn ≠ qb := fun z => absurd (hD.1 2 1 _ _ rfl rfl z) (by decide)
  have n2_3 : yn ≠ xn := fun z => absurd (hD.1 2 3 _ _ rfl rfl z) (by decide)
  have n2_4 : yn ≠ kn := fun z => absurd (hD.1 2 4 _ _ rfl rfl z) (by decide)
  have n2_5 : yn ≠ wn := fun z => absurd (hD.1 2 5 _ _ rfl rfl z) (by decide)
  have n2_6 : yn ≠ bn := fun z => absurd (hD.1 2 6 _ _ rfl rfl z) (by decide)
  have n3_0 : xn ≠ a0 := fun z => absurd (hD.1 3 0 _ _ rfl rfl z) (by decide)
  have n3_1 : xn ≠ qb := fun z => absurd (hD.1 3 1 _ _ rfl rfl z) (by decide)
  have n3_4 : xn ≠ kn := fun z => absurd (hD.1 3 4 _ _ rfl rfl z) (by decide)
  have n3_5 : xn ≠ wn := fun z => absurd (hD.1 3 5 _ _ rfl rfl z) (by decide)
  have n3_6 : xn ≠ bn := fun z => absurd (hD.1 3 6 _ _ rfl rfl z) (by decide)
  have n4_0 : kn ≠ a0 := fun z => absurd (hD.1 4 0 _ _ rfl rfl z) (by decide)
  have n4_1 : kn ≠ qb := fun z => absurd (hD.1 4 1 _ _ rfl rfl z) (by decide)
  have n4_5 : kn ≠ wn := fun z => absurd (hD.1 4 5 _ _ rfl rfl z) (by decide)
  have n4_6 : kn ≠ bn := fun z => absurd (hD.1 4 6 _ _ rfl rfl z) (by decide)
  have n5_0 : wn ≠ a0 := fun z => absurd (hD.1 5 0 _ _ rfl rfl z) (by decide)
  have n5_1 : wn ≠ qb := fun z => absurd (hD.1 5 1 _ _ rfl rfl z) (by decide)
  have n5_6 : wn ≠ bn := fun z => absurd (hD.1 5 6 _ _ rfl rfl z) (by decide)
  have n6_0 : bn ≠ a0 := fun z => absurd (hD.1 6 0 _ _ rfl rfl z) (by decide)
  have n6_1 : bn ≠ qb := fun z => absurd (hD.1 6 1 _ _ rfl rfl z) (by decide)
  have hw : ∀ q : Nat, (∀ x ∈ ([(a0, .inr (7, [.ref qb])), (qb, .inl (cq, 16, .inr (.inr (.inr (.inr bq2))))), (yn, .inr (3, [.ref xn, .int 0, .int (-1), .int p1, .int p2, .int (nI 0), .ref bn])), (xn, .inr (5, [.ref kn, .ref wn, .int (nI 0), .int 0])), (kn, .inl (ckn, 16, .inl (fun _ => (0 : Int32)))), (wn, .inl (cwn, 16, .inl (fun _ => (0 : Int32)))), (bn, .inl (cbn, 0, .inl (fun _ => (0 : Int32))))] : va_W), x.1 ≠ q) → (owU [(yn, 100 + xx), (xn, 200 + xx), (kn, 300 + xx), (wn, 400 + xx), (bn, 500 + xx)] ow) q = ow q := fun q h => owU_no (List.forall_mem_cons.mpr ⟨h _ (List.mem_of_getElem? (i := 2) rfl), List.forall_mem_cons.mpr ⟨h _ (List.mem_of_getElem? (i := 3) rfl), List.forall_mem_cons.mpr ⟨h _ (List.mem_of_getElem? (i := 4) rfl), List.forall_mem_cons.mpr ⟨h _ (List.mem_of_getElem? (i := 5) rfl), List.forall_mem_cons.mpr ⟨h _ (List.mem_of_getElem? (i := 6) rfl), fun _ h => absurd h List.not_mem_nil⟩⟩⟩⟩⟩)
  have hOc_ : ∀ q ∈ ([(a0, .inr (7, [.ref qb])), (qb, .inl (cq, 16, .inr (.inr (.inr (.inr bq)))))] : va_W), (fun c => c = 1 ∨ c = 2) (ow q.1) := List.forall_mem_cons.mpr ⟨(by show ow a0 = 1 ∨ ow a0 = 2; omega), List.forall_mem_cons.mpr ⟨(by show ow qb = 1 ∨ ow qb = 2; omega), fun _ h => absurd h List.not_mem_nil⟩⟩
  have hOp_ : ∀ q ∈ ([(a0, .inr (7, [.ref qb])), (qb, .inl (cq, 16, .inr (.inr (.inr (.inr bq)))))] : va_W), 0 < ow q.1 := List.forall_mem_cons.mpr ⟨(by show 0 < ow a0; omega), List.forall_mem_cons.mpr ⟨(by show 0 < ow qb; omega), fun _ h => absurd h List.not_mem_nil⟩⟩
  refine ⟨aB_upd (fun c => c = 1 ∨ c = 2) hI (ag_call (Ch := fun c => c = 1 ∨ c = 2) hOc_ hF hD hw) (fun i y hi9 hy hch => ?_) (fun r hr9 hk9 hch => ?_) (fun i hi9 hch hk9 => ?_) (fun r hr9 hk9 hch => ?_) (fun i hch => ?_), ow_pos hOp_ hD hw, (owU_no (List.forall_mem_cons.mpr ⟨n2_0, List.forall_mem_cons.mpr ⟨n3_0, List.forall_mem_cons.mpr ⟨n4_0, List.forall_mem_cons.mpr ⟨n5_0, List.forall_mem_cons.mpr ⟨n6_0, fun _ h => absurd h List.not_mem_nil⟩⟩⟩⟩⟩)).trans ha0, (owU_no (List.forall_mem_cons.mpr ⟨n2_1, List.forall_mem_cons.mpr ⟨n3_1, List.forall_mem_cons.mpr ⟨n4_1, List.forall_mem_cons.mpr ⟨n5_1, List.forall_mem_cons.mpr ⟨n6_1, fun _ h => absurd h List.not_mem_nil⟩⟩⟩⟩⟩)).trans hq0, owU_hd, (owU_tl n2_3.symm).trans (owU_hd), (owU_tl n2_4.symm).trans ((owU_tl n3_4.symm).trans (owU_hd)), (owU_tl n2_5.symm).trans ((owU_tl n3_5.symm).trans ((owU_tl n4_5.symm).trans (owU_hd))), (owU_tl n2_6.symm).trans ((owU_tl n3_6.symm).trans ((owU_tl n4_6.symm).trans ((owU_tl n5_6.symm).trans (owU_hd))))⟩
  ·
    have hch : 100 + i = 1 ∨ 100 + i = 2 := hch
    exfalso
    omega
  ·
    have hch : 200 + r = 1 ∨ 200 + r = 2 := hch
    exfalso
    omega
  ·
    replace hch : ¬ (100 + i = 1 ∨ 100 + i = 2) := hch
    show ¬ (200 + i = 1 ∨ 200 + i = 2) ∧ ¬ (300 + i = 1 ∨ 300 + i = 2) ∧ ¬ (400 + i = 1 ∨ 400 + i = 2) ∧ ¬ (500 + i = 1 ∨ 500 + i = 2)
    omega
  ·
    replace hch : ¬ (200 + r = 1 ∨ 200 + r = 2) := hch
    show ¬ (300 + r = 1 ∨ 300 + r = 2) ∧ ¬ (400 + r = 1 ∨ 400 + r = 2)
    omega
  · exact hcr i trivial
set_option maxRecDepth 20000 in
theorem updN_mkL {D : va_G} {U : State} {H H1 : Heap} {a0 qb : Nat} {cq : ClassId} {bq : Nat → Option Nat} {ow rx cr cr1 : Nat → Nat} {a1 a4 a8 a11 : Nat → Int32} {xx : Nat} {bq2 : Nat → Option Nat} {yn : Nat} {xn : Nat} {kn : Nat} {wn : Nat} {ckn : ClassId} {cwn : ClassId} {p1 : Int32} {p2 : Int32} (hI : aI D U H a0 qb cq bq ow rx cr a1 a4 a8 a11) (hF : ∀ q : Nat, q < H.size → ¬ va_A [(a0, .inr (7, [.ref qb])), (qb, .inl (cq, 16, .inr (.inr (.inr (.inr bq)))))] H.size q → H1[q]? = H[q]?) (hP : va_P D vwCl [(a0, .inr (7, [.ref qb])), (qb, .inl (cq, 16, .inr (.inr (.inr (.inr bq2))))), (yn, .inr (4, [.ref xn, .int 1, .int (-1), .int p1, .int (lbu p2)])), (xn, .inr (5, [.ref kn, .ref wn, .int (nI 0), .int 0])), (kn, .inl (ckn, 16, .inl (fun _ => (0 : Int32)))), (wn, .inl (cwn, 16, .inl (fun _ => (0 : Int32))))] H1) (hK : va_K D vwCl [(cq, .object "KeyAtlas$Body")] U) (hD : va_D (va_A [(a0, .inr (7, [.ref qb])), (qb, .inl (cq, 16, .inr (.inr (.inr (.inr bq)))))] H.size) [(a0, .inr (7, [.ref qb])), (qb, .inl (cq, 16, .inr (.inr (.inr (.inr bq2))))), (yn, .inr (4, [.ref xn, .int 1, .int (-1), .int p1, .int (lbu p2)])), (xn, .inr (5, [.ref kn, .ref wn, .int (nI 0), .int 0])), (kn, .inl (ckn, 16, .inl (fun _ => (0 : Int32)))), (wn, .inl (cwn, 16, .inl (fun _ => (0 : Int32))))]) (hcr : ∀ i : Nat, True → cr i ≤ cr1 i) : ((∀ j y : Nat, j < 16 → bq j = some y → bdI D U H1 bq (owU [(yn, 100 + xx), (xn, 200 + xx), (kn, 300 + xx), (wn, 400 + xx)] ow) rx cr1 a1 a4 a8 a11 j y) ∧ (∀ r : Nat, r < 16 → (a1 r).toInt = 3 → rwI D U H1 (owU [(yn, 100 + xx), (xn, 200 + xx), (kn, 300 + xx), (wn, 400 + xx)] ow) r (rx r))) ∧ (∀ q : Nat, 0 < (owU [(yn, 100 + xx), (xn, 200 + xx), (kn, 300 + xx), (wn, 400 + xx)] ow) q → 0 < ow q ∨ H.size ≤ q) ∧ (owU [(yn, 100 + xx), (xn, 200 + xx), (kn, 300 + xx), (wn, 400 + xx)] ow) a0 = 1 ∧ (owU [(yn, 100 + xx), (xn, 200 + xx), (kn, 300 + xx), (wn, 400 + xx)] ow) qb = 2 ∧ (owU [(yn, 100 + xx), (xn, 200 + xx), (kn, 300 + xx), (wn, 400 + xx)] ow) yn = 100 + xx ∧ (owU [(yn, 100 + xx), (xn, 200 + xx), (kn, 300 + xx), (wn, 400 + xx)] ow) xn = 200 + xx ∧ (owU [(yn, 100 + xx), (xn, 200 + xx), (kn, 300 + xx), (wn, 400 + xx)] ow) kn = 300 + xx ∧ (owU [(yn, 100 + xx), (xn, 200 + xx), (kn, 300 + xx), (wn, 400 + xx)] ow) wn = 400 + xx := by
  have ha0 := hI.2.2.1
  have hq0 := hI.2.2.2.1
  have n2_0 : yn ≠ a0 := fun z => absurd (hD.1 2 0 _ _ rfl rfl z) (by decide)
  have n2_1 : yn ≠ qb := fun z => absurd (hD.1 2 1 _ _ rfl rfl z) (by decide)
  have n2_3 : yn ≠ xn := fun z => absurd (hD.1 2 3 _ _ rfl rfl z) (by decide)
  have n2_4 : yn ≠ kn := fun z => absurd (hD.1 2 4 _ _ rfl rfl z) (by decide)
  have n2_5 : yn ≠ wn := fun z => absurd (hD.1 2 5 _ _ rfl rfl z) (by decide)
  have n3_0 : xn ≠ a0 := fun z => absurd (hD.1 3 0 _ _ rfl rfl z) (by decide)
  have n3_1 : xn ≠ qb := fun z => absurd (hD.1 3 1 _ _ rfl rfl z) (by decide)
  have n3_4 : xn ≠ kn := fun z => absurd (hD.1 3 4 _ _ rfl rfl z) (by decide)
  have n3_5 : xn ≠ wn := fun z => absurd (hD.1 3 5 _ _ rfl rfl z) (by decide)
  have n4_0 : kn ≠ a0 := fun z => absurd (hD.1 4 0 _ _ rfl rfl z) (by decide)
  have n4_1 : kn ≠ qb := fun z => absurd (hD.1 4 1 _ _ rfl rfl z) (by decide)
  have n4_5 : kn ≠ wn := fun z => absurd (hD.1 4 5 _ _ rfl rfl z) (by decide)
  have n5_0 : wn ≠ a0 := fun z => absurd (hD.1 5 0 _ _ rfl rfl z) (by decide)
  have n5_1 : wn ≠ qb := fun z => absurd (hD.1 5 1 _ _ rfl rfl z) (by decide)
  have hw : ∀ q : Nat, (∀ x ∈ ([(a0, .inr (7, [.ref qb])), (qb, .inl (cq, 16, .inr (.inr (.inr (.inr bq2))))), (yn, .inr (4, [.ref xn, .int 1, .int (-1), .int p1, .int (lbu p2)])), (xn, .inr (5, [.ref kn, .ref wn, .int (nI 0), .int 0])), (kn, .inl (ckn, 16, .inl (fun _ => (0 : Int32)))), (wn, .inl (cwn, 16, .inl (fun _ => (0 : Int32))))] : va_W), x.1 ≠ q) → (owU [(yn, 100 + xx), (xn, 200 + xx), (kn, 300 + xx), (wn, 400 + xx)] ow) q = ow q := fun q h => owU_no (List.forall_mem_cons.mpr ⟨h _ (List.mem_of_getElem? (i := 2) rfl), List.forall_mem_cons.mpr ⟨h _ (List.mem_of_getElem? (i := 3) rfl), List.forall_mem_cons.mpr ⟨h _ (List.mem_of_getElem? (i := 4) rfl), List.forall_mem_cons.mpr ⟨h _ (List.mem_of_getElem? (i := 5) rfl), fun _ h => absurd h List.not_mem_nil⟩⟩⟩⟩)
  have hOc_ : ∀ q ∈ ([(a0, .inr (7, [.ref qb])), (qb, .inl (cq, 16, .inr (.inr (.inr (.inr bq)))))] : va_W), (fun c => c = 1 ∨ c = 2) (ow q.1) := List.forall_mem_cons.mpr ⟨(by show ow a0 = 1 ∨ ow a0 = 2; omega), List.forall_mem_cons.mpr ⟨(by show ow qb = 1 ∨ ow qb = 2; omega), fun _ h => absurd h List.not_mem_nil⟩⟩
  have hOp_ : ∀ q ∈ ([(a0, .inr (7, [.ref qb])), (qb, .inl (cq, 16, .inr (.inr (.inr (.inr bq)))))] : va_W), 0 < ow q.1 := List.forall_mem_cons.mpr ⟨(by show 0 < ow a0; omega), List.forall_mem_cons.mpr ⟨(by show 0 < ow qb; omega), fun _ h => absurd h List.not_mem_nil⟩⟩
  refine ⟨aB_upd (fun c => c = 1 ∨ c = 2) hI (ag_call (Ch := fun c => c = 1 ∨ c = 2) hOc_ hF hD hw) (fun i y hi9 hy hch => ?_) (fun r hr9 hk9 hch => ?_) (fun i hi9 hch hk9 => ?_) (fun r hr9 hk9 hch => ?_) (fun i hch => ?_), ow_pos hOp_ hD hw, (owU_no (List.forall_mem_cons.mpr ⟨n2_0, List.forall_mem_cons.mpr ⟨n3_0, List.forall_mem_cons.mpr ⟨n4_0, List.forall_mem_cons.mpr ⟨n5_0, fun _ h => absurd h List.not_mem_nil⟩⟩⟩⟩)).trans ha0, (owU_no (List.forall_mem_cons.mpr ⟨n2_1, List.forall_mem_cons.mpr ⟨n3_1, List.forall_mem_cons.mpr ⟨n4_1, List.forall_mem_cons.mpr ⟨n5_1, fun _ h => absurd h List.not_mem_nil⟩⟩⟩⟩)).trans hq0, owU_hd, (owU_tl n2_3.symm).trans (owU_hd), (owU_tl n2_4.symm).trans ((owU_tl n3_4.symm).trans (owU_hd)), (owU_tl n2_5.symm).trans ((owU_tl n3_5.symm).trans ((owU_tl n4_5.symm).trans (owU_hd)))⟩
  ·
    have hch : 100 + i = 1 ∨ 100 + i = 2 := hch
    exfalso
    omega
  ·
    have hch : 200 + r = 1 ∨ 200 + r = 2 := hch
    exfalso
    omega
  ·
    replace hch : ¬ (100 + i = 1 ∨ 100 + i = 2) := hch
    show ¬ (200 + i = 1 ∨ 200 + i = 2) ∧ ¬ (300 + i = 1 ∨ 300 + i = 2) ∧ ¬ (400 + i = 1 ∨ 400 + i = 2) ∧ ¬ (500 + i = 1 ∨ 500 + i = 2)
    omega
  ·
    replace hch : ¬ (200 + r = 1 ∨ 200 + r = 2) := hch
    show ¬ (300 + r = 1 ∨ 300 + r = 2) ∧ ¬ (400 + r = 1 ∨ 400 + r = 2)
    omega
  · exact hcr i trivial
set_option maxRecDepth 20000 in
theorem updN_mkS {D : va_G} {U : State} {H H1 : Heap} {a0 qb : Nat} {cq : ClassId} {bq : Nat → Option Nat} {ow rx cr cr1 : Nat → Nat} {a1 a4 a8 a11 : Nat → Int32} {xx : Nat} {bq2 : Nat → Option Nat} {yn : Nat} {xn : Nat} {kn : Nat} {wn : Nat} {ckn : ClassId} {cwn : ClassId} {p1 : Int32} (hI : aI D U H a0 qb cq bq ow rx cr a1 a4 a8 a11) (hF : ∀ q : Nat, q < H.size → ¬ va_A [(a0, .inr (7, [.ref qb])), (qb, .inl (cq, 16, .inr (.inr (.inr (.inr bq)))))] H.size q → H1[q]? = H[q]?) (hP : va_P D vwCl [(a0, .inr (7, [.ref qb])), (qb, .inl (cq, 16, .inr (.inr (.inr (.inr bq2))))), (yn, .inr (6, [.ref xn, .int 2, .int (-1), .int p1, .int 0, .long (-9223372036854775808), .long 9223372036854775807])), (xn, .inr (5, [.ref kn, .ref wn, .int (nI 0), .int 0])), (kn, .inl (ckn, 16, .inl (fun _ => (0 : Int32)))), (wn, .inl (cwn, 16, .inl (fun _ => (0 : Int32))))] H1) (hK : va_K D vwCl [(cq, .object "KeyAtlas$Body")] U) (hD : va_D (va_A [(a0, .inr (7, [.ref qb])), (qb, .inl (cq, 16, .inr (.inr (.inr (.inr bq)))))] H.size) [(a0, .inr (7, [.ref qb])), (qb, .inl (cq, 16, .inr (.inr (.inr (.inr bq2))))), (yn, .inr (6, [.ref xn, .int 2, .int (-1), .int p1, .int 0, .long (-9223372036854775808), .long 9223372036854775807])), (xn, .inr (5, [.ref kn, .ref wn, .int (nI 0), .int 0])), (kn, .inl (ckn, 16, .inl (fun _ => (0 : Int32)))), (wn, .inl (cwn, 16, .inl (fun _ => (0 : Int32))))]) (hcr : ∀ i : Nat, True → cr i ≤ cr1 i) : ((∀ j y : Nat, j < 16 → bq j = some y → bdI D U H1 bq (owU [(yn, 100 + xx), (xn, 200 + xx), (kn, 300 + xx), (wn, 400 + xx)] ow) rx cr1 a1 a4 a8 a11 j y) ∧ (∀ r : Nat, r < 16 → (a1 r).toInt = 3 → rwI D U H1 (owU [(yn, 100 + xx), (xn, 200 + xx), (kn, 300 + xx), (wn, 400 + xx)] ow) r (rx r))) ∧ (∀ q : Nat, 0 < (owU [(yn, 100 + xx), (xn, 200 + xx), (kn, 300 + xx), (wn, 400 + xx)] ow) q → 0 < ow q ∨ H.size ≤ q) ∧ (owU [(yn, 100 + xx), (xn, 200 + xx), (kn, 300 + xx), (wn, 400 + xx)] ow) a0 = 1 ∧ (owU [(yn, 100 + xx), (xn, 200 + xx), (kn, 300 + xx), (wn, 400 + xx)] ow) qb = 2 ∧ (owU [(yn, 100 + xx), (xn, 200 + xx), (kn, 300 + xx), (wn, 400 + xx)] ow) yn = 100 + xx ∧ (owU [(yn, 100 + xx), (xn, 200 + xx), (kn, 300 + xx), (wn, 400 + xx)] ow) xn = 200 + xx ∧ (owU [(yn, 100 + xx), (xn, 200 + xx), (kn, 300 + xx), (wn, 400 + xx)] ow) kn = 300 + xx ∧ (owU [(yn, 100 + xx), (xn, 200 + xx), (kn, 300 + xx), (wn, 400 + xx)] ow) wn = 400 + xx := by
  have ha0 := hI.2.2.1
  have hq0 := hI.2.2.2.1
  have n2_0 : yn ≠ a0 := fun z => absurd (hD.1 2 0 _ _ rfl rfl z) (by decide)
  have n2_1 : yn ≠ qb := fun z => absurd (hD.1 2 1 _ _ rfl rfl z) (by decide)
  have n2_3 : yn ≠ xn := fun z => absurd (hD.1 2 3 _ _ rfl rfl z) (by decide)
  have n2_4 : yn ≠ kn := fun z => absurd (hD.1 2 4 _ _ rfl rfl z) (by decide)
  have n2_5 : yn ≠ wn := fun z => absurd (hD.1 2 5 _ _ rfl rfl z) (by decide)
  have n3_0 : xn ≠ a0 := fun z => absurd (hD.1 3 0 _ _ rfl rfl z) (by decide)
  have n3_1 : xn ≠ qb := fun z => absurd (hD.1 3 1 _ _ rfl rfl z) (by decide)
  have n3_4 : xn ≠ kn := fun z => absurd (hD.1 3 4 _ _ rfl rfl z) (by decide)
  have n3_5 : xn ≠ wn := fun z => absurd (hD.1 3 5 _ _ rfl rfl z) (by decide)
  have n4_0 : kn ≠ a0 := fun z => absurd (hD.1 4 0 _ _ rfl rfl z) (by decide)
  have n4_1 : kn ≠ qb := fun z => absurd (hD.1 4 1 _ _ rfl rfl z) (by decide)
  have n4_5 : kn ≠ wn := fun z => absurd (hD.1 4 5 _ _ rfl rfl z) (by decide)
  have n5_0 : wn ≠ a0 := fun z => absurd (hD.1 5 0 _ _ rfl rfl z) (by decide)
  have n5_1 : wn ≠ qb := fun z => absurd (hD.1 5 1 _ _ rfl rfl z) (by decide)
  have hw : ∀ q : Nat, (∀ x ∈ ([(a0, .inr (7, [.ref qb])), (qb, .inl (cq, 16, .inr (.inr (.inr (.inr bq2))))), (yn, .inr (6, [.ref xn, .int 2, .int (-1), .int p1, .int 0, .long (-9223372036854775808), .long 9223372036854775807])), (xn, .inr (5, [.ref kn, .ref wn, .int (nI 0), .int 0])), (kn, .inl (ckn, 16, .inl (fun _ => (0 : Int32)))), (wn, .inl (cwn, 16, .inl (fun _ => (0 : Int32))))] : va_W), x.1 ≠ q) → (owU [(yn, 100 + xx), (xn, 200 + xx), (kn, 300 + xx), (wn, 400 + xx)] ow) q = ow q := fun q h => owU_no (List.forall_mem_cons.mpr ⟨h _ (List.mem_of_getElem? (i := 2) rfl), List.forall_mem_cons.mpr ⟨h _ (List.mem_of_getElem? (i := 3) rfl), List.forall_mem_cons.mpr ⟨h _ (List.mem_of_getElem? (i := 4) rfl), List.forall_mem_cons.mpr ⟨h _ (List.mem_of_getElem? (i := 5) rfl), fun _ h => absurd h List.not_mem_nil⟩⟩⟩⟩)
  have hOc_ : ∀ q ∈ ([(a0, .inr (7, [.ref qb])), (qb, .inl (cq, 16, .inr (.inr (.inr (.inr bq)))))] : va_W), (fun c => c = 1 ∨ c = 2) (ow q.1) := List.forall_mem_cons.mpr ⟨(by show ow a0 = 1 ∨ ow a0 = 2; omega), List.forall_mem_cons.mpr ⟨(by show ow qb = 1 ∨ ow qb = 2; omega), fun _ h => absurd h List.not_mem_nil⟩⟩
  have hOp_ : ∀ q ∈ ([(a0, .inr (7, [.ref qb])), (qb, .inl (cq, 16, .inr (.inr (.inr (.inr bq)))))] : va_W), 0 < ow q.1 := List.forall_mem_cons.mpr ⟨(by show 0 < ow a0; omega), List.forall_mem_cons.mpr ⟨(by show 0 < ow qb; omega), fun _ h => absurd h List.not_mem_nil⟩⟩
  refine ⟨aB_upd (fun c => c = 1 ∨ c = 2) hI (ag_call (Ch := fun c => c = 1 ∨ c = 2) hOc_ hF hD hw) (fun i y hi9 hy hch => ?_) (fun r hr9 hk9 hch => ?_) (fun i hi9 hch hk9 => ?_) (fun r hr9 hk9 hch => ?_) (fun i hch => ?_), ow_pos hOp_ hD hw, (owU_no (List.forall_mem_cons.mpr ⟨n2_0, List.forall_mem_cons.mpr ⟨n3_0, List.forall_mem_cons.mpr ⟨n4_0, List.forall_mem_cons.mpr ⟨n5_0, fun _ h => absurd h List.not_mem_nil⟩⟩⟩⟩)).trans ha0, (owU_no (List.forall_mem_cons.mpr ⟨n2_1, List.forall_mem_cons.mpr ⟨n3_1, List.forall_mem_cons.mpr ⟨n4_1, List.forall_mem_cons.mpr ⟨n5_1, fun _ h => absurd h List.not_mem_nil⟩⟩⟩⟩)).trans hq0, owU_hd, (owU_tl n2_3.symm).trans (owU_hd), (owU_tl n2_4.symm).trans ((owU_tl n3_4.symm).trans (owU_hd)), (owU_tl n2_5.symm).trans ((owU_tl n3_5.symm).trans ((owU_tl n4_5.symm).trans (owU_hd)))⟩
  ·
    have hch : 100 + i = 1 ∨ 100 + i = 2 := hch
    exfalso
    omega
  ·
    have hch : 200 + r = 1 ∨ 200 + r = 2 := hch
    exfalso
    omega
  ·
    replace hch : ¬ (100 + i = 1 ∨ 100 + i = 2) := hch
    show ¬ (200 + i = 1 ∨ 200 + i = 2) ∧ ¬ (300 + i = 1 ∨ 300 + i = 2) ∧ ¬ (400 + i = 1 ∨ 400 + i = 2) ∧ ¬ (500 + i = 1 ∨ 500 + i = 2)
    omega
  ·
    replace hch : ¬ (200 + r = 1 ∨ 200 + r = 2) := hch
    show ¬ (300 + r = 1 ∨ 300 + r = 2) ∧ ¬ (400 + r = 1 ∨ 400 + r = 2)
    omega
  · exact hcr i trivial
set_option maxRecDepth 20000 in
theorem updN_vw {D : va_G} {U : State} {H H1 : Heap} {a0 qb : Nat} {cq : ClassId} {bq : Nat → Option Nat} {ow rx cr cr1 : Nat → Nat} {a1 a4 a8 a11 : Nat → Int32} {xx : Nat} {bq2 : Nat → Option Nat} {j : Nat} {y0 : Nat} {kd : Int32} {wh : Int32} {tu : Int32} {lo : Int64} {hi : Int64} {x0 : Nat} {k0 : Nat} {w0 : Nat} {ck : ClassId} {cw : ClassId} {L : Nat} {f : Nat → Int32} {g : Nat → Int32} {nz : Nat} {ch : Int32} {yn : Nat} {tu2 : Int32} {lo2 : Int64} {hi2 : Int64} (hI : aI D U H a0 qb cq bq ow rx cr a1 a4 a8 a11) (hj : j < 16) (hb : bq j = some y0) (hk : (a1 j).toInt = 3 ∨ (a1 j).toInt = 4) (e1 : ow y0 = 100 + j) (e2 : ow x0 = 200 + (rtN a1 a8 17 j)) (e3 : ow k0 = 300 + (rtN a1 a8 17 j)) (e4 : ow w0 = 400 + (rtN a1 a8 17 j)) (hr : rtN a1 a8 17 j < 16 ∧ (a1 (rtN a1 a8 17 j)).toInt = 3) (hx : x0 = rx (rtN a1 a8 17 j)) (ht : (tu.toInt = 0 ∨ tu.toInt = 1) ∧ (tu.toInt = 0 ↔ tnN a1 a8 a11 17 j false = false) ∧ 0 ≤ (a4 (rtN a1 a8 17 j)).toInt ∧ (a4 (rtN a1 a8 17 j)).toInt ≤ 3 ∧ wh = if (a1 j).toInt = 4 then a8 j else -1) (hF : ∀ q : Nat, q < H.size → ¬ va_A [(a0, .inr (7, [.ref qb])), (qb, .inl (cq, 16, .inr (.inr (.inr (.inr bq))))), (y0, .inr (6, [.ref x0, .int kd, .int wh, .int (a4 (rtN a1 a8 17 j)), .int tu, .long lo, .long hi])), (x0, .inr (5, [.ref k0, .ref w0, .int (nI nz), .int ch])), (k0, .inl (ck, L, .inl f)), (w0, .inl (cw, L, .inl g))] H.size q → H1[q]? = H[q]?) (hP : va_P D vwCl [(a0, .inr (7, [.ref qb])), (qb, .inl (cq, 16, .inr (.inr (.inr (.inr bq2))))), (y0, .inr (6, [.ref x0, .int kd, .int wh, .int (a4 (rtN a1 a8 17 j)), .int tu, .long lo, .long hi])), (x0, .inr (5, [.ref k0, .ref w0, .int (nI nz), .int ch])), (k0, .inl (ck, L, .inl f)), (w0, .inl (cw, L, .inl g)), (yn, .inr (6, [.ref x0, .int 3, .int (nI j), .int (a4 (rtN a1 a8 17 j)), .int tu2, .long lo2, .long hi2]))] H1) (hK : va_K D vwCl [(cq, .object "KeyAtlas$Body"), (ck, .int), (cw, .int)] U) (hD : va_D (va_A [(a0, .inr (7, [.ref qb])), (qb, .inl (cq, 16, .inr (.inr (.inr (.inr bq))))), (y0, .inr (6, [.ref x0, .int kd, .int wh, .int (a4 (rtN a1 a8 17 j)), .int tu, .long lo, .long hi])), (x0, .inr (5, [.ref k0, .ref w0, .int (nI nz), .int ch])), (k0, .inl (ck, L, .inl f)), (w0, .inl (cw, L, .inl g))] H.size) [(a0, .inr (7, [.ref qb])), (qb, .inl (cq, 16, .inr (.inr (.inr (.inr bq2))))), (y0, .inr (6, [.ref x0, .int kd, .int wh, .int (a4 (rtN a1 a8 17 j)), .int tu, .long lo, .long hi])), (x0, .inr (5, [.ref k0, .ref w0, .int (nI nz), .int ch])), (k0, .inl (ck, L, .inl f)), (w0, .inl (cw, L, .inl g)), (yn, .inr (6, [.ref x0, .int 3, .int (nI j), .int (a4 (rtN a1 a8 17 j)), .int tu2, .long lo2, .long hi2]))]) (hO : rOK L nz) (hcr : ∀ i : Nat, i ≠ j → cr i ≤ cr1 i) : ((∀ j y : Nat, j < 16 → bq j = some y → bdI D U H1 bq (owU [(yn, 100 + xx)] ow) rx cr1 a1 a4 a8 a11 j y) ∧ (∀ r : Nat, r < 16 → (a1 r).toInt = 3 → rwI D U H1 (owU [(yn, 100 + xx)] ow) r (rx r))) ∧ (∀ q : Nat, 0 < (owU [(yn, 100 + xx)] ow) q → 0 < ow q ∨ H.size ≤ q) ∧ (owU [(yn, 100 + xx)] ow) a0 = 1 ∧ (owU [(yn, 100 + xx)] ow) qb = 2 ∧ (owU [(yn, 100 + xx)] ow) yn = 100 + xx := by
  have ha0 := hI.2.2.1
  have hq0 := hI.2.2.2.1
  obtain ⟨hr1, hr3⟩ := hr
  obtain ⟨R, eR⟩ : ∃ R, R = rtN a1 a8 17 j := ⟨_, rfl⟩
  have n6_0 : yn ≠ a0 := fun z => absurd (hD.1 6 0 _ _ rfl rfl z) (by decide)
  have n6_1 : yn ≠ qb := fun z => absurd (hD.1 6 1 _ _ rfl rfl z) (by decide)
  have n6_2 : yn ≠ y0 := fun z => absurd (hD.1 6 2 _ _ rfl rfl z) (by decide)
  have n6_3 : yn ≠ x0 := fun z => absurd (hD.1 6 3 _ _ rfl rfl z) (by decide)
  have n6_4 : yn ≠ k0 := fun z => absurd (hD.1 6 4 _ _ rfl rfl z) (by decide)
  have n6_5 : yn ≠ w0 := fun z => absurd (hD.1 6 5 _ _ rfl rfl z) (by decide)
  have hw : ∀ q : Nat, (∀ x ∈ ([(a0, .inr (7, [.ref qb])), (qb, .inl (cq, 16, .inr (.inr (.inr (.inr bq2))))), (y0, .inr (6, [.ref x0, .int kd, .int wh, .int (a4 (rtN a1 a8 17 j)), .int tu, .long lo, .long hi])), (x0, .inr (5, [.ref k0, .ref w0, .int (nI nz), .int ch])), (k0, .inl (ck, L, .inl f)), (w0, .inl (cw, L, .inl g)), (yn, .inr (6, [.ref x0, .int 3, .int (nI j), .int (a4 (rtN a1 a8 17 j)), .int tu2, .long lo2, .long hi2]))] : va_W), x.1 ≠ q) → (owU [(yn, 100 + xx)] ow) q = ow q := fun q h => owU_no (List.forall_mem_cons.mpr ⟨h _ (List.mem_of_getElem? (i := 6) rfl), fun _ h => absurd h List.not_mem_nil⟩)
  have hOc_ : ∀ q ∈ ([(a0, .inr (7, [.ref qb])), (qb, .inl (cq, 16, .inr (.inr (.inr (.inr bq))))), (y0, .inr (6, [.ref x0, .int kd, .int wh, .int (a4 (rtN a1 a8 17 j)), .int tu, .long lo, .long hi])), (x0, .inr (5, [.ref k0, .ref w0, .int (nI nz), .int ch])), (k0, .inl (ck, L, .inl f)), (w0, .inl (cw, L, .inl g))] : va_W), (fun c => c = 1 ∨ c = 2 ∨ c = 100 + j ∨ c = 200 + (rtN a1 a8 17 j) ∨ c = 300 + (rtN a1 a8 17 j) ∨ c = 400 + (rtN a1 a8 17 j)) (ow q.1) := List.forall_mem_cons.mpr ⟨(by show ow a0 = 1 ∨ ow a0 = 2 ∨ ow a0 = 100 + j ∨ ow a0 = 200 + (rtN a1 a8 17 j) ∨ ow a0 = 300 + (rtN a1 a8 17 j) ∨ ow a0 = 400 + (rtN a1 a8 17 j); omega), List.forall_mem_cons.mpr ⟨(by show ow qb = 1 ∨ ow qb = 2 ∨ ow qb = 100 + j ∨ ow qb = 200 + (rtN a1 a8 17 j) ∨ ow qb = 300 + (rtN a1 a8 17 j) ∨ ow qb = 400 + (rtN a1 a8 17 j); omega), List.forall_mem_cons.mpr ⟨(by show ow y0 = 1 ∨ ow y0 = 2 ∨ ow y0 = 100 + j ∨ ow y0 = 200 + (rtN a1 a8 17 j) ∨ ow y0 = 300 + (rtN a1 a8 17 j) ∨ ow y0 = 400 + (rtN a1 a8 17 j); omega), List.forall_mem_cons.mpr ⟨(by show ow x0 = 1 ∨ ow x0 = 2 ∨ ow x0 = 100 + j ∨ ow x0 = 200 + (rtN a1 a8 17 j) ∨ ow x0 = 300 + (rtN a1 a8 17 j) ∨ ow x0 = 400 + (rtN a1 a8 17 j); omega), List.forall_mem_cons.mpr ⟨(by show ow k0 = 1 ∨ ow k0 = 2 ∨ ow k0 = 100 + j ∨ ow k0 = 200 + (rtN a1 a8 17 j) ∨ ow k0 = 300 + (rtN a1 a8 17 j) ∨ ow k0 = 400 + (rtN a1 a8 17 j); omega), List.forall_mem_cons.mpr ⟨(by show ow w0 = 1 ∨ ow w0 = 2 ∨ ow w0 = 100 + j ∨ ow w0 = 200 + (rtN a1 a8 17 j) ∨ ow w0 = 300 + (rtN a1 a8 17 j) ∨ ow w0 = 400 + (rtN a1 a8 17 j); omega), fun _ h => absurd h List.not_mem_nil⟩⟩⟩⟩⟩⟩
  have hOp_ : ∀ q ∈ ([(a0, .inr (7, [.ref qb])), (qb, .inl (cq, 16, .inr (.inr (.inr (.inr bq))))), (y0, .inr (6, [.ref x0, .int kd, .int wh, .int (a4 (rtN a1 a8 17 j)), .int tu, .long lo, .long hi])), (x0, .inr (5, [.ref k0, .ref w0, .int (nI nz), .int ch])), (k0, .inl (ck, L, .inl f)), (w0, .inl (cw, L, .inl g))] : va_W), 0 < ow q.1 := List.forall_mem_cons.mpr ⟨(by show 0 < ow a0; omega), List.forall_mem_cons.mpr ⟨(by show 0 < ow qb; omega), List.forall_mem_cons.mpr ⟨(by show 0 < ow y0; omega), List.forall_mem_cons.mpr ⟨(by show 0 < ow x0; omega), List.forall_mem_cons.mpr ⟨(by show 0 < ow k0; omega), List.forall_mem_cons.mpr ⟨(by show 0 < ow w0; omega), fun _ h => absurd h List.not_mem_nil⟩⟩⟩⟩⟩⟩
  refine ⟨aB_upd (fun c => c = 1 ∨ c = 2 ∨ c = 100 + j ∨ c = 200 + (rtN a1 a8 17 j) ∨ c = 300 + (rtN a1 a8 17 j) ∨ c = 400 + (rtN a1 a8 17 j)) hI (ag_call (Ch := fun c => c = 1 ∨ c = 2 ∨ c = 100 + j ∨ c = 200 + (rtN a1 a8 17 j) ∨ c = 300 + (rtN a1 a8 17 j) ∨ c = 400 + (rtN a1 a8 17 j)) hOc_ hF hD hw) (fun i y hi9 hy hch => ?_) (fun r hr9 hk9 hch => ?_) (fun i hi9 hch hk9 => ?_) (fun r hr9 hk9 hch => ?_) (fun i hch => ?_), ow_pos hOp_ hD hw, (owU_no (List.forall_mem_cons.mpr ⟨n6_0, fun _ h => absurd h List.not_mem_nil⟩)).trans ha0, (owU_no (List.forall_mem_cons.mpr ⟨n6_1, fun _ h => absurd h List.not_mem_nil⟩)).trans hq0, owU_hd⟩
  ·
    have hch : 100 + i = 1 ∨ 100 + i = 2 ∨ 100 + i = 100 + j ∨ 100 + i = 200 + (rtN a1 a8 17 j) ∨ 100 + i = 300 + (rtN a1 a8 17 j) ∨ 100 + i = 400 + (rtN a1 a8 17 j) := hch
    rw [← eR] at hch
    rw [← eR] at hr1
    have hij : i = j := by omega
    subst hij
    rw [hb] at hy
    obtain rfl : y0 = y := Option.some.inj hy
    exact Or.inr (Or.inr (Or.inl ⟨hk, kd, wh, tu, lo, hi, by rw [← hx]; exact hP.sub [2] rfl, (owU_no (List.forall_mem_cons.mpr ⟨n6_2, fun _ h => absurd h List.not_mem_nil⟩)).trans e1, ht⟩))
  ·
    have hch : 200 + r = 1 ∨ 200 + r = 2 ∨ 200 + r = 100 + j ∨ 200 + r = 200 + (rtN a1 a8 17 j) ∨ 200 + r = 300 + (rtN a1 a8 17 j) ∨ 200 + r = 400 + (rtN a1 a8 17 j) := hch
    rw [← eR] at hch
    rw [← eR] at hr1 hr3
    have hij : r = R := by omega
    rw [hij, eR]
    rw [← hx]
    exact ⟨k0, w0, ck, cw, L, f, g, nz, ch, hP.sub [3, 4, 5] rfl, hK.sub [1, 2] rfl, hO, (owU_no (List.forall_mem_cons.mpr ⟨n6_3, fun _ h => absurd h List.not_mem_nil⟩)).trans e2, (owU_no (List.forall_mem_cons.mpr ⟨n6_4, fun _ h => absurd h List.not_mem_nil⟩)).trans e3, (owU_no (List.forall_mem_cons.mpr ⟨n6_5, fun _ h => absurd h List.not_mem_nil⟩)).trans e4⟩
  ·
    replace hch : ¬ (100 + i = 1 ∨ 100 + i = 2 ∨ 100 + i = 100 + j ∨ 100 + i = 200 + (rtN a1 a8 17 j) ∨ 100 + i = 300 + (rtN a1 a8 17 j) ∨ 100 + i = 400 + (rtN a1 a8 17 j)) := hch
    rw [← eR] at hch hr1 hr3
    have hiR : i ≠ R := fun z => by rw [z] at hk9; omega
    show ¬ (200 + i = 1 ∨ 200 + i = 2 ∨ 200 + i = 100 + j ∨ 200 + i = 200 + (rtN a1 a8 17 j) ∨ 200 + i = 300 + (rtN a1 a8 17 j) ∨ 200 + i = 400 + (rtN a1 a8 17 j)) ∧ ¬ (300 + i = 1 ∨ 300 + i = 2 ∨ 300 + i = 100 + j ∨ 300 + i = 200 + (rtN a1 a8 17 j) ∨ 300 + i = 300 + (rtN a1 a8 17 j) ∨ 300 + i = 400 + (rtN a1 a8 17 j)) ∧ ¬ (400 + i = 1 ∨ 400 + i = 2 ∨ 400 + i = 100 + j ∨ 400 + i = 200 + (rtN a1 a8 17 j) ∨ 400 + i = 300 + (rtN a1 a8 17 j) ∨ 400 + i = 400 + (rtN a1 a8 17 j)) ∧ ¬ (500 + i = 1 ∨ 500 + i = 2 ∨ 500 + i = 100 + j ∨ 500 + i = 200 + (rtN a1 a8 17 j) ∨ 500 + i = 300 + (rtN a1 a8 17 j) ∨ 500 + i = 400 + (rtN a1 a8 17 j))
    rw [← eR]
    omega
  ·
    replace hch : ¬ (200 + r = 1 ∨ 200 + r = 2 ∨ 200 + r = 100 + j ∨ 200 + r = 200 + (rtN a1 a8 17 j) ∨ 200 + r = 300 + (rtN a1 a8 17 j) ∨ 200 + r = 400 + (rtN a1 a8 17 j)) := hch
    rw [← eR] at hch
    show ¬ (300 + r = 1 ∨ 300 + r = 2 ∨ 300 + r = 100 + j ∨ 300 + r = 200 + (rtN a1 a8 17 j) ∨ 300 + r = 300 + (rtN a1 a8 17 j) ∨ 300 + r = 400 + (rtN a1 a8 17 j)) ∧ ¬ (400 + r = 1 ∨ 400 + r = 2 ∨ 400 + r = 100 + j ∨ 400 + r = 200 + (rtN a1 a8 17 j) ∨ 400 + r = 300 + (rtN a1 a8 17 j) ∨ 400 + r = 400 + (rtN a1 a8 17 j))
    rw [← eR]
    omega
  · exact hcr i (by
      replace hch : ¬ (100 + i = 1 ∨ 100 + i = 2 ∨ 100 + i = 100 + j ∨ 100 + i = 200 + (rtN a1 a8 17 j) ∨ 100 + i = 300 + (rtN a1 a8 17 j) ∨ 100 + i = 400 + (rtN a1 a8 17 j)) := hch
      omega)
set_option maxRecDepth 20000 in
theorem updN_cuH {D : va_G} {U : State} {H H1 : Heap} {a0 qb : Nat} {cq : ClassId} {bq : Nat → Option Nat} {ow rx cr cr1 : Nat → Nat} {a1 a4 a8 a11 : Nat → Int32} {xx : Nat} {bq2 : Nat → Option Nat} {j : Nat} {y0 : Nat} {cap : Nat} {ru : Int32} {tb : Nat} {b0 : Nat} {cb : ClassId} {bf : Nat → Int32} {x0 : Nat} {k0 : Nat} {w0 : Nat} {ck : ClassId} {cw : ClassId} {L : Nat} {f : Nat → Int32} {g : Nat → Int32} {nz : Nat} {ch : Int32} {yn : Nat} (hI : aI D U H a0 qb cq bq ow rx cr a1 a4 a8 a11) (hj : j < 16) (hb : bq j = some y0) (hk : (a1 j).toInt = 1) (e1 : ow y0 = 100 + j) (e2 : ow x0 = 200 + j) (e3 : ow k0 = 300 + j) (e4 : ow w0 = 400 + j) (e5 : ow b0 = 500 + j) (hF : ∀ q : Nat, q < H.size → ¬ va_A [(a0, .inr (7, [.ref qb])), (qb, .inl (cq, 16, .inr (.inr (.inr (.inr bq))))), (y0, .inr (3, [.ref x0, .int 0, .int (-1), .int (nI cap), .int ru, .int (nI tb), .ref b0])), (x0, .inr (5, [.ref k0, .ref w0, .int (nI nz), .int ch])), (k0, .inl (ck, L, .inl f)), (w0, .inl (cw, L, .inl g)), (b0, .inl (cb, tb, .inl bf))] H.size q → H1[q]? = H[q]?) (hP : va_P D vwCl [(a0, .inr (7, [.ref qb])), (qb, .inl (cq, 16, .inr (.inr (.inr (.inr bq2))))), (y0, .inr (3, [.ref x0, .int 0, .int (-1), .int (nI cap), .int ru, .int (nI tb), .ref b0])), (x0, .inr (5, [.ref k0, .ref w0, .int (nI nz), .int ch])), (k0, .inl (ck, L, .inl f)), (w0, .inl (cw, L, .inl g)), (b0, .inl (cb, tb, .inl bf)), (yn, .inr (2, [.int 4, .int (nI j), .ref y0, .int 0, .int (-1), .int ch]))] H1) (hK : va_K D vwCl [(cq, .object "KeyAtlas$Body"), (ck, .int), (cw, .int), (cb, .boolean)] U) (hD : va_D (va_A [(a0, .inr (7, [.ref qb])), (qb, .inl (cq, 16, .inr (.inr (.inr (.inr bq))))), (y0, .inr (3, [.ref x0, .int 0, .int (-1), .int (nI cap), .int ru, .int (nI tb), .ref b0])), (x0, .inr (5, [.ref k0, .ref w0, .int (nI nz), .int ch])), (k0, .inl (ck, L, .inl f)), (w0, .inl (cw, L, .inl g)), (b0, .inl (cb, tb, .inl bf))] H.size) [(a0, .inr (7, [.ref qb])), (qb, .inl (cq, 16, .inr (.inr (.inr (.inr bq2))))), (y0, .inr (3, [.ref x0, .int 0, .int (-1), .int (nI cap), .int ru, .int (nI tb), .ref b0])), (x0, .inr (5, [.ref k0, .ref w0, .int (nI nz), .int ch])), (k0, .inl (ck, L, .inl f)), (w0, .inl (cw, L, .inl g)), (b0, .inl (cb, tb, .inl bf)), (yn, .inr (2, [.int 4, .int (nI j), .ref y0, .int 0, .int (-1), .int ch]))]) (hO : hOK tb L nz cap) (hc : crOf tb L ≤ cr1 j) (hcr : ∀ i : Nat, i ≠ j → cr i ≤ cr1 i) : ((∀ j y : Nat, j < 16 → bq j = some y → bdI D U H1 bq (owU [(yn, 100 + xx)] ow) rx cr1 a1 a4 a8 a11 j y) ∧ (∀ r : Nat, r < 16 → (a1 r).toInt = 3 → rwI D U H1 (owU [(yn, 100 + xx)] ow) r (rx r))) ∧ (∀ q : Nat, 0 < (owU [(yn, 100 + xx)] ow) q → 0 < ow q ∨ H.size ≤ q) ∧ (owU [(yn, 100 + xx)] ow) a0 = 1 ∧ (owU [(yn, 100 + xx)] ow) qb = 2 ∧ (owU [(yn, 100 + xx)] ow) yn = 100 + xx := by
  have ha0 := hI.2.2.1
  have hq0 := hI.2.2.2.1
  have n7_0 : yn ≠ a0 := fun z => absurd (hD.1 7 0 _ _ rfl rfl z) (by decide)
  have n7_1 : yn ≠ qb := fun z => absurd (hD.1 7 1 _ _ rfl rfl z) (by decide)
  have n7_2 : yn ≠ y0 := fun z => absurd (hD.1 7 2 _ _ rfl rfl z) (by decide)
  have n7_3 : yn ≠ x0 := fun z => absurd (hD.1 7 3 _ _ rfl rfl z) (by decide)
  have n7_4 : yn ≠ k0 := fun z => absurd (hD.1 7 4 _ _ rfl rfl z) (by decide)
  have n7_5 : yn ≠ w0 := fun z => absurd (hD.1 7 5 _ _ rfl rfl z) (by decide)
  have n7_6 : yn ≠ b0 := fun z => absurd (hD.1 7 6 _ _ rfl rfl z) (by decide)
  have hw : ∀ q : Nat, (∀ x ∈ ([(a0, .inr (7, [.ref qb])), (qb, .inl (cq, 16, .inr (.inr (.inr (.inr bq2))))), (y0, .inr (3, [.ref x0, .int 0, .int (-1), .int (nI cap), .int ru, .int (nI tb), .ref b0])), (x0, .inr (5, [.ref k0, .ref w0, .int (nI nz), .int ch])), (k0, .inl (ck, L, .inl f)), (w0, .inl (cw, L, .inl g)), (b0, .inl (cb, tb, .inl bf)), (yn, .inr (2, [.int 4, .int (nI j), .ref y0, .int 0, .int (-1), .int ch]))] : va_W), x.1 ≠ q) → (owU [(yn, 100 + xx)] ow) q = ow q := fun q h => owU_no (List.forall_mem_cons.mpr ⟨h _ (List.mem_of_getElem? (i := 7) rfl), fun _ h => absurd h List.not_mem_nil⟩)
  have hOc_ : ∀ q ∈ ([(a0, .inr (7, [.ref qb])), (qb, .inl (cq, 16, .inr (.inr (.inr (.inr bq))))), (y0, .inr (3, [.ref x0, .int 0, .int (-1), .int (nI cap), .int ru, .int (nI tb), .ref b0])), (x0, .inr (5, [.ref k0, .ref w0, .int (nI nz), .int ch])), (k0, .inl (ck, L, .inl f)), (w0, .inl (cw, L, .inl g)), (b0, .inl (cb, tb, .inl bf))] : va_W), (fun c => c = 1 ∨ c = 2 ∨ c = 100 + j ∨ c = 200 + j ∨ c = 300 + j ∨ c = 400 + j ∨ c = 500 + j) (ow q.1) := List.forall_mem_cons.mpr ⟨(by show ow a0 = 1 ∨ ow a0 = 2 ∨ ow a0 = 100 + j ∨ ow a0 = 200 + j ∨ ow a0 = 300 + j ∨ ow a0 = 400 + j ∨ ow a0 = 500 + j; omega), List.forall_mem_cons.mpr ⟨(by show ow qb = 1 ∨ ow qb = 2 ∨ ow qb = 100 + j ∨ ow qb = 200 + j ∨ ow qb = 300 + j ∨ ow qb = 400 + j ∨ ow qb = 500 + j; omega), List.forall_mem_cons.mpr ⟨(by show ow y0 = 1 ∨ ow y0 = 2 ∨ ow y0 = 100 + j ∨ ow y0 = 200 + j ∨ ow y0 = 300 + j ∨ ow y0 = 400 + j ∨ ow y0 = 500 + j; omega), List.forall_mem_cons.mpr ⟨(by show ow x0 = 1 ∨ ow x0 = 2 ∨ ow x0 = 100 + j ∨ ow x0 = 200 + j ∨ ow x0 = 300 + j ∨ ow x0 = 400 + j ∨ ow x0 = 500 + j; omega), List.forall_mem_cons.mpr ⟨(by show ow k0 = 1 ∨ ow k0 = 2 ∨ ow k0 = 100 + j ∨ ow k0 = 200 + j ∨ ow k0 = 300 + j ∨ ow k0 = 400 + j ∨ ow k0 = 500 + j; omega), List.forall_mem_cons.mpr ⟨(by show ow w0 = 1 ∨ ow w0 = 2 ∨ ow w0 = 100 + j ∨ ow w0 = 200 + j ∨ ow w0 = 300 + j ∨ ow w0 = 400 + j ∨ ow w0 = 500 + j; omega), List.forall_mem_cons.mpr ⟨(by show ow b0 = 1 ∨ ow b0 = 2 ∨ ow b0 = 100 + j ∨ ow b0 = 200 + j ∨ ow b0 = 300 + j ∨ ow b0 = 400 + j ∨ ow b0 = 500 + j; omega), fun _ h => absurd h List.not_mem_nil⟩⟩⟩⟩⟩⟩⟩
  have hOp_ : ∀ q ∈ ([(a0, .inr (7, [.ref qb])), (qb, .inl (cq, 16, .inr (.inr (.inr (.inr bq))))), (y0, .inr (3, [.ref x0, .int 0, .int (-1), .int (nI cap), .int ru, .int (nI tb), .ref b0])), (x0, .inr (5, [.ref k0, .ref w0, .int (nI nz), .int ch])), (k0, .inl (ck, L, .inl f)), (w0, .inl (cw, L, .inl g)), (b0, .inl (cb, tb, .inl bf))] : va_W), 0 < ow q.1 := List.forall_mem_cons.mpr ⟨(by show 0 < ow a0; omega), List.forall_mem_cons.mpr ⟨(by show 0 < ow qb; omega), List.forall_mem_cons.mpr ⟨(by show 0 < ow y0; omega), List.forall_mem_cons.mpr ⟨(by show 0 < ow x0; omega), List.forall_mem_cons.mpr ⟨(by show 0 < ow k0; omega), List.forall_mem_cons.mpr ⟨(by show 0 < ow w0; omega), List.forall_mem_cons.mpr ⟨(by show 0 < ow b0; omega), fun _ h => absurd h List.not_mem_nil⟩⟩⟩⟩⟩⟩⟩
  refine ⟨aB_upd (fun c => c = 1 ∨ c = 2 ∨ c = 100 + j ∨ c = 200 + j ∨ c = 300 + j ∨ c = 400 + j ∨ c = 500 + j) hI (ag_call (Ch := fun c => c = 1 ∨ c = 2 ∨ c = 100 + j ∨ c = 200 + j ∨ c = 300 + j ∨ c = 400 + j ∨ c = 500 + j) hOc_ hF hD hw) (fun i y hi9 hy hch => ?_) (fun r hr9 hk9 hch => ?_) (fun i hi9 hch hk9 => ?_) (fun r hr9 hk9 hch => ?_) (fun i hch => ?_), ow_pos hOp_ hD hw, (owU_no (List.forall_mem_cons.mpr ⟨n7_0, fun _ h => absurd h List.not_mem_nil⟩)).trans ha0, (owU_no (List.forall_mem_cons.mpr ⟨n7_1, fun _ h => absurd h List.not_mem_nil⟩)).trans hq0, owU_hd⟩
  ·
    have hch : 100 + i = 1 ∨ 100 + i = 2 ∨ 100 + i = 100 + j ∨ 100 + i = 200 + j ∨ 100 + i = 300 + j ∨ 100 + i = 400 + j ∨ 100 + i = 500 + j := hch
    have hij : i = j := by omega
    subst hij
    rw [hb] at hy
    obtain rfl : y0 = y := Option.some.inj hy
    exact Or.inl ⟨hk, cap, ru, tb, b0, cb, bf, x0, k0, w0, ck, cw, L, f, g, nz, ch, hP.sub [2, 3, 4, 5, 6] rfl, hK.sub [1, 2, 3] rfl, hO, hc, (owU_no (List.forall_mem_cons.mpr ⟨n7_2, fun _ h => absurd h List.not_mem_nil⟩)).trans e1, (owU_no (List.forall_mem_cons.mpr ⟨n7_3, fun _ h => absurd h List.not_mem_nil⟩)).trans e2, (owU_no (List.forall_mem_cons.mpr ⟨n7_4, fun _ h => absurd h List.not_mem_nil⟩)).trans e3, (owU_no (List.forall_mem_cons.mpr ⟨n7_5, fun _ h => absurd h List.not_mem_nil⟩)).trans e4, (owU_no (List.forall_mem_cons.mpr ⟨n7_6, fun _ h => absurd h List.not_mem_nil⟩)).trans e5⟩
  ·
    have hch : 200 + r = 1 ∨ 200 + r = 2 ∨ 200 + r = 100 + j ∨ 200 + r = 200 + j ∨ 200 + r = 300 + j ∨ 200 + r = 400 + j ∨ 200 + r = 500 + j := hch
    have hij : r = j := by omega
    exfalso
    rw [hij] at hk9
    omega
  ·
    replace hch : ¬ (100 + i = 1 ∨ 100 + i = 2 ∨ 100 + i = 100 + j ∨ 100 + i = 200 + j ∨ 100 + i = 300 + j ∨ 100 + i = 400 + j ∨ 100 + i = 500 + j) := hch
    show ¬ (200 + i = 1 ∨ 200 + i = 2 ∨ 200 + i = 100 + j ∨ 200 + i = 200 + j ∨ 200 + i = 300 + j ∨ 200 + i = 400 + j ∨ 200 + i = 500 + j) ∧ ¬ (300 + i = 1 ∨ 300 + i = 2 ∨ 300 + i = 100 + j ∨ 300 + i = 200 + j ∨ 300 + i = 300 + j ∨ 300 + i = 400 + j ∨ 300 + i = 500 + j) ∧ ¬ (400 + i = 1 ∨ 400 + i = 2 ∨ 400 + i = 100 + j ∨ 400 + i = 200 + j ∨ 400 + i = 300 + j ∨ 400 + i = 400 + j ∨ 400 + i = 500 + j) ∧ ¬ (500 + i = 1 ∨ 500 + i = 2 ∨ 500 + i = 100 + j ∨ 500 + i = 200 + j ∨ 500 + i = 300 + j ∨ 500 + i = 400 + j ∨ 500 + i = 500 + j)
    omega
  ·
    replace hch : ¬ (200 + r = 1 ∨ 200 + r = 2 ∨ 200 + r = 100 + j ∨ 200 + r = 200 + j ∨ 200 + r = 300 + j ∨ 200 + r = 400 + j ∨ 200 + r = 500 + j) := hch
    show ¬ (300 + r = 1 ∨ 300 + r = 2 ∨ 300 + r = 100 + j ∨ 300 + r = 200 + j ∨ 300 + r = 300 + j ∨ 300 + r = 400 + j ∨ 300 + r = 500 + j) ∧ ¬ (400 + r = 1 ∨ 400 + r = 2 ∨ 400 + r = 100 + j ∨ 400 + r = 200 + j ∨ 400 + r = 300 + j ∨ 400 + r = 400 + j ∨ 400 + r = 500 + j)
    have hrj_ : r ≠ j := fun z => by rw [z] at hk9; omega
    omega
  · exact hcr i (by
      replace hch : ¬ (100 + i = 1 ∨ 100 + i = 2 ∨ 100 + i = 100 + j ∨ 100 + i = 200 + j ∨ 100 + i = 300 + j ∨ 100 + i = 400 + j ∨ 100 + i = 500 + j) := hch
      omega)
set_option maxRecDepth 20000 in
theorem updN_cuL {D : va_G} {U : State} {H H1 : Heap} {a0 qb : Nat} {cq : ClassId} {bq : Nat → Option Nat} {ow rx cr cr1 : Nat → Nat} {a1 a4 a8 a11 : Nat → Int32} {xx : Nat} {bq2 : Nat → Option Nat} {j : Nat} {y0 : Nat} {lim : Nat} {bu : Int32} {x0 : Nat} {k0 : Nat} {w0 : Nat} {ck : ClassId} {cw : ClassId} {L : Nat} {f : Nat → Int32} {g : Nat → Int32} {nz : Nat} {ch : Int32} {yn : Nat} (hI : aI D U H a0 qb cq bq ow rx cr a1 a4 a8 a11) (hj : j < 16) (hb : bq j = some y0) (hk : (a1 j).toInt = 2) (e1 : ow y0 = 100 + j) (e2 : ow x0 = 200 + j) (e3 : ow k0 = 300 + j) (e4 : ow w0 = 400 + j) (hF : ∀ q : Nat, q < H.size → ¬ va_A [(a0, .inr (7, [.ref qb])), (qb, .inl (cq, 16, .inr (.inr (.inr (.inr bq))))), (y0, .inr (4, [.ref x0, .int 1, .int (-1), .int (nI lim), .int bu])), (x0, .inr (5, [.ref k0, .ref w0, .int (nI nz), .int ch])), (k0, .inl (ck, L, .inl f)), (w0, .inl (cw, L, .inl g))] H.size q → H1[q]? = H[q]?) (hP : va_P D vwCl [(a0, .inr (7, [.ref qb])), (qb, .inl (cq, 16, .inr (.inr (.inr (.inr bq2))))), (y0, .inr (4, [.ref x0, .int 1, .int (-1), .int (nI lim), .int bu])), (x0, .inr (5, [.ref k0, .ref w0, .int (nI nz), .int ch])), (k0, .inl (ck, L, .inl f)), (w0, .inl (cw, L, .inl g)), (yn, .inr (2, [.int 4, .int (nI j), .ref y0, .int 0, .int (-1), .int ch]))] H1) (hK : va_K D vwCl [(cq, .object "KeyAtlas$Body"), (ck, .int), (cw, .int)] U) (hD : va_D (va_A [(a0, .inr (7, [.ref qb])), (qb, .inl (cq, 16, .inr (.inr (.inr (.inr bq))))), (y0, .inr (4, [.ref x0, .int 1, .int (-1), .int (nI lim), .int bu])), (x0, .inr (5, [.ref k0, .ref w0, .int (nI nz), .int ch])), (k0, .inl (ck, L, .inl f)), (w0, .inl (cw, L, .inl g))] H.size) [(a0, .inr (7, [.ref qb])), (qb, .inl (cq, 16, .inr (.inr (.inr (.inr bq2))))), (y0, .inr (4, [.ref x0, .int 1, .int (-1), .int (nI lim), .int bu])), (x0, .inr (5, [.ref k0, .ref w0, .int (nI nz), .int ch])), (k0, .inl (ck, L, .inl f)), (w0, .inl (cw, L, .inl g)), (yn, .inr (2, [.int 4, .int (nI j), .ref y0, .int 0, .int (-1), .int ch]))]) (hO : rOK L nz) (hl : lim ≤ 1000) (hcr : ∀ i : Nat, i ≠ j → cr i ≤ cr1 i) : ((∀ j y : Nat, j < 16 → bq j = some y → bdI D U H1 bq (owU [(yn, 100 + xx)] ow) rx cr1 a1 a4 a8 a11 j y) ∧ (∀ r : Nat, r < 16 → (a1 r).toInt = 3 → rwI D U H1 (owU [(yn, 100 + xx)] ow) r (rx r))) ∧ (∀ q : Nat, 0 < (owU [(yn, 100 + xx)] ow) q → 0 < ow q ∨ H.size ≤ q) ∧ (owU [(yn, 100 + xx)] ow) a0 = 1 ∧ (owU [(yn, 100 + xx)] ow) qb = 2 ∧ (owU [(yn, 100 + xx)] ow) yn = 100 + xx := by
  have ha0 := hI.2.2.1
  have hq0 := hI.2.2.2.1
  have n6_0 : yn ≠ a0 := fun z => absurd (hD.1 6 0 _ _ rfl rfl z) (by decide)
  have n6_1 : yn ≠ qb := fun z => absurd (hD.1 6 1 _ _ rfl rfl z) (by decide)
  have n6_2 : yn ≠ y0 := fun z => absurd (hD.1 6 2 _ _ rfl rfl z) (by decide)
  have n6_3 : yn ≠ x0 := fun z => absurd (hD.1 6 3 _ _ rfl rfl z) (by decide)
  have n6_4 : yn ≠ k0 := fun z => absurd (hD.1 6 4 _ _ rfl rfl z) (by decide)
  have n6_5 : yn ≠ w0 := fun z => absurd (hD.1 6 5 _ _ rfl rfl z) (by decide)
  have hw : ∀ q : Nat, (∀ x ∈ ([(a0, .inr (7, [.ref qb])), (qb, .inl (cq, 16, .inr (.inr (.inr (.inr bq2))))), (y0, .inr (4, [.ref x0, .int 1, .int (-1), .int (nI lim), .int bu])), (x0, .inr (5, [.ref k0, .ref w0, .int (nI nz), .int ch])), (k0, .inl (ck, L, .inl f)), (w0, .inl (cw, L, .inl g)), (yn, .inr (2, [.int 4, .int (nI j), .ref y0, .int 0, .int (-1), .int ch]))] : va_W), x.1 ≠ q) → (owU [(yn, 100 + xx)] ow) q = ow q := fun q h => owU_no (List.forall_mem_cons.mpr ⟨h _ (List.mem_of_getElem? (i := 6) rfl), fun _ h => absurd h List.not_mem_nil⟩)
  have hOc_ : ∀ q ∈ ([(a0, .inr (7, [.ref qb])), (qb, .inl (cq, 16, .inr (.inr (.inr (.inr bq))))), (y0, .inr (4, [.ref x0, .int 1, .int (-1), .int (nI lim), .int bu])), (x0, .inr (5, [.ref k0, .ref w0, .int (nI nz), .int ch])), (k0, .inl (ck, L, .inl f)), (w0, .inl (cw, L, .inl g))] : va_W), (fun c => c = 1 ∨ c = 2 ∨ c = 100 + j ∨ c = 200 + j ∨ c = 300 + j ∨ c = 400 + j) (ow q.1) := List.forall_mem_cons.mpr ⟨(by show ow a0 = 1 ∨ ow a0 = 2 ∨ ow a0 = 100 + j ∨ ow a0 = 200 + j ∨ ow a0 = 300 + j ∨ ow a0 = 400 + j; omega), List.forall_mem_cons.mpr ⟨(by show ow qb = 1 ∨ ow qb = 2 ∨ ow qb = 100 + j ∨ ow qb = 200 + j ∨ ow qb = 300 + j ∨ ow qb = 400 + j; omega), List.forall_mem_cons.mpr ⟨(by show ow y0 = 1 ∨ ow y0 = 2 ∨ ow y0 = 100 + j ∨ ow y0 = 200 + j ∨ ow y0 = 300 + j ∨ ow y0 = 400 + j; omega), List.forall_mem_cons.mpr ⟨(by show ow x0 = 1 ∨ ow x0 = 2 ∨ ow x0 = 100 + j ∨ ow x0 = 200 + j ∨ ow x0 = 300 + j ∨ ow x0 = 400 + j; omega), List.forall_mem_cons.mpr ⟨(by show ow k0 = 1 ∨ ow k0 = 2 ∨ ow k0 = 100 + j ∨ ow k0 = 200 + j ∨ ow k0 = 300 + j ∨ ow k0 = 400 + j; omega), List.forall_mem_cons.mpr ⟨(by show ow w0 = 1 ∨ ow w0 = 2 ∨ ow w0 = 100 + j ∨ ow w0 = 200 + j ∨ ow w0 = 300 + j ∨ ow w0 = 400 + j; omega), fun _ h => absurd h List.not_mem_nil⟩⟩⟩⟩⟩⟩
  have hOp_ : ∀ q ∈ ([(a0, .inr (7, [.ref qb])), (qb, .inl (cq, 16, .inr (.inr (.inr (.inr bq))))), (y0, .inr (4, [.ref x0, .int 1, .int (-1), .int (nI lim), .int bu])), (x0, .inr (5, [.ref k0, .ref w0, .int (nI nz), .int ch])), (k0, .inl (ck, L, .inl f)), (w0, .inl (cw, L, .inl g))] : va_W), 0 < ow q.1 := List.forall_mem_cons.mpr ⟨(by show 0 < ow a0; omega), List.forall_mem_cons.mpr ⟨(by show 0 < ow qb; omega), List.forall_mem_cons.mpr ⟨(by show 0 < ow y0; omega), List.forall_mem_cons.mpr ⟨(by show 0 < ow x0; omega), List.forall_mem_cons.mpr ⟨(by show 0 < ow k0; omega), List.forall_mem_cons.mpr ⟨(by show 0 < ow w0; omega), fun _ h => absurd h List.not_mem_nil⟩⟩⟩⟩⟩⟩
  refine ⟨aB_upd (fun c => c = 1 ∨ c = 2 ∨ c = 100 + j ∨ c = 200 + j ∨ c = 300 + j ∨ c = 400 + j) hI (ag_call (Ch := fun c => c = 1 ∨ c = 2 ∨ c = 100 + j ∨ c = 200 + j ∨ c = 300 + j ∨ c = 400 + j) hOc_ hF hD hw) (fun i y hi9 hy hch => ?_) (fun r hr9 hk9 hch => ?_) (fun i hi9 hch hk9 => ?_) (fun r hr9 hk9 hch => ?_) (fun i hch => ?_), ow_pos hOp_ hD hw, (owU_no (List.forall_mem_cons.mpr ⟨n6_0, fun _ h => absurd h List.not_mem_nil⟩)).trans ha0, (owU_no (List.forall_mem_cons.mpr ⟨n6_1, fun _ h => absurd h List.not_mem_nil⟩)).trans hq0, owU_hd⟩
  ·
    have hch : 100 + i = 1 ∨ 100 + i = 2 ∨ 100 + i = 100 + j ∨ 100 + i = 200 + j ∨ 100 + i = 300 + j ∨ 100 + i = 400 + j := hch
    have hij : i = j := by omega
    subst hij
    rw [hb] at hy
    obtain rfl : y0 = y := Option.some.inj hy
    exact Or.inr (Or.inl ⟨hk, lim, bu, x0, k0, w0, ck, cw, L, f, g, nz, ch, hP.sub [2, 3, 4, 5] rfl, hK.sub [1, 2] rfl, hO, hl, (owU_no (List.forall_mem_cons.mpr ⟨n6_2, fun _ h => absurd h List.not_mem_nil⟩)).trans e1, (owU_no (List.forall_mem_cons.mpr ⟨n6_3, fun _ h => absurd h List.not_mem_nil⟩)).trans e2, (owU_no (List.forall_mem_cons.mpr ⟨n6_4, fun _ h => absurd h List.not_mem_nil⟩)).trans e3, (owU_no (List.forall_mem_cons.mpr ⟨n6_5, fun _ h => absurd h List.not_mem_nil⟩)).trans e4⟩)
  ·
    have hch : 200 + r = 1 ∨ 200 + r = 2 ∨ 200 + r = 100 + j ∨ 200 + r = 200 + j ∨ 200 + r = 300 + j ∨ 200 + r = 400 + j := hch
    have hij : r = j := by omega
    exfalso
    rw [hij] at hk9
    omega
  ·
    replace hch : ¬ (100 + i = 1 ∨ 100 + i = 2 ∨ 100 + i = 100 + j ∨ 100 + i = 200 + j ∨ 100 + i = 300 + j ∨ 100 + i = 400 + j) := hch
    show ¬ (200 + i = 1 ∨ 200 + i = 2 ∨ 200 + i = 100 + j ∨ 200 + i = 200 + j ∨ 200 + i = 300 + j ∨ 200 + i = 400 + j) ∧ ¬ (300 + i = 1 ∨ 300 + i = 2 ∨ 300 + i = 100 + j ∨ 300 + i = 200 + j ∨ 300 + i = 300 + j ∨ 300 + i = 400 + j) ∧ ¬ (400 + i = 1 ∨ 400 + i = 2 ∨ 400 + i = 100 + j ∨ 400 + i = 200 + j ∨ 400 + i = 300 + j ∨ 400 + i = 400 + j) ∧ ¬ (500 + i = 1 ∨ 500 + i = 2 ∨ 500 + i = 100 + j ∨ 500 + i = 200 + j ∨ 500 + i = 300 + j ∨ 500 + i = 400 + j)
    omega
  ·
    replace hch : ¬ (200 + r = 1 ∨ 200 + r = 2 ∨ 200 + r = 100 + j ∨ 200 + r = 200 + j ∨ 200 + r = 300 + j ∨ 200 + r = 400 + j) := hch
    show ¬ (300 + r = 1 ∨ 300 + r = 2 ∨ 300 + r = 100 + j ∨ 300 + r = 200 + j ∨ 300 + r = 300 + j ∨ 300 + r = 400 + j) ∧ ¬ (400 + r = 1 ∨ 400 + r = 2 ∨ 400 + r = 100 + j ∨ 400 + r = 200 + j ∨ 400 + r = 300 + j ∨ 400 + r = 400 + j)
    have hrj_ : r ≠ j := fun z => by rw [z] at hk9; omega
    omega
  · exact hcr i (by
      replace hch : ¬ (100 + i = 1 ∨ 100 + i = 2 ∨ 100 + i = 100 + j ∨ 100 + i = 200 + j ∨ 100 + i = 300 + j ∨ 100 + i = 400 + j) := hch
      omega)
set_option maxRecDepth 20000 in
theorem updN_cuS {D : va_G} {U : State} {H H1 : Heap} {a0 qb : Nat} {cq : ClassId} {bq : Nat → Option Nat} {ow rx cr cr1 : Nat → Nat} {a1 a4 a8 a11 : Nat → Int32} {xx : Nat} {bq2 : Nat → Option Nat} {j : Nat} {y0 : Nat} {kd : Int32} {wh : Int32} {tu : Int32} {lo : Int64} {hi : Int64} {x0 : Nat} {k0 : Nat} {w0 : Nat} {ck : ClassId} {cw : ClassId} {L : Nat} {f : Nat → Int32} {g : Nat → Int32} {nz : Nat} {ch : Int32} {yn : Nat} (hI : aI D U H a0 qb cq bq ow rx cr a1 a4 a8 a11) (hj : j < 16) (hb : bq j = some y0) (hk : (a1 j).toInt = 3 ∨ (a1 j).toInt = 4) (e1 : ow y0 = 100 + j) (e2 : ow x0 = 200 + (rtN a1 a8 17 j)) (e3 : ow k0 = 300 + (rtN a1 a8 17 j)) (e4 : ow w0 = 400 + (rtN a1 a8 17 j)) (hr : rtN a1 a8 17 j < 16 ∧ (a1 (rtN a1 a8 17 j)).toInt = 3) (hx : x0 = rx (rtN a1 a8 17 j)) (ht : (tu.toInt = 0 ∨ tu.toInt = 1) ∧ (tu.toInt = 0 ↔ tnN a1 a8 a11 17 j false = false) ∧ 0 ≤ (a4 (rtN a1 a8 17 j)).toInt ∧ (a4 (rtN a1 a8 17 j)).toInt ≤ 3 ∧ wh = if (a1 j).toInt = 4 then a8 j else -1) (hF : ∀ q : Nat, q < H.size → ¬ va_A [(a0, .inr (7, [.ref qb])), (qb, .inl (cq, 16, .inr (.inr (.inr (.inr bq))))), (y0, .inr (6, [.ref x0, .int kd, .int wh, .int (a4 (rtN a1 a8 17 j)), .int tu, .long lo, .long hi])), (x0, .inr (5, [.ref k0, .ref w0, .int (nI nz), .int ch])), (k0, .inl (ck, L, .inl f)), (w0, .inl (cw, L, .inl g))] H.size q → H1[q]? = H[q]?) (hP : va_P D vwCl [(a0, .inr (7, [.ref qb])), (qb, .inl (cq, 16, .inr (.inr (.inr (.inr bq2))))), (y0, .inr (6, [.ref x0, .int kd, .int wh, .int (a4 (rtN a1 a8 17 j)), .int tu, .long lo, .long hi])), (x0, .inr (5, [.ref k0, .ref w0, .int (nI nz), .int ch])), (k0, .inl (ck, L, .inl f)), (w0, .inl (cw, L, .inl g)), (yn, .inr (2, [.int 4, .int (nI j), .ref y0, .int 0, .int (-1), .int ch]))] H1) (hK : va_K D vwCl [(cq, .object "KeyAtlas$Body"), (ck, .int), (cw, .int)] U) (hD : va_D (va_A [(a0, .inr (7, [.ref qb])), (qb, .inl (cq, 16, .inr (.inr (.inr (.inr bq))))), (y0, .inr (6, [.ref x0, .int kd, .int wh, .int (a4 (rtN a1 a8 17 j)), .int tu, .long lo, .long hi])), (x0, .inr (5, [.ref k0, .ref w0, .int (nI nz), .int ch])), (k0, .inl (ck, L, .inl f)), (w0, .inl (cw, L, .inl g))] H.size) [(a0, .inr (7, [.ref qb])), (qb, .inl (cq, 16, .inr (.inr (.inr (.inr bq2))))), (y0, .inr (6, [.ref x0, .int kd, .int wh, .int (a4 (rtN a1 a8 17 j)), .int tu, .long lo, .long hi])), (x0, .inr (5, [.ref k0, .ref w0, .int (nI nz), .int ch])), (k0, .inl (ck, L, .inl f)), (w0, .inl (cw, L, .inl g)), (yn, .inr (2, [.int 4, .int (nI j), .ref y0, .int 0, .int (-1), .int ch]))]) (hO : rOK L nz) (hcr : ∀ i : Nat, i ≠ j → cr i ≤ cr1 i) : ((∀ j y : Nat, j < 16 → bq j = some y → bdI D U H1 bq (owU [(yn, 100 + xx)] ow) rx cr1 a1 a4 a8 a11 j y) ∧ (∀ r : Nat, r < 16 → (a1 r).toInt = 3 → rwI D U H1 (owU [(yn, 100 + xx)] ow) r (rx r))) ∧ (∀ q : Nat, 0 < (owU [(yn, 100 + xx)] ow) q → 0 < ow q ∨ H.size ≤ q) ∧ (owU [(yn, 100 + xx)] ow) a0 = 1 ∧ (owU [(yn, 100 + xx)] ow) qb = 2 ∧ (owU [(yn, 100 + xx)] ow) yn = 100 + xx := by
  have ha0 := hI.2.2.1
  have hq0 := hI.2.2.2.1
  obtain ⟨hr1, hr3⟩ := hr
  obtain ⟨R, eR⟩ : ∃ R, R = rtN a1 a8 17 j := ⟨_, rfl⟩
  have n6_0 : yn ≠ a0 := fun z => absurd (hD.1 6 0 _ _ rfl rfl z) (by decide)
  have n6_1 : yn ≠ qb := fun z => absurd (hD.1 6 1 _ _ rfl rfl z) (by decide)
  have n6_2 : yn ≠ y0 := fun z => absurd (hD.1 6 2 _ _ rfl rfl z) (by decide)
  have n6_3 : yn ≠ x0 := fun z => absurd (hD.1 6 3 _ _ rfl rfl z) (by decide)
  have n6_4 : yn ≠ k0 := fun z => absurd (hD.1 6 4 _ _ rfl rfl z) (by decide)
  have n6_5 : yn ≠ w0 := fun z => absurd (hD.1 6 5 _ _ rfl rfl z) (by decide)
  have hw : ∀ q : Nat, (∀ x ∈ ([(a0, .inr (7, [.ref qb])), (qb, .inl (cq, 16, .inr (.inr (.inr (.inr bq2))))), (y0, .inr (6, [.ref x0, .int kd, .int wh, .int (a4 (rtN a1 a8 17 j)), .int tu, .long lo, .long hi])), (x0, .inr (5, [.ref k0, .ref w0, .int (nI nz), .int ch])), (k0, .inl (ck, L, .inl f)), (w0, .inl (cw, L, .inl g)), (yn, .inr (2, [.int 4, .int (nI j), .ref y0, .int 0, .int (-1), .int ch]))] : va_W), x.1 ≠ q) → (owU [(yn, 100 + xx)] ow) q = ow q := fun q h => owU_no (List.forall_mem_cons.mpr ⟨h _ (List.mem_of_getElem? (i := 6) rfl), fun _ h => absurd h List.not_mem_nil⟩)
  have hOc_ : ∀ q ∈ ([(a0, .inr (7, [.ref qb])), (qb, .inl (cq, 16, .inr (.inr (.inr (.inr bq))))), (y0, .inr (6, [.ref x0, .int kd, .int wh, .int (a4 (rtN a1 a8 17 j)), .int tu, .long lo, .long hi])), (x0, .inr (5, [.ref k0, .ref w0, .int (nI nz), .int ch])), (k0, .inl (ck, L, .inl f)), (w0, .inl (cw, L, .inl g))] : va_W), (fun c => c = 1 ∨ c = 2 ∨ c = 100 + j ∨ c = 200 + (rtN a1 a8 17 j) ∨ c = 300 + (rtN a1 a8 17 j) ∨ c = 400 + (rtN a1 a8 17 j)) (ow q.1) := List.forall_mem_cons.mpr ⟨(by show ow a0 = 1 ∨ ow a0 = 2 ∨ ow a0 = 100 + j ∨ ow a0 = 200 + (rtN a1 a8 17 j) ∨ ow a0 = 300 + (rtN a1 a8 17 j) ∨ ow a0 = 400 + (rtN a1 a8 17 j); omega), List.forall_mem_cons.mpr ⟨(by show ow qb = 1 ∨ ow qb = 2 ∨ ow qb = 100 + j ∨ ow qb = 200 + (rtN a1 a8 17 j) ∨ ow qb = 300 + (rtN a1 a8 17 j) ∨ ow qb = 400 + (rtN a1 a8 17 j); omega), List.forall_mem_cons.mpr ⟨(by show ow y0 = 1 ∨ ow y0 = 2 ∨ ow y0 = 100 + j ∨ ow y0 = 200 + (rtN a1 a8 17 j) ∨ ow y0 = 300 + (rtN a1 a8 17 j) ∨ ow y0 = 400 + (rtN a1 a8 17 j); omega), List.forall_mem_cons.mpr ⟨(by show ow x0 = 1 ∨ ow x0 = 2 ∨ ow x0 = 100 + j ∨ ow x0 = 200 + (rtN a1 a8 17 j) ∨ ow x0 = 300 + (rtN a1 a8 17 j) ∨ ow x0 = 400 + (rtN a1 a8 17 j); omega), List.forall_mem_cons.mpr ⟨(by show ow k0 = 1 ∨ ow k0 = 2 ∨ ow k0 = 100 + j ∨ ow k0 = 200 + (rtN a1 a8 17 j) ∨ ow k0 = 300 + (rtN a1 a8 17 j) ∨ ow k0 = 400 + (rtN a1 a8 17 j); omega), List.forall_mem_cons.mpr ⟨(by show ow w0 = 1 ∨ ow w0 = 2 ∨ ow w0 = 100 + j ∨ ow w0 = 200 + (rtN a1 a8 17 j) ∨ ow w0 = 300 + (rtN a1 a8 17 j) ∨ ow w0 = 400 + (rtN a1 a8 17 j); omega), fun _ h => absurd h List.not_mem_nil⟩⟩⟩⟩⟩⟩
  have hOp_ : ∀ q ∈ ([(a0, .inr (7, [.ref qb])), (qb, .inl (cq, 16, .inr (.inr (.inr (.inr bq))))), (y0, .inr (6, [.ref x0, .int kd, .int wh, .int (a4 (rtN a1 a8 17 j)), .int tu, .long lo, .long hi])), (x0, .inr (5, [.ref k0, .ref w0, .int (nI nz), .int ch])), (k0, .inl (ck, L, .inl f)), (w0, .inl (cw, L, .inl g))] : va_W), 0 < ow q.1 := List.forall_mem_cons.mpr ⟨(by show 0 < ow a0; omega), List.forall_mem_cons.mpr ⟨(by show 0 < ow qb; omega), List.forall_mem_cons.mpr ⟨(by show 0 < ow y0; omega), List.forall_mem_cons.mpr ⟨(by show 0 < ow x0; omega), List.forall_mem_cons.mpr ⟨(by show 0 < ow k0; omega), List.forall_mem_cons.mpr ⟨(by show 0 < ow w0; omega), fun _ h => absurd h List.not_mem_nil⟩⟩⟩⟩⟩⟩
  refine ⟨aB_upd (fun c => c = 1 ∨ c = 2 ∨ c = 100 + j ∨ c = 200 + (rtN a1 a8 17 j) ∨ c = 300 + (rtN a1 a8 17 j) ∨ c = 400 + (rtN a1 a8 17 j)) hI (ag_call (Ch := fun c => c = 1 ∨ c = 2 ∨ c = 100 + j ∨ c = 200 + (rtN a1 a8 17 j) ∨ c = 300 + (rtN a1 a8 17 j) ∨ c = 400 + (rtN a1 a8 17 j)) hOc_ hF hD hw) (fun i y hi9 hy hch => ?_) (fun r hr9 hk9 hch => ?_) (fun i hi9 hch hk9 => ?_) (fun r hr9 hk9 hch => ?_) (fun i hch => ?_), ow_pos hOp_ hD hw, (owU_no (List.forall_mem_cons.mpr ⟨n6_0, fun _ h => absurd h List.not_mem_nil⟩)).trans ha0, (owU_no (List.forall_mem_cons.mpr ⟨n6_1, fun _ h => absurd h List.not_mem_nil⟩)).trans hq0, owU_hd⟩
  ·
    have hch : 100 + i = 1 ∨ 100 + i = 2 ∨ 100 + i = 100 + j ∨ 100 + i = 200 + (rtN a1 a8 17 j) ∨ 100 + i = 300 + (rtN a1 a8 17 j) ∨ 100 + i = 400 + (rtN a1 a8 17 j) := hch
    rw [← eR] at hch
    rw [← eR] at hr1
    have hij : i = j := by omega
    subst hij
    rw [hb] at hy
    obtain rfl : y0 = y := Option.some.inj hy
    exact Or.inr (Or.inr (Or.inl ⟨hk, kd, wh, tu, lo, hi, by rw [← hx]; exact hP.sub [2] rfl, (owU_no (List.forall_mem_cons.mpr ⟨n6_2, fun _ h => absurd h List.not_mem_nil⟩)).trans e1, ht⟩))
  ·
    have hch : 200 + r = 1 ∨ 200 + r = 2 ∨ 200 + r = 100 + j ∨ 200 + r = 200 + (rtN a1 a8 17 j) ∨ 200 + r = 300 + (rtN a1 a8 17 j) ∨ 200 + r = 400 + (rtN a1 a8 17 j) := hch
    rw [← eR] at hch
    rw [← eR] at hr1 hr3
    have hij : r = R := by omega
    rw [hij, eR]
    rw [← hx]
    exact ⟨k0, w0, ck, cw, L, f, g, nz, ch, hP.sub [3, 4, 5] rfl, hK.sub [1, 2] rfl, hO, (owU_no (List.forall_mem_cons.mpr ⟨n6_3, fun _ h => absurd h List.not_mem_nil⟩)).trans e2, (owU_no (List.forall_mem_cons.mpr ⟨n6_4, fun _ h => absurd h List.not_mem_nil⟩)).trans e3, (owU_no (List.forall_mem_cons.mpr ⟨n6_5, fun _ h => absurd h List.not_mem_nil⟩)).trans e4⟩
  ·
    replace hch : ¬ (100 + i = 1 ∨ 100 + i = 2 ∨ 100 + i = 100 + j ∨ 100 + i = 200 + (rtN a1 a8 17 j) ∨ 100 + i = 300 + (rtN a1 a8 17 j) ∨ 100 + i = 400 + (rtN a1 a8 17 j)) := hch
    rw [← eR] at hch hr1 hr3
    have hiR : i ≠ R := fun z => by rw [z] at hk9; omega
    show ¬ (200 + i = 1 ∨ 200 + i = 2 ∨ 200 + i = 100 + j ∨ 200 + i = 200 + (rtN a1 a8 17 j) ∨ 200 + i = 300 + (rtN a1 a8 17 j) ∨ 200 + i = 400 + (rtN a1 a8 17 j)) ∧ ¬ (300 + i = 1 ∨ 300 + i = 2 ∨ 300 + i = 100 + j ∨ 300 + i = 200 + (rtN a1 a8 17 j) ∨ 300 + i = 300 + (rtN a1 a8 17 j) ∨ 300 + i = 400 + (rtN a1 a8 17 j)) ∧ ¬ (400 + i = 1 ∨ 400 + i = 2 ∨ 400 + i = 100 + j ∨ 400 + i = 200 + (rtN a1 a8 17 j) ∨ 400 + i = 300 + (rtN a1 a8 17 j) ∨ 400 + i = 400 + (rtN a1 a8 17 j)) ∧ ¬ (500 + i = 1 ∨ 500 + i = 2 ∨ 500 + i = 100 + j ∨ 500 + i = 200 + (rtN a1 a8 17 j) ∨ 500 + i = 300 + (rtN a1 a8 17 j) ∨ 500 + i = 400 + (rtN a1 a8 17 j))
    rw [← eR]
    omega
  ·
    replace hch : ¬ (200 + r = 1 ∨ 200 + r = 2 ∨ 200 + r = 100 + j ∨ 200 + r = 200 + (rtN a1 a8 17 j) ∨ 200 + r = 300 + (rtN a1 a8 17 j) ∨ 200 + r = 400 + (rtN a1 a8 17 j)) := hch
    rw [← eR] at hch
    show ¬ (300 + r = 1 ∨ 300 + r = 2 ∨ 300 + r = 100 + j ∨ 300 + r = 200 + (rtN a1 a8 17 j) ∨ 300 + r = 300 + (rtN a1 a8 17 j) ∨ 300 + r = 400 + (rtN a1 a8 17 j)) ∧ ¬ (400 + r = 1 ∨ 400 + r = 2 ∨ 400 + r = 100 + j ∨ 400 + r = 200 + (rtN a1 a8 17 j) ∨ 400 + r = 300 + (rtN a1 a8 17 j) ∨ 400 + r = 400 + (rtN a1 a8 17 j))
    rw [← eR]
    omega
  · exact hcr i (by
      replace hch : ¬ (100 + i = 1 ∨ 100 + i = 2 ∨ 100 + i = 100 + j ∨ 100 + i = 200 + (rtN a1 a8 17 j) ∨ 100 + i = 300 + (rtN a1 a8 17 j) ∨ 100 + i = 400 + (rtN a1 a8 17 j)) := hch
      omega)
