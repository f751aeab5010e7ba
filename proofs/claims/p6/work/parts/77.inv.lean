/-! THE ATLAS BETWEEN TWO CALLS. ow: whose a cell is (1 the atlas, 2 its places, 100 + j the object at place j, 200, 300, 400, 500 + r the rows, keys, VALUES, BUSHY ones of the MAP or TREE r); rx r: the rows of TREE r; cr j: the slots that are set aside for j -/
def crOf (tb L : Nat) : Nat := if tb = 0 then 12500 else 25000 - hPS tb L
def hsI (D : va_G) (U : State) (H : Heap) (ow cr : Nat → Nat) (j y0 : Nat) : Prop := ∃ (cap : Nat) (ru : Int32) (tb b0 : Nat) (cb : ClassId) (bf : Nat → Int32) (x0 k0 w0 : Nat) (ck cw : ClassId) (L : Nat) (f g : Nat → Int32) (nz : Nat) (ch : Int32), va_P D vwCl [(y0, .inr (3, [.ref x0, .int 0, .int (-1), .int (nI cap), .int ru, .int (nI tb), .ref b0])), (x0, .inr (5, [.ref k0, .ref w0, .int (nI nz), .int ch])), (k0, .inl (ck, L, .inl f)), (w0, .inl (cw, L, .inl g)), (b0, .inl (cb, tb, .inl bf))] H ∧ va_K D vwCl [(ck, .int), (cw, .int), (cb, .boolean)] U ∧ hOK tb L nz cap ∧ crOf tb L ≤ cr j ∧ ow y0 = 100 + j ∧ ow x0 = 200 + j ∧ ow k0 = 300 + j ∧ ow w0 = 400 + j ∧ ow b0 = 500 + j
def lkI (D : va_G) (U : State) (H : Heap) (ow : Nat → Nat) (j y0 : Nat) : Prop := ∃ (lim : Nat) (bu : Int32) (x0 k0 w0 : Nat) (ck cw : ClassId) (L : Nat) (f g : Nat → Int32) (nz : Nat) (ch : Int32), va_P D vwCl [(y0, .inr (4, [.ref x0, .int 1, .int (-1), .int (nI lim), .int bu])), (x0, .inr (5, [.ref k0, .ref w0, .int (nI nz), .int ch])), (k0, .inl (ck, L, .inl f)), (w0, .inl (cw, L, .inl g))] H ∧ va_K D vwCl [(ck, .int), (cw, .int)] U ∧ rOK L nz ∧ lim ≤ 1000 ∧ ow y0 = 100 + j ∧ ow x0 = 200 + j ∧ ow k0 = 300 + j ∧ ow w0 = 400 + j
def rwI (D : va_G) (U : State) (H : Heap) (ow : Nat → Nat) (r x0 : Nat) : Prop := ∃ (k0 w0 : Nat) (ck cw : ClassId) (L : Nat) (f g : Nat → Int32) (nz : Nat) (ch : Int32), va_P D vwCl [(x0, .inr (5, [.ref k0, .ref w0, .int (nI nz), .int ch])), (k0, .inl (ck, L, .inl f)), (w0, .inl (cw, L, .inl g))] H ∧ va_K D vwCl [(ck, .int), (cw, .int)] U ∧ rOK L nz ∧ ow x0 = 200 + r ∧ ow k0 = 300 + r ∧ ow w0 = 400 + r
def stI (D : va_G) (H : Heap) (ow rx : Nat → Nat) (a1 a4 a8 a11 : Nat → Int32) (j y0 : Nat) : Prop := ∃ (kd wh tu : Int32) (lo hi : Int64), va_P D vwCl [(y0, .inr (6, [.ref (rx (rtN a1 a8 17 j)), .int kd, .int wh, .int (a4 (rtN a1 a8 17 j)), .int tu, .long lo, .long hi]))] H ∧ ow y0 = 100 + j ∧ (tu.toInt = 0 ∨ tu.toInt = 1) ∧ (tu.toInt = 0 ↔ tnN a1 a8 a11 17 j false = false) ∧ 0 ≤ (a4 (rtN a1 a8 17 j)).toInt ∧ (a4 (rtN a1 a8 17 j)).toInt ≤ 3 ∧ wh = if (a1 j).toInt = 4 then a8 j else -1
def cuI (D : va_G) (H : Heap) (bq : Nat → Option Nat) (ow : Nat → Nat) (a8 : Nat → Int32) (j y0 : Nat) : Prop := ∃ (p yk : Nat) (kdc nx ps se : Int32), p < 16 ∧ a8 j = nI p ∧ bq p = some yk ∧ va_P D vwCl [(y0, .inr (2, [.int kdc, .int (nI p), .ref yk, .int nx, .int ps, .int se]))] H ∧ ow y0 = 100 + j
def bdI (D : va_G) (U : State) (H : Heap) (bq : Nat → Option Nat) (ow rx cr : Nat → Nat) (a1 a4 a8 a11 : Nat → Int32) (j y : Nat) : Prop := ((a1 j).toInt = 1 ∧ hsI D U H ow cr j y) ∨ ((a1 j).toInt = 2 ∧ lkI D U H ow j y) ∨ (((a1 j).toInt = 3 ∨ (a1 j).toInt = 4) ∧ stI D H ow rx a1 a4 a8 a11 j y) ∨ ((a1 j).toInt = 5 ∧ cuI D H bq ow a8 j y)
def aI (D : va_G) (U : State) (H : Heap) (a0 qb : Nat) (cq : ClassId) (bq : Nat → Option Nat) (ow rx cr : Nat → Nat) (a1 a4 a8 a11 : Nat → Int32) : Prop :=
  va_P D vwCl [(a0, .inr (7, [.ref qb])), (qb, .inl (cq, 16, .inr (.inr (.inr (.inr bq)))))] H ∧ va_K D vwCl [(cq, .object "KeyAtlas$Body")] U ∧ ow a0 = 1 ∧ ow qb = 2 ∧ (∀ j : Nat, j < 16 → (bq j = none ↔ (a1 j).toInt = 0)) ∧ (∀ j y : Nat, j < 16 → bq j = some y → bdI D U H bq ow rx cr a1 a4 a8 a11 j y) ∧ (∀ r : Nat, r < 16 → (a1 r).toInt = 3 → rwI D U H ow r (rx r))
theorem P_kept {D : va_G} {ws : va_W} {H H1 : Heap} (h : va_P D vwCl ws H) (hq : ∀ q ∈ ws, q.1 < H.size → H1[q.1]? = H[q.1]?) : va_P D vwCl ws H1 := h.kept (fun k q hk => hq q (List.mem_of_getElem? hk) (h k q hk).lt)
theorem hsI_kept {D : va_G} {U : State} {H H1 : Heap} {ow ow1 cr cr1 : Nat → Nat} {j y : Nat} (h : hsI D U H ow cr j y) (hc : cr j ≤ cr1 j) (hq : ∀ q : Nat, q < H.size → (ow q = 100 + j ∨ ow q = 200 + j ∨ ow q = 300 + j ∨ ow q = 400 + j ∨ ow q = 500 + j) → ow1 q = ow q ∧ H1[q]? = H[q]?) : hsI D U H1 ow1 cr1 j y := by
  obtain ⟨cap, ru, tb, b0, cb, bf, x0, k0, w0, ck, cw, L, f, g, nz, ch, hP, hK, hO, hcr, e1, e2, e3, e4, e5⟩ := h
  have l1 := (hP 0 _ rfl).lt
  have l2 := (hP 1 _ rfl).lt
  have l3 := (hP 2 _ rfl).lt
  have l4 := (hP 3 _ rfl).lt
  have l5 := (hP 4 _ rfl).lt
  have g1 := hq y l1 (by omega)
  have g2 := hq x0 l2 (by omega)
  have g3 := hq k0 l3 (by omega)
  have g4 := hq w0 l4 (by omega)
  have g5 := hq b0 l5 (by omega)
  exact ⟨cap, ru, tb, b0, cb, bf, x0, k0, w0, ck, cw, L, f, g, nz, ch, P_kept hP (List.forall_mem_cons.mpr ⟨fun _ => g1.2, List.forall_mem_cons.mpr ⟨fun _ => g2.2, List.forall_mem_cons.mpr ⟨fun _ => g3.2, List.forall_mem_cons.mpr ⟨fun _ => g4.2, List.forall_mem_cons.mpr ⟨fun _ => g5.2, fun _ h => absurd h List.not_mem_nil⟩⟩⟩⟩⟩), hK, hO, Nat.le_trans hcr hc, g1.1.trans e1, g2.1.trans e2, g3.1.trans e3, g4.1.trans e4, g5.1.trans e5⟩
theorem lkI_kept {D : va_G} {U : State} {H H1 : Heap} {ow ow1 : Nat → Nat} {j y : Nat} (h : lkI D U H ow j y) (hq : ∀ q : Nat, q < H.size → (ow q = 100 + j ∨ ow q = 200 + j ∨ ow q = 300 + j ∨ ow q = 400 + j) → ow1 q = ow q ∧ H1[q]? = H[q]?) : lkI D U H1 ow1 j y := by
  obtain ⟨lim, bu, x0, k0, w0, ck, cw, L, f, g, nz, ch, hP, hK, hO, hl, e1, e2, e3, e4⟩ := h
  have l1 := (hP 0 _ rfl).lt
  have l2 := (hP 1 _ rfl).lt
  have l3 := (hP 2 _ rfl).lt
  have l4 := (hP 3 _ rfl).lt
  have g1 := hq y l1 (by omega)
  have g2 := hq x0 l2 (by omega)
  have g3 := hq k0 l3 (by omega)
  have g4 := hq w0 l4 (by omega)
  exact ⟨lim, bu, x0, k0, w0, ck, cw, L, f, g, nz, ch, P_kept hP (List.forall_mem_cons.mpr ⟨fun _ => g1.2, List.forall_mem_cons.mpr ⟨fun _ => g2.2, List.forall_mem_cons.mpr ⟨fun _ => g3.2, List.forall_mem_cons.mpr ⟨fun _ => g4.2, fun _ h => absurd h List.not_mem_nil⟩⟩⟩⟩), hK, hO, hl, g1.1.trans e1, g2.1.trans e2, g3.1.trans e3, g4.1.trans e4⟩
theorem rwI_kept {D : va_G} {U : State} {H H1 : Heap} {ow ow1 : Nat → Nat} {r x0 : Nat} (h : rwI D U H ow r x0) (hq : ∀ q : Nat, q < H.size → (ow q = 200 + r ∨ ow q = 300 + r ∨ ow q = 400 + r) → ow1 q = ow q ∧ H1[q]? = H[q]?) : rwI D U H1 ow1 r x0 := by
  obtain ⟨k0, w0, ck, cw, L, f, g, nz, ch, hP, hK, hO, e2, e3, e4⟩ := h
  have l2 := (hP 0 _ rfl).lt
  have l3 := (hP 1 _ rfl).lt
  have l4 := (hP 2 _ rfl).lt
  have g2 := hq x0 l2 (by omega)
  have g3 := hq k0 l3 (by omega)
  have g4 := hq w0 l4 (by omega)
  exact ⟨k0, w0, ck, cw, L, f, g, nz, ch, P_kept hP (List.forall_mem_cons.mpr ⟨fun _ => g2.2, List.forall_mem_cons.mpr ⟨fun _ => g3.2, List.forall_mem_cons.mpr ⟨fun _ => g4.2, fun _ h => absurd h List.not_mem_nil⟩⟩⟩), hK, hO, g2.1.trans e2, g3.1.trans e3, g4.1.trans e4⟩
theorem stI_kept {D : va_G} {H H1 : Heap} {ow ow1 rx : Nat → Nat} {a1 a4 a8 a11 : Nat → Int32} {j y : Nat} (h : stI D H ow rx a1 a4 a8 a11 j y) (hq : ∀ q : Nat, q < H.size → ow q = 100 + j → ow1 q = ow q ∧ H1[q]? = H[q]?) : stI D H1 ow1 rx a1 a4 a8 a11 j y := by
  obtain ⟨kd, wh, tu, lo, hi, hP, e1, h2⟩ := h
  have g1 := hq y (hP 0 _ rfl).lt e1
  exact ⟨kd, wh, tu, lo, hi, P_kept hP (List.forall_mem_cons.mpr ⟨fun _ => g1.2, fun _ h => absurd h List.not_mem_nil⟩), g1.1.trans e1, h2⟩
theorem cuI_kept {D : va_G} {H H1 : Heap} {bq : Nat → Option Nat} {ow ow1 : Nat → Nat} {a8 : Nat → Int32} {j y : Nat} (h : cuI D H bq ow a8 j y) (hq : ∀ q : Nat, q < H.size → ow q = 100 + j → ow1 q = ow q ∧ H1[q]? = H[q]?) : cuI D H1 bq ow1 a8 j y := by
  obtain ⟨p, yk, kdc, nx, ps, se, hp, ep, hb, hP, e1⟩ := h
  have g1 := hq y (hP 0 _ rfl).lt e1
  exact ⟨p, yk, kdc, nx, ps, se, hp, ep, hb, P_kept hP (List.forall_mem_cons.mpr ⟨fun _ => g1.2, fun _ h => absurd h List.not_mem_nil⟩), g1.1.trans e1⟩
theorem hsI_moved {D : va_G} {U V : State} {H : Heap} {ow cr : Nat → Nat} {j y : Nat} (hv : U.vm.Alike V.vm) (h : hsI D U H ow cr j y) : hsI D V H ow cr j y := by
  obtain ⟨cap, ru, tb, b0, cb, bf, x0, k0, w0, ck, cw, L, f, g, nz, ch, hP, hK, h2⟩ := h
  exact ⟨cap, ru, tb, b0, cb, bf, x0, k0, w0, ck, cw, L, f, g, nz, ch, hP, va_K.moved hv hK, h2⟩
theorem lkI_moved {D : va_G} {U V : State} {H : Heap} {ow : Nat → Nat} {j y : Nat} (hv : U.vm.Alike V.vm) (h : lkI D U H ow j y) : lkI D V H ow j y := by
  obtain ⟨lim, bu, x0, k0, w0, ck, cw, L, f, g, nz, ch, hP, hK, h2⟩ := h
  exact ⟨lim, bu, x0, k0, w0, ck, cw, L, f, g, nz, ch, hP, va_K.moved hv hK, h2⟩
theorem rwI_moved {D : va_G} {U V : State} {H : Heap} {ow : Nat → Nat} {r x : Nat} (hv : U.vm.Alike V.vm) (h : rwI D U H ow r x) : rwI D V H ow r x := by
  obtain ⟨k0, w0, ck, cw, L, f, g, nz, ch, hP, hK, h2⟩ := h
  exact ⟨k0, w0, ck, cw, L, f, g, nz, ch, hP, va_K.moved hv hK, h2⟩
theorem aI_moved {D : va_G} {U V : State} {H : Heap} {a0 qb : Nat} {cq : ClassId} {bq : Nat → Option Nat} {ow rx cr : Nat → Nat} {a1 a4 a8 a11 : Nat → Int32} (hv : U.vm.Alike V.vm) (h : aI D U H a0 qb cq bq ow rx cr a1 a4 a8 a11) : aI D V H a0 qb cq bq ow rx cr a1 a4 a8 a11 := by
  obtain ⟨h1, h2, h3, h4, h5, h6, h7⟩ := h
  refine ⟨h1, va_K.moved hv h2, h3, h4, h5, fun j y hj hy => ?_, fun r hr hk => rwI_moved hv (h7 r hr hk)⟩
  rcases h6 j y hj hy with ⟨k, g⟩ | ⟨k, g⟩ | g | g
  · exact Or.inl ⟨k, hsI_moved hv g⟩
  · exact Or.inr (Or.inl ⟨k, lkI_moved hv g⟩)
  · exact Or.inr (Or.inr (Or.inl g))
  · exact Or.inr (Or.inr (Or.inr g))
/-- a call has changed what the codes Ch name -/
theorem aI_upd {D : va_G} {U : State} {H H1 : Heap} {a0 qb : Nat} {cq : ClassId} {bq : Nat → Option Nat} {ow ow1 rx cr cr1 : Nat → Nat} {a1 a4 a8 a11 : Nat → Int32} (Ch : Nat → Prop) (h : aI D U H a0 qb cq bq ow rx cr a1 a4 a8 a11)
    (hag : ∀ q : Nat, q < H.size → 0 < ow q → ¬ Ch (ow q) → ow1 q = ow q ∧ H1[q]? = H[q]?) (hP : va_P D vwCl [(a0, .inr (7, [.ref qb])), (qb, .inl (cq, 16, .inr (.inr (.inr (.inr bq)))))] H1) (ha : ow1 a0 = 1) (hq : ow1 qb = 2)
    (hb : ∀ j y : Nat, j < 16 → bq j = some y → Ch (100 + j) → bdI D U H1 bq ow1 rx cr1 a1 a4 a8 a11 j y) (hr : ∀ r : Nat, r < 16 → (a1 r).toInt = 3 → Ch (200 + r) → rwI D U H1 ow1 r (rx r))
    (hc1 : ∀ j : Nat, j < 16 → ¬ Ch (100 + j) → (a1 j).toInt = 1 ∨ (a1 j).toInt = 2 → ¬ Ch (200 + j) ∧ ¬ Ch (300 + j) ∧ ¬ Ch (400 + j) ∧ ¬ Ch (500 + j)) (hc2 : ∀ r : Nat, r < 16 → (a1 r).toInt = 3 → ¬ Ch (200 + r) → ¬ Ch (300 + r) ∧ ¬ Ch (400 + r)) (hcr : ∀ j : Nat, ¬ Ch (100 + j) → cr j ≤ cr1 j) :
    aI D U H1 a0 qb cq bq ow1 rx cr1 a1 a4 a8 a11 := by
  obtain ⟨h1, h2, h3, h4, h5, h6, h7⟩ := h
  refine ⟨hP, h2, ha, hq, h5, fun j y hj hy => ?_, fun r hr1 hk => ?_⟩
  · by_cases hch : Ch (100 + j)
    · exact hb j y hj hy hch
    · rcases h6 j y hj hy with ⟨k, g⟩ | ⟨k, g⟩ | ⟨k, g⟩ | ⟨k, g⟩
      · obtain ⟨z2, z3, z4, z5⟩ := hc1 j hj hch (Or.inl k)
        exact Or.inl ⟨k, hsI_kept g (hcr j hch) (fun q hq1 hq2 => hag q hq1 (by omega) (by rcases hq2 with e | e | e | e | e <;> rw [e] <;> assumption))⟩
      · obtain ⟨z2, z3, z4, z5⟩ := hc1 j hj hch (Or.inr k)
        exact Or.inr (Or.inl ⟨k, lkI_kept g (fun q hq1 hq2 => hag q hq1 (by omega) (by rcases hq2 with e | e | e | e <;> rw [e] <;> assumption))⟩)
      · exact Or.inr (Or.inr (Or.inl ⟨k, stI_kept g (fun q hq1 e => hag q hq1 (by omega) (by rw [e]; exact hch))⟩))
      · exact Or.inr (Or.inr (Or.inr ⟨k, cuI_kept g (fun q hq1 e => hag q hq1 (by omega) (by rw [e]; exact hch))⟩))
  · by_cases hch : Ch (200 + r)
    · exact hr r hr1 hk hch
    · obtain ⟨z3, z4⟩ := hc2 r hr1 hk hch
      exact rwI_kept (h7 r hr1 hk) (fun q hq1 hq2 => hag q hq1 (by omega) (by rcases hq2 with e | e | e <;> rw [e] <;> assumption))
theorem aI_kept {D : va_G} {U : State} {H H1 : Heap} {a0 qb : Nat} {cq : ClassId} {bq : Nat → Option Nat} {ow rx cr : Nat → Nat} {a1 a4 a8 a11 : Nat → Int32} (h : aI D U H a0 qb cq bq ow rx cr a1 a4 a8 a11) (hag : ∀ q : Nat, q < H.size → 0 < ow q → H1[q]? = H[q]?) : aI D U H1 a0 qb cq bq ow rx cr a1 a4 a8 a11 :=
  aI_upd (fun _ => False) h (fun q h1 h2 _ => ⟨rfl, hag q h1 h2⟩) (P_kept h.1 (List.forall_mem_cons.mpr ⟨fun z => hag _ z (by rw [h.2.2.1]; decide), List.forall_mem_cons.mpr ⟨fun z => hag _ z (by rw [h.2.2.2.1]; decide), fun _ h => absurd h List.not_mem_nil⟩⟩)) h.2.2.1 h.2.2.2.1 (fun _ _ _ _ z => z.elim) (fun _ _ _ z => z.elim) (fun _ _ _ _ => ⟨fun z => z, fun z => z, fun z => z, fun z => z⟩) (fun _ _ _ _ => ⟨fun z => z, fun z => z⟩) (fun _ _ => Nat.le_refl _)
