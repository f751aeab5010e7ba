set_option maxRecDepth 20000 in
set_option maxHeartbeats 1000000 in
theorem ud_yes (l : Launch) (hlt : l.stackTraces = false) (dC : Nat → ClassId) (dI : Nat → Nat → Nat) {a0 qb : Nat} {cq : ClassId} {bq : Nat → Option Nat} {ow rx cr : Nat → Nat} {a1 a4 a8 a11 : Nat → Int32} {s : State} {j : Nat} {y0 : Nat} (hpre : aPre (dC, dI) a0 qb cq bq ow rx cr a1 a4 a8 a11 s.heap.size (hT s.heap) s) (hF : ∃ dep : Nat → Nat, rF a1 a8 dep ∧ ∀ o : Nat, o < 16 → dep o < 17) (hj : j < 16) (hb : bq j = some y0) : uSel l yX7_drop wqX7_drop ({ frames := 7, cells := 2, slots := 22, locals := 140 }) 2 22 (aA ow s.heap.size) (va_Qi (fun (r : Int32) (u : Nat × (Nat → Option Nat)) => r = nI (1 + cntN (dgB a1 a8 u.1) 16) ∧ u.1 < 16 ∧ (nI j) = nI u.1 ∧ ¬ (a1 u.1).toInt = 0) (fun (u : Nat × (Nat → Option Nat)) (t : State) => ∀ b1 : Nat → Int32, (∀ j : Nat, j < 16 → b1 j = if j = u.1 ∨ dgB a1 a8 u.1 j = true then 0 else a1 j) → aPostG (dC, dI) a0 qb cq ow cr s.heap.size (hT s.heap) u.2 ow rx cr b1 a4 a8 a11 t) (aA ow s.heap.size)) (vx_X (fun (_ : (Nat → Nat) × (Nat → Nat)) => True) (fun (E : String) (u : (Nat → Nat) × (Nat → Nat)) (t : State) => (E = "java/util/NoSuchElementException" ∧ ∀ o : Nat, o < 16 → (nI j) = nI o → (a1 o).toInt = 0) ∧ aPost (dC, dI) a0 qb cq bq ow rx cr a1 a4 a8 a11 s.heap.size (hT s.heap) u t) (aA ow s.heap.size)) [.ref a0, .int (nI j)].toArray s := by
  obtain ⟨-, -, hI, hN, hZ⟩ := hpre
  obtain ⟨dep, hFd, hdp⟩ := hF
  obtain ⟨h1, h2, h3, h4, h5, h6, h7⟩ := id hI
  have hDw : va_D (fun _ => True) [(a0, .inr (7, [.ref qb])), (qb, .inl (cq, 16, .inr (.inr (.inr (.inr bq)))))] := D_nd (ow := ow) (by
    show ([ow a0, ow qb] : List Nat).Nodup
    rw [h3, h4]
    exact nd_c (List.forall_mem_cons.mpr ⟨(by omega), fun _ h => absurd h List.not_mem_nil⟩) (nd_c (fun _ h => absurd h List.not_mem_nil) (List.nodup_nil)))
  have hOp_ : ∀ q ∈ ([(a0, .inr (7, [.ref qb])), (qb, .inl (cq, 16, .inr (.inr (.inr (.inr bq)))))] : va_W), 0 < ow q.1 := List.forall_mem_cons.mpr ⟨(by show 0 < ow a0; omega), List.forall_mem_cons.mpr ⟨(by show 0 < ow qb; omega), fun _ h => absurd h List.not_mem_nil⟩⟩
  have hya : ∀ i y : Nat, i < 16 → bq i = some y → y ≠ a0 ∧ y ≠ qb := fun i y hi hy => by
    have hy100 : ow y = 100 + i := by
      rcases h6 i y hi hy with ⟨k, g⟩ | ⟨k, g⟩ | ⟨k, g⟩ | ⟨k, g⟩
      · obtain ⟨cap, ru, tb, b0, cb, bf, x0, k0, w0, ck, cw, L, f, g, nz, ch, -, -, -, -, e1, -⟩ := g
        exact e1
      · obtain ⟨lim, bu, x0, k0, w0, ck, cw, L, f, g, nz, ch, -, -, -, -, e1, -⟩ := g
        exact e1
      · obtain ⟨kd, wh, tu, lo, hi, -, e1, -⟩ := g
        exact e1
      · obtain ⟨p, yk, kdc, nx, ps, se, -, -, -, -, e1⟩ := g
        exact e1
    exact ⟨fun z => by rw [z] at hy100; omega, fun z => by rw [z] at hy100; omega⟩
  refine ⟨_, _, _, _, _, _, _, c_X7_drop l hlt dC dI s.heap.size a0 qb cq bq (whA a1 a8) j y0 hj hb hya, ⟨rfl, ⟨rfl, h1, h2, hDw, hN, hZ.narrow (A_sub hOp_)⟩, bdW_of h6⟩, ⟨Nat.le_of_ble_eq_true rfl, Nat.le_of_ble_eq_true rfl, Nat.le_of_ble_eq_true rfl, Nat.le_of_ble_eq_true rfl⟩, Nat.le_of_ble_eq_true rfl, Nat.le_of_ble_eq_true rfl, ?_, ?_, A_sub hOp_⟩
  · intro oc t hq hW hz hn
    obtain ⟨⟨r, bq2, e, ⟨hr9, hb2⟩, hP9, hK9, hD9⟩, hFr⟩ := hq
    have hna : ¬ (a1 j).toInt = 0 := fun z => by have := (h5 j hj).mpr z; rw [hb] at this; cases this
    have hOc : ∀ q ∈ ([(a0, .inr (7, [.ref qb])), (qb, .inl (cq, 16, .inr (.inr (.inr (.inr bq)))))] : va_W), (fun c => c = 1 ∨ c = 2) (ow q.1) := List.forall_mem_cons.mpr ⟨(by show ow a0 = 1 ∨ ow a0 = 2; omega), List.forall_mem_cons.mpr ⟨(by show ow qb = 1 ∨ ow qb = 2; omega), fun _ h => absurd h List.not_mem_nil⟩⟩
    have hBB := aB_upd (H1 := t.heap) (ow1 := ow) (cr1 := cr) (fun c => c = 1 ∨ c = 2) (aI_moved hW.alike hI) (ag_call (Ch := fun c => c = 1 ∨ c = 2) hOc (fun q z1 z2 => hFr.2 q z1 z2) hD9 (fun _ _ => rfl)) (fun j y _ _ z => absurd z (by show ¬ (100 + j = 1 ∨ 100 + j = 2); omega)) (fun r _ _ z => absurd z (by show ¬ (200 + r = 1 ∨ 200 + r = 2); omega)) (fun j _ _ _ => by show ¬ (200 + j = 1 ∨ 200 + j = 2) ∧ ¬ (300 + j = 1 ∨ 300 + j = 2) ∧ ¬ (400 + j = 1 ∨ 400 + j = 2) ∧ ¬ (500 + j = 1 ∨ 500 + j = 2); omega) (fun j _ _ _ => by show ¬ (300 + j = 1 ∨ 300 + j = 2) ∧ ¬ (400 + j = 1 ∨ 400 + j = 2); omega) (fun _ _ => Nat.le_refl _)
    exact ⟨⟨r, (j, bq2), e, ⟨hr9.trans (congrArg nI (cnt_drop hFd hj h5 hb)), hj, rfl, hna⟩, fun b1 hb1 => ⟨aI_drop hFd hdp hj h5 hb1 hb2 hBB.1 hBB.2 hP9 hK9 h3 h4, fun q h9 => Or.inl h9, by omega, by omega⟩⟩, F_mono hFr (A_sub hOp_)⟩
  · intro E t hx hW hz hn
    obtain ⟨u, -, hE, -⟩ := hx
    exact hE.elim
