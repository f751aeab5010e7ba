set_option maxRecDepth 20000 in
set_option maxHeartbeats 1000000 in
theorem ui_H (l : Launch) (hlt : l.stackTraces = false) (dC : Nat → ClassId) (dI : Nat → Nat → Nat) {a0 qb : Nat} {cq : ClassId} {bq : Nat → Option Nat} {ow rx cr : Nat → Nat} {a1 a4 a8 a11 : Nat → Int32} {s : State} {j : Nat} {y0 : Nat} {p1 : Int32} {p2 : Int32} (hpre : aPre (dC, dI) a0 qb cq bq ow rx cr a1 a4 a8 a11 s.heap.size (hT s.heap) s) (hF : ∃ dep : Nat → Nat, rF a1 a8 dep ∧ ∀ o : Nat, o < 16 → dep o < 17) (hj : j < 16) (hb : bq j = some y0) (hk : (a1 j).toInt = 1) : uSel l yX7_item wqX7_item ({ frames := 7, cells := 2, slots := 12, locals := 240 }) 2 12 (aA ow s.heap.size) (va_Ql (fun (_ : Int64) (_ : (Nat → Nat) × (Nat → Nat)) => True) (fun (u : (Nat → Nat) × (Nat → Nat)) (t : State) => aPost (dC, dI) a0 qb cq bq ow rx cr a1 a4 a8 a11 s.heap.size (hT s.heap) u t) (aA ow s.heap.size)) (vx_X (fun (_ : (Nat → Nat) × (Nat → Nat)) => True) (fun (E : String) (u : (Nat → Nat) × (Nat → Nat)) (t : State) => (E = "java/util/NoSuchElementException" ∨ E = "java/lang/ClassCastException" ∨ E = "java/lang/IllegalArgumentException" ∨ E = "java/lang/IndexOutOfBoundsException") ∧ aPost (dC, dI) a0 qb cq bq ow rx cr a1 a4 a8 a11 s.heap.size (hT s.heap) u t) (aA ow s.heap.size)) [.ref a0, .int (nI j), .int p1, .int p2].toArray s := by
  obtain ⟨-, -, hI, hN, hZ⟩ := hpre
  obtain ⟨dep, hFd, hdp⟩ := hF
  obtain ⟨h1, h2, h3, h4, h5, h6, h7⟩ := id hI
  obtain ⟨cap, ru, tb, b0, cb, bf, x0, k0, w0, ck, cw, L, f, g, nz, ch, hP, hK, hO, hc, e1, e2, e3, e4, e5⟩ := bd_H (h6 j y0 hj hb) hk
  refine ⟨_, _, _, _, _, _, _, c_X7_item_H l hlt dC dI s.heap.size a0 qb cq bq j y0 0 (-1) cap ru tb b0 cb bf x0 k0 w0 ck cw L f g nz ch p1 p2 hj hb hO, ⟨rfl, rfl, va_P.app h1 (hP), va_K.app h2 (hK), hN, hZ.narrow (fun q h9 => Or.inr h9)⟩, ⟨Nat.le_of_ble_eq_true rfl, Nat.le_of_ble_eq_true rfl, Nat.le_of_ble_eq_true rfl, Nat.le_of_ble_eq_true rfl⟩, Nat.le_of_ble_eq_true rfl, Nat.le_of_ble_eq_true rfl, ?_, ?_, fun q h9 => Or.inr h9⟩
  · intro oc t hq hW hz hn
    obtain ⟨⟨r, u, e, -, -⟩, hFr⟩ := hq
    exact ⟨⟨r, (ow, cr), e, trivial, aPost_same hI hW (F_ro hFr rfl) hz hn (Nat.le_of_ble_eq_true rfl) (Nat.le_of_ble_eq_true rfl)⟩, F_mono hFr (fun q h9 => Or.inr h9)⟩
  · intro E t hx hW hz hn
    obtain ⟨u, -, hE, hFr⟩ := hx
    exact ⟨(ow, cr), trivial, ⟨(hE).elim (fun h9 => Or.inr (Or.inr (Or.inl (h9)))) (fun h8 => Or.inr (Or.inr (Or.inr (h8)))), aPost_same hI hW (F_ro hFr rfl) hz hn (Nat.le_of_ble_eq_true rfl) (Nat.le_of_ble_eq_true rfl)⟩, F_mono hFr (fun q h9 => Or.inr h9)⟩
set_option maxRecDepth 20000 in
set_option maxHeartbeats 1000000 in
theorem uv_H (l : Launch) (hlt : l.stackTraces = false) (dC : Nat → ClassId) (dI : Nat → Nat → Nat) {a0 qb : Nat} {cq : ClassId} {bq : Nat → Option Nat} {ow rx cr : Nat → Nat} {a1 a4 a8 a11 : Nat → Int32} {s : State} {jc : Nat} {z0 : Nat} {p1 : Int32} {p2 : Int32} (hpre : aPre (dC, dI) a0 qb cq bq ow rx cr a1 a4 a8 a11 s.heap.size (hT s.heap) s) (hF : ∃ dep : Nat → Nat, rF a1 a8 dep ∧ ∀ o : Nat, o < 16 → dep o < 17) (hjc : jc < 16) (hbc : bq jc = some z0) (hkc : (a1 jc).toInt = 5) (hkj : ∀ j : Nat, j < 16 → a8 jc = nI j → (a1 j).toInt = 1) : uSel l yX7_move wqX7_move ({ frames := 9, cells := 2, slots := 12, locals := 330 }) 2 12 (aA ow s.heap.size) (va_Ql (fun (_ : Int64) (_ : (Nat → Nat) × (Nat → Nat)) => True) (fun (u : (Nat → Nat) × (Nat → Nat)) (t : State) => aPost (dC, dI) a0 qb cq bq ow rx cr a1 a4 a8 a11 s.heap.size (hT s.heap) u t) (aA ow s.heap.size)) (vx_X (fun (_ : (Nat → Nat) × (Nat → Nat)) => True) (fun (E : String) (u : (Nat → Nat) × (Nat → Nat)) (t : State) => (E = "java/util/NoSuchElementException" ∨ E = "java/lang/ClassCastException" ∨ E = "java/lang/IllegalArgumentException" ∨ E = "java/lang/IllegalStateException") ∧ aPost (dC, dI) a0 qb cq bq ow rx cr a1 a4 a8 a11 s.heap.size (hT s.heap) u t) (aA ow s.heap.size)) [.ref a0, .int (nI jc), .int p1, .int p2].toArray s := by
  obtain ⟨-, -, hI, hN, hZ⟩ := hpre
  obtain ⟨dep, hFd, hdp⟩ := hF
  obtain ⟨h1, h2, h3, h4, h5, h6, h7⟩ := id hI
  obtain ⟨j, y0, kdc, nx, ps, se, hj, ejp, hb, hPc, e1c⟩ := bd_C (h6 jc z0 hjc hbc) hkc
  have hk := hkj j hj ejp
  have hne : jc ≠ j := fun z => by rw [z] at hkc; omega
  obtain ⟨cap, ru, tb, b0, cb, bf, x0, k0, w0, ck, cw, L, f, g, nz, ch, hP, hK, hO, hc, e1, e2, e3, e4, e5⟩ := bd_H (h6 j y0 hj hb) hk
  have hPw : va_P (dC, dI) vwCl [(a0, .inr (7, [.ref qb])), (qb, .inl (cq, 16, .inr (.inr (.inr (.inr bq))))), (z0, .inr (2, [.int kdc, .int (nI j), .ref y0, .int nx, .int ps, .int se])), (y0, .inr (3, [.ref x0, .int 0, .int (-1), .int (nI cap), .int ru, .int (nI tb), .ref b0])), (x0, .inr (5, [.ref k0, .ref w0, .int (nI nz), .int ch])), (k0, .inl (ck, L, .inl f)), (w0, .inl (cw, L, .inl g)), (b0, .inl (cb, tb, .inl bf))] s.heap := va_P.app h1 (va_P.app (hPc) (hP))
  have hKw : va_K (dC, dI) vwCl [(cq, .object "KeyAtlas$Body"), (ck, .int), (cw, .int), (cb, .boolean)] s := va_K.app h2 (hK)
  have hDw : va_D (fun _ => True) [(a0, .inr (7, [.ref qb])), (qb, .inl (cq, 16, .inr (.inr (.inr (.inr bq))))), (z0, .inr (2, [.int kdc, .int (nI j), .ref y0, .int nx, .int ps, .int se])), (y0, .inr (3, [.ref x0, .int 0, .int (-1), .int (nI cap), .int ru, .int (nI tb), .ref b0])), (x0, .inr (5, [.ref k0, .ref w0, .int (nI nz), .int ch])), (k0, .inl (ck, L, .inl f)), (w0, .inl (cw, L, .inl g)), (b0, .inl (cb, tb, .inl bf))] := D_nd (ow := ow) (by
    show ([ow a0, ow qb, ow z0, ow y0, ow x0, ow k0, ow w0, ow b0] : List Nat).Nodup
    rw [h3, h4, e1c, e1, e2, e3, e4, e5]
    exact nd_c (List.forall_mem_cons.mpr ⟨(by omega), List.forall_mem_cons.mpr ⟨(by omega), List.forall_mem_cons.mpr ⟨(by omega), List.forall_mem_cons.mpr ⟨(by omega), List.forall_mem_cons.mpr ⟨(by omega), List.forall_mem_cons.mpr ⟨(by omega), List.forall_mem_cons.mpr ⟨(by omega), fun _ h => absurd h List.not_mem_nil⟩⟩⟩⟩⟩⟩⟩) (nd_c (List.forall_mem_cons.mpr ⟨(by omega), List.forall_mem_cons.mpr ⟨(by omega), List.forall_mem_cons.mpr ⟨(by omega), List.forall_mem_cons.mpr ⟨(by omega), List.forall_mem_cons.mpr ⟨(by omega), List.forall_mem_cons.mpr ⟨(by omega), fun _ h => absurd h List.not_mem_nil⟩⟩⟩⟩⟩⟩) (nd_c (List.forall_mem_cons.mpr ⟨(by omega), List.forall_mem_cons.mpr ⟨(by omega), List.forall_mem_cons.mpr ⟨(by omega), List.forall_mem_cons.mpr ⟨(by omega), List.forall_mem_cons.mpr ⟨(by omega), fun _ h => absurd h List.not_mem_nil⟩⟩⟩⟩⟩) (nd_c (List.forall_mem_cons.mpr ⟨(by omega), List.forall_mem_cons.mpr ⟨(by omega), List.forall_mem_cons.mpr ⟨(by omega), List.forall_mem_cons.mpr ⟨(by omega), fun _ h => absurd h List.not_mem_nil⟩⟩⟩⟩) (nd_c (List.forall_mem_cons.mpr ⟨(by omega), List.forall_mem_cons.mpr ⟨(by omega), List.forall_mem_cons.mpr ⟨(by omega), fun _ h => absurd h List.not_mem_nil⟩⟩⟩) (nd_c (List.forall_mem_cons.mpr ⟨(by omega), List.forall_mem_cons.mpr ⟨(by omega), fun _ h => absurd h List.not_mem_nil⟩⟩) (nd_c (List.forall_mem_cons.mpr ⟨(by omega), fun _ h => absurd h List.not_mem_nil⟩) (nd_c (fun _ h => absurd h List.not_mem_nil) (List.nodup_nil)))))))))
  have hOp_ : ∀ q ∈ ([(a0, .inr (7, [.ref qb])), (qb, .inl (cq, 16, .inr (.inr (.inr (.inr bq))))), (z0, .inr (2, [.int kdc, .int (nI j), .ref y0, .int nx, .int ps, .int se])), (y0, .inr (3, [.ref x0, .int 0, .int (-1), .int (nI cap), .int ru, .int (nI tb), .ref b0])), (x0, .inr (5, [.ref k0, .ref w0, .int (nI nz), .int ch])), (k0, .inl (ck, L, .inl f)), (w0, .inl (cw, L, .inl g)), (b0, .inl (cb, tb, .inl bf))] : va_W), 0 < ow q.1 := List.forall_mem_cons.mpr ⟨(by show 0 < ow a0; omega), List.forall_mem_cons.mpr ⟨(by show 0 < ow qb; omega), List.forall_mem_cons.mpr ⟨(by show 0 < ow z0; omega), List.forall_mem_cons.mpr ⟨(by show 0 < ow y0; omega), List.forall_mem_cons.mpr ⟨(by show 0 < ow x0; omega), List.forall_mem_cons.mpr ⟨(by show 0 < ow k0; omega), List.forall_mem_cons.mpr ⟨(by show 0 < ow w0; omega), List.forall_mem_cons.mpr ⟨(by show 0 < ow b0; omega), fun _ h => absurd h List.not_mem_nil⟩⟩⟩⟩⟩⟩⟩⟩
  refine ⟨_, _, _, _, _, _, _, c_X7_move_H l hlt dC dI s.heap.size a0 qb cq bq jc z0 kdc (nI j) nx ps se y0 0 (-1) cap ru tb b0 cb bf x0 k0 w0 ck cw L f g nz ch p1 p2 hjc hbc hO, ⟨rfl, rfl, hPw, hKw, hDw, hN, hZ.narrow (A_sub hOp_)⟩, ⟨Nat.le_of_ble_eq_true rfl, Nat.le_of_ble_eq_true rfl, Nat.le_of_ble_eq_true rfl, Nat.le_of_ble_eq_true rfl⟩, Nat.le_of_ble_eq_true rfl, Nat.le_of_ble_eq_true rfl, ?_, ?_, A_sub hOp_⟩
  · intro oc t hq hW hz hn
    obtain ⟨⟨r, u, e, hp, hP9, hK9, hD9⟩, hFr⟩ := hq
    have hU := upd_CH (cr1 := cr) (aI_moved hW.alike hI) hjc hbc hkc e1c ⟨hj, ejp, hb⟩ hj hb hk e1 e2 e3 e4 e5 hne (fun q z1 z2 => hFr.2 q z1 z2) hP9 hK9 hD9 (hOK_le hO hp) hc (fun _ _ => Nat.le_refl _)
    refine ⟨⟨r, (_, _), e, trivial, hU.1, hU.2, ?_, ?_⟩, F_mono hFr (A_sub hOp_)⟩
    · show hT t.heap + sumN cr 16 ≤ _
      omega
    · omega
  · intro E t hx hW hz hn
    obtain ⟨u, -, ⟨hE, hP9, hK9, hD9⟩, hFr⟩ := hx
    have hU := upd_CH (cr1 := cr) (aI_moved hW.alike hI) hjc hbc hkc e1c ⟨hj, ejp, hb⟩ hj hb hk e1 e2 e3 e4 e5 hne (fun q z1 z2 => hFr.2 q z1 z2) hP9 hK9 hD9 hO hc (fun _ _ => Nat.le_refl _)
    exact ⟨(_, cr), trivial, ⟨(hE).elim (fun h9 => Or.inr (Or.inr (Or.inl (h9)))) (fun h8 => (h8).elim (fun h9 => Or.inr (Or.inr (Or.inr (h9)))) (fun h8 => Or.inl (h8))), hU.1, hU.2, by show hT t.heap + sumN cr 16 ≤ _; omega, by omega⟩, F_mono hFr (A_sub hOp_)⟩
set_option maxRecDepth 20000 in
set_option maxHeartbeats 1000000 in
theorem ui_L (l : Launch) (hlt : l.stackTraces = false) (dC : Nat → ClassId) (dI : Nat → Nat → Nat) {a0 qb : Nat} {cq : ClassId} {bq : Nat → Option Nat} {ow rx cr : Nat → Nat} {a1 a4 a8 a11 : Nat → Int32} {s : State} {j : Nat} {y0 : Nat} {p1 : Int32} {p2 : Int32} (hpre : aPre (dC, dI) a0 qb cq bq ow rx cr a1 a4 a8 a11 s.heap.size (hT s.heap) s) (hF : ∃ dep : Nat → Nat, rF a1 a8 dep ∧ ∀ o : Nat, o < 16 → dep o < 17) (hj : j < 16) (hb : bq j = some y0) (hk : (a1 j).toInt = 2) : uSel l yX7_item wqX7_item ({ frames := 7, cells := 2, slots := 12, locals := 240 }) 2 12 (aA ow s.heap.size) (va_Ql (fun (_ : Int64) (_ : (Nat → Nat) × (Nat → Nat)) => True) (fun (u : (Nat → Nat) × (Nat → Nat)) (t : State) => aPost (dC, dI) a0 qb cq bq ow rx cr a1 a4 a8 a11 s.heap.size (hT s.heap) u t) (aA ow s.heap.size)) (vx_X (fun (_ : (Nat → Nat) × (Nat → Nat)) => True) (fun (E : String) (u : (Nat → Nat) × (Nat → Nat)) (t : State) => (E = "java/util/NoSuchElementException" ∨ E = "java/lang/ClassCastException" ∨ E = "java/lang/IllegalArgumentException" ∨ E = "java/lang/IndexOutOfBoundsException") ∧ aPost (dC, dI) a0 qb cq bq ow rx cr a1 a4 a8 a11 s.heap.size (hT s.heap) u t) (aA ow s.heap.size)) [.ref a0, .int (nI j), .int p1, .int p2].toArray s := by
  obtain ⟨-, -, hI, hN, hZ⟩ := hpre
  obtain ⟨dep, hFd, hdp⟩ := hF
  obtain ⟨h1, h2, h3, h4, h5, h6, h7⟩ := id hI
  obtain ⟨lim, bu, x0, k0, w0, ck, cw, L, f, g, nz, ch, hP, hK, hO, hl, e1, e2, e3, e4⟩ := bd_L (h6 j y0 hj hb) hk
  refine ⟨_, _, _, _, _, _, _, c_X7_item_L l hlt dC dI s.heap.size a0 qb cq bq j y0 1 (-1) lim bu x0 k0 w0 ck cw L f g nz ch p1 p2 hj hb hO hl, ⟨rfl, rfl, va_P.app h1 (hP), va_K.app h2 (hK), hN, hZ.narrow (fun q h9 => Or.inr h9)⟩, ⟨Nat.le_of_ble_eq_true rfl, Nat.le_of_ble_eq_true rfl, Nat.le_of_ble_eq_true rfl, Nat.le_of_ble_eq_true rfl⟩, Nat.le_of_ble_eq_true rfl, Nat.le_of_ble_eq_true rfl, ?_, ?_, fun q h9 => Or.inr h9⟩
  · intro oc t hq hW hz hn
    obtain ⟨⟨r, u, e, -, -⟩, hFr⟩ := hq
    exact ⟨⟨r, (ow, cr), e, trivial, aPost_same hI hW (F_ro hFr rfl) hz hn (Nat.le_of_ble_eq_true rfl) (Nat.le_of_ble_eq_true rfl)⟩, F_mono hFr (fun q h9 => Or.inr h9)⟩
  · intro E t hx hW hz hn
    obtain ⟨u, -, hE, hFr⟩ := hx
    exact ⟨(ow, cr), trivial, ⟨(hE).elim (fun h9 => Or.inr (Or.inr (Or.inl (h9)))) (fun h8 => Or.inr (Or.inr (Or.inr (h8)))), aPost_same hI hW (F_ro hFr rfl) hz hn (Nat.le_of_ble_eq_true rfl) (Nat.le_of_ble_eq_true rfl)⟩, F_mono hFr (fun q h9 => Or.inr h9)⟩
set_option maxRecDepth 20000 in
set_option maxHeartbeats 1000000 in
theorem uv_L (l : Launch) (hlt : l.stackTraces = false) (dC : Nat → ClassId) (dI : Nat → Nat → Nat) {a0 qb : Nat} {cq : ClassId} {bq : Nat → Option Nat} {ow rx cr : Nat → Nat} {a1 a4 a8 a11 : Nat → Int32} {s : State} {jc : Nat} {z0 : Nat} {p1 : Int32} {p2 : Int32} (hpre : aPre (dC, dI) a0 qb cq bq ow rx cr a1 a4 a8 a11 s.heap.size (hT s.heap) s) (hF : ∃ dep : Nat → Nat, rF a1 a8 dep ∧ ∀ o : Nat, o < 16 → dep o < 17) (hjc : jc < 16) (hbc : bq jc = some z0) (hkc : (a1 jc).toInt = 5) (hkj : ∀ j : Nat, j < 16 → a8 jc = nI j → (a1 j).toInt = 2) : uSel l yX7_move wqX7_move ({ frames := 9, cells := 2, slots := 12, locals := 330 }) 2 12 (aA ow s.heap.size) (va_Ql (fun (_ : Int64) (_ : (Nat → Nat) × (Nat → Nat)) => True) (fun (u : (Nat → Nat) × (Nat → Nat)) (t : State) => aPost (dC, dI) a0 qb cq bq ow rx cr a1 a4 a8 a11 s.heap.size (hT s.heap) u t) (aA ow s.heap.size)) (vx_X (fun (_ : (Nat → Nat) × (Nat → Nat)) => True) (fun (E : String) (u : (Nat → Nat) × (Nat → Nat)) (t : State) => (E = "java/util/NoSuchElementException" ∨ E = "java/lang/ClassCastException" ∨ E = "java/lang/IllegalArgumentException" ∨ E = "java/lang/IllegalStateException") ∧ aPost (dC, dI) a0 qb cq bq ow rx cr a1 a4 a8 a11 s.heap.size (hT s.heap) u t) (aA ow s.heap.size)) [.ref a0, .int (nI jc), .int p1, .int p2].toArray s := by
  obtain ⟨-, -, hI, hN, hZ⟩ := hpre
  obtain ⟨dep, hFd, hdp⟩ := hF
  obtain ⟨h1, h2, h3, h4, h5, h6, h7⟩ := id hI
  obtain ⟨j, y0, kdc, nx, ps, se, hj, ejp, hb, hPc, e1c⟩ := bd_C (h6 jc z0 hjc hbc) hkc
  have hk := hkj j hj ejp
  have hne : jc ≠ j := fun z => by rw [z] at hkc; omega
  obtain ⟨lim, bu, x0, k0, w0, ck, cw, L, f, g, nz, ch, hP, hK, hO, hl, e1, e2, e3, e4⟩ := bd_L (h6 j y0 hj hb) hk
  have hPw : va_P (dC, dI) vwCl [(a0, .inr (7, [.ref qb])), (qb, .inl (cq, 16, .inr (.inr (.inr (.inr bq))))), (z0, .inr (2, [.int kdc, .int (nI j), .ref y0, .int nx, .int ps, .int se])), (y0, .inr (4, [.ref x0, .int 1, .int (-1), .int (nI lim), .int bu])), (x0, .inr (5, [.ref k0, .ref w0, .int (nI nz), .int ch])), (k0, .inl (ck, L, .inl f)), (w0, .inl (cw, L, .inl g))] s.heap := va_P.app h1 (va_P.app (hPc) (hP))
  have hKw : va_K (dC, dI) vwCl [(cq, .object "KeyAtlas$Body"), (ck, .int), (cw, .int)] s := va_K.app h2 (hK)
  have hDw : va_D (fun _ => True) [(a0, .inr (7, [.ref qb])), (qb, .inl (cq, 16, .inr (.inr (.inr (.inr bq))))), (z0, .inr (2, [.int kdc, .int (nI j), .ref y0, .int nx, .int ps, .int se])), (y0, .inr (4, [.ref x0, .int 1, .int (-1), .int (nI lim), .int bu])), (x0, .inr (5, [.ref k0, .ref w0, .int (nI nz), .int ch])), (k0, .inl (ck, L, .inl f)), (w0, .inl (cw, L, .inl g))] := D_nd (ow := ow) (by
    show ([ow a0, ow qb, ow z0, ow y0, ow x0, ow k0, ow w0] : List Nat).Nodup
    rw [h3, h4, e1c, e1, e2, e3, e4]
    exact nd_c (List.forall_mem_cons.mpr ⟨(by omega), List.forall_mem_cons.mpr ⟨(by omega), List.forall_mem_cons.mpr ⟨(by omega), List.forall_mem_cons.mpr ⟨(by omega), List.forall_mem_cons.mpr ⟨(by omega), List.forall_mem_cons.mpr ⟨(by omega), fun _ h => absurd h List.not_mem_nil⟩⟩⟩⟩⟩⟩) (nd_c (List.forall_mem_cons.mpr ⟨(by omega), List.forall_mem_cons.mpr ⟨(by omega), List.forall_mem_cons.mpr ⟨(by omega), List.forall_mem_cons.mpr ⟨(by omega), List.forall_mem_cons.mpr ⟨(by omega), fun _ h => absurd h List.not_mem_nil⟩⟩⟩⟩⟩) (nd_c (List.forall_mem_cons.mpr ⟨(by omega), List.forall_mem_cons.mpr ⟨(by omega), List.forall_mem_cons.mpr ⟨(by omega), List.forall_mem_cons.mpr ⟨(by omega), fun _ h => absurd h List.not_mem_nil⟩⟩⟩⟩) (nd_c (List.forall_mem_cons.mpr ⟨(by omega), List.forall_mem_cons.mpr ⟨(by omega), List.forall_mem_cons.mpr ⟨(by omega), fun _ h => absurd h List.not_mem_nil⟩⟩⟩) (nd_c (List.forall_mem_cons.mpr ⟨(by omega), List.forall_mem_cons.mpr ⟨(by omega), fun _ h => absurd h List.not_mem_nil⟩⟩) (nd_c (List.forall_mem_cons.mpr ⟨(by omega), fun _ h => absurd h List.not_mem_nil⟩) (nd_c (fun _ h => absurd h List.not_mem_nil) (List.nodup_nil))))))))
  have hOp_ : ∀ q ∈ ([(a0, .inr (7, [.ref qb])), (qb, .inl (cq, 16, .inr (.inr (.inr (.inr bq))))), (z0, .inr (2, [.int kdc, .int (nI j), .ref y0, .int nx, .int ps, .int se])), (y0, .inr (4, [.ref x0, .int 1, .int (-1), .int (nI lim), .int bu])), (x0, .inr (5, [.ref k0, .ref w0, .int (nI nz), .int ch])), (k0, .inl (ck, L, .inl f)), (w0, .inl (cw, L, .inl g))] : va_W), 0 < ow q.1 := List.forall_mem_cons.mpr ⟨(by show 0 < ow a0; omega), List.forall_mem_cons.mpr ⟨(by show 0 < ow qb; omega), List.forall_mem_cons.mpr ⟨(by show 0 < ow z0; omega), List.forall_mem_cons.mpr ⟨(by show 0 < ow y0; omega), List.forall_mem_cons.mpr ⟨(by show 0 < ow x0; omega), List.forall_mem_cons.mpr ⟨(by show 0 < ow k0; omega), List.forall_mem_cons.mpr ⟨(by show 0 < ow w0; omega), fun _ h => absurd h List.not_mem_nil⟩⟩⟩⟩⟩⟩⟩
  refine ⟨_, _, _, _, _, _, _, c_X7_move_L l hlt dC dI s.heap.size a0 qb cq bq jc z0 kdc (nI j) nx ps se y0 1 (-1) lim bu x0 k0 w0 ck cw L f g nz ch p1 p2 hjc hbc hO hl, ⟨rfl, rfl, hPw, hKw, hDw, hN, hZ.narrow (A_sub hOp_)⟩, ⟨Nat.le_of_ble_eq_true rfl, Nat.le_of_ble_eq_true rfl, Nat.le_of_ble_eq_true rfl, Nat.le_of_ble_eq_true rfl⟩, Nat.le_of_ble_eq_true rfl, Nat.le_of_ble_eq_true rfl, ?_, ?_, A_sub hOp_⟩
  · intro oc t hq hW hz hn
    obtain ⟨⟨r, u, e, hp, hP9, hK9, hD9⟩, hFr⟩ := hq
    have hU := upd_CL (cr1 := cr) (aI_moved hW.alike hI) hjc hbc hkc e1c ⟨hj, ejp, hb⟩ hj hb hk e1 e2 e3 e4 hne (fun q z1 z2 => hFr.2 q z1 z2) hP9 hK9 hD9 (rOK_le hO hp) hl (fun _ _ => Nat.le_refl _)
    refine ⟨⟨r, (_, _), e, trivial, hU.1, hU.2, ?_, ?_⟩, F_mono hFr (A_sub hOp_)⟩
    · show hT t.heap + sumN cr 16 ≤ _
      omega
    · omega
  · intro E t hx hW hz hn
    obtain ⟨u, -, ⟨hE, hP9, hK9, hD9⟩, hFr⟩ := hx
    have hU := upd_CL (cr1 := cr) (aI_moved hW.alike hI) hjc hbc hkc e1c ⟨hj, ejp, hb⟩ hj hb hk e1 e2 e3 e4 hne (fun q z1 z2 => hFr.2 q z1 z2) hP9 hK9 hD9 hO hl (fun _ _ => Nat.le_refl _)
    exact ⟨(_, cr), trivial, ⟨(hE).elim (fun h9 => Or.inr (Or.inr (Or.inl (h9)))) (fun h8 => (h8).elim (fun h9 => Or.inr (Or.inr (Or.inr (h9)))) (fun h8 => Or.inl (h8))), hU.1, hU.2, by show hT t.heap + sumN cr 16 ≤ _; omega, by omega⟩, F_mono hFr (A_sub hOp_)⟩
set_option maxRecDepth 20000 in
set_option maxHeartbeats 1000000 in
theorem ui_S (l : Launch) (hlt : l.stackTraces = false) (dC : Nat → ClassId) (dI : Nat → Nat → Nat) {a0 qb : Nat} {cq : ClassId} {bq : Nat → Option Nat} {ow rx cr : Nat → Nat} {a1 a4 a8 a11 : Nat → Int32} {s : State} {j : Nat} {y0 : Nat} {p1 : Int32} {p2 : Int32} (hpre : aPre (dC, dI) a0 qb cq bq ow rx cr a1 a4 a8 a11 s.heap.size (hT s.heap) s) (hF : ∃ dep : Nat → Nat, rF a1 a8 dep ∧ ∀ o : Nat, o < 16 → dep o < 17) (hj : j < 16) (hb : bq j = some y0) (hk : (a1 j).toInt = 3 ∨ (a1 j).toInt = 4) : uSel l yX7_item wqX7_item ({ frames := 7, cells := 2, slots := 12, locals := 240 }) 2 12 (aA ow s.heap.size) (va_Ql (fun (_ : Int64) (_ : (Nat → Nat) × (Nat → Nat)) => True) (fun (u : (Nat → Nat) × (Nat → Nat)) (t : State) => aPost (dC, dI) a0 qb cq bq ow rx cr a1 a4 a8 a11 s.heap.size (hT s.heap) u t) (aA ow s.heap.size)) (vx_X (fun (_ : (Nat → Nat) × (Nat → Nat)) => True) (fun (E : String) (u : (Nat → Nat) × (Nat → Nat)) (t : State) => (E = "java/util/NoSuchElementException" ∨ E = "java/lang/ClassCastException" ∨ E = "java/lang/IllegalArgumentException" ∨ E = "java/lang/IndexOutOfBoundsException") ∧ aPost (dC, dI) a0 qb cq bq ow rx cr a1 a4 a8 a11 s.heap.size (hT s.heap) u t) (aA ow s.heap.size)) [.ref a0, .int (nI j), .int p1, .int p2].toArray s := by
  obtain ⟨-, -, hI, hN, hZ⟩ := hpre
  obtain ⟨dep, hFd, hdp⟩ := hF
  obtain ⟨h1, h2, h3, h4, h5, h6, h7⟩ := id hI
  obtain ⟨kd, wh, tu, lo, hi, hPs, e1, ht⟩ := bd_S (h6 j y0 hj hb) hk
  have hr := rt_3 hFd hj (hdp j hj) hk
  obtain ⟨x0, ex⟩ : ∃ z, z = rx (rtN a1 a8 17 j) := ⟨_, rfl⟩
  obtain ⟨k0, w0, ck, cw, L, f, g, nz, ch, hPr, hK, hO, e2, e3, e4⟩ := h7 _ hr.1 hr.2
  rw [← ex] at hPs hPr e2
  refine ⟨_, _, _, _, _, _, _, c_X7_item_S l hlt dC dI s.heap.size a0 qb cq bq j y0 kd wh (a4 (rtN a1 a8 17 j)) tu lo hi x0 k0 w0 ck cw L f g nz ch p1 p2 hj hb hO ht.2.2.1 ht.2.2.2.1, ⟨rfl, rfl, va_P.app h1 (va_P.app hPs hPr), va_K.app h2 (hK), hN, hZ.narrow (fun q h9 => Or.inr h9)⟩, ⟨Nat.le_of_ble_eq_true rfl, Nat.le_of_ble_eq_true rfl, Nat.le_of_ble_eq_true rfl, Nat.le_of_ble_eq_true rfl⟩, Nat.le_of_ble_eq_true rfl, Nat.le_of_ble_eq_true rfl, ?_, ?_, fun q h9 => Or.inr h9⟩
  · intro oc t hq hW hz hn
    obtain ⟨⟨r, u, e, -, -⟩, hFr⟩ := hq
    exact ⟨⟨r, (ow, cr), e, trivial, aPost_same hI hW (F_ro hFr rfl) hz hn (Nat.le_of_ble_eq_true rfl) (Nat.le_of_ble_eq_true rfl)⟩, F_mono hFr (fun q h9 => Or.inr h9)⟩
  · intro E t hx hW hz hn
    obtain ⟨u, -, hE, hFr⟩ := hx
    exact ⟨(ow, cr), trivial, ⟨(hE).elim (fun h9 => Or.inr (Or.inr (Or.inl (h9)))) (fun h8 => Or.inr (Or.inr (Or.inr (h8)))), aPost_same hI hW (F_ro hFr rfl) hz hn (Nat.le_of_ble_eq_true rfl) (Nat.le_of_ble_eq_true rfl)⟩, F_mono hFr (fun q h9 => Or.inr h9)⟩
set_option maxRecDepth 20000 in
set_option maxHeartbeats 1000000 in
theorem uv_S (l : Launch) (hlt : l.stackTraces = false) (dC : Nat → ClassId) (dI : Nat → Nat → Nat) {a0 qb : Nat} {cq : ClassId} {bq : Nat → Option Nat} {ow rx cr : Nat → Nat} {a1 a4 a8 a11 : Nat → Int32} {s : State} {jc : Nat} {z0 : Nat} {p1 : Int32} {p2 : Int32} (hpre : aPre (dC, dI) a0 qb cq bq ow rx cr a1 a4 a8 a11 s.heap.size (hT s.heap) s) (hF : ∃ dep : Nat → Nat, rF a1 a8 dep ∧ ∀ o : Nat, o < 16 → dep o < 17) (hjc : jc < 16) (hbc : bq jc = some z0) (hkc : (a1 jc).toInt = 5) (hkj : ∀ j : Nat, j < 16 → a8 jc = nI j → (a1 j).toInt = 3 ∨ (a1 j).toInt = 4) : uSel l yX7_move wqX7_move ({ frames := 9, cells := 2, slots := 12, locals := 330 }) 2 12 (aA ow s.heap.size) (va_Ql (fun (_ : Int64) (_ : (Nat → Nat) × (Nat → Nat)) => True) (fun (u : (Nat → Nat) × (Nat → Nat)) (t : State) => aPost (dC, dI) a0 qb cq bq ow rx cr a1 a4 a8 a11 s.heap.size (hT s.heap) u t) (aA ow s.heap.size)) (vx_X (fun (_ : (Nat → Nat) × (Nat → Nat)) => True) (fun (E : String) (u : (Nat → Nat) × (Nat → Nat)) (t : State) => (E = "java/util/NoSuchElementException" ∨ E = "java/lang/ClassCastException" ∨ E = "java/lang/IllegalArgumentException" ∨ E = "java/lang/IllegalStateException") ∧ aPost (dC, dI) a0 qb cq bq ow rx cr a1 a4 a8 a11 s.heap.size (hT s.heap) u t) (aA ow s.heap.size)) [.ref a0, .int (nI jc), .int p1, .int p2].toArray s := by
  obtain ⟨-, -, hI, hN, hZ⟩ := hpre
  obtain ⟨dep, hFd, hdp⟩ := hF
  obtain ⟨h1, h2, h3, h4, h5, h6, h7⟩ := id hI
  obtain ⟨j, y0, kdc, nx, ps, se, hj, ejp, hb, hPc, e1c⟩ := bd_C (h6 jc z0 hjc hbc) hkc
  have hk := hkj j hj ejp
  have hne : jc ≠ j := fun z => by rw [z] at hkc; omega
  obtain ⟨kd, wh, tu, lo, hi, hPs, e1, ht⟩ := bd_S (h6 j y0 hj hb) hk
  have hr := rt_3 hFd hj (hdp j hj) hk
  obtain ⟨x0, ex⟩ : ∃ z, z = rx (rtN a1 a8 17 j) := ⟨_, rfl⟩
  obtain ⟨k0, w0, ck, cw, L, f, g, nz, ch, hPr, hK, hO, e2, e3, e4⟩ := h7 _ hr.1 hr.2
  rw [← ex] at hPs hPr e2
  have hRl := hr.1
  have hPw : va_P (dC, dI) vwCl [(a0, .inr (7, [.ref qb])), (qb, .inl (cq, 16, .inr (.inr (.inr (.inr bq))))), (z0, .inr (2, [.int kdc, .int (nI j), .ref y0, .int nx, .int ps, .int se])), (y0, .inr (6, [.ref x0, .int kd, .int wh, .int (a4 (rtN a1 a8 17 j)), .int tu, .long lo, .long hi])), (x0, .inr (5, [.ref k0, .ref w0, .int (nI nz), .int ch])), (k0, .inl (ck, L, .inl f)), (w0, .inl (cw, L, .inl g))] s.heap := va_P.app h1 (va_P.app (hPc) (va_P.app hPs hPr))
  have hKw : va_K (dC, dI) vwCl [(cq, .object "KeyAtlas$Body"), (ck, .int), (cw, .int)] s := va_K.app h2 (hK)
  have hDw : va_D (fun _ => True) [(a0, .inr (7, [.ref qb])), (qb, .inl (cq, 16, .inr (.inr (.inr (.inr bq))))), (z0, .inr (2, [.int kdc, .int (nI j), .ref y0, .int nx, .int ps, .int se])), (y0, .inr (6, [.ref x0, .int kd, .int wh, .int (a4 (rtN a1 a8 17 j)), .int tu, .long lo, .long hi])), (x0, .inr (5, [.ref k0, .ref w0, .int (nI nz), .int ch])), (k0, .inl (ck, L, .inl f)), (w0, .inl (cw, L, .inl g))] := D_nd (ow := ow) (by
    show ([ow a0, ow qb, ow z0, ow y0, ow x0, ow k0, ow w0] : List Nat).Nodup
    rw [h3, h4, e1c, e1, e2, e3, e4]
    exact nd_c (List.forall_mem_cons.mpr ⟨(by omega), List.forall_mem_cons.mpr ⟨(by omega), List.forall_mem_cons.mpr ⟨(by omega), List.forall_mem_cons.mpr ⟨(by omega), List.forall_mem_cons.mpr ⟨(by omega), List.forall_mem_cons.mpr ⟨(by omega), fun _ h => absurd h List.not_mem_nil⟩⟩⟩⟩⟩⟩) (nd_c (List.forall_mem_cons.mpr ⟨(by omega), List.forall_mem_cons.mpr ⟨(by omega), List.forall_mem_cons.mpr ⟨(by omega), List.forall_mem_cons.mpr ⟨(by omega), List.forall_mem_cons.mpr ⟨(by omega), fun _ h => absurd h List.not_mem_nil⟩⟩⟩⟩⟩) (nd_c (List.forall_mem_cons.mpr ⟨(by omega), List.forall_mem_cons.mpr ⟨(by omega), List.forall_mem_cons.mpr ⟨(by omega), List.forall_mem_cons.mpr ⟨(by omega), fun _ h => absurd h List.not_mem_nil⟩⟩⟩⟩) (nd_c (List.forall_mem_cons.mpr ⟨(by omega), List.forall_mem_cons.mpr ⟨(by omega), List.forall_mem_cons.mpr ⟨(by omega), fun _ h => absurd h List.not_mem_nil⟩⟩⟩) (nd_c (List.forall_mem_cons.mpr ⟨(by omega), List.forall_mem_cons.mpr ⟨(by omega), fun _ h => absurd h List.not_mem_nil⟩⟩) (nd_c (List.forall_mem_cons.mpr ⟨(by omega), fun _ h => absurd h List.not_mem_nil⟩) (nd_c (fun _ h => absurd h List.not_mem_nil) (List.nodup_nil))))))))
  have hOp_ : ∀ q ∈ ([(a0, .inr (7, [.ref qb])), (qb, .inl (cq, 16, .inr (.inr (.inr (.inr bq))))), (z0, .inr (2, [.int kdc, .int (nI j), .ref y0, .int nx, .int ps, .int se])), (y0, .inr (6, [.ref x0, .int kd, .int wh, .int (a4 (rtN a1 a8 17 j)), .int tu, .long lo, .long hi])), (x0, .inr (5, [.ref k0, .ref w0, .int (nI nz), .int ch])), (k0, .inl (ck, L, .inl f)), (w0, .inl (cw, L, .inl g))] : va_W), 0 < ow q.1 := List.forall_mem_cons.mpr ⟨(by show 0 < ow a0; omega), List.forall_mem_cons.mpr ⟨(by show 0 < ow qb; omega), List.forall_mem_cons.mpr ⟨(by show 0 < ow z0; omega), List.forall_mem_cons.mpr ⟨(by show 0 < ow y0; omega), List.forall_mem_cons.mpr ⟨(by show 0 < ow x0; omega), List.forall_mem_cons.mpr ⟨(by show 0 < ow k0; omega), List.forall_mem_cons.mpr ⟨(by show 0 < ow w0; omega), fun _ h => absurd h List.not_mem_nil⟩⟩⟩⟩⟩⟩⟩
  refine ⟨_, _, _, _, _, _, _, c_X7_move_S l hlt dC dI s.heap.size a0 qb cq bq jc z0 kdc (nI j) nx ps se y0 kd wh (a4 (rtN a1 a8 17 j)) tu lo hi x0 k0 w0 ck cw L f g nz ch p1 p2 hjc hbc hO ht.2.2.1 ht.2.2.2.1, ⟨rfl, rfl, hPw, hKw, hDw, hN, hZ.narrow (A_sub hOp_)⟩, ⟨Nat.le_of_ble_eq_true rfl, Nat.le_of_ble_eq_true rfl, Nat.le_of_ble_eq_true rfl, Nat.le_of_ble_eq_true rfl⟩, Nat.le_of_ble_eq_true rfl, Nat.le_of_ble_eq_true rfl, ?_, ?_, A_sub hOp_⟩
  · intro oc t hq hW hz hn
    obtain ⟨⟨r, u, e, hp, hP9, hK9, hD9⟩, hFr⟩ := hq
    have hU := upd_CS (cr1 := cr) (aI_moved hW.alike hI) hjc hbc hkc e1c ⟨hj, ejp, hb⟩ hj hb hk e1 e2 e3 e4 hr ex ht hne (fun q z1 z2 => hFr.2 q z1 z2) hP9 hK9 hD9 (rOK_le hO hp) (fun _ _ => Nat.le_refl _)
    refine ⟨⟨r, (_, _), e, trivial, hU.1, hU.2, ?_, ?_⟩, F_mono hFr (A_sub hOp_)⟩
    · show hT t.heap + sumN cr 16 ≤ _
      omega
    · omega
  · intro E t hx hW hz hn
    obtain ⟨u, -, ⟨hE, hP9, hK9, hD9⟩, hFr⟩ := hx
    have hU := upd_CS (cr1 := cr) (aI_moved hW.alike hI) hjc hbc hkc e1c ⟨hj, ejp, hb⟩ hj hb hk e1 e2 e3 e4 hr ex ht hne (fun q z1 z2 => hFr.2 q z1 z2) hP9 hK9 hD9 hO (fun _ _ => Nat.le_refl _)
    exact ⟨(_, cr), trivial, ⟨(hE).elim (fun h9 => Or.inr (Or.inr (Or.inl (h9)))) (fun h8 => (h8).elim (fun h9 => Or.inr (Or.inr (Or.inr (h9)))) (fun h8 => Or.inl (h8))), hU.1, hU.2, by show hT t.heap + sumN cr 16 ≤ _; omega, by omega⟩, F_mono hFr (A_sub hOp_)⟩
