set_option maxRecDepth 20000 in
set_option maxHeartbeats 1000000 in
theorem um_H (l : Launch) (hlt : l.stackTraces = false) (dC : Nat → ClassId) (dI : Nat → Nat → Nat) {a0 qb : Nat} {cq : ClassId} {bq : Nat → Option Nat} {ow rx cr : Nat → Nat} {a1 a4 a8 a11 : Nat → Int32} {s : State} {j : Nat} {y0 : Nat} {p1 : Int32} {p2 : Int32} {p3 : Int32} (hpre : aPre (dC, dI) a0 qb cq bq ow rx cr a1 a4 a8 a11 s.heap.size (hT s.heap) s) (hF : ∃ dep : Nat → Nat, rF a1 a8 dep ∧ ∀ o : Nat, o < 16 → dep o < 17) (hj : j < 16) (hb : bq j = some y0) (hk : (a1 j).toInt = 1) (hop : ¬ p1.toInt = 19 ∧ ¬ p1.toInt = 20) : uSel l yX7_map wqX7_map ({ frames := 9, cells := 130, slots := 53000, locals := 400 }) 130 53000 (aA ow s.heap.size) (va_Ql (fun (_ : Int64) (_ : (Nat → Nat) × (Nat → Nat)) => True) (fun (u : (Nat → Nat) × (Nat → Nat)) (t : State) => aPost (dC, dI) a0 qb cq bq ow rx cr a1 a4 a8 a11 s.heap.size (hT s.heap) u t) (aA ow s.heap.size)) (vx_X (fun (_ : (Nat → Nat) × (Nat → Nat)) => True) (fun (E : String) (u : (Nat → Nat) × (Nat → Nat)) (t : State) => (E = "java/util/NoSuchElementException" ∨ E = "java/lang/ClassCastException" ∨ E = "java/lang/IllegalArgumentException" ∨ E = "java/lang/IllegalStateException" ∨ E = "java/lang/UnsupportedOperationException") ∧ aPost (dC, dI) a0 qb cq bq ow rx cr a1 a4 a8 a11 s.heap.size (hT s.heap) u t) (aA ow s.heap.size)) [.ref a0, .int (nI j), .int p1, .int p2, .int p3].toArray s := by
  obtain ⟨-, -, hI, hN, hZ⟩ := hpre
  obtain ⟨dep, hFd, hdp⟩ := hF
  obtain ⟨h1, h2, h3, h4, h5, h6, h7⟩ := id hI
  obtain ⟨cap, ru, tb, b0, cb, bf, x0, k0, w0, ck, cw, L, f, g, nz, ch, hP, hK, hO, hc, e1, e2, e3, e4, e5⟩ := bd_H (h6 j y0 hj hb) hk
  have hPw : va_P (dC, dI) vwCl [(a0, .inr (7, [.ref qb])), (qb, .inl (cq, 16, .inr (.inr (.inr (.inr bq))))), (y0, .inr (3, [.ref x0, .int 0, .int (-1), .int (nI cap), .int ru, .int (nI tb), .ref b0])), (x0, .inr (5, [.ref k0, .ref w0, .int (nI nz), .int ch])), (k0, .inl (ck, L, .inl f)), (w0, .inl (cw, L, .inl g)), (b0, .inl (cb, tb, .inl bf))] s.heap := va_P.app h1 (hP)
  have hKw : va_K (dC, dI) vwCl [(cq, .object "KeyAtlas$Body"), (ck, .int), (cw, .int), (cb, .boolean)] s := va_K.app h2 (hK)
  have hDw : va_D (fun _ => True) [(a0, .inr (7, [.ref qb])), (qb, .inl (cq, 16, .inr (.inr (.inr (.inr bq))))), (y0, .inr (3, [.ref x0, .int 0, .int (-1), .int (nI cap), .int ru, .int (nI tb), .ref b0])), (x0, .inr (5, [.ref k0, .ref w0, .int (nI nz), .int ch])), (k0, .inl (ck, L, .inl f)), (w0, .inl (cw, L, .inl g)), (b0, .inl (cb, tb, .inl bf))] := D_nd (ow := ow) (by
    show ([ow a0, ow qb, ow y0, ow x0, ow k0, ow w0, ow b0] : List Nat).Nodup
    rw [h3, h4, e1, e2, e3, e4, e5]
    exact nd_c (List.forall_mem_cons.mpr ⟨(by omega), List.forall_mem_cons.mpr ⟨(by omega), List.forall_mem_cons.mpr ⟨(by omega), List.forall_mem_cons.mpr ⟨(by omega), List.forall_mem_cons.mpr ⟨(by omega), List.forall_mem_cons.mpr ⟨(by omega), fun _ h => absurd h List.not_mem_nil⟩⟩⟩⟩⟩⟩) (nd_c (List.forall_mem_cons.mpr ⟨(by omega), List.forall_mem_cons.mpr ⟨(by omega), List.forall_mem_cons.mpr ⟨(by omega), List.forall_mem_cons.mpr ⟨(by omega), List.forall_mem_cons.mpr ⟨(by omega), fun _ h => absurd h List.not_mem_nil⟩⟩⟩⟩⟩) (nd_c (List.forall_mem_cons.mpr ⟨(by omega), List.forall_mem_cons.mpr ⟨(by omega), List.forall_mem_cons.mpr ⟨(by omega), List.forall_mem_cons.mpr ⟨(by omega), fun _ h => absurd h List.not_mem_nil⟩⟩⟩⟩) (nd_c (List.forall_mem_cons.mpr ⟨(by omega), List.forall_mem_cons.mpr ⟨(by omega), List.forall_mem_cons.mpr ⟨(by omega), fun _ h => absurd h List.not_mem_nil⟩⟩⟩) (nd_c (List.forall_mem_cons.mpr ⟨(by omega), List.forall_mem_cons.mpr ⟨(by omega), fun _ h => absurd h List.not_mem_nil⟩⟩) (nd_c (List.forall_mem_cons.mpr ⟨(by omega), fun _ h => absurd h List.not_mem_nil⟩) (nd_c (fun _ h => absurd h List.not_mem_nil) (List.nodup_nil))))))))
  have hOp_ : ∀ q ∈ ([(a0, .inr (7, [.ref qb])), (qb, .inl (cq, 16, .inr (.inr (.inr (.inr bq))))), (y0, .inr (3, [.ref x0, .int 0, .int (-1), .int (nI cap), .int ru, .int (nI tb), .ref b0])), (x0, .inr (5, [.ref k0, .ref w0, .int (nI nz), .int ch])), (k0, .inl (ck, L, .inl f)), (w0, .inl (cw, L, .inl g)), (b0, .inl (cb, tb, .inl bf))] : va_W), 0 < ow q.1 := List.forall_mem_cons.mpr ⟨(by show 0 < ow a0; omega), List.forall_mem_cons.mpr ⟨(by show 0 < ow qb; omega), List.forall_mem_cons.mpr ⟨(by show 0 < ow y0; omega), List.forall_mem_cons.mpr ⟨(by show 0 < ow x0; omega), List.forall_mem_cons.mpr ⟨(by show 0 < ow k0; omega), List.forall_mem_cons.mpr ⟨(by show 0 < ow w0; omega), List.forall_mem_cons.mpr ⟨(by show 0 < ow b0; omega), fun _ h => absurd h List.not_mem_nil⟩⟩⟩⟩⟩⟩⟩
  refine ⟨_, _, _, _, _, _, _, c_X7_map_H l hlt dC dI s.heap.size (hT s.heap) a0 qb cq bq j y0 0 (-1) cap ru tb b0 cb bf x0 k0 w0 ck cw L f g nz ch p1 p2 p3 hj hb hO hop, ⟨rfl, ⟨rfl, hPw, hKw, hDw, hN, hZ.narrow (A_sub hOp_)⟩, rfl⟩, ⟨Nat.le_of_ble_eq_true rfl, Nat.le_of_ble_eq_true rfl, Nat.le_of_ble_eq_true rfl, Nat.le_of_ble_eq_true rfl⟩, Nat.le_of_ble_eq_true rfl, Nat.le_of_ble_eq_true rfl, ?_, ?_, A_sub hOp_⟩
  · intro oc t hq hW hz hn
    obtain ⟨⟨r, u, e, hp, hP9, hK9, hD9, hC9⟩, hFr⟩ := hq
    have hU := upd_H (cr1 := (va_up cr j (crOf (u.1) (u.2.2.2.2.2.2.2.2.1)))) (aI_moved hW.alike hI) hj hb hk e1 e2 e3 e4 e5 (fun q z1 z2 => hFr.2 q z1 z2) hP9 hK9 hD9 hp (by rw [va_up_self]; exact Nat.le_refl _) (fun i hi => by rw [va_up_ne _ _ (by first | exact hi | exact hi.1)]; exact Nat.le_refl _)
    refine ⟨⟨r, (_, _), e, trivial, hU.1, hU.2, ?_, ?_⟩, F_mono hFr (A_sub hOp_)⟩
    · show hT t.heap + sumN (va_up cr j (crOf (u.1) (u.2.2.2.2.2.2.2.2.1))) 16 ≤ _
      have g1 := sum_up (f := cr) (x := crOf (u.1) (u.2.2.2.2.2.2.2.2.1)) hj
      have g2 := cr_map hO hp hC9.1
      omega
    · have g1 := (hPS_le hp).2
      have g2 := hC9.2
      omega
  · intro E t hx hW hz hn
    obtain ⟨u, -, ⟨⟨hE, hP9, hK9, hD9⟩, hz1, hn1⟩, hFr⟩ := hx
    have hU := upd_H (cr1 := cr) (aI_moved hW.alike hI) hj hb hk e1 e2 e3 e4 e5 (fun q z1 z2 => hFr.2 q z1 z2) hP9 hK9 hD9 hO hc (fun _ _ => Nat.le_refl _)
    exact ⟨(_, cr), trivial, ⟨(hE).elim (fun h9 => Or.inr (Or.inr (Or.inl (h9)))) (fun h8 => (h8).elim (fun h9 => Or.inr (Or.inr (Or.inr (Or.inl (h9))))) (fun h8 => (h8).elim (fun h9 => Or.inl (h9)) (fun h8 => Or.inr (Or.inr (Or.inr (Or.inr (h8))))))), hU.1, hU.2, by show hT t.heap + sumN cr 16 ≤ _; omega, by omega⟩, F_mono hFr (A_sub hOp_)⟩
set_option maxRecDepth 20000 in
set_option maxHeartbeats 1000000 in
theorem um_L (l : Launch) (hlt : l.stackTraces = false) (dC : Nat → ClassId) (dI : Nat → Nat → Nat) {a0 qb : Nat} {cq : ClassId} {bq : Nat → Option Nat} {ow rx cr : Nat → Nat} {a1 a4 a8 a11 : Nat → Int32} {s : State} {j : Nat} {y0 : Nat} {p1 : Int32} {p2 : Int32} {p3 : Int32} (hpre : aPre (dC, dI) a0 qb cq bq ow rx cr a1 a4 a8 a11 s.heap.size (hT s.heap) s) (hF : ∃ dep : Nat → Nat, rF a1 a8 dep ∧ ∀ o : Nat, o < 16 → dep o < 17) (hj : j < 16) (hb : bq j = some y0) (hk : (a1 j).toInt = 2) (hop : ¬ p1.toInt = 19 ∧ ¬ p1.toInt = 20) : uSel l yX7_map wqX7_map ({ frames := 9, cells := 130, slots := 53000, locals := 400 }) 130 53000 (aA ow s.heap.size) (va_Ql (fun (_ : Int64) (_ : (Nat → Nat) × (Nat → Nat)) => True) (fun (u : (Nat → Nat) × (Nat → Nat)) (t : State) => aPost (dC, dI) a0 qb cq bq ow rx cr a1 a4 a8 a11 s.heap.size (hT s.heap) u t) (aA ow s.heap.size)) (vx_X (fun (_ : (Nat → Nat) × (Nat → Nat)) => True) (fun (E : String) (u : (Nat → Nat) × (Nat → Nat)) (t : State) => (E = "java/util/NoSuchElementException" ∨ E = "java/lang/ClassCastException" ∨ E = "java/lang/IllegalArgumentException" ∨ E = "java/lang/IllegalStateException" ∨ E = "java/lang/UnsupportedOperationException") ∧ aPost (dC, dI) a0 qb cq bq ow rx cr a1 a4 a8 a11 s.heap.size (hT s.heap) u t) (aA ow s.heap.size)) [.ref a0, .int (nI j), .int p1, .int p2, .int p3].toArray s := by
  obtain ⟨-, -, hI, hN, hZ⟩ := hpre
  obtain ⟨dep, hFd, hdp⟩ := hF
  obtain ⟨h1, h2, h3, h4, h5, h6, h7⟩ := id hI
  obtain ⟨lim, bu, x0, k0, w0, ck, cw, L, f, g, nz, ch, hP, hK, hO, hl, e1, e2, e3, e4⟩ := bd_L (h6 j y0 hj hb) hk
  have hPw : va_P (dC, dI) vwCl [(a0, .inr (7, [.ref qb])), (qb, .inl (cq, 16, .inr (.inr (.inr (.inr bq))))), (y0, .inr (4, [.ref x0, .int 1, .int (-1), .int (nI lim), .int bu])), (x0, .inr (5, [.ref k0, .ref w0, .int (nI nz), .int ch])), (k0, .inl (ck, L, .inl f)), (w0, .inl (cw, L, .inl g))] s.heap := va_P.app h1 (hP)
  have hKw : va_K (dC, dI) vwCl [(cq, .object "KeyAtlas$Body"), (ck, .int), (cw, .int)] s := va_K.app h2 (hK)
  have hDw : va_D (fun _ => True) [(a0, .inr (7, [.ref qb])), (qb, .inl (cq, 16, .inr (.inr (.inr (.inr bq))))), (y0, .inr (4, [.ref x0, .int 1, .int (-1), .int (nI lim), .int bu])), (x0, .inr (5, [.ref k0, .ref w0, .int (nI nz), .int ch])), (k0, .inl (ck, L, .inl f)), (w0, .inl (cw, L, .inl g))] := D_nd (ow := ow) (by
    show ([ow a0, ow qb, ow y0, ow x0, ow k0, ow w0] : List Nat).Nodup
    rw [h3, h4, e1, e2, e3, e4]
    exact nd_c (List.forall_mem_cons.mpr ⟨(by omega), List.forall_mem_cons.mpr ⟨(by omega), List.forall_mem_cons.mpr ⟨(by omega), List.forall_mem_cons.mpr ⟨(by omega), List.forall_mem_cons.mpr ⟨(by omega), fun _ h => absurd h List.not_mem_nil⟩⟩⟩⟩⟩) (nd_c (List.forall_mem_cons.mpr ⟨(by omega), List.forall_mem_cons.mpr ⟨(by omega), List.forall_mem_cons.mpr ⟨(by omega), List.forall_mem_cons.mpr ⟨(by omega), fun _ h => absurd h List.not_mem_nil⟩⟩⟩⟩) (nd_c (List.forall_mem_cons.mpr ⟨(by omega), List.forall_mem_cons.mpr ⟨(by omega), List.forall_mem_cons.mpr ⟨(by omega), fun _ h => absurd h List.not_mem_nil⟩⟩⟩) (nd_c (List.forall_mem_cons.mpr ⟨(by omega), List.forall_mem_cons.mpr ⟨(by omega), fun _ h => absurd h List.not_mem_nil⟩⟩) (nd_c (List.forall_mem_cons.mpr ⟨(by omega), fun _ h => absurd h List.not_mem_nil⟩) (nd_c (fun _ h => absurd h List.not_mem_nil) (List.nodup_nil)))))))
  have hOp_ : ∀ q ∈ ([(a0, .inr (7, [.ref qb])), (qb, .inl (cq, 16, .inr (.inr (.inr (.inr bq))))), (y0, .inr (4, [.ref x0, .int 1, .int (-1), .int (nI lim), .int bu])), (x0, .inr (5, [.ref k0, .ref w0, .int (nI nz), .int ch])), (k0, .inl (ck, L, .inl f)), (w0, .inl (cw, L, .inl g))] : va_W), 0 < ow q.1 := List.forall_mem_cons.mpr ⟨(by show 0 < ow a0; omega), List.forall_mem_cons.mpr ⟨(by show 0 < ow qb; omega), List.forall_mem_cons.mpr ⟨(by show 0 < ow y0; omega), List.forall_mem_cons.mpr ⟨(by show 0 < ow x0; omega), List.forall_mem_cons.mpr ⟨(by show 0 < ow k0; omega), List.forall_mem_cons.mpr ⟨(by show 0 < ow w0; omega), fun _ h => absurd h List.not_mem_nil⟩⟩⟩⟩⟩⟩
  refine ⟨_, _, _, _, _, _, _, c_X7_map_L l hlt dC dI s.heap.size (hT s.heap) a0 qb cq bq j y0 1 (-1) lim bu x0 k0 w0 ck cw L f g nz ch p1 p2 p3 hj hb hO hl hop, ⟨rfl, ⟨rfl, hPw, hKw, hDw, hN, hZ.narrow (A_sub hOp_)⟩, rfl⟩, ⟨Nat.le_of_ble_eq_true rfl, Nat.le_of_ble_eq_true rfl, Nat.le_of_ble_eq_true rfl, Nat.le_of_ble_eq_true rfl⟩, Nat.le_of_ble_eq_true rfl, Nat.le_of_ble_eq_true rfl, ?_, ?_, A_sub hOp_⟩
  · intro oc t hq hW hz hn
    obtain ⟨⟨r, u, e, hp, hP9, hK9, hD9, hC9⟩, hFr⟩ := hq
    have hU := upd_L (cr1 := cr) (aI_moved hW.alike hI) hj hb hk e1 e2 e3 e4 (fun q z1 z2 => hFr.2 q z1 z2) hP9 hK9 hD9 hp hl (fun _ _ => Nat.le_refl _)
    refine ⟨⟨r, (_, _), e, trivial, hU.1, hU.2, ?_, ?_⟩, F_mono hFr (A_sub hOp_)⟩
    · show hT t.heap + sumN cr 16 ≤ _
      have g1 := lg_rok hp
      have g2 := hC9.1
      omega
    · have g1 := lg_rok hp
      have g2 := hC9.2
      omega
  · intro E t hx hW hz hn
    obtain ⟨u, -, ⟨⟨hE, hP9, hK9, hD9⟩, hz1, hn1⟩, hFr⟩ := hx
    have hU := upd_L (cr1 := cr) (aI_moved hW.alike hI) hj hb hk e1 e2 e3 e4 (fun q z1 z2 => hFr.2 q z1 z2) hP9 hK9 hD9 hO hl (fun _ _ => Nat.le_refl _)
    exact ⟨(_, cr), trivial, ⟨(hE).elim (fun h9 => Or.inr (Or.inr (Or.inl (h9)))) (fun h8 => (h8).elim (fun h9 => Or.inr (Or.inr (Or.inr (Or.inl (h9))))) (fun h8 => (h8).elim (fun h9 => Or.inl (h9)) (fun h8 => Or.inr (Or.inr (Or.inr (Or.inr (h8))))))), hU.1, hU.2, by show hT t.heap + sumN cr 16 ≤ _; omega, by omega⟩, F_mono hFr (A_sub hOp_)⟩
set_option maxRecDepth 20000 in
set_option maxHeartbeats 1000000 in
theorem um_S (l : Launch) (hlt : l.stackTraces = false) (dC : Nat → ClassId) (dI : Nat → Nat → Nat) {a0 qb : Nat} {cq : ClassId} {bq : Nat → Option Nat} {ow rx cr : Nat → Nat} {a1 a4 a8 a11 : Nat → Int32} {s : State} {j : Nat} {y0 : Nat} {p1 : Int32} {p2 : Int32} {p3 : Int32} (hpre : aPre (dC, dI) a0 qb cq bq ow rx cr a1 a4 a8 a11 s.heap.size (hT s.heap) s) (hF : ∃ dep : Nat → Nat, rF a1 a8 dep ∧ ∀ o : Nat, o < 16 → dep o < 17) (hj : j < 16) (hb : bq j = some y0) (hk : (a1 j).toInt = 3 ∨ (a1 j).toInt = 4) (hop : ¬ p1.toInt = 19 ∧ ¬ p1.toInt = 20) : uSel l yX7_map wqX7_map ({ frames := 9, cells := 130, slots := 53000, locals := 400 }) 130 53000 (aA ow s.heap.size) (va_Ql (fun (_ : Int64) (_ : (Nat → Nat) × (Nat → Nat)) => True) (fun (u : (Nat → Nat) × (Nat → Nat)) (t : State) => aPost (dC, dI) a0 qb cq bq ow rx cr a1 a4 a8 a11 s.heap.size (hT s.heap) u t) (aA ow s.heap.size)) (vx_X (fun (_ : (Nat → Nat) × (Nat → Nat)) => True) (fun (E : String) (u : (Nat → Nat) × (Nat → Nat)) (t : State) => (E = "java/util/NoSuchElementException" ∨ E = "java/lang/ClassCastException" ∨ E = "java/lang/IllegalArgumentException" ∨ E = "java/lang/IllegalStateException" ∨ E = "java/lang/UnsupportedOperationException") ∧ aPost (dC, dI) a0 qb cq bq ow rx cr a1 a4 a8 a11 s.heap.size (hT s.heap) u t) (aA ow s.heap.size)) [.ref a0, .int (nI j), .int p1, .int p2, .int p3].toArray s := by
  obtain ⟨-, -, hI, hN, hZ⟩ := hpre
  obtain ⟨dep, hFd, hdp⟩ := hF
  obtain ⟨h1, h2, h3, h4, h5, h6, h7⟩ := id hI
  obtain ⟨kd, wh, tu, lo, hi, hPs, e1, ht⟩ := bd_S (h6 j y0 hj hb) hk
  have hr := rt_3 hFd hj (hdp j hj) hk
  obtain ⟨x0, ex⟩ : ∃ z, z = rx (rtN a1 a8 17 j) := ⟨_, rfl⟩
  obtain ⟨k0, w0, ck, cw, L, f, g, nz, ch, hPr, hK, hO, e2, e3, e4⟩ := h7 _ hr.1 hr.2
  rw [← ex] at hPs hPr e2
  have hRl := hr.1
  have hPw : va_P (dC, dI) vwCl [(a0, .inr (7, [.ref qb])), (qb, .inl (cq, 16, .inr (.inr (.inr (.inr bq))))), (y0, .inr (6, [.ref x0, .int kd, .int wh, .int (a4 (rtN a1 a8 17 j)), .int tu, .long lo, .long hi])), (x0, .inr (5, [.ref k0, .ref w0, .int (nI nz), .int ch])), (k0, .inl (ck, L, .inl f)), (w0, .inl (cw, L, .inl g))] s.heap := va_P.app h1 (va_P.app hPs hPr)
  have hKw : va_K (dC, dI) vwCl [(cq, .object "KeyAtlas$Body"), (ck, .int), (cw, .int)] s := va_K.app h2 (hK)
  have hDw : va_D (fun _ => True) [(a0, .inr (7, [.ref qb])), (qb, .inl (cq, 16, .inr (.inr (.inr (.inr bq))))), (y0, .inr (6, [.ref x0, .int kd, .int wh, .int (a4 (rtN a1 a8 17 j)), .int tu, .long lo, .long hi])), (x0, .inr (5, [.ref k0, .ref w0, .int (nI nz), .int ch])), (k0, .inl (ck, L, .inl f)), (w0, .inl (cw, L, .inl g))] := D_nd (ow := ow) (by
    show ([ow a0, ow qb, ow y0, ow x0, ow k0, ow w0] : List Nat).Nodup
    rw [h3, h4, e1, e2, e3, e4]
    exact nd_c (List.forall_mem_cons.mpr ⟨(by omega), List.forall_mem_cons.mpr ⟨(by omega), List.forall_mem_cons.mpr ⟨(by omega), List.forall_mem_cons.mpr ⟨(by omega), List.forall_mem_cons.mpr ⟨(by omega), fun _ h => absurd h List.not_mem_nil⟩⟩⟩⟩⟩) (nd_c (List.forall_mem_cons.mpr ⟨(by omega), List.forall_mem_cons.mpr ⟨(by omega), List.forall_mem_cons.mpr ⟨(by omega), List.forall_mem_cons.mpr ⟨(by omega), fun _ h => absurd h List.not_mem_nil⟩⟩⟩⟩) (nd_c (List.forall_mem_cons.mpr ⟨(by omega), List.forall_mem_cons.mpr ⟨(by omega), List.forall_mem_cons.mpr ⟨(by omega), fun _ h => absurd h List.not_mem_nil⟩⟩⟩) (nd_c (List.forall_mem_cons.mpr ⟨(by omega), List.forall_mem_cons.mpr ⟨(by omega), fun _ h => absurd h List.not_mem_nil⟩⟩) (nd_c (List.forall_mem_cons.mpr ⟨(by omega), fun _ h => absurd h List.not_mem_nil⟩) (nd_c (fun _ h => absurd h List.not_mem_nil) (List.nodup_nil)))))))
  have hOp_ : ∀ q ∈ ([(a0, .inr (7, [.ref qb])), (qb, .inl (cq, 16, .inr (.inr (.inr (.inr bq))))), (y0, .inr (6, [.ref x0, .int kd, .int wh, .int (a4 (rtN a1 a8 17 j)), .int tu, .long lo, .long hi])), (x0, .inr (5, [.ref k0, .ref w0, .int (nI nz), .int ch])), (k0, .inl (ck, L, .inl f)), (w0, .inl (cw, L, .inl g))] : va_W), 0 < ow q.1 := List.forall_mem_cons.mpr ⟨(by show 0 < ow a0; omega), List.forall_mem_cons.mpr ⟨(by show 0 < ow qb; omega), List.forall_mem_cons.mpr ⟨(by show 0 < ow y0; omega), List.forall_mem_cons.mpr ⟨(by show 0 < ow x0; omega), List.forall_mem_cons.mpr ⟨(by show 0 < ow k0; omega), List.forall_mem_cons.mpr ⟨(by show 0 < ow w0; omega), fun _ h => absurd h List.not_mem_nil⟩⟩⟩⟩⟩⟩
  refine ⟨_, _, _, _, _, _, _, c_X7_map_S l hlt dC dI s.heap.size (hT s.heap) a0 qb cq bq j y0 kd wh (a4 (rtN a1 a8 17 j)) tu lo hi x0 k0 w0 ck cw L f g nz ch p1 p2 p3 hj hb hO ht.2.2.1 ht.2.2.2.1 hop, ⟨rfl, ⟨rfl, hPw, hKw, hDw, hN, hZ.narrow (A_sub hOp_)⟩, rfl⟩, ⟨Nat.le_of_ble_eq_true rfl, Nat.le_of_ble_eq_true rfl, Nat.le_of_ble_eq_true rfl, Nat.le_of_ble_eq_true rfl⟩, Nat.le_of_ble_eq_true rfl, Nat.le_of_ble_eq_true rfl, ?_, ?_, A_sub hOp_⟩
  · intro oc t hq hW hz hn
    obtain ⟨⟨r, u, e, hp, hP9, hK9, hD9, hC9⟩, hFr⟩ := hq
    have hU := upd_S (cr1 := cr) (aI_moved hW.alike hI) hj hb hk e1 e2 e3 e4 hr ex ht (fun q z1 z2 => hFr.2 q z1 z2) hP9 hK9 hD9 hp (fun _ _ => Nat.le_refl _)
    refine ⟨⟨r, (_, _), e, trivial, hU.1, hU.2, ?_, ?_⟩, F_mono hFr (A_sub hOp_)⟩
    · show hT t.heap + sumN cr 16 ≤ _
      have g1 := lg_rok hp
      have g2 := hC9.1
      omega
    · have g1 := lg_rok hp
      have g2 := hC9.2
      omega
  · intro E t hx hW hz hn
    obtain ⟨u, -, ⟨⟨hE, hP9, hK9, hD9⟩, hz1, hn1⟩, hFr⟩ := hx
    have hU := upd_S (cr1 := cr) (aI_moved hW.alike hI) hj hb hk e1 e2 e3 e4 hr ex ht (fun q z1 z2 => hFr.2 q z1 z2) hP9 hK9 hD9 hO (fun _ _ => Nat.le_refl _)
    exact ⟨(_, cr), trivial, ⟨(hE).elim (fun h9 => Or.inr (Or.inr (Or.inl (h9)))) (fun h8 => (h8).elim (fun h9 => Or.inr (Or.inr (Or.inr (Or.inl (h9))))) (fun h8 => (h8).elim (fun h9 => Or.inl (h9)) (fun h8 => Or.inr (Or.inr (Or.inr (Or.inr (h8))))))), hU.1, hU.2, by show hT t.heap + sumN cr 16 ≤ _; omega, by omega⟩, F_mono hFr (A_sub hOp_)⟩
