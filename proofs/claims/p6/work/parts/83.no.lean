set_option maxRecDepth 20000 in
set_option maxHeartbeats 1000000 in
theorem um_none (l : Launch) (hlt : l.stackTraces = false) (dC : Nat → ClassId) (dI : Nat → Nat → Nat) {a0 qb : Nat} {cq : ClassId} {bq : Nat → Option Nat} {ow rx cr : Nat → Nat} {a1 a4 a8 a11 : Nat → Int32} {s : State} {p0 : Int32} {p1 : Int32} {p2 : Int32} {p3 : Int32} (hpre : aPre (dC, dI) a0 qb cq bq ow rx cr a1 a4 a8 a11 s.heap.size (hT s.heap) s) (hF : ∃ dep : Nat → Nat, rF a1 a8 dep ∧ ∀ o : Nat, o < 16 → dep o < 17) (hno : ∀ j : Nat, j < 16 → p0 = nI j → bq j = none) : uSel l yX7_map wqX7_map ({ frames := 9, cells := 130, slots := 53000, locals := 400 }) 130 53000 (aA ow s.heap.size) (va_Ql (fun (_ : Int64) (_ : (Nat → Nat) × (Nat → Nat)) => True) (fun (u : (Nat → Nat) × (Nat → Nat)) (t : State) => aPost (dC, dI) a0 qb cq bq ow rx cr a1 a4 a8 a11 s.heap.size (hT s.heap) u t) (aA ow s.heap.size)) (vx_X (fun (_ : (Nat → Nat) × (Nat → Nat)) => True) (fun (E : String) (u : (Nat → Nat) × (Nat → Nat)) (t : State) => (E = "java/util/NoSuchElementException" ∨ E = "java/lang/ClassCastException" ∨ E = "java/lang/IllegalArgumentException" ∨ E = "java/lang/IllegalStateException" ∨ E = "java/lang/UnsupportedOperationException") ∧ aPost (dC, dI) a0 qb cq bq ow rx cr a1 a4 a8 a11 s.heap.size (hT s.heap) u t) (aA ow s.heap.size)) [.ref a0, .int p0, .int p1, .int p2, .int p3].toArray s := by
  obtain ⟨-, -, hI, hN, hZ⟩ := hpre
  obtain ⟨dep, hFd, hdp⟩ := hF
  obtain ⟨h1, h2, h3, h4, h5, h6, h7⟩ := id hI
  refine ⟨_, _, _, _, _, _, _, c_X7_map_none l hlt dC dI s.heap.size a0 qb cq bq p0 p1 p2 p3 hno, ⟨rfl, rfl, h1, h2, hN, hZ.narrow (fun q h9 => Or.inr h9)⟩, ⟨Nat.le_of_ble_eq_true rfl, Nat.le_of_ble_eq_true rfl, Nat.le_of_ble_eq_true rfl, Nat.le_of_ble_eq_true rfl⟩, Nat.le_of_ble_eq_true rfl, Nat.le_of_ble_eq_true rfl, ?_, ?_, fun q h9 => Or.inr h9⟩
  · intro oc t hq _ _ _
    obtain ⟨⟨r, u, e, hp, -⟩, -⟩ := hq
    exact hp.elim
  · intro E t hx hW hz hn
    obtain ⟨u, -, hE, hFr⟩ := hx
    exact ⟨(ow, cr), trivial, ⟨Or.inl (hE), aPost_same hI hW (F_ro hFr rfl) hz hn (Nat.le_of_ble_eq_true rfl) (Nat.le_of_ble_eq_true rfl)⟩, F_mono hFr (fun q h9 => Or.inr h9)⟩
set_option maxRecDepth 20000 in
set_option maxHeartbeats 1000000 in
theorem um_twonone (l : Launch) (hlt : l.stackTraces = false) (dC : Nat → ClassId) (dI : Nat → Nat → Nat) {a0 qb : Nat} {cq : ClassId} {bq : Nat → Option Nat} {ow rx cr : Nat → Nat} {a1 a4 a8 a11 : Nat → Int32} {s : State} {j : Nat} {y0 : Nat} {p1 : Int32} {p2 : Int32} {p3 : Int32} (hpre : aPre (dC, dI) a0 qb cq bq ow rx cr a1 a4 a8 a11 s.heap.size (hT s.heap) s) (hF : ∃ dep : Nat → Nat, rF a1 a8 dep ∧ ∀ o : Nat, o < 16 → dep o < 17) (hj : j < 16) (hb : bq j = some y0) (hno : ∀ j : Nat, j < 16 → p3 = nI j → bq j = none) (hop : p1.toInt = 19 ∨ p1.toInt = 20) : uSel l yX7_map wqX7_map ({ frames := 9, cells := 130, slots := 53000, locals := 400 }) 130 53000 (aA ow s.heap.size) (va_Ql (fun (_ : Int64) (_ : (Nat → Nat) × (Nat → Nat)) => True) (fun (u : (Nat → Nat) × (Nat → Nat)) (t : State) => aPost (dC, dI) a0 qb cq bq ow rx cr a1 a4 a8 a11 s.heap.size (hT s.heap) u t) (aA ow s.heap.size)) (vx_X (fun (_ : (Nat → Nat) × (Nat → Nat)) => True) (fun (E : String) (u : (Nat → Nat) × (Nat → Nat)) (t : State) => (E = "java/util/NoSuchElementException" ∨ E = "java/lang/ClassCastException" ∨ E = "java/lang/IllegalArgumentException" ∨ E = "java/lang/IllegalStateException" ∨ E = "java/lang/UnsupportedOperationException") ∧ aPost (dC, dI) a0 qb cq bq ow rx cr a1 a4 a8 a11 s.heap.size (hT s.heap) u t) (aA ow s.heap.size)) [.ref a0, .int (nI j), .int p1, .int p2, .int p3].toArray s := by
  obtain ⟨-, -, hI, hN, hZ⟩ := hpre
  obtain ⟨dep, hFd, hdp⟩ := hF
  obtain ⟨h1, h2, h3, h4, h5, h6, h7⟩ := id hI
  refine ⟨_, _, _, _, _, _, _, c_X7_map_twonone l hlt dC dI s.heap.size a0 qb cq bq j y0 p1 p2 p3 hj hb hno hop, ⟨rfl, rfl, h1, h2, hN, hZ.narrow (fun q h9 => Or.inr h9)⟩, ⟨Nat.le_of_ble_eq_true rfl, Nat.le_of_ble_eq_true rfl, Nat.le_of_ble_eq_true rfl, Nat.le_of_ble_eq_true rfl⟩, Nat.le_of_ble_eq_true rfl, Nat.le_of_ble_eq_true rfl, ?_, ?_, fun q h9 => Or.inr h9⟩
  · intro oc t hq _ _ _
    obtain ⟨⟨r, u, e, hp, -⟩, -⟩ := hq
    exact hp.elim
  · intro E t hx hW hz hn
    obtain ⟨u, -, hE, hFr⟩ := hx
    exact ⟨(ow, cr), trivial, ⟨Or.inl (hE), aPost_same hI hW (F_ro hFr rfl) hz hn (Nat.le_of_ble_eq_true rfl) (Nat.le_of_ble_eq_true rfl)⟩, F_mono hFr (fun q h9 => Or.inr h9)⟩
set_option maxRecDepth 20000 in
set_option maxHeartbeats 1000000 in
theorem um_notC (l : Launch) (hlt : l.stackTraces = false) (dC : Nat → ClassId) (dI : Nat → Nat → Nat) {a0 qb : Nat} {cq : ClassId} {bq : Nat → Option Nat} {ow rx cr : Nat → Nat} {a1 a4 a8 a11 : Nat → Int32} {s : State} {j : Nat} {y0 : Nat} {p1 : Int32} {p2 : Int32} {p3 : Int32} (hpre : aPre (dC, dI) a0 qb cq bq ow rx cr a1 a4 a8 a11 s.heap.size (hT s.heap) s) (hF : ∃ dep : Nat → Nat, rF a1 a8 dep ∧ ∀ o : Nat, o < 16 → dep o < 17) (hj : j < 16) (hb : bq j = some y0) (hk : (a1 j).toInt = 5) (hop : ¬ p1.toInt = 19 ∧ ¬ p1.toInt = 20) : uSel l yX7_map wqX7_map ({ frames := 9, cells := 130, slots := 53000, locals := 400 }) 130 53000 (aA ow s.heap.size) (va_Ql (fun (_ : Int64) (_ : (Nat → Nat) × (Nat → Nat)) => True) (fun (u : (Nat → Nat) × (Nat → Nat)) (t : State) => aPost (dC, dI) a0 qb cq bq ow rx cr a1 a4 a8 a11 s.heap.size (hT s.heap) u t) (aA ow s.heap.size)) (vx_X (fun (_ : (Nat → Nat) × (Nat → Nat)) => True) (fun (E : String) (u : (Nat → Nat) × (Nat → Nat)) (t : State) => (E = "java/util/NoSuchElementException" ∨ E = "java/lang/ClassCastException" ∨ E = "java/lang/IllegalArgumentException" ∨ E = "java/lang/IllegalStateException" ∨ E = "java/lang/UnsupportedOperationException") ∧ aPost (dC, dI) a0 qb cq bq ow rx cr a1 a4 a8 a11 s.heap.size (hT s.heap) u t) (aA ow s.heap.size)) [.ref a0, .int (nI j), .int p1, .int p2, .int p3].toArray s := by
  obtain ⟨-, -, hI, hN, hZ⟩ := hpre
  obtain ⟨dep, hFd, hdp⟩ := hF
  obtain ⟨h1, h2, h3, h4, h5, h6, h7⟩ := id hI
  obtain ⟨p9, yk9, kdc, nx, ps, se, -, -, -, hPc, e1c⟩ := bd_C (h6 j y0 hj hb) hk
  refine ⟨_, _, _, _, _, _, _, c_X7_map_notC l hlt dC dI s.heap.size a0 qb cq bq j y0 ([.int kdc, .int (nI p9), .ref yk9, .int nx, .int ps, .int se]) p1 p2 p3 hj hb hop, ⟨rfl, rfl, va_P.app h1 (hPc), h2, hN, hZ.narrow (fun q h9 => Or.inr h9)⟩, ⟨Nat.le_of_ble_eq_true rfl, Nat.le_of_ble_eq_true rfl, Nat.le_of_ble_eq_true rfl, Nat.le_of_ble_eq_true rfl⟩, Nat.le_of_ble_eq_true rfl, Nat.le_of_ble_eq_true rfl, ?_, ?_, fun q h9 => Or.inr h9⟩
  · intro oc t hq _ _ _
    obtain ⟨⟨r, u, e, hp, -⟩, -⟩ := hq
    exact hp.elim
  · intro E t hx hW hz hn
    obtain ⟨u, -, hE, hFr⟩ := hx
    exact ⟨(ow, cr), trivial, ⟨Or.inr (Or.inl (hE)), aPost_same hI hW (F_ro hFr rfl) hz hn (Nat.le_of_ble_eq_true rfl) (Nat.le_of_ble_eq_true rfl)⟩, F_mono hFr (fun q h9 => Or.inr h9)⟩
set_option maxRecDepth 20000 in
set_option maxHeartbeats 1000000 in
theorem um_twonotC (l : Launch) (hlt : l.stackTraces = false) (dC : Nat → ClassId) (dI : Nat → Nat → Nat) {a0 qb : Nat} {cq : ClassId} {bq : Nat → Option Nat} {ow rx cr : Nat → Nat} {a1 a4 a8 a11 : Nat → Int32} {s : State} {j : Nat} {y0 : Nat} {j8 : Nat} {y1 : Nat} {p1 : Int32} {p2 : Int32} (hpre : aPre (dC, dI) a0 qb cq bq ow rx cr a1 a4 a8 a11 s.heap.size (hT s.heap) s) (hF : ∃ dep : Nat → Nat, rF a1 a8 dep ∧ ∀ o : Nat, o < 16 → dep o < 17) (hj : j < 16) (hb : bq j = some y0) (hk : (a1 j).toInt = 5) (hj8 : j8 < 16) (hb8 : bq j8 = some y1) (hop : p1.toInt = 19 ∨ p1.toInt = 20) : uSel l yX7_map wqX7_map ({ frames := 9, cells := 130, slots := 53000, locals := 400 }) 130 53000 (aA ow s.heap.size) (va_Ql (fun (_ : Int64) (_ : (Nat → Nat) × (Nat → Nat)) => True) (fun (u : (Nat → Nat) × (Nat → Nat)) (t : State) => aPost (dC, dI) a0 qb cq bq ow rx cr a1 a4 a8 a11 s.heap.size (hT s.heap) u t) (aA ow s.heap.size)) (vx_X (fun (_ : (Nat → Nat) × (Nat → Nat)) => True) (fun (E : String) (u : (Nat → Nat) × (Nat → Nat)) (t : State) => (E = "java/util/NoSuchElementException" ∨ E = "java/lang/ClassCastException" ∨ E = "java/lang/IllegalArgumentException" ∨ E = "java/lang/IllegalStateException" ∨ E = "java/lang/UnsupportedOperationException") ∧ aPost (dC, dI) a0 qb cq bq ow rx cr a1 a4 a8 a11 s.heap.size (hT s.heap) u t) (aA ow s.heap.size)) [.ref a0, .int (nI j), .int p1, .int p2, .int (nI j8)].toArray s := by
  obtain ⟨-, -, hI, hN, hZ⟩ := hpre
  obtain ⟨dep, hFd, hdp⟩ := hF
  obtain ⟨h1, h2, h3, h4, h5, h6, h7⟩ := id hI
  obtain ⟨p9, yk9, kdc, nx, ps, se, -, -, -, hPc, e1c⟩ := bd_C (h6 j y0 hj hb) hk
  refine ⟨_, _, _, _, _, _, _, c_X7_map_twonotC l hlt dC dI s.heap.size a0 qb cq bq j y0 ([.int kdc, .int (nI p9), .ref yk9, .int nx, .int ps, .int se]) j8 y1 p1 p2 hj hb hj8 hb8 hop, ⟨rfl, rfl, va_P.app h1 (hPc), h2, hN, hZ.narrow (fun q h9 => Or.inr h9)⟩, ⟨Nat.le_of_ble_eq_true rfl, Nat.le_of_ble_eq_true rfl, Nat.le_of_ble_eq_true rfl, Nat.le_of_ble_eq_true rfl⟩, Nat.le_of_ble_eq_true rfl, Nat.le_of_ble_eq_true rfl, ?_, ?_, fun q h9 => Or.inr h9⟩
  · intro oc t hq _ _ _
    obtain ⟨⟨r, u, e, hp, -⟩, -⟩ := hq
    exact hp.elim
  · intro E t hx hW hz hn
    obtain ⟨u, -, hE, hFr⟩ := hx
    exact ⟨(ow, cr), trivial, ⟨Or.inr (Or.inl (hE)), aPost_same hI hW (F_ro hFr rfl) hz hn (Nat.le_of_ble_eq_true rfl) (Nat.le_of_ble_eq_true rfl)⟩, F_mono hFr (fun q h9 => Or.inr h9)⟩
set_option maxRecDepth 20000 in
set_option maxHeartbeats 1000000 in
theorem um_twonotCH (l : Launch) (hlt : l.stackTraces = false) (dC : Nat → ClassId) (dI : Nat → Nat → Nat) {a0 qb : Nat} {cq : ClassId} {bq : Nat → Option Nat} {ow rx cr : Nat → Nat} {a1 a4 a8 a11 : Nat → Int32} {s : State} {j : Nat} {y0 : Nat} {j8 : Nat} {y1 : Nat} {p1 : Int32} {p2 : Int32} (hpre : aPre (dC, dI) a0 qb cq bq ow rx cr a1 a4 a8 a11 s.heap.size (hT s.heap) s) (hF : ∃ dep : Nat → Nat, rF a1 a8 dep ∧ ∀ o : Nat, o < 16 → dep o < 17) (hj : j < 16) (hb : bq j = some y0) (hk : (a1 j).toInt = 1) (hj8 : j8 < 16) (hb8 : bq j8 = some y1) (hk8 : (a1 j8).toInt = 5) (hop : p1.toInt = 19 ∨ p1.toInt = 20) : uSel l yX7_map wqX7_map ({ frames := 9, cells := 130, slots := 53000, locals := 400 }) 130 53000 (aA ow s.heap.size) (va_Ql (fun (_ : Int64) (_ : (Nat → Nat) × (Nat → Nat)) => True) (fun (u : (Nat → Nat) × (Nat → Nat)) (t : State) => aPost (dC, dI) a0 qb cq bq ow rx cr a1 a4 a8 a11 s.heap.size (hT s.heap) u t) (aA ow s.heap.size)) (vx_X (fun (_ : (Nat → Nat) × (Nat → Nat)) => True) (fun (E : String) (u : (Nat → Nat) × (Nat → Nat)) (t : State) => (E = "java/util/NoSuchElementException" ∨ E = "java/lang/ClassCastException" ∨ E = "java/lang/IllegalArgumentException" ∨ E = "java/lang/IllegalStateException" ∨ E = "java/lang/UnsupportedOperationException") ∧ aPost (dC, dI) a0 qb cq bq ow rx cr a1 a4 a8 a11 s.heap.size (hT s.heap) u t) (aA ow s.heap.size)) [.ref a0, .int (nI j), .int p1, .int p2, .int (nI j8)].toArray s := by
  obtain ⟨-, -, hI, hN, hZ⟩ := hpre
  obtain ⟨dep, hFd, hdp⟩ := hF
  obtain ⟨h1, h2, h3, h4, h5, h6, h7⟩ := id hI
  obtain ⟨cap, ru, tb, b0, cb, bf, x0, k0, w0, ck, cw, L, f, g, nz, ch, hP, hK, hO, hc, e1, e2, e3, e4, e5⟩ := bd_H (h6 j y0 hj hb) hk
  obtain ⟨p98, yk98, kdc8, nx8, ps8, se8, -, -, -, hPc8, e1c8⟩ := bd_C (h6 j8 y1 hj8 hb8) hk8
  refine ⟨_, _, _, _, _, _, _, c_X7_map_twonotCH l hlt dC dI s.heap.size a0 qb cq bq j y0 ([.ref x0, .int 0, .int (-1), .int (nI cap), .int ru, .int (nI tb), .ref b0]) j8 y1 ([.int kdc8, .int (nI p98), .ref yk98, .int nx8, .int ps8, .int se8]) p1 p2 hj hb hj8 hb8 hop, ⟨rfl, rfl, va_P.app h1 (va_P.app (hP.sub (ws' := [(y0, .inr (3, [.ref x0, .int 0, .int (-1), .int (nI cap), .int ru, .int (nI tb), .ref b0]))]) [0] rfl) (hPc8)), h2, hN, hZ.narrow (fun q h9 => Or.inr h9)⟩, ⟨Nat.le_of_ble_eq_true rfl, Nat.le_of_ble_eq_true rfl, Nat.le_of_ble_eq_true rfl, Nat.le_of_ble_eq_true rfl⟩, Nat.le_of_ble_eq_true rfl, Nat.le_of_ble_eq_true rfl, ?_, ?_, fun q h9 => Or.inr h9⟩
  · intro oc t hq _ _ _
    obtain ⟨⟨r, u, e, hp, -⟩, -⟩ := hq
    exact hp.elim
  · intro E t hx hW hz hn
    obtain ⟨u, -, hE, hFr⟩ := hx
    exact ⟨(ow, cr), trivial, ⟨Or.inr (Or.inl (hE)), aPost_same hI hW (F_ro hFr rfl) hz hn (Nat.le_of_ble_eq_true rfl) (Nat.le_of_ble_eq_true rfl)⟩, F_mono hFr (fun q h9 => Or.inr h9)⟩
set_option maxRecDepth 20000 in
set_option maxHeartbeats 1000000 in
theorem um_selfH (l : Launch) (hlt : l.stackTraces = false) (dC : Nat → ClassId) (dI : Nat → Nat → Nat) {a0 qb : Nat} {cq : ClassId} {bq : Nat → Option Nat} {ow rx cr : Nat → Nat} {a1 a4 a8 a11 : Nat → Int32} {s : State} {j : Nat} {y0 : Nat} {p2 : Int32} (hpre : aPre (dC, dI) a0 qb cq bq ow rx cr a1 a4 a8 a11 s.heap.size (hT s.heap) s) (hF : ∃ dep : Nat → Nat, rF a1 a8 dep ∧ ∀ o : Nat, o < 16 → dep o < 17) (hj : j < 16) (hb : bq j = some y0) (hk : (a1 j).toInt = 1) : uSel l yX7_map wqX7_map ({ frames := 9, cells := 130, slots := 53000, locals := 400 }) 130 53000 (aA ow s.heap.size) (va_Ql (fun (_ : Int64) (_ : (Nat → Nat) × (Nat → Nat)) => True) (fun (u : (Nat → Nat) × (Nat → Nat)) (t : State) => aPost (dC, dI) a0 qb cq bq ow rx cr a1 a4 a8 a11 s.heap.size (hT s.heap) u t) (aA ow s.heap.size)) (vx_X (fun (_ : (Nat → Nat) × (Nat → Nat)) => True) (fun (E : String) (u : (Nat → Nat) × (Nat → Nat)) (t : State) => (E = "java/util/NoSuchElementException" ∨ E = "java/lang/ClassCastException" ∨ E = "java/lang/IllegalArgumentException" ∨ E = "java/lang/IllegalStateException" ∨ E = "java/lang/UnsupportedOperationException") ∧ aPost (dC, dI) a0 qb cq bq ow rx cr a1 a4 a8 a11 s.heap.size (hT s.heap) u t) (aA ow s.heap.size)) [.ref a0, .int (nI j), .int 20, .int p2, .int (nI j)].toArray s := by
  obtain ⟨-, -, hI, hN, hZ⟩ := hpre
  obtain ⟨dep, hFd, hdp⟩ := hF
  obtain ⟨h1, h2, h3, h4, h5, h6, h7⟩ := id hI
  obtain ⟨cap, ru, tb, b0, cb, bf, x0, k0, w0, ck, cw, L, f, g, nz, ch, hP, hK, hO, hc, e1, e2, e3, e4, e5⟩ := bd_H (h6 j y0 hj hb) hk
  refine ⟨_, _, _, _, _, _, _, c_X7_map20_self_H l hlt dC dI s.heap.size a0 qb cq bq j y0 (.ref x0) (.int (-1)) (.int (nI cap)) (.int ru) (.int (nI tb)) (.ref b0) (0) p2 hj hb, ⟨rfl, rfl, va_P.app h1 (hP.sub (ws' := [(y0, .inr (3, [.ref x0, .int 0, .int (-1), .int (nI cap), .int ru, .int (nI tb), .ref b0]))]) [0] rfl), h2, hN, hZ.narrow (fun q h9 => Or.inr h9)⟩, ⟨Nat.le_of_ble_eq_true rfl, Nat.le_of_ble_eq_true rfl, Nat.le_of_ble_eq_true rfl, Nat.le_of_ble_eq_true rfl⟩, Nat.le_of_ble_eq_true rfl, Nat.le_of_ble_eq_true rfl, ?_, ?_, fun q h9 => Or.inr h9⟩
  · intro oc t hq _ _ _
    obtain ⟨⟨r, u, e, hp, -⟩, -⟩ := hq
    exact hp.elim
  · intro E t hx hW hz hn
    obtain ⟨u, -, hE, hFr⟩ := hx
    exact ⟨(ow, cr), trivial, ⟨(hE).elim (fun h9 => Or.inr (Or.inr (Or.inl (h9)))) (fun h8 => Or.inr (Or.inr (Or.inr (Or.inr (h8))))), aPost_same hI hW (F_ro hFr rfl) hz hn (Nat.le_of_ble_eq_true rfl) (Nat.le_of_ble_eq_true rfl)⟩, F_mono hFr (fun q h9 => Or.inr h9)⟩
set_option maxRecDepth 20000 in
set_option maxHeartbeats 1000000 in
theorem um_twonotCL (l : Launch) (hlt : l.stackTraces = false) (dC : Nat → ClassId) (dI : Nat → Nat → Nat) {a0 qb : Nat} {cq : ClassId} {bq : Nat → Option Nat} {ow rx cr : Nat → Nat} {a1 a4 a8 a11 : Nat → Int32} {s : State} {j : Nat} {y0 : Nat} {j8 : Nat} {y1 : Nat} {p1 : Int32} {p2 : Int32} (hpre : aPre (dC, dI) a0 qb cq bq ow rx cr a1 a4 a8 a11 s.heap.size (hT s.heap) s) (hF : ∃ dep : Nat → Nat, rF a1 a8 dep ∧ ∀ o : Nat, o < 16 → dep o < 17) (hj : j < 16) (hb : bq j = some y0) (hk : (a1 j).toInt = 2) (hj8 : j8 < 16) (hb8 : bq j8 = some y1) (hk8 : (a1 j8).toInt = 5) (hop : p1.toInt = 19 ∨ p1.toInt = 20) : uSel l yX7_map wqX7_map ({ frames := 9, cells := 130, slots := 53000, locals := 400 }) 130 53000 (aA ow s.heap.size) (va_Ql (fun (_ : Int64) (_ : (Nat → Nat) × (Nat → Nat)) => True) (fun (u : (Nat → Nat) × (Nat → Nat)) (t : State) => aPost (dC, dI) a0 qb cq bq ow rx cr a1 a4 a8 a11 s.heap.size (hT s.heap) u t) (aA ow s.heap.size)) (vx_X (fun (_ : (Nat → Nat) × (Nat → Nat)) => True) (fun (E : String) (u : (Nat → Nat) × (Nat → Nat)) (t : State) => (E = "java/util/NoSuchElementException" ∨ E = "java/lang/ClassCastException" ∨ E = "java/lang/IllegalArgumentException" ∨ E = "java/lang/IllegalStateException" ∨ E = "java/lang/UnsupportedOperationException") ∧ aPost (dC, dI) a0 qb cq bq ow rx cr a1 a4 a8 a11 s.heap.size (hT s.heap) u t) (aA ow s.heap.size)) [.ref a0, .int (nI j), .int p1, .int p2, .int (nI j8)].toArray s := by
  obtain ⟨-, -, hI, hN, hZ⟩ := hpre
  obtain ⟨dep, hFd, hdp⟩ := hF
  obtain ⟨h1, h2, h3, h4, h5, h6, h7⟩ := id hI
  obtain ⟨lim, bu, x0, k0, w0, ck, cw, L, f, g, nz, ch, hP, hK, hO, hl, e1, e2, e3, e4⟩ := bd_L (h6 j y0 hj hb) hk
  obtain ⟨p98, yk98, kdc8, nx8, ps8, se8, -, -, -, hPc8, e1c8⟩ := bd_C (h6 j8 y1 hj8 hb8) hk8
  refine ⟨_, _, _, _, _, _, _, c_X7_map_twonotCL l hlt dC dI s.heap.size a0 qb cq bq j y0 ([.ref x0, .int 1, .int (-1), .int (nI lim), .int bu]) j8 y1 ([.int kdc8, .int (nI p98), .ref yk98, .int nx8, .int ps8, .int se8]) p1 p2 hj hb hj8 hb8 hop, ⟨rfl, rfl, va_P.app h1 (va_P.app (hP.sub (ws' := [(y0, .inr (4, [.ref x0, .int 1, .int (-1), .int (nI lim), .int bu]))]) [0] rfl) (hPc8)), h2, hN, hZ.narrow (fun q h9 => Or.inr h9)⟩, ⟨Nat.le_of_ble_eq_true rfl, Nat.le_of_ble_eq_true rfl, Nat.le_of_ble_eq_true rfl, Nat.le_of_ble_eq_true rfl⟩, Nat.le_of_ble_eq_true rfl, Nat.le_of_ble_eq_true rfl, ?_, ?_, fun q h9 => Or.inr h9⟩
  · intro oc t hq _ _ _
    obtain ⟨⟨r, u, e, hp, -⟩, -⟩ := hq
    exact hp.elim
  · intro E t hx hW hz hn
    obtain ⟨u, -, hE, hFr⟩ := hx
    exact ⟨(ow, cr), trivial, ⟨Or.inr (Or.inl (hE)), aPost_same hI hW (F_ro hFr rfl) hz hn (Nat.le_of_ble_eq_true rfl) (Nat.le_of_ble_eq_true rfl)⟩, F_mono hFr (fun q h9 => Or.inr h9)⟩
set_option maxRecDepth 20000 in
set_option maxHeartbeats 1000000 in
theorem um_selfL (l : Launch) (hlt : l.stackTraces = false) (dC : Nat → ClassId) (dI : Nat → Nat → Nat) {a0 qb : Nat} {cq : ClassId} {bq : Nat → Option Nat} {ow rx cr : Nat → Nat} {a1 a4 a8 a11 : Nat → Int32} {s : State} {j : Nat} {y0 : Nat} {p2 : Int32} (hpre : aPre (dC, dI) a0 qb cq bq ow rx cr a1 a4 a8 a11 s.heap.size (hT s.heap) s) (hF : ∃ dep : Nat → Nat, rF a1 a8 dep ∧ ∀ o : Nat, o < 16 → dep o < 17) (hj : j < 16) (hb : bq j = some y0) (hk : (a1 j).toInt = 2) : uSel l yX7_map wqX7_map ({ frames := 9, cells := 130, slots := 53000, locals := 400 }) 130 53000 (aA ow s.heap.size) (va_Ql (fun (_ : Int64) (_ : (Nat → Nat) × (Nat → Nat)) => True) (fun (u : (Nat → Nat) × (Nat → Nat)) (t : State) => aPost (dC, dI) a0 qb cq bq ow rx cr a1 a4 a8 a11 s.heap.size (hT s.heap) u t) (aA ow s.heap.size)) (vx_X (fun (_ : (Nat → Nat) × (Nat → Nat)) => True) (fun (E : String) (u : (Nat → Nat) × (Nat → Nat)) (t : State) => (E = "java/util/NoSuchElementException" ∨ E = "java/lang/ClassCastException" ∨ E = "java/lang/IllegalArgumentException" ∨ E = "java/lang/IllegalStateException" ∨ E = "java/lang/UnsupportedOperationException") ∧ aPost (dC, dI) a0 qb cq bq ow rx cr a1 a4 a8 a11 s.heap.size (hT s.heap) u t) (aA ow s.heap.size)) [.ref a0, .int (nI j), .int 20, .int p2, .int (nI j)].toArray s := by
  obtain ⟨-, -, hI, hN, hZ⟩ := hpre
  obtain ⟨dep, hFd, hdp⟩ := hF
  obtain ⟨h1, h2, h3, h4, h5, h6, h7⟩ := id hI
  obtain ⟨lim, bu, x0, k0, w0, ck, cw, L, f, g, nz, ch, hP, hK, hO, hl, e1, e2, e3, e4⟩ := bd_L (h6 j y0 hj hb) hk
  refine ⟨_, _, _, _, _, _, _, c_X7_map20_self_L l hlt dC dI s.heap.size a0 qb cq bq j y0 (.ref x0) (.int (-1)) (.int (nI lim)) (.int bu) (1) p2 hj hb, ⟨rfl, rfl, va_P.app h1 (hP.sub (ws' := [(y0, .inr (4, [.ref x0, .int 1, .int (-1), .int (nI lim), .int bu]))]) [0] rfl), h2, hN, hZ.narrow (fun q h9 => Or.inr h9)⟩, ⟨Nat.le_of_ble_eq_true rfl, Nat.le_of_ble_eq_true rfl, Nat.le_of_ble_eq_true rfl, Nat.le_of_ble_eq_true rfl⟩, Nat.le_of_ble_eq_true rfl, Nat.le_of_ble_eq_true rfl, ?_, ?_, fun q h9 => Or.inr h9⟩
  · intro oc t hq _ _ _
    obtain ⟨⟨r, u, e, hp, -⟩, -⟩ := hq
    exact hp.elim
  · intro E t hx hW hz hn
    obtain ⟨u, -, hE, hFr⟩ := hx
    exact ⟨(ow, cr), trivial, ⟨(hE).elim (fun h9 => Or.inr (Or.inr (Or.inl (h9)))) (fun h8 => Or.inr (Or.inr (Or.inr (Or.inr (h8))))), aPost_same hI hW (F_ro hFr rfl) hz hn (Nat.le_of_ble_eq_true rfl) (Nat.le_of_ble_eq_true rfl)⟩, F_mono hFr (fun q h9 => Or.inr h9)⟩
set_option maxRecDepth 20000 in
set_option maxHeartbeats 1000000 in
theorem um_twonotCS (l : Launch) (hlt : l.stackTraces = false) (dC : Nat → ClassId) (dI : Nat → Nat → Nat) {a0 qb : Nat} {cq : ClassId} {bq : Nat → Option Nat} {ow rx cr : Nat → Nat} {a1 a4 a8 a11 : Nat → Int32} {s : State} {j : Nat} {y0 : Nat} {j8 : Nat} {y1 : Nat} {p1 : Int32} {p2 : Int32} (hpre : aPre (dC, dI) a0 qb cq bq ow rx cr a1 a4 a8 a11 s.heap.size (hT s.heap) s) (hF : ∃ dep : Nat → Nat, rF a1 a8 dep ∧ ∀ o : Nat, o < 16 → dep o < 17) (hj : j < 16) (hb : bq j = some y0) (hk : (a1 j).toInt = 3 ∨ (a1 j).toInt = 4) (hj8 : j8 < 16) (hb8 : bq j8 = some y1) (hk8 : (a1 j8).toInt = 5) (hop : p1.toInt = 19 ∨ p1.toInt = 20) : uSel l yX7_map wqX7_map ({ frames := 9, cells := 130, slots := 53000, locals := 400 }) 130 53000 (aA ow s.heap.size) (va_Ql (fun (_ : Int64) (_ : (Nat → Nat) × (Nat → Nat)) => True) (fun (u : (Nat → Nat) × (Nat → Nat)) (t : State) => aPost (dC, dI) a0 qb cq bq ow rx cr a1 a4 a8 a11 s.heap.size (hT s.heap) u t) (aA ow s.heap.size)) (vx_X (fun (_ : (Nat → Nat) × (Nat → Nat)) => True) (fun (E : String) (u : (Nat → Nat) × (Nat → Nat)) (t : State) => (E = "java/util/NoSuchElementException" ∨ E = "java/lang/ClassCastException" ∨ E = "java/lang/IllegalArgumentException" ∨ E = "java/lang/IllegalStateException" ∨ E = "java/lang/UnsupportedOperationException") ∧ aPost (dC, dI) a0 qb cq bq ow rx cr a1 a4 a8 a11 s.heap.size (hT s.heap) u t) (aA ow s.heap.size)) [.ref a0, .int (nI j), .int p1, .int p2, .int (nI j8)].toArray s := by
  obtain ⟨-, -, hI, hN, hZ⟩ := hpre
  obtain ⟨dep, hFd, hdp⟩ := hF
  obtain ⟨h1, h2, h3, h4, h5, h6, h7⟩ := id hI
  obtain ⟨kd, wh, tu, lo, hi, hPs, e1, ht⟩ := bd_S (h6 j y0 hj hb) hk
  have hr := rt_3 hFd hj (hdp j hj) hk
  obtain ⟨x0, ex⟩ : ∃ z, z = rx (rtN a1 a8 17 j) := ⟨_, rfl⟩
  obtain ⟨k0, w0, ck, cw, L, f, g, nz, ch, hPr, hK, hO, e2, e3, e4⟩ := h7 _ hr.1 hr.2
  rw [← ex] at hPs hPr e2
  obtain ⟨p98, yk98, kdc8, nx8, ps8, se8, -, -, -, hPc8, e1c8⟩ := bd_C (h6 j8 y1 hj8 hb8) hk8
  refine ⟨_, _, _, _, _, _, _, c_X7_map_twonotCS l hlt dC dI s.heap.size a0 qb cq bq j y0 ([.ref x0, .int kd, .int wh, .int (a4 (rtN a1 a8 17 j)), .int tu, .long lo, .long hi]) j8 y1 ([.int kdc8, .int (nI p98), .ref yk98, .int nx8, .int ps8, .int se8]) p1 p2 hj hb hj8 hb8 hop, ⟨rfl, rfl, va_P.app h1 (va_P.app (hPs) (hPc8)), h2, hN, hZ.narrow (fun q h9 => Or.inr h9)⟩, ⟨Nat.le_of_ble_eq_true rfl, Nat.le_of_ble_eq_true rfl, Nat.le_of_ble_eq_true rfl, Nat.le_of_ble_eq_true rfl⟩, Nat.le_of_ble_eq_true rfl, Nat.le_of_ble_eq_true rfl, ?_, ?_, fun q h9 => Or.inr h9⟩
  · intro oc t hq _ _ _
    obtain ⟨⟨r, u, e, hp, -⟩, -⟩ := hq
    exact hp.elim
  · intro E t hx hW hz hn
    obtain ⟨u, -, hE, hFr⟩ := hx
    exact ⟨(ow, cr), trivial, ⟨Or.inr (Or.inl (hE)), aPost_same hI hW (F_ro hFr rfl) hz hn (Nat.le_of_ble_eq_true rfl) (Nat.le_of_ble_eq_true rfl)⟩, F_mono hFr (fun q h9 => Or.inr h9)⟩
set_option maxRecDepth 20000 in
set_option maxHeartbeats 1000000 in
theorem um_selfS (l : Launch) (hlt : l.stackTraces = false) (dC : Nat → ClassId) (dI : Nat → Nat → Nat) {a0 qb : Nat} {cq : ClassId} {bq : Nat → Option Nat} {ow rx cr : Nat → Nat} {a1 a4 a8 a11 : Nat → Int32} {s : State} {j : Nat} {y0 : Nat} {p2 : Int32} (hpre : aPre (dC, dI) a0 qb cq bq ow rx cr a1 a4 a8 a11 s.heap.size (hT s.heap) s) (hF : ∃ dep : Nat → Nat, rF a1 a8 dep ∧ ∀ o : Nat, o < 16 → dep o < 17) (hj : j < 16) (hb : bq j = some y0) (hk : (a1 j).toInt = 3 ∨ (a1 j).toInt = 4) : uSel l yX7_map wqX7_map ({ frames := 9, cells := 130, slots := 53000, locals := 400 }) 130 53000 (aA ow s.heap.size) (va_Ql (fun (_ : Int64) (_ : (Nat → Nat) × (Nat → Nat)) => True) (fun (u : (Nat → Nat) × (Nat → Nat)) (t : State) => aPost (dC, dI) a0 qb cq bq ow rx cr a1 a4 a8 a11 s.heap.size (hT s.heap) u t) (aA ow s.heap.size)) (vx_X (fun (_ : (Nat → Nat) × (Nat → Nat)) => True) (fun (E : String) (u : (Nat → Nat) × (Nat → Nat)) (t : State) => (E = "java/util/NoSuchElementException" ∨ E = "java/lang/ClassCastException" ∨ E = "java/lang/IllegalArgumentException" ∨ E = "java/lang/IllegalStateException" ∨ E = "java/lang/UnsupportedOperationException") ∧ aPost (dC, dI) a0 qb cq bq ow rx cr a1 a4 a8 a11 s.heap.size (hT s.heap) u t) (aA ow s.heap.size)) [.ref a0, .int (nI j), .int 20, .int p2, .int (nI j)].toArray s := by
  obtain ⟨-, -, hI, hN, hZ⟩ := hpre
  obtain ⟨dep, hFd, hdp⟩ := hF
  obtain ⟨h1, h2, h3, h4, h5, h6, h7⟩ := id hI
  obtain ⟨kd, wh, tu, lo, hi, hPs, e1, ht⟩ := bd_S (h6 j y0 hj hb) hk
  have hr := rt_3 hFd hj (hdp j hj) hk
  obtain ⟨x0, ex⟩ : ∃ z, z = rx (rtN a1 a8 17 j) := ⟨_, rfl⟩
  obtain ⟨k0, w0, ck, cw, L, f, g, nz, ch, hPr, hK, hO, e2, e3, e4⟩ := h7 _ hr.1 hr.2
  rw [← ex] at hPs hPr e2
  refine ⟨_, _, _, _, _, _, _, c_X7_map20_self_S l hlt dC dI s.heap.size a0 qb cq bq j y0 (.ref x0) (.int wh) (.int (a4 (rtN a1 a8 17 j))) (.int tu) (.long lo) (.long hi) (kd) p2 hj hb, ⟨rfl, rfl, va_P.app h1 (hPs), h2, hN, hZ.narrow (fun q h9 => Or.inr h9)⟩, ⟨Nat.le_of_ble_eq_true rfl, Nat.le_of_ble_eq_true rfl, Nat.le_of_ble_eq_true rfl, Nat.le_of_ble_eq_true rfl⟩, Nat.le_of_ble_eq_true rfl, Nat.le_of_ble_eq_true rfl, ?_, ?_, fun q h9 => Or.inr h9⟩
  · intro oc t hq _ _ _
    obtain ⟨⟨r, u, e, hp, -⟩, -⟩ := hq
    exact hp.elim
  · intro E t hx hW hz hn
    obtain ⟨u, -, hE, hFr⟩ := hx
    exact ⟨(ow, cr), trivial, ⟨(hE).elim (fun h9 => Or.inr (Or.inr (Or.inl (h9)))) (fun h8 => Or.inr (Or.inr (Or.inr (Or.inr (h8))))), aPost_same hI hW (F_ro hFr rfl) hz hn (Nat.le_of_ble_eq_true rfl) (Nat.le_of_ble_eq_true rfl)⟩, F_mono hFr (fun q h9 => Or.inr h9)⟩
set_option maxRecDepth 20000 in
set_option maxHeartbeats 1000000 in
theorem uv_none (l : Launch) (hlt : l.stackTraces = false) (dC : Nat → ClassId) (dI : Nat → Nat → Nat) {a0 qb : Nat} {cq : ClassId} {bq : Nat → Option Nat} {ow rx cr : Nat → Nat} {a1 a4 a8 a11 : Nat → Int32} {s : State} {p0 : Int32} {p1 : Int32} {p2 : Int32} (hpre : aPre (dC, dI) a0 qb cq bq ow rx cr a1 a4 a8 a11 s.heap.size (hT s.heap) s) (hF : ∃ dep : Nat → Nat, rF a1 a8 dep ∧ ∀ o : Nat, o < 16 → dep o < 17) (hno : ∀ j : Nat, j < 16 → p0 = nI j → bq j = none) : uSel l yX7_move wqX7_move ({ frames := 9, cells := 2, slots := 12, locals := 330 }) 2 12 (aA ow s.heap.size) (va_Ql (fun (_ : Int64) (_ : (Nat → Nat) × (Nat → Nat)) => True) (fun (u : (Nat → Nat) × (Nat → Nat)) (t : State) => aPost (dC, dI) a0 qb cq bq ow rx cr a1 a4 a8 a11 s.heap.size (hT s.heap) u t) (aA ow s.heap.size)) (vx_X (fun (_ : (Nat → Nat) × (Nat → Nat)) => True) (fun (E : String) (u : (Nat → Nat) × (Nat → Nat)) (t : State) => (E = "java/util/NoSuchElementException" ∨ E = "java/lang/ClassCastException" ∨ E = "java/lang/IllegalArgumentException" ∨ E = "java/lang/IllegalStateException") ∧ aPost (dC, dI) a0 qb cq bq ow rx cr a1 a4 a8 a11 s.heap.size (hT s.heap) u t) (aA ow s.heap.size)) [.ref a0, .int p0, .int p1, .int p2].toArray s := by
  obtain ⟨-, -, hI, hN, hZ⟩ := hpre
  obtain ⟨dep, hFd, hdp⟩ := hF
  obtain ⟨h1, h2, h3, h4, h5, h6, h7⟩ := id hI
  refine ⟨_, _, _, _, _, _, _, c_X7_move_none l hlt dC dI s.heap.size a0 qb cq bq p0 p1 p2 hno, ⟨rfl, rfl, h1, h2, hN, hZ.narrow (fun q h9 => Or.inr h9)⟩, ⟨Nat.le_of_ble_eq_true rfl, Nat.le_of_ble_eq_true rfl, Nat.le_of_ble_eq_true rfl, Nat.le_of_ble_eq_true rfl⟩, Nat.le_of_ble_eq_true rfl, Nat.le_of_ble_eq_true rfl, ?_, ?_, fun q h9 => Or.inr h9⟩
  · intro oc t hq _ _ _
    obtain ⟨⟨r, u, e, hp, -⟩, -⟩ := hq
    exact hp.elim
  · intro E t hx hW hz hn
    obtain ⟨u, -, hE, hFr⟩ := hx
    exact ⟨(ow, cr), trivial, ⟨Or.inl (hE), aPost_same hI hW (F_ro hFr rfl) hz hn (Nat.le_of_ble_eq_true rfl) (Nat.le_of_ble_eq_true rfl)⟩, F_mono hFr (fun q h9 => Or.inr h9)⟩
set_option maxRecDepth 20000 in
set_option maxHeartbeats 1000000 in
theorem ui_none (l : Launch) (hlt : l.stackTraces = false) (dC : Nat → ClassId) (dI : Nat → Nat → Nat) {a0 qb : Nat} {cq : ClassId} {bq : Nat → Option Nat} {ow rx cr : Nat → Nat} {a1 a4 a8 a11 : Nat → Int32} {s : State} {p0 : Int32} {p1 : Int32} {p2 : Int32} (hpre : aPre (dC, dI) a0 qb cq bq ow rx cr a1 a4 a8 a11 s.heap.size (hT s.heap) s) (hF : ∃ dep : Nat → Nat, rF a1 a8 dep ∧ ∀ o : Nat, o < 16 → dep o < 17) (hno : ∀ j : Nat, j < 16 → p0 = nI j → bq j = none) : uSel l yX7_item wqX7_item ({ frames := 7, cells := 2, slots := 12, locals := 240 }) 2 12 (aA ow s.heap.size) (va_Ql (fun (_ : Int64) (_ : (Nat → Nat) × (Nat → Nat)) => True) (fun (u : (Nat → Nat) × (Nat → Nat)) (t : State) => aPost (dC, dI) a0 qb cq bq ow rx cr a1 a4 a8 a11 s.heap.size (hT s.heap) u t) (aA ow s.heap.size)) (vx_X (fun (_ : (Nat → Nat) × (Nat → Nat)) => True) (fun (E : String) (u : (Nat → Nat) × (Nat → Nat)) (t : State) => (E = "java/util/NoSuchElementException" ∨ E = "java/lang/ClassCastException" ∨ E = "java/lang/IllegalArgumentException" ∨ E = "java/lang/IndexOutOfBoundsException") ∧ aPost (dC, dI) a0 qb cq bq ow rx cr a1 a4 a8 a11 s.heap.size (hT s.heap) u t) (aA ow s.heap.size)) [.ref a0, .int p0, .int p1, .int p2].toArray s := by
  obtain ⟨-, -, hI, hN, hZ⟩ := hpre
  obtain ⟨dep, hFd, hdp⟩ := hF
  obtain ⟨h1, h2, h3, h4, h5, h6, h7⟩ := id hI
  refine ⟨_, _, _, _, _, _, _, c_X7_item_none l hlt dC dI s.heap.size a0 qb cq bq p0 p1 p2 hno, ⟨rfl, rfl, h1, h2, hN, hZ.narrow (fun q h9 => Or.inr h9)⟩, ⟨Nat.le_of_ble_eq_true rfl, Nat.le_of_ble_eq_true rfl, Nat.le_of_ble_eq_true rfl, Nat.le_of_ble_eq_true rfl⟩, Nat.le_of_ble_eq_true rfl, Nat.le_of_ble_eq_true rfl, ?_, ?_, fun q h9 => Or.inr h9⟩
  · intro oc t hq _ _ _
    obtain ⟨⟨r, u, e, hp, -⟩, -⟩ := hq
    exact hp.elim
  · intro E t hx hW hz hn
    obtain ⟨u, -, hE, hFr⟩ := hx
    exact ⟨(ow, cr), trivial, ⟨Or.inl (hE), aPost_same hI hW (F_ro hFr rfl) hz hn (Nat.le_of_ble_eq_true rfl) (Nat.le_of_ble_eq_true rfl)⟩, F_mono hFr (fun q h9 => Or.inr h9)⟩
set_option maxRecDepth 20000 in
set_option maxHeartbeats 1000000 in
theorem uv_notH (l : Launch) (hlt : l.stackTraces = false) (dC : Nat → ClassId) (dI : Nat → Nat → Nat) {a0 qb : Nat} {cq : ClassId} {bq : Nat → Option Nat} {ow rx cr : Nat → Nat} {a1 a4 a8 a11 : Nat → Int32} {s : State} {j : Nat} {y0 : Nat} {p1 : Int32} {p2 : Int32} (hpre : aPre (dC, dI) a0 qb cq bq ow rx cr a1 a4 a8 a11 s.heap.size (hT s.heap) s) (hF : ∃ dep : Nat → Nat, rF a1 a8 dep ∧ ∀ o : Nat, o < 16 → dep o < 17) (hj : j < 16) (hb : bq j = some y0) (hk : (a1 j).toInt = 1) : uSel l yX7_move wqX7_move ({ frames := 9, cells := 2, slots := 12, locals := 330 }) 2 12 (aA ow s.heap.size) (va_Ql (fun (_ : Int64) (_ : (Nat → Nat) × (Nat → Nat)) => True) (fun (u : (Nat → Nat) × (Nat → Nat)) (t : State) => aPost (dC, dI) a0 qb cq bq ow rx cr a1 a4 a8 a11 s.heap.size (hT s.heap) u t) (aA ow s.heap.size)) (vx_X (fun (_ : (Nat → Nat) × (Nat → Nat)) => True) (fun (E : String) (u : (Nat → Nat) × (Nat → Nat)) (t : State) => (E = "java/util/NoSuchElementException" ∨ E = "java/lang/ClassCastException" ∨ E = "java/lang/IllegalArgumentException" ∨ E = "java/lang/IllegalStateException") ∧ aPost (dC, dI) a0 qb cq bq ow rx cr a1 a4 a8 a11 s.heap.size (hT s.heap) u t) (aA ow s.heap.size)) [.ref a0, .int (nI j), .int p1, .int p2].toArray s := by
  obtain ⟨-, -, hI, hN, hZ⟩ := hpre
  obtain ⟨dep, hFd, hdp⟩ := hF
  obtain ⟨h1, h2, h3, h4, h5, h6, h7⟩ := id hI
  obtain ⟨cap, ru, tb, b0, cb, bf, x0, k0, w0, ck, cw, L, f, g, nz, ch, hP, hK, hO, hc, e1, e2, e3, e4, e5⟩ := bd_H (h6 j y0 hj hb) hk
  refine ⟨_, _, _, _, _, _, _, c_X7_move_notH l hlt dC dI s.heap.size a0 qb cq bq j y0 ([.ref x0, .int 0, .int (-1), .int (nI cap), .int ru, .int (nI tb), .ref b0]) p1 p2 hj hb, ⟨rfl, rfl, va_P.app h1 (hP.sub (ws' := [(y0, .inr (3, [.ref x0, .int 0, .int (-1), .int (nI cap), .int ru, .int (nI tb), .ref b0]))]) [0] rfl), h2, hN, hZ.narrow (fun q h9 => Or.inr h9)⟩, ⟨Nat.le_of_ble_eq_true rfl, Nat.le_of_ble_eq_true rfl, Nat.le_of_ble_eq_true rfl, Nat.le_of_ble_eq_true rfl⟩, Nat.le_of_ble_eq_true rfl, Nat.le_of_ble_eq_true rfl, ?_, ?_, fun q h9 => Or.inr h9⟩
  · intro oc t hq _ _ _
    obtain ⟨⟨r, u, e, hp, -⟩, -⟩ := hq
    exact hp.elim
  · intro E t hx hW hz hn
    obtain ⟨u, -, hE, hFr⟩ := hx
    exact ⟨(ow, cr), trivial, ⟨Or.inr (Or.inl (hE)), aPost_same hI hW (F_ro hFr rfl) hz hn (Nat.le_of_ble_eq_true rfl) (Nat.le_of_ble_eq_true rfl)⟩, F_mono hFr (fun q h9 => Or.inr h9)⟩
set_option maxRecDepth 20000 in
set_option maxHeartbeats 1000000 in
theorem uv_notL (l : Launch) (hlt : l.stackTraces = false) (dC : Nat → ClassId) (dI : Nat → Nat → Nat) {a0 qb : Nat} {cq : ClassId} {bq : Nat → Option Nat} {ow rx cr : Nat → Nat} {a1 a4 a8 a11 : Nat → Int32} {s : State} {j : Nat} {y0 : Nat} {p1 : Int32} {p2 : Int32} (hpre : aPre (dC, dI) a0 qb cq bq ow rx cr a1 a4 a8 a11 s.heap.size (hT s.heap) s) (hF : ∃ dep : Nat → Nat, rF a1 a8 dep ∧ ∀ o : Nat, o < 16 → dep o < 17) (hj : j < 16) (hb : bq j = some y0) (hk : (a1 j).toInt = 2) : uSel l yX7_move wqX7_move ({ frames := 9, cells := 2, slots := 12, locals := 330 }) 2 12 (aA ow s.heap.size) (va_Ql (fun (_ : Int64) (_ : (Nat → Nat) × (Nat → Nat)) => True) (fun (u : (Nat → Nat) × (Nat → Nat)) (t : State) => aPost (dC, dI) a0 qb cq bq ow rx cr a1 a4 a8 a11 s.heap.size (hT s.heap) u t) (aA ow s.heap.size)) (vx_X (fun (_ : (Nat → Nat) × (Nat → Nat)) => True) (fun (E : String) (u : (Nat → Nat) × (Nat → Nat)) (t : State) => (E = "java/util/NoSuchElementException" ∨ E = "java/lang/ClassCastException" ∨ E = "java/lang/IllegalArgumentException" ∨ E = "java/lang/IllegalStateException") ∧ aPost (dC, dI) a0 qb cq bq ow rx cr a1 a4 a8 a11 s.heap.size (hT s.heap) u t) (aA ow s.heap.size)) [.ref a0, .int (nI j), .int p1, .int p2].toArray s := by
  obtain ⟨-, -, hI, hN, hZ⟩ := hpre
  obtain ⟨dep, hFd, hdp⟩ := hF
  obtain ⟨h1, h2, h3, h4, h5, h6, h7⟩ := id hI
  obtain ⟨lim, bu, x0, k0, w0, ck, cw, L, f, g, nz, ch, hP, hK, hO, hl, e1, e2, e3, e4⟩ := bd_L (h6 j y0 hj hb) hk
  refine ⟨_, _, _, _, _, _, _, c_X7_move_notL l hlt dC dI s.heap.size a0 qb cq bq j y0 ([.ref x0, .int 1, .int (-1), .int (nI lim), .int bu]) p1 p2 hj hb, ⟨rfl, rfl, va_P.app h1 (hP.sub (ws' := [(y0, .inr (4, [.ref x0, .int 1, .int (-1), .int (nI lim), .int bu]))]) [0] rfl), h2, hN, hZ.narrow (fun q h9 => Or.inr h9)⟩, ⟨Nat.le_of_ble_eq_true rfl, Nat.le_of_ble_eq_true rfl, Nat.le_of_ble_eq_true rfl, Nat.le_of_ble_eq_true rfl⟩, Nat.le_of_ble_eq_true rfl, Nat.le_of_ble_eq_true rfl, ?_, ?_, fun q h9 => Or.inr h9⟩
  · intro oc t hq _ _ _
    obtain ⟨⟨r, u, e, hp, -⟩, -⟩ := hq
    exact hp.elim
  · intro E t hx hW hz hn
    obtain ⟨u, -, hE, hFr⟩ := hx
    exact ⟨(ow, cr), trivial, ⟨Or.inr (Or.inl (hE)), aPost_same hI hW (F_ro hFr rfl) hz hn (Nat.le_of_ble_eq_true rfl) (Nat.le_of_ble_eq_true rfl)⟩, F_mono hFr (fun q h9 => Or.inr h9)⟩
set_option maxRecDepth 20000 in
set_option maxHeartbeats 1000000 in
theorem uv_notS (l : Launch) (hlt : l.stackTraces = false) (dC : Nat → ClassId) (dI : Nat → Nat → Nat) {a0 qb : Nat} {cq : ClassId} {bq : Nat → Option Nat} {ow rx cr : Nat → Nat} {a1 a4 a8 a11 : Nat → Int32} {s : State} {j : Nat} {y0 : Nat} {p1 : Int32} {p2 : Int32} (hpre : aPre (dC, dI) a0 qb cq bq ow rx cr a1 a4 a8 a11 s.heap.size (hT s.heap) s) (hF : ∃ dep : Nat → Nat, rF a1 a8 dep ∧ ∀ o : Nat, o < 16 → dep o < 17) (hj : j < 16) (hb : bq j = some y0) (hk : (a1 j).toInt = 3 ∨ (a1 j).toInt = 4) : uSel l yX7_move wqX7_move ({ frames := 9, cells := 2, slots := 12, locals := 330 }) 2 12 (aA ow s.heap.size) (va_Ql (fun (_ : Int64) (_ : (Nat → Nat) × (Nat → Nat)) => True) (fun (u : (Nat → Nat) × (Nat → Nat)) (t : State) => aPost (dC, dI) a0 qb cq bq ow rx cr a1 a4 a8 a11 s.heap.size (hT s.heap) u t) (aA ow s.heap.size)) (vx_X (fun (_ : (Nat → Nat) × (Nat → Nat)) => True) (fun (E : String) (u : (Nat → Nat) × (Nat → Nat)) (t : State) => (E = "java/util/NoSuchElementException" ∨ E = "java/lang/ClassCastException" ∨ E = "java/lang/IllegalArgumentException" ∨ E = "java/lang/IllegalStateException") ∧ aPost (dC, dI) a0 qb cq bq ow rx cr a1 a4 a8 a11 s.heap.size (hT s.heap) u t) (aA ow s.heap.size)) [.ref a0, .int (nI j), .int p1, .int p2].toArray s := by
  obtain ⟨-, -, hI, hN, hZ⟩ := hpre
  obtain ⟨dep, hFd, hdp⟩ := hF
  obtain ⟨h1, h2, h3, h4, h5, h6, h7⟩ := id hI
  obtain ⟨kd, wh, tu, lo, hi, hPs, e1, ht⟩ := bd_S (h6 j y0 hj hb) hk
  have hr := rt_3 hFd hj (hdp j hj) hk
  obtain ⟨x0, ex⟩ : ∃ z, z = rx (rtN a1 a8 17 j) := ⟨_, rfl⟩
  obtain ⟨k0, w0, ck, cw, L, f, g, nz, ch, hPr, hK, hO, e2, e3, e4⟩ := h7 _ hr.1 hr.2
  rw [← ex] at hPs hPr e2
  refine ⟨_, _, _, _, _, _, _, c_X7_move_notS l hlt dC dI s.heap.size a0 qb cq bq j y0 ([.ref x0, .int kd, .int wh, .int (a4 (rtN a1 a8 17 j)), .int tu, .long lo, .long hi]) p1 p2 hj hb, ⟨rfl, rfl, va_P.app h1 (hPs), h2, hN, hZ.narrow (fun q h9 => Or.inr h9)⟩, ⟨Nat.le_of_ble_eq_true rfl, Nat.le_of_ble_eq_true rfl, Nat.le_of_ble_eq_true rfl, Nat.le_of_ble_eq_true rfl⟩, Nat.le_of_ble_eq_true rfl, Nat.le_of_ble_eq_true rfl, ?_, ?_, fun q h9 => Or.inr h9⟩
  · intro oc t hq _ _ _
    obtain ⟨⟨r, u, e, hp, -⟩, -⟩ := hq
    exact hp.elim
  · intro E t hx hW hz hn
    obtain ⟨u, -, hE, hFr⟩ := hx
    exact ⟨(ow, cr), trivial, ⟨Or.inr (Or.inl (hE)), aPost_same hI hW (F_ro hFr rfl) hz hn (Nat.le_of_ble_eq_true rfl) (Nat.le_of_ble_eq_true rfl)⟩, F_mono hFr (fun q h9 => Or.inr h9)⟩
set_option maxRecDepth 20000 in
set_option maxHeartbeats 1000000 in
theorem ui_notC (l : Launch) (hlt : l.stackTraces = false) (dC : Nat → ClassId) (dI : Nat → Nat → Nat) {a0 qb : Nat} {cq : ClassId} {bq : Nat → Option Nat} {ow rx cr : Nat → Nat} {a1 a4 a8 a11 : Nat → Int32} {s : State} {j : Nat} {y0 : Nat} {p1 : Int32} {p2 : Int32} (hpre : aPre (dC, dI) a0 qb cq bq ow rx cr a1 a4 a8 a11 s.heap.size (hT s.heap) s) (hF : ∃ dep : Nat → Nat, rF a1 a8 dep ∧ ∀ o : Nat, o < 16 → dep o < 17) (hj : j < 16) (hb : bq j = some y0) (hk : (a1 j).toInt = 5) : uSel l yX7_item wqX7_item ({ frames := 7, cells := 2, slots := 12, locals := 240 }) 2 12 (aA ow s.heap.size) (va_Ql (fun (_ : Int64) (_ : (Nat → Nat) × (Nat → Nat)) => True) (fun (u : (Nat → Nat) × (Nat → Nat)) (t : State) => aPost (dC, dI) a0 qb cq bq ow rx cr a1 a4 a8 a11 s.heap.size (hT s.heap) u t) (aA ow s.heap.size)) (vx_X (fun (_ : (Nat → Nat) × (Nat → Nat)) => True) (fun (E : String) (u : (Nat → Nat) × (Nat → Nat)) (t : State) => (E = "java/util/NoSuchElementException" ∨ E = "java/lang/ClassCastException" ∨ E = "java/lang/IllegalArgumentException" ∨ E = "java/lang/IndexOutOfBoundsException") ∧ aPost (dC, dI) a0 qb cq bq ow rx cr a1 a4 a8 a11 s.heap.size (hT s.heap) u t) (aA ow s.heap.size)) [.ref a0, .int (nI j), .int p1, .int p2].toArray s := by
  obtain ⟨-, -, hI, hN, hZ⟩ := hpre
  obtain ⟨dep, hFd, hdp⟩ := hF
  obtain ⟨h1, h2, h3, h4, h5, h6, h7⟩ := id hI
  obtain ⟨p9, yk9, kdc, nx, ps, se, -, -, -, hPc, e1c⟩ := bd_C (h6 j y0 hj hb) hk
  refine ⟨_, _, _, _, _, _, _, c_X7_item_notC l hlt dC dI s.heap.size a0 qb cq bq j y0 ([.int kdc, .int (nI p9), .ref yk9, .int nx, .int ps, .int se]) p1 p2 hj hb, ⟨rfl, rfl, va_P.app h1 (hPc), h2, hN, hZ.narrow (fun q h9 => Or.inr h9)⟩, ⟨Nat.le_of_ble_eq_true rfl, Nat.le_of_ble_eq_true rfl, Nat.le_of_ble_eq_true rfl, Nat.le_of_ble_eq_true rfl⟩, Nat.le_of_ble_eq_true rfl, Nat.le_of_ble_eq_true rfl, ?_, ?_, fun q h9 => Or.inr h9⟩
  · intro oc t hq _ _ _
    obtain ⟨⟨r, u, e, hp, -⟩, -⟩ := hq
    exact hp.elim
  · intro E t hx hW hz hn
    obtain ⟨u, -, hE, hFr⟩ := hx
    exact ⟨(ow, cr), trivial, ⟨Or.inr (Or.inl (hE)), aPost_same hI hW (F_ro hFr rfl) hz hn (Nat.le_of_ble_eq_true rfl) (Nat.le_of_ble_eq_true rfl)⟩, F_mono hFr (fun q h9 => Or.inr h9)⟩
set_option maxRecDepth 20000 in
set_option maxHeartbeats 1000000 in
theorem uc_none (l : Launch) (hlt : l.stackTraces = false) (dC : Nat → ClassId) (dI : Nat → Nat → Nat) {a0 qb : Nat} {cq : ClassId} {bq : Nat → Option Nat} {ow rx cr : Nat → Nat} {a1 a4 a8 a11 : Nat → Int32} {s : State} {p0 : Int32} (hpre : aPre (dC, dI) a0 qb cq bq ow rx cr a1 a4 a8 a11 s.heap.size (hT s.heap) s) (hF : ∃ dep : Nat → Nat, rF a1 a8 dep ∧ ∀ o : Nat, o < 16 → dep o < 17) (hn1 : ∀ j : Nat, j < 16 → p0 = nI (10 + j) → bq j = none) (hn2 : ∀ j : Nat, j < 16 → p0 = nI (30 + j) → bq j = none) : uSel l yX7_count wsX7_count ({ frames := 8, cells := 1, slots := 6, locals := 280 }) 1 6 (aA ow s.heap.size) (va_Qi (fun (_ : Int32) (_ : (Nat → Nat) × (Nat → Nat)) => True) (fun (u : (Nat → Nat) × (Nat → Nat)) (t : State) => aPost (dC, dI) a0 qb cq bq ow rx cr a1 a4 a8 a11 s.heap.size (hT s.heap) u t) (aA ow s.heap.size)) (vx_X (fun (_ : (Nat → Nat) × (Nat → Nat)) => True) (fun (E : String) (u : (Nat → Nat) × (Nat → Nat)) (t : State) => (E = "java/lang/IllegalArgumentException") ∧ aPost (dC, dI) a0 qb cq bq ow rx cr a1 a4 a8 a11 s.heap.size (hT s.heap) u t) (aA ow s.heap.size)) [.ref a0, .int p0].toArray s := by
  obtain ⟨-, -, hI, hN, hZ⟩ := hpre
  obtain ⟨dep, hFd, hdp⟩ := hF
  obtain ⟨h1, h2, h3, h4, h5, h6, h7⟩ := id hI
  refine ⟨_, _, _, _, _, _, _, c_X7_count_none l hlt dC dI s.heap.size a0 qb cq bq p0 hn1 hn2, ⟨rfl, rfl, h1, h2, hN, hZ.narrow (fun q h9 => Or.inr h9)⟩, ⟨Nat.le_of_ble_eq_true rfl, Nat.le_of_ble_eq_true rfl, Nat.le_of_ble_eq_true rfl, Nat.le_of_ble_eq_true rfl⟩, Nat.le_of_ble_eq_true rfl, Nat.le_of_ble_eq_true rfl, ?_, ?_, fun q h9 => Or.inr h9⟩
  · intro oc t hq hW hz hn
    obtain ⟨⟨r, u, e, -, -⟩, hFr⟩ := hq
    exact ⟨⟨r, (ow, cr), e, trivial, aPost_same hI hW (F_ro hFr rfl) hz hn (Nat.le_of_ble_eq_true rfl) (Nat.le_of_ble_eq_true rfl)⟩, F_mono hFr (fun q h9 => Or.inr h9)⟩
  · intro E t hx hW hz hn
    obtain ⟨u, -, hE, hFr⟩ := hx
    exact ⟨(ow, cr), trivial, ⟨hE, aPost_same hI hW (F_ro hFr rfl) hz hn (Nat.le_of_ble_eq_true rfl) (Nat.le_of_ble_eq_true rfl)⟩, F_mono hFr (fun q h9 => Or.inr h9)⟩
set_option maxRecDepth 20000 in
set_option maxHeartbeats 1000000 in
theorem uc10_H (l : Launch) (hlt : l.stackTraces = false) (dC : Nat → ClassId) (dI : Nat → Nat → Nat) {a0 qb : Nat} {cq : ClassId} {bq : Nat → Option Nat} {ow rx cr : Nat → Nat} {a1 a4 a8 a11 : Nat → Int32} {s : State} {j : Nat} {y0 : Nat} (hpre : aPre (dC, dI) a0 qb cq bq ow rx cr a1 a4 a8 a11 s.heap.size (hT s.heap) s) (hF : ∃ dep : Nat → Nat, rF a1 a8 dep ∧ ∀ o : Nat, o < 16 → dep o < 17) (hj : j < 16) (hb : bq j = some y0) (hk : (a1 j).toInt = 1) : uSel l yX7_count wsX7_count ({ frames := 8, cells := 1, slots := 6, locals := 280 }) 1 6 (aA ow s.heap.size) (va_Qi (fun (_ : Int32) (_ : (Nat → Nat) × (Nat → Nat)) => True) (fun (u : (Nat → Nat) × (Nat → Nat)) (t : State) => aPost (dC, dI) a0 qb cq bq ow rx cr a1 a4 a8 a11 s.heap.size (hT s.heap) u t) (aA ow s.heap.size)) (vx_X (fun (_ : (Nat → Nat) × (Nat → Nat)) => True) (fun (E : String) (u : (Nat → Nat) × (Nat → Nat)) (t : State) => (E = "java/lang/IllegalArgumentException") ∧ aPost (dC, dI) a0 qb cq bq ow rx cr a1 a4 a8 a11 s.heap.size (hT s.heap) u t) (aA ow s.heap.size)) [.ref a0, .int (nI (10 + j))].toArray s := by
  obtain ⟨-, -, hI, hN, hZ⟩ := hpre
  obtain ⟨dep, hFd, hdp⟩ := hF
  obtain ⟨h1, h2, h3, h4, h5, h6, h7⟩ := id hI
  obtain ⟨cap, ru, tb, b0, cb, bf, x0, k0, w0, ck, cw, L, f, g, nz, ch, hP, hK, hO, hc, e1, e2, e3, e4, e5⟩ := bd_H (h6 j y0 hj hb) hk
  refine ⟨_, _, _, _, _, _, _, c_X7_count10_H l hlt dC dI s.heap.size a0 qb cq bq j y0 (0) (.ref x0) (.int (-1)) (.int (nI cap)) (.int ru) (.int (nI tb)) (.ref b0) hj hb, ⟨rfl, rfl, va_P.app h1 (hP.sub (ws' := [(y0, .inr (3, [.ref x0, .int 0, .int (-1), .int (nI cap), .int ru, .int (nI tb), .ref b0]))]) [0] rfl), h2, hN, hZ.narrow (fun q h9 => Or.inr h9)⟩, ⟨Nat.le_of_ble_eq_true rfl, Nat.le_of_ble_eq_true rfl, Nat.le_of_ble_eq_true rfl, Nat.le_of_ble_eq_true rfl⟩, Nat.le_of_ble_eq_true rfl, Nat.le_of_ble_eq_true rfl, ?_, ?_, fun q h9 => Or.inr h9⟩
  · intro oc t hq hW hz hn
    obtain ⟨⟨r, u, e, -, -⟩, hFr⟩ := hq
    exact ⟨⟨r, (ow, cr), e, trivial, aPost_same hI hW (F_ro hFr rfl) hz hn (Nat.le_of_ble_eq_true rfl) (Nat.le_of_ble_eq_true rfl)⟩, F_mono hFr (fun q h9 => Or.inr h9)⟩
  · intro E t hx hW hz hn
    obtain ⟨u, -, hE, hFr⟩ := hx
    exact ⟨(ow, cr), trivial, ⟨hE, aPost_same hI hW (F_ro hFr rfl) hz hn (Nat.le_of_ble_eq_true rfl) (Nat.le_of_ble_eq_true rfl)⟩, F_mono hFr (fun q h9 => Or.inr h9)⟩
set_option maxRecDepth 20000 in
set_option maxHeartbeats 1000000 in
theorem uc10_L (l : Launch) (hlt : l.stackTraces = false) (dC : Nat → ClassId) (dI : Nat → Nat → Nat) {a0 qb : Nat} {cq : ClassId} {bq : Nat → Option Nat} {ow rx cr : Nat → Nat} {a1 a4 a8 a11 : Nat → Int32} {s : State} {j : Nat} {y0 : Nat} (hpre : aPre (dC, dI) a0 qb cq bq ow rx cr a1 a4 a8 a11 s.heap.size (hT s.heap) s) (hF : ∃ dep : Nat → Nat, rF a1 a8 dep ∧ ∀ o : Nat, o < 16 → dep o < 17) (hj : j < 16) (hb : bq j = some y0) (hk : (a1 j).toInt = 2) : uSel l yX7_count wsX7_count ({ frames := 8, cells := 1, slots := 6, locals := 280 }) 1 6 (aA ow s.heap.size) (va_Qi (fun (_ : Int32) (_ : (Nat → Nat) × (Nat → Nat)) => True) (fun (u : (Nat → Nat) × (Nat → Nat)) (t : State) => aPost (dC, dI) a0 qb cq bq ow rx cr a1 a4 a8 a11 s.heap.size (hT s.heap) u t) (aA ow s.heap.size)) (vx_X (fun (_ : (Nat → Nat) × (Nat → Nat)) => True) (fun (E : String) (u : (Nat → Nat) × (Nat → Nat)) (t : State) => (E = "java/lang/IllegalArgumentException") ∧ aPost (dC, dI) a0 qb cq bq ow rx cr a1 a4 a8 a11 s.heap.size (hT s.heap) u t) (aA ow s.heap.size)) [.ref a0, .int (nI (10 + j))].toArray s := by
  obtain ⟨-, -, hI, hN, hZ⟩ := hpre
  obtain ⟨dep, hFd, hdp⟩ := hF
  obtain ⟨h1, h2, h3, h4, h5, h6, h7⟩ := id hI
  obtain ⟨lim, bu, x0, k0, w0, ck, cw, L, f, g, nz, ch, hP, hK, hO, hl, e1, e2, e3, e4⟩ := bd_L (h6 j y0 hj hb) hk
  refine ⟨_, _, _, _, _, _, _, c_X7_count10_L l hlt dC dI s.heap.size a0 qb cq bq j y0 (1) (.ref x0) (.int (-1)) (.int (nI lim)) (.int bu) hj hb, ⟨rfl, rfl, va_P.app h1 (hP.sub (ws' := [(y0, .inr (4, [.ref x0, .int 1, .int (-1), .int (nI lim), .int bu]))]) [0] rfl), h2, hN, hZ.narrow (fun q h9 => Or.inr h9)⟩, ⟨Nat.le_of_ble_eq_true rfl, Nat.le_of_ble_eq_true rfl, Nat.le_of_ble_eq_true rfl, Nat.le_of_ble_eq_true rfl⟩, Nat.le_of_ble_eq_true rfl, Nat.le_of_ble_eq_true rfl, ?_, ?_, fun q h9 => Or.inr h9⟩
  · intro oc t hq hW hz hn
    obtain ⟨⟨r, u, e, -, -⟩, hFr⟩ := hq
    exact ⟨⟨r, (ow, cr), e, trivial, aPost_same hI hW (F_ro hFr rfl) hz hn (Nat.le_of_ble_eq_true rfl) (Nat.le_of_ble_eq_true rfl)⟩, F_mono hFr (fun q h9 => Or.inr h9)⟩
  · intro E t hx hW hz hn
    obtain ⟨u, -, hE, hFr⟩ := hx
    exact ⟨(ow, cr), trivial, ⟨hE, aPost_same hI hW (F_ro hFr rfl) hz hn (Nat.le_of_ble_eq_true rfl) (Nat.le_of_ble_eq_true rfl)⟩, F_mono hFr (fun q h9 => Or.inr h9)⟩
set_option maxRecDepth 20000 in
set_option maxHeartbeats 1000000 in
theorem uc10_S (l : Launch) (hlt : l.stackTraces = false) (dC : Nat → ClassId) (dI : Nat → Nat → Nat) {a0 qb : Nat} {cq : ClassId} {bq : Nat → Option Nat} {ow rx cr : Nat → Nat} {a1 a4 a8 a11 : Nat → Int32} {s : State} {j : Nat} {y0 : Nat} (hpre : aPre (dC, dI) a0 qb cq bq ow rx cr a1 a4 a8 a11 s.heap.size (hT s.heap) s) (hF : ∃ dep : Nat → Nat, rF a1 a8 dep ∧ ∀ o : Nat, o < 16 → dep o < 17) (hj : j < 16) (hb : bq j = some y0) (hk : (a1 j).toInt = 3 ∨ (a1 j).toInt = 4) : uSel l yX7_count wsX7_count ({ frames := 8, cells := 1, slots := 6, locals := 280 }) 1 6 (aA ow s.heap.size) (va_Qi (fun (_ : Int32) (_ : (Nat → Nat) × (Nat → Nat)) => True) (fun (u : (Nat → Nat) × (Nat → Nat)) (t : State) => aPost (dC, dI) a0 qb cq bq ow rx cr a1 a4 a8 a11 s.heap.size (hT s.heap) u t) (aA ow s.heap.size)) (vx_X (fun (_ : (Nat → Nat) × (Nat → Nat)) => True) (fun (E : String) (u : (Nat → Nat) × (Nat → Nat)) (t : State) => (E = "java/lang/IllegalArgumentException") ∧ aPost (dC, dI) a0 qb cq bq ow rx cr a1 a4 a8 a11 s.heap.size (hT s.heap) u t) (aA ow s.heap.size)) [.ref a0, .int (nI (10 + j))].toArray s := by
  obtain ⟨-, -, hI, hN, hZ⟩ := hpre
  obtain ⟨dep, hFd, hdp⟩ := hF
  obtain ⟨h1, h2, h3, h4, h5, h6, h7⟩ := id hI
  obtain ⟨kd, wh, tu, lo, hi, hPs, e1, ht⟩ := bd_S (h6 j y0 hj hb) hk
  have hr := rt_3 hFd hj (hdp j hj) hk
  obtain ⟨x0, ex⟩ : ∃ z, z = rx (rtN a1 a8 17 j) := ⟨_, rfl⟩
  obtain ⟨k0, w0, ck, cw, L, f, g, nz, ch, hPr, hK, hO, e2, e3, e4⟩ := h7 _ hr.1 hr.2
  rw [← ex] at hPs hPr e2
  refine ⟨_, _, _, _, _, _, _, c_X7_count10_S l hlt dC dI s.heap.size a0 qb cq bq j y0 (kd) (.ref x0) (.int wh) (.int (a4 (rtN a1 a8 17 j))) (.int tu) (.long lo) (.long hi) hj hb, ⟨rfl, rfl, va_P.app h1 (hPs), h2, hN, hZ.narrow (fun q h9 => Or.inr h9)⟩, ⟨Nat.le_of_ble_eq_true rfl, Nat.le_of_ble_eq_true rfl, Nat.le_of_ble_eq_true rfl, Nat.le_of_ble_eq_true rfl⟩, Nat.le_of_ble_eq_true rfl, Nat.le_of_ble_eq_true rfl, ?_, ?_, fun q h9 => Or.inr h9⟩
  · intro oc t hq hW hz hn
    obtain ⟨⟨r, u, e, -, -⟩, hFr⟩ := hq
    exact ⟨⟨r, (ow, cr), e, trivial, aPost_same hI hW (F_ro hFr rfl) hz hn (Nat.le_of_ble_eq_true rfl) (Nat.le_of_ble_eq_true rfl)⟩, F_mono hFr (fun q h9 => Or.inr h9)⟩
  · intro E t hx hW hz hn
    obtain ⟨u, -, hE, hFr⟩ := hx
    exact ⟨(ow, cr), trivial, ⟨hE, aPost_same hI hW (F_ro hFr rfl) hz hn (Nat.le_of_ble_eq_true rfl) (Nat.le_of_ble_eq_true rfl)⟩, F_mono hFr (fun q h9 => Or.inr h9)⟩
set_option maxRecDepth 20000 in
set_option maxHeartbeats 1000000 in
theorem uc10_C (l : Launch) (hlt : l.stackTraces = false) (dC : Nat → ClassId) (dI : Nat → Nat → Nat) {a0 qb : Nat} {cq : ClassId} {bq : Nat → Option Nat} {ow rx cr : Nat → Nat} {a1 a4 a8 a11 : Nat → Int32} {s : State} {j : Nat} {y0 : Nat} (hpre : aPre (dC, dI) a0 qb cq bq ow rx cr a1 a4 a8 a11 s.heap.size (hT s.heap) s) (hF : ∃ dep : Nat → Nat, rF a1 a8 dep ∧ ∀ o : Nat, o < 16 → dep o < 17) (hj : j < 16) (hb : bq j = some y0) (hk : (a1 j).toInt = 5) : uSel l yX7_count wsX7_count ({ frames := 8, cells := 1, slots := 6, locals := 280 }) 1 6 (aA ow s.heap.size) (va_Qi (fun (_ : Int32) (_ : (Nat → Nat) × (Nat → Nat)) => True) (fun (u : (Nat → Nat) × (Nat → Nat)) (t : State) => aPost (dC, dI) a0 qb cq bq ow rx cr a1 a4 a8 a11 s.heap.size (hT s.heap) u t) (aA ow s.heap.size)) (vx_X (fun (_ : (Nat → Nat) × (Nat → Nat)) => True) (fun (E : String) (u : (Nat → Nat) × (Nat → Nat)) (t : State) => (E = "java/lang/IllegalArgumentException") ∧ aPost (dC, dI) a0 qb cq bq ow rx cr a1 a4 a8 a11 s.heap.size (hT s.heap) u t) (aA ow s.heap.size)) [.ref a0, .int (nI (10 + j))].toArray s := by
  obtain ⟨-, -, hI, hN, hZ⟩ := hpre
  obtain ⟨dep, hFd, hdp⟩ := hF
  obtain ⟨h1, h2, h3, h4, h5, h6, h7⟩ := id hI
  obtain ⟨p9, yk9, kdc, nx, ps, se, -, -, -, hPc, e1c⟩ := bd_C (h6 j y0 hj hb) hk
  refine ⟨_, _, _, _, _, _, _, c_X7_count10_C l hlt dC dI s.heap.size a0 qb cq bq j y0 (kdc) (.int (nI p9)) (.ref yk9) (.int nx) (.int ps) (.int se) hj hb, ⟨rfl, rfl, va_P.app h1 (hPc), h2, hN, hZ.narrow (fun q h9 => Or.inr h9)⟩, ⟨Nat.le_of_ble_eq_true rfl, Nat.le_of_ble_eq_true rfl, Nat.le_of_ble_eq_true rfl, Nat.le_of_ble_eq_true rfl⟩, Nat.le_of_ble_eq_true rfl, Nat.le_of_ble_eq_true rfl, ?_, ?_, fun q h9 => Or.inr h9⟩
  · intro oc t hq hW hz hn
    obtain ⟨⟨r, u, e, -, -⟩, hFr⟩ := hq
    exact ⟨⟨r, (ow, cr), e, trivial, aPost_same hI hW (F_ro hFr rfl) hz hn (Nat.le_of_ble_eq_true rfl) (Nat.le_of_ble_eq_true rfl)⟩, F_mono hFr (fun q h9 => Or.inr h9)⟩
  · intro E t hx hW hz hn
    obtain ⟨u, -, hE, hFr⟩ := hx
    exact ⟨(ow, cr), trivial, ⟨hE, aPost_same hI hW (F_ro hFr rfl) hz hn (Nat.le_of_ble_eq_true rfl) (Nat.le_of_ble_eq_true rfl)⟩, F_mono hFr (fun q h9 => Or.inr h9)⟩
set_option maxRecDepth 20000 in
set_option maxHeartbeats 1000000 in
theorem uc30_C (l : Launch) (hlt : l.stackTraces = false) (dC : Nat → ClassId) (dI : Nat → Nat → Nat) {a0 qb : Nat} {cq : ClassId} {bq : Nat → Option Nat} {ow rx cr : Nat → Nat} {a1 a4 a8 a11 : Nat → Int32} {s : State} {j : Nat} {y0 : Nat} (hpre : aPre (dC, dI) a0 qb cq bq ow rx cr a1 a4 a8 a11 s.heap.size (hT s.heap) s) (hF : ∃ dep : Nat → Nat, rF a1 a8 dep ∧ ∀ o : Nat, o < 16 → dep o < 17) (hj : j < 16) (hb : bq j = some y0) (hk : (a1 j).toInt = 5) : uSel l yX7_count wsX7_count ({ frames := 8, cells := 1, slots := 6, locals := 280 }) 1 6 (aA ow s.heap.size) (va_Qi (fun (_ : Int32) (_ : (Nat → Nat) × (Nat → Nat)) => True) (fun (u : (Nat → Nat) × (Nat → Nat)) (t : State) => aPost (dC, dI) a0 qb cq bq ow rx cr a1 a4 a8 a11 s.heap.size (hT s.heap) u t) (aA ow s.heap.size)) (vx_X (fun (_ : (Nat → Nat) × (Nat → Nat)) => True) (fun (E : String) (u : (Nat → Nat) × (Nat → Nat)) (t : State) => (E = "java/lang/IllegalArgumentException") ∧ aPost (dC, dI) a0 qb cq bq ow rx cr a1 a4 a8 a11 s.heap.size (hT s.heap) u t) (aA ow s.heap.size)) [.ref a0, .int (nI (30 + j))].toArray s := by
  obtain ⟨-, -, hI, hN, hZ⟩ := hpre
  obtain ⟨dep, hFd, hdp⟩ := hF
  obtain ⟨h1, h2, h3, h4, h5, h6, h7⟩ := id hI
  obtain ⟨p9, yk9, kdc, nx, ps, se, -, -, -, hPc, e1c⟩ := bd_C (h6 j y0 hj hb) hk
  refine ⟨_, _, _, _, _, _, _, c_X7_count30_C l hlt dC dI s.heap.size a0 qb cq bq j y0 ([.int kdc, .int (nI p9), .ref yk9, .int nx, .int ps, .int se]) hj hb, ⟨rfl, rfl, va_P.app h1 (hPc), h2, hN, hZ.narrow (fun q h9 => Or.inr h9)⟩, ⟨Nat.le_of_ble_eq_true rfl, Nat.le_of_ble_eq_true rfl, Nat.le_of_ble_eq_true rfl, Nat.le_of_ble_eq_true rfl⟩, Nat.le_of_ble_eq_true rfl, Nat.le_of_ble_eq_true rfl, ?_, ?_, fun q h9 => Or.inr h9⟩
  · intro oc t hq hW hz hn
    obtain ⟨⟨r, u, e, -, -⟩, hFr⟩ := hq
    exact ⟨⟨r, (ow, cr), e, trivial, aPost_same hI hW (F_ro hFr rfl) hz hn (Nat.le_of_ble_eq_true rfl) (Nat.le_of_ble_eq_true rfl)⟩, F_mono hFr (fun q h9 => Or.inr h9)⟩
  · intro E t hx hW hz hn
    obtain ⟨u, -, hE, hFr⟩ := hx
    exact ⟨(ow, cr), trivial, ⟨hE, aPost_same hI hW (F_ro hFr rfl) hz hn (Nat.le_of_ble_eq_true rfl) (Nat.le_of_ble_eq_true rfl)⟩, F_mono hFr (fun q h9 => Or.inr h9)⟩
set_option maxRecDepth 20000 in
set_option maxHeartbeats 1000000 in
theorem uc30_H (l : Launch) (hlt : l.stackTraces = false) (dC : Nat → ClassId) (dI : Nat → Nat → Nat) {a0 qb : Nat} {cq : ClassId} {bq : Nat → Option Nat} {ow rx cr : Nat → Nat} {a1 a4 a8 a11 : Nat → Int32} {s : State} {j : Nat} {y0 : Nat} (hpre : aPre (dC, dI) a0 qb cq bq ow rx cr a1 a4 a8 a11 s.heap.size (hT s.heap) s) (hF : ∃ dep : Nat → Nat, rF a1 a8 dep ∧ ∀ o : Nat, o < 16 → dep o < 17) (hj : j < 16) (hb : bq j = some y0) (hk : (a1 j).toInt = 1) : uSel l yX7_count wsX7_count ({ frames := 8, cells := 1, slots := 6, locals := 280 }) 1 6 (aA ow s.heap.size) (va_Qi (fun (_ : Int32) (_ : (Nat → Nat) × (Nat → Nat)) => True) (fun (u : (Nat → Nat) × (Nat → Nat)) (t : State) => aPost (dC, dI) a0 qb cq bq ow rx cr a1 a4 a8 a11 s.heap.size (hT s.heap) u t) (aA ow s.heap.size)) (vx_X (fun (_ : (Nat → Nat) × (Nat → Nat)) => True) (fun (E : String) (u : (Nat → Nat) × (Nat → Nat)) (t : State) => (E = "java/lang/IllegalArgumentException") ∧ aPost (dC, dI) a0 qb cq bq ow rx cr a1 a4 a8 a11 s.heap.size (hT s.heap) u t) (aA ow s.heap.size)) [.ref a0, .int (nI (30 + j))].toArray s := by
  obtain ⟨-, -, hI, hN, hZ⟩ := hpre
  obtain ⟨dep, hFd, hdp⟩ := hF
  obtain ⟨h1, h2, h3, h4, h5, h6, h7⟩ := id hI
  obtain ⟨cap, ru, tb, b0, cb, bf, x0, k0, w0, ck, cw, L, f, g, nz, ch, hP, hK, hO, hc, e1, e2, e3, e4, e5⟩ := bd_H (h6 j y0 hj hb) hk
  refine ⟨_, _, _, _, _, _, _, c_X7_count30_H l hlt dC dI s.heap.size a0 qb cq bq j y0 0 (-1) cap ru tb b0 cb bf x0 k0 w0 ck cw L f g nz ch hj hb hO, ⟨rfl, rfl, va_P.app h1 (hP), va_K.app h2 (hK), hN, hZ.narrow (fun q h9 => Or.inr h9)⟩, ⟨Nat.le_of_ble_eq_true rfl, Nat.le_of_ble_eq_true rfl, Nat.le_of_ble_eq_true rfl, Nat.le_of_ble_eq_true rfl⟩, Nat.le_of_ble_eq_true rfl, Nat.le_of_ble_eq_true rfl, ?_, ?_, fun q h9 => Or.inr h9⟩
  · intro oc t hq hW hz hn
    obtain ⟨⟨r, u, e, -, -⟩, hFr⟩ := hq
    exact ⟨⟨r, (ow, cr), e, trivial, aPost_same hI hW (F_ro hFr rfl) hz hn (Nat.le_of_ble_eq_true rfl) (Nat.le_of_ble_eq_true rfl)⟩, F_mono hFr (fun q h9 => Or.inr h9)⟩
  · intro E t hx hW hz hn
    obtain ⟨u, -, hE, hFr⟩ := hx
    exact ⟨(ow, cr), trivial, ⟨hE, aPost_same hI hW (F_ro hFr rfl) hz hn (Nat.le_of_ble_eq_true rfl) (Nat.le_of_ble_eq_true rfl)⟩, F_mono hFr (fun q h9 => Or.inr h9)⟩
set_option maxRecDepth 20000 in
set_option maxHeartbeats 1000000 in
theorem uc30_L (l : Launch) (hlt : l.stackTraces = false) (dC : Nat → ClassId) (dI : Nat → Nat → Nat) {a0 qb : Nat} {cq : ClassId} {bq : Nat → Option Nat} {ow rx cr : Nat → Nat} {a1 a4 a8 a11 : Nat → Int32} {s : State} {j : Nat} {y0 : Nat} (hpre : aPre (dC, dI) a0 qb cq bq ow rx cr a1 a4 a8 a11 s.heap.size (hT s.heap) s) (hF : ∃ dep : Nat → Nat, rF a1 a8 dep ∧ ∀ o : Nat, o < 16 → dep o < 17) (hj : j < 16) (hb : bq j = some y0) (hk : (a1 j).toInt = 2) : uSel l yX7_count wsX7_count ({ frames := 8, cells := 1, slots := 6, locals := 280 }) 1 6 (aA ow s.heap.size) (va_Qi (fun (_ : Int32) (_ : (Nat → Nat) × (Nat → Nat)) => True) (fun (u : (Nat → Nat) × (Nat → Nat)) (t : State) => aPost (dC, dI) a0 qb cq bq ow rx cr a1 a4 a8 a11 s.heap.size (hT s.heap) u t) (aA ow s.heap.size)) (vx_X (fun (_ : (Nat → Nat) × (Nat → Nat)) => True) (fun (E : String) (u : (Nat → Nat) × (Nat → Nat)) (t : State) => (E = "java/lang/IllegalArgumentException") ∧ aPost (dC, dI) a0 qb cq bq ow rx cr a1 a4 a8 a11 s.heap.size (hT s.heap) u t) (aA ow s.heap.size)) [.ref a0, .int (nI (30 + j))].toArray s := by
  obtain ⟨-, -, hI, hN, hZ⟩ := hpre
  obtain ⟨dep, hFd, hdp⟩ := hF
  obtain ⟨h1, h2, h3, h4, h5, h6, h7⟩ := id hI
  obtain ⟨lim, bu, x0, k0, w0, ck, cw, L, f, g, nz, ch, hP, hK, hO, hl, e1, e2, e3, e4⟩ := bd_L (h6 j y0 hj hb) hk
  refine ⟨_, _, _, _, _, _, _, c_X7_count30_L l hlt dC dI s.heap.size a0 qb cq bq j y0 1 (-1) lim bu x0 k0 w0 ck cw L f g nz ch hj hb hO hl, ⟨rfl, rfl, va_P.app h1 (hP), va_K.app h2 (hK), hN, hZ.narrow (fun q h9 => Or.inr h9)⟩, ⟨Nat.le_of_ble_eq_true rfl, Nat.le_of_ble_eq_true rfl, Nat.le_of_ble_eq_true rfl, Nat.le_of_ble_eq_true rfl⟩, Nat.le_of_ble_eq_true rfl, Nat.le_of_ble_eq_true rfl, ?_, ?_, fun q h9 => Or.inr h9⟩
  · intro oc t hq hW hz hn
    obtain ⟨⟨r, u, e, -, -⟩, hFr⟩ := hq
    exact ⟨⟨r, (ow, cr), e, trivial, aPost_same hI hW (F_ro hFr rfl) hz hn (Nat.le_of_ble_eq_true rfl) (Nat.le_of_ble_eq_true rfl)⟩, F_mono hFr (fun q h9 => Or.inr h9)⟩
  · intro E t hx hW hz hn
    obtain ⟨u, -, hE, hFr⟩ := hx
    exact ⟨(ow, cr), trivial, ⟨hE, aPost_same hI hW (F_ro hFr rfl) hz hn (Nat.le_of_ble_eq_true rfl) (Nat.le_of_ble_eq_true rfl)⟩, F_mono hFr (fun q h9 => Or.inr h9)⟩
set_option maxRecDepth 20000 in
set_option maxHeartbeats 1000000 in
theorem uc30_S (l : Launch) (hlt : l.stackTraces = false) (dC : Nat → ClassId) (dI : Nat → Nat → Nat) {a0 qb : Nat} {cq : ClassId} {bq : Nat → Option Nat} {ow rx cr : Nat → Nat} {a1 a4 a8 a11 : Nat → Int32} {s : State} {j : Nat} {y0 : Nat} (hpre : aPre (dC, dI) a0 qb cq bq ow rx cr a1 a4 a8 a11 s.heap.size (hT s.heap) s) (hF : ∃ dep : Nat → Nat, rF a1 a8 dep ∧ ∀ o : Nat, o < 16 → dep o < 17) (hj : j < 16) (hb : bq j = some y0) (hk : (a1 j).toInt = 3 ∨ (a1 j).toInt = 4) : uSel l yX7_count wsX7_count ({ frames := 8, cells := 1, slots := 6, locals := 280 }) 1 6 (aA ow s.heap.size) (va_Qi (fun (_ : Int32) (_ : (Nat → Nat) × (Nat → Nat)) => True) (fun (u : (Nat → Nat) × (Nat → Nat)) (t : State) => aPost (dC, dI) a0 qb cq bq ow rx cr a1 a4 a8 a11 s.heap.size (hT s.heap) u t) (aA ow s.heap.size)) (vx_X (fun (_ : (Nat → Nat) × (Nat → Nat)) => True) (fun (E : String) (u : (Nat → Nat) × (Nat → Nat)) (t : State) => (E = "java/lang/IllegalArgumentException") ∧ aPost (dC, dI) a0 qb cq bq ow rx cr a1 a4 a8 a11 s.heap.size (hT s.heap) u t) (aA ow s.heap.size)) [.ref a0, .int (nI (30 + j))].toArray s := by
  obtain ⟨-, -, hI, hN, hZ⟩ := hpre
  obtain ⟨dep, hFd, hdp⟩ := hF
  obtain ⟨h1, h2, h3, h4, h5, h6, h7⟩ := id hI
  obtain ⟨kd, wh, tu, lo, hi, hPs, e1, ht⟩ := bd_S (h6 j y0 hj hb) hk
  have hr := rt_3 hFd hj (hdp j hj) hk
  obtain ⟨x0, ex⟩ : ∃ z, z = rx (rtN a1 a8 17 j) := ⟨_, rfl⟩
  obtain ⟨k0, w0, ck, cw, L, f, g, nz, ch, hPr, hK, hO, e2, e3, e4⟩ := h7 _ hr.1 hr.2
  rw [← ex] at hPs hPr e2
  refine ⟨_, _, _, _, _, _, _, c_X7_count30_S l hlt dC dI s.heap.size a0 qb cq bq j y0 kd wh (a4 (rtN a1 a8 17 j)) tu lo hi x0 k0 w0 ck cw L f g nz ch hj hb hO ht.2.2.1 ht.2.2.2.1, ⟨rfl, rfl, va_P.app h1 (va_P.app hPs hPr), va_K.app h2 (hK), hN, hZ.narrow (fun q h9 => Or.inr h9)⟩, ⟨Nat.le_of_ble_eq_true rfl, Nat.le_of_ble_eq_true rfl, Nat.le_of_ble_eq_true rfl, Nat.le_of_ble_eq_true rfl⟩, Nat.le_of_ble_eq_true rfl, Nat.le_of_ble_eq_true rfl, ?_, ?_, fun q h9 => Or.inr h9⟩
  · intro oc t hq hW hz hn
    obtain ⟨⟨r, u, e, -, -⟩, hFr⟩ := hq
    exact ⟨⟨r, (ow, cr), e, trivial, aPost_same hI hW (F_ro hFr rfl) hz hn (Nat.le_of_ble_eq_true rfl) (Nat.le_of_ble_eq_true rfl)⟩, F_mono hFr (fun q h9 => Or.inr h9)⟩
  · intro E t hx hW hz hn
    obtain ⟨u, -, hE, hFr⟩ := hx
    exact ⟨(ow, cr), trivial, ⟨hE, aPost_same hI hW (F_ro hFr rfl) hz hn (Nat.le_of_ble_eq_true rfl) (Nat.le_of_ble_eq_true rfl)⟩, F_mono hFr (fun q h9 => Or.inr h9)⟩
