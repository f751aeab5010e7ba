set_option maxRecDepth 20000 in
set_option maxHeartbeats 1000000 in
theorem um19_HH (l : Launch) (hlt : l.stackTraces = false) (dC : Nat → ClassId) (dI : Nat → Nat → Nat) {a0 qb : Nat} {cq : ClassId} {bq : Nat → Option Nat} {ow rx cr : Nat → Nat} {a1 a4 a8 a11 : Nat → Int32} {s : State} {j : Nat} {y0 : Nat} {j8 : Nat} {y1 : Nat} {p2 : Int32} (hpre : aPre (dC, dI) a0 qb cq bq ow rx cr a1 a4 a8 a11 s.heap.size (hT s.heap) s) (hF : ∃ dep : Nat → Nat, rF a1 a8 dep ∧ ∀ o : Nat, o < 16 → dep o < 17) (hj : j < 16) (hb : bq j = some y0) (hk : (a1 j).toInt = 1) (hj8 : j8 < 16) (hb8 : bq j8 = some y1) (hk8 : (a1 j8).toInt = 1) : uSel l yX7_map wqX7_map ({ frames := 9, cells := 130, slots := 53000, locals := 400 }) 130 53000 (aA ow s.heap.size) (va_Ql (fun (_ : Int64) (_ : (Nat → Nat) × (Nat → Nat)) => True) (fun (u : (Nat → Nat) × (Nat → Nat)) (t : State) => aPost (dC, dI) a0 qb cq bq ow rx cr a1 a4 a8 a11 s.heap.size (hT s.heap) u t) (aA ow s.heap.size)) (vx_X (fun (_ : (Nat → Nat) × (Nat → Nat)) => True) (fun (E : String) (u : (Nat → Nat) × (Nat → Nat)) (t : State) => (E = "java/util/NoSuchElementException" ∨ E = "java/lang/ClassCastException" ∨ E = "java/lang/IllegalArgumentException" ∨ E = "java/lang/IllegalStateException" ∨ E = "java/lang/UnsupportedOperationException") ∧ aPost (dC, dI) a0 qb cq bq ow rx cr a1 a4 a8 a11 s.heap.size (hT s.heap) u t) (aA ow s.heap.size)) [.ref a0, .int (nI j), .int 19, .int p2, .int (nI j8)].toArray s := by
  obtain ⟨-, -, hI, hN, hZ⟩ := hpre
  obtain ⟨dep, hFd, hdp⟩ := hF
  obtain ⟨h1, h2, h3, h4, h5, h6, h7⟩ := id hI
  obtain ⟨cap, ru, tb, b0, cb, bf, x0, k0, w0, ck, cw, L, f, g, nz, ch, hP, hK, hO, hc, e1, e2, e3, e4, e5⟩ := bd_H (h6 j y0 hj hb) hk
  obtain ⟨cap8, ru8, tb8, b8, cb8, bf8, x1, k8, w8, ck8, cw8, L8, f8, g8, nz8, ch8, hP8, hK8, hO8, hc8, e18, e28, e38, e48, e58⟩ := bd_H (h6 j8 y1 hj8 hb8) hk8
  refine ⟨_, _, _, _, _, _, _, c_X7_map19_HH l hlt dC dI s.heap.size a0 qb cq bq j y0 0 (-1) cap ru tb b0 cb bf x0 k0 w0 ck cw L f g nz ch j8 y1 0 (-1) cap8 ru8 tb8 b8 cb8 bf8 x1 k8 w8 ck8 cw8 L8 f8 g8 nz8 ch8 p2 hj hb hO hj8 hb8 hO8, ⟨rfl, rfl, va_P.app h1 (va_P.app (hP) (hP8)), va_K.app h2 (va_K.app hK (hK8)), hN, hZ.narrow (fun q h9 => Or.inr h9)⟩, ⟨Nat.le_of_ble_eq_true rfl, Nat.le_of_ble_eq_true rfl, Nat.le_of_ble_eq_true rfl, Nat.le_of_ble_eq_true rfl⟩, Nat.le_of_ble_eq_true rfl, Nat.le_of_ble_eq_true rfl, ?_, ?_, fun q h9 => Or.inr h9⟩
  · intro oc t hq hW hz hn
    obtain ⟨⟨r, u, e, -, -⟩, hFr⟩ := hq
    exact ⟨⟨r, (ow, cr), e, trivial, aPost_same hI hW (F_ro hFr rfl) hz hn (Nat.le_of_ble_eq_true rfl) (Nat.le_of_ble_eq_true rfl)⟩, F_mono hFr (fun q h9 => Or.inr h9)⟩
  · intro E t hx hW hz hn
    obtain ⟨u, -, hE, hFr⟩ := hx
    exact ⟨(ow, cr), trivial, ⟨Or.inr (Or.inr (Or.inr (Or.inr (hE)))), aPost_same hI hW (F_ro hFr rfl) hz hn (Nat.le_of_ble_eq_true rfl) (Nat.le_of_ble_eq_true rfl)⟩, F_mono hFr (fun q h9 => Or.inr h9)⟩
set_option maxRecDepth 20000 in
set_option maxHeartbeats 1000000 in
theorem um19_HL (l : Launch) (hlt : l.stackTraces = false) (dC : Nat → ClassId) (dI : Nat → Nat → Nat) {a0 qb : Nat} {cq : ClassId} {bq : Nat → Option Nat} {ow rx cr : Nat → Nat} {a1 a4 a8 a11 : Nat → Int32} {s : State} {j : Nat} {y0 : Nat} {j8 : Nat} {y1 : Nat} {p2 : Int32} (hpre : aPre (dC, dI) a0 qb cq bq ow rx cr a1 a4 a8 a11 s.heap.size (hT s.heap) s) (hF : ∃ dep : Nat → Nat, rF a1 a8 dep ∧ ∀ o : Nat, o < 16 → dep o < 17) (hj : j < 16) (hb : bq j = some y0) (hk : (a1 j).toInt = 1) (hj8 : j8 < 16) (hb8 : bq j8 = some y1) (hk8 : (a1 j8).toInt = 2) : uSel l yX7_map wqX7_map ({ frames := 9, cells := 130, slots := 53000, locals := 400 }) 130 53000 (aA ow s.heap.size) (va_Ql (fun (_ : Int64) (_ : (Nat → Nat) × (Nat → Nat)) => True) (fun (u : (Nat → Nat) × (Nat → Nat)) (t : State) => aPost (dC, dI) a0 qb cq bq ow rx cr a1 a4 a8 a11 s.heap.size (hT s.heap) u t) (aA ow s.heap.size)) (vx_X (fun (_ : (Nat → Nat) × (Nat → Nat)) => True) (fun (E : String) (u : (Nat → Nat) × (Nat → Nat)) (t : State) => (E = "java/util/NoSuchElementException" ∨ E = "java/lang/ClassCastException" ∨ E = "java/lang/IllegalArgumentException" ∨ E = "java/lang/IllegalStateException" ∨ E = "java/lang/UnsupportedOperationException") ∧ aPost (dC, dI) a0 qb cq bq ow rx cr a1 a4 a8 a11 s.heap.size (hT s.heap) u t) (aA ow s.heap.size)) [.ref a0, .int (nI j), .int 19, .int p2, .int (nI j8)].toArray s := by
  obtain ⟨-, -, hI, hN, hZ⟩ := hpre
  obtain ⟨dep, hFd, hdp⟩ := hF
  obtain ⟨h1, h2, h3, h4, h5, h6, h7⟩ := id hI
  obtain ⟨cap, ru, tb, b0, cb, bf, x0, k0, w0, ck, cw, L, f, g, nz, ch, hP, hK, hO, hc, e1, e2, e3, e4, e5⟩ := bd_H (h6 j y0 hj hb) hk
  obtain ⟨lim8, bu8, x1, k8, w8, ck8, cw8, L8, f8, g8, nz8, ch8, hP8, hK8, hO8, hl8, e18, e28, e38, e48⟩ := bd_L (h6 j8 y1 hj8 hb8) hk8
  refine ⟨_, _, _, _, _, _, _, c_X7_map19_HL l hlt dC dI s.heap.size a0 qb cq bq j y0 0 (-1) cap ru tb b0 cb bf x0 k0 w0 ck cw L f g nz ch j8 y1 1 (-1) lim8 bu8 x1 k8 w8 ck8 cw8 L8 f8 g8 nz8 ch8 p2 hj hb hO hj8 hb8 hO8 hl8, ⟨rfl, rfl, va_P.app h1 (va_P.app (hP) (hP8)), va_K.app h2 (va_K.app hK (hK8)), hN, hZ.narrow (fun q h9 => Or.inr h9)⟩, ⟨Nat.le_of_ble_eq_true rfl, Nat.le_of_ble_eq_true rfl, Nat.le_of_ble_eq_true rfl, Nat.le_of_ble_eq_true rfl⟩, Nat.le_of_ble_eq_true rfl, Nat.le_of_ble_eq_true rfl, ?_, ?_, fun q h9 => Or.inr h9⟩
  · intro oc t hq hW hz hn
    obtain ⟨⟨r, u, e, -, -⟩, hFr⟩ := hq
    exact ⟨⟨r, (ow, cr), e, trivial, aPost_same hI hW (F_ro hFr rfl) hz hn (Nat.le_of_ble_eq_true rfl) (Nat.le_of_ble_eq_true rfl)⟩, F_mono hFr (fun q h9 => Or.inr h9)⟩
  · intro E t hx hW hz hn
    obtain ⟨u, -, hE, hFr⟩ := hx
    exact ⟨(ow, cr), trivial, ⟨Or.inr (Or.inr (Or.inr (Or.inr (hE)))), aPost_same hI hW (F_ro hFr rfl) hz hn (Nat.le_of_ble_eq_true rfl) (Nat.le_of_ble_eq_true rfl)⟩, F_mono hFr (fun q h9 => Or.inr h9)⟩
set_option maxRecDepth 20000 in
set_option maxHeartbeats 1000000 in
theorem um19_HS (l : Launch) (hlt : l.stackTraces = false) (dC : Nat → ClassId) (dI : Nat → Nat → Nat) {a0 qb : Nat} {cq : ClassId} {bq : Nat → Option Nat} {ow rx cr : Nat → Nat} {a1 a4 a8 a11 : Nat → Int32} {s : State} {j : Nat} {y0 : Nat} {j8 : Nat} {y1 : Nat} {p2 : Int32} (hpre : aPre (dC, dI) a0 qb cq bq ow rx cr a1 a4 a8 a11 s.heap.size (hT s.heap) s) (hF : ∃ dep : Nat → Nat, rF a1 a8 dep ∧ ∀ o : Nat, o < 16 → dep o < 17) (hj : j < 16) (hb : bq j = some y0) (hk : (a1 j).toInt = 1) (hj8 : j8 < 16) (hb8 : bq j8 = some y1) (hk8 : (a1 j8).toInt = 3 ∨ (a1 j8).toInt = 4) : uSel l yX7_map wqX7_map ({ frames := 9, cells := 130, slots := 53000, locals := 400 }) 130 53000 (aA ow s.heap.size) (va_Ql (fun (_ : Int64) (_ : (Nat → Nat) × (Nat → Nat)) => True) (fun (u : (Nat → Nat) × (Nat → Nat)) (t : State) => aPost (dC, dI) a0 qb cq bq ow rx cr a1 a4 a8 a11 s.heap.size (hT s.heap) u t) (aA ow s.heap.size)) (vx_X (fun (_ : (Nat → Nat) × (Nat → Nat)) => True) (fun (E : String) (u : (Nat → Nat) × (Nat → Nat)) (t : State) => (E = "java/util/NoSuchElementException" ∨ E = "java/lang/ClassCastException" ∨ E = "java/lang/IllegalArgumentException" ∨ E = "java/lang/IllegalStateException" ∨ E = "java/lang/UnsupportedOperationException") ∧ aPost (dC, dI) a0 qb cq bq ow rx cr a1 a4 a8 a11 s.heap.size (hT s.heap) u t) (aA ow s.heap.size)) [.ref a0, .int (nI j), .int 19, .int p2, .int (nI j8)].toArray s := by
  obtain ⟨-, -, hI, hN, hZ⟩ := hpre
  obtain ⟨dep, hFd, hdp⟩ := hF
  obtain ⟨h1, h2, h3, h4, h5, h6, h7⟩ := id hI
  obtain ⟨cap, ru, tb, b0, cb, bf, x0, k0, w0, ck, cw, L, f, g, nz, ch, hP, hK, hO, hc, e1, e2, e3, e4, e5⟩ := bd_H (h6 j y0 hj hb) hk
  obtain ⟨kd8, wh8, tu8, lo8, hi8, hPs8, e18, ht8⟩ := bd_S (h6 j8 y1 hj8 hb8) hk8
  have hr8 := rt_3 hFd hj8 (hdp j8 hj8) hk8
  obtain ⟨x1, ex8⟩ : ∃ z, z = rx (rtN a1 a8 17 j8) := ⟨_, rfl⟩
  obtain ⟨k8, w8, ck8, cw8, L8, f8, g8, nz8, ch8, hPr8, hK8, hO8, e28, e38, e48⟩ := h7 _ hr8.1 hr8.2
  rw [← ex8] at hPs8 hPr8 e28
  refine ⟨_, _, _, _, _, _, _, c_X7_map19_HS l hlt dC dI s.heap.size a0 qb cq bq j y0 0 (-1) cap ru tb b0 cb bf x0 k0 w0 ck cw L f g nz ch j8 y1 kd8 wh8 (a4 (rtN a1 a8 17 j8)) tu8 lo8 hi8 x1 k8 w8 ck8 cw8 L8 f8 g8 nz8 ch8 p2 hj hb hO hj8 hb8 hO8 ht8.2.2.1 ht8.2.2.2.1, ⟨rfl, rfl, va_P.app h1 (va_P.app (hP) (va_P.app hPs8 hPr8)), va_K.app h2 (va_K.app hK (hK8)), hN, hZ.narrow (fun q h9 => Or.inr h9)⟩, ⟨Nat.le_of_ble_eq_true rfl, Nat.le_of_ble_eq_true rfl, Nat.le_of_ble_eq_true rfl, Nat.le_of_ble_eq_true rfl⟩, Nat.le_of_ble_eq_true rfl, Nat.le_of_ble_eq_true rfl, ?_, ?_, fun q h9 => Or.inr h9⟩
  · intro oc t hq hW hz hn
    obtain ⟨⟨r, u, e, -, -⟩, hFr⟩ := hq
    exact ⟨⟨r, (ow, cr), e, trivial, aPost_same hI hW (F_ro hFr rfl) hz hn (Nat.le_of_ble_eq_true rfl) (Nat.le_of_ble_eq_true rfl)⟩, F_mono hFr (fun q h9 => Or.inr h9)⟩
  · intro E t hx hW hz hn
    obtain ⟨u, -, hE, hFr⟩ := hx
    exact ⟨(ow, cr), trivial, ⟨Or.inr (Or.inr (Or.inr (Or.inr (hE)))), aPost_same hI hW (F_ro hFr rfl) hz hn (Nat.le_of_ble_eq_true rfl) (Nat.le_of_ble_eq_true rfl)⟩, F_mono hFr (fun q h9 => Or.inr h9)⟩
set_option maxRecDepth 20000 in
set_option maxHeartbeats 1000000 in
theorem um19_LH (l : Launch) (hlt : l.stackTraces = false) (dC : Nat → ClassId) (dI : Nat → Nat → Nat) {a0 qb : Nat} {cq : ClassId} {bq : Nat → Option Nat} {ow rx cr : Nat → Nat} {a1 a4 a8 a11 : Nat → Int32} {s : State} {j : Nat} {y0 : Nat} {j8 : Nat} {y1 : Nat} {p2 : Int32} (hpre : aPre (dC, dI) a0 qb cq bq ow rx cr a1 a4 a8 a11 s.heap.size (hT s.heap) s) (hF : ∃ dep : Nat → Nat, rF a1 a8 dep ∧ ∀ o : Nat, o < 16 → dep o < 17) (hj : j < 16) (hb : bq j = some y0) (hk : (a1 j).toInt = 2) (hj8 : j8 < 16) (hb8 : bq j8 = some y1) (hk8 : (a1 j8).toInt = 1) : uSel l yX7_map wqX7_map ({ frames := 9, cells := 130, slots := 53000, locals := 400 }) 130 53000 (aA ow s.heap.size) (va_Ql (fun (_ : Int64) (_ : (Nat → Nat) × (Nat → Nat)) => True) (fun (u : (Nat → Nat) × (Nat → Nat)) (t : State) => aPost (dC, dI) a0 qb cq bq ow rx cr a1 a4 a8 a11 s.heap.size (hT s.heap) u t) (aA ow s.heap.size)) (vx_X (fun (_ : (Nat → Nat) × (Nat → Nat)) => True) (fun (E : String) (u : (Nat → Nat) × (Nat → Nat)) (t : State) => (E = "java/util/NoSuchElementException" ∨ E = "java/lang/ClassCastException" ∨ E = "java/lang/IllegalArgumentException" ∨ E = "java/lang/IllegalStateException" ∨ E = "java/lang/UnsupportedOperationException") ∧ aPost (dC, dI) a0 qb cq bq ow rx cr a1 a4 a8 a11 s.heap.size (hT s.heap) u t) (aA ow s.heap.size)) [.ref a0, .int (nI j), .int 19, .int p2, .int (nI j8)].toArray s := by
  obtain ⟨-, -, hI, hN, hZ⟩ := hpre
  obtain ⟨dep, hFd, hdp⟩ := hF
  obtain ⟨h1, h2, h3, h4, h5, h6, h7⟩ := id hI
  obtain ⟨lim, bu, x0, k0, w0, ck, cw, L, f, g, nz, ch, hP, hK, hO, hl, e1, e2, e3, e4⟩ := bd_L (h6 j y0 hj hb) hk
  obtain ⟨cap8, ru8, tb8, b8, cb8, bf8, x1, k8, w8, ck8, cw8, L8, f8, g8, nz8, ch8, hP8, hK8, hO8, hc8, e18, e28, e38, e48, e58⟩ := bd_H (h6 j8 y1 hj8 hb8) hk8
  refine ⟨_, _, _, _, _, _, _, c_X7_map19_LH l hlt dC dI s.heap.size a0 qb cq bq j y0 1 (-1) lim bu x0 k0 w0 ck cw L f g nz ch j8 y1 0 (-1) cap8 ru8 tb8 b8 cb8 bf8 x1 k8 w8 ck8 cw8 L8 f8 g8 nz8 ch8 p2 hj hb hO hl hj8 hb8 hO8, ⟨rfl, rfl, va_P.app h1 (va_P.app (hP) (hP8)), va_K.app h2 (va_K.app hK (hK8)), hN, hZ.narrow (fun q h9 => Or.inr h9)⟩, ⟨Nat.le_of_ble_eq_true rfl, Nat.le_of_ble_eq_true rfl, Nat.le_of_ble_eq_true rfl, Nat.le_of_ble_eq_true rfl⟩, Nat.le_of_ble_eq_true rfl, Nat.le_of_ble_eq_true rfl, ?_, ?_, fun q h9 => Or.inr h9⟩
  · intro oc t hq hW hz hn
    obtain ⟨⟨r, u, e, -, -⟩, hFr⟩ := hq
    exact ⟨⟨r, (ow, cr), e, trivial, aPost_same hI hW (F_ro hFr rfl) hz hn (Nat.le_of_ble_eq_true rfl) (Nat.le_of_ble_eq_true rfl)⟩, F_mono hFr (fun q h9 => Or.inr h9)⟩
  · intro E t hx hW hz hn
    obtain ⟨u, -, hE, hFr⟩ := hx
    exact ⟨(ow, cr), trivial, ⟨Or.inr (Or.inr (Or.inr (Or.inr (hE)))), aPost_same hI hW (F_ro hFr rfl) hz hn (Nat.le_of_ble_eq_true rfl) (Nat.le_of_ble_eq_true rfl)⟩, F_mono hFr (fun q h9 => Or.inr h9)⟩
set_option maxRecDepth 20000 in
set_option maxHeartbeats 1000000 in
theorem um19_LL (l : Launch) (hlt : l.stackTraces = false) (dC : Nat → ClassId) (dI : Nat → Nat → Nat) {a0 qb : Nat} {cq : ClassId} {bq : Nat → Option Nat} {ow rx cr : Nat → Nat} {a1 a4 a8 a11 : Nat → Int32} {s : State} {j : Nat} {y0 : Nat} {j8 : Nat} {y1 : Nat} {p2 : Int32} (hpre : aPre (dC, dI) a0 qb cq bq ow rx cr a1 a4 a8 a11 s.heap.size (hT s.heap) s) (hF : ∃ dep : Nat → Nat, rF a1 a8 dep ∧ ∀ o : Nat, o < 16 → dep o < 17) (hj : j < 16) (hb : bq j = some y0) (hk : (a1 j).toInt = 2) (hj8 : j8 < 16) (hb8 : bq j8 = some y1) (hk8 : (a1 j8).toInt = 2) : uSel l yX7_map wqX7_map ({ frames := 9, cells := 130, slots := 53000, locals := 400 }) 130 53000 (aA ow s.heap.size) (va_Ql (fun (_ : Int64) (_ : (Nat → Nat) × (Nat → Nat)) => True) (fun (u : (Nat → Nat) × (Nat → Nat)) (t : State) => aPost (dC, dI) a0 qb cq bq ow rx cr a1 a4 a8 a11 s.heap.size (hT s.heap) u t) (aA ow s.heap.size)) (vx_X (fun (_ : (Nat → Nat) × (Nat → Nat)) => True) (fun (E : String) (u : (Nat → Nat) × (Nat → Nat)) (t : State) => (E = "java/util/NoSuchElementException" ∨ E = "java/lang/ClassCastException" ∨ E = "java/lang/IllegalArgumentException" ∨ E = "java/lang/IllegalStateException" ∨ E = "java/lang/UnsupportedOperationException") ∧ aPost (dC, dI) a0 qb cq bq ow rx cr a1 a4 a8 a11 s.heap.size (hT s.heap) u t) (aA ow s.heap.size)) [.ref a0, .int (nI j), .int 19, .int p2, .int (nI j8)].toArray s := by
  obtain ⟨-, -, hI, hN, hZ⟩ := hpre
  obtain ⟨dep, hFd, hdp⟩ := hF
  obtain ⟨h1, h2, h3, h4, h5, h6, h7⟩ := id hI
  obtain ⟨lim, bu, x0, k0, w0, ck, cw, L, f, g, nz, ch, hP, hK, hO, hl, e1, e2, e3, e4⟩ := bd_L (h6 j y0 hj hb) hk
  obtain ⟨lim8, bu8, x1, k8, w8, ck8, cw8, L8, f8, g8, nz8, ch8, hP8, hK8, hO8, hl8, e18, e28, e38, e48⟩ := bd_L (h6 j8 y1 hj8 hb8) hk8
  refine ⟨_, _, _, _, _, _, _, c_X7_map19_LL l hlt dC dI s.heap.size a0 qb cq bq j y0 1 (-1) lim bu x0 k0 w0 ck cw L f g nz ch j8 y1 1 (-1) lim8 bu8 x1 k8 w8 ck8 cw8 L8 f8 g8 nz8 ch8 p2 hj hb hO hl hj8 hb8 hO8 hl8, ⟨rfl, rfl, va_P.app h1 (va_P.app (hP) (hP8)), va_K.app h2 (va_K.app hK (hK8)), hN, hZ.narrow (fun q h9 => Or.inr h9)⟩, ⟨Nat.le_of_ble_eq_true rfl, Nat.le_of_ble_eq_true rfl, Nat.le_of_ble_eq_true rfl, Nat.le_of_ble_eq_true rfl⟩, Nat.le_of_ble_eq_true rfl, Nat.le_of_ble_eq_true rfl, ?_, ?_, fun q h9 => Or.inr h9⟩
  · intro oc t hq hW hz hn
    obtain ⟨⟨r, u, e, -, -⟩, hFr⟩ := hq
    exact ⟨⟨r, (ow, cr), e, trivial, aPost_same hI hW (F_ro hFr rfl) hz hn (Nat.le_of_ble_eq_true rfl) (Nat.le_of_ble_eq_true rfl)⟩, F_mono hFr (fun q h9 => Or.inr h9)⟩
  · intro E t hx hW hz hn
    obtain ⟨u, -, hE, hFr⟩ := hx
    exact ⟨(ow, cr), trivial, ⟨Or.inr (Or.inr (Or.inr (Or.inr (hE)))), aPost_same hI hW (F_ro hFr rfl) hz hn (Nat.le_of_ble_eq_true rfl) (Nat.le_of_ble_eq_true rfl)⟩, F_mono hFr (fun q h9 => Or.inr h9)⟩
set_option maxRecDepth 20000 in
set_option maxHeartbeats 1000000 in
theorem um19_LS (l : Launch) (hlt : l.stackTraces = false) (dC : Nat → ClassId) (dI : Nat → Nat → Nat) {a0 qb : Nat} {cq : ClassId} {bq : Nat → Option Nat} {ow rx cr : Nat → Nat} {a1 a4 a8 a11 : Nat → Int32} {s : State} {j : Nat} {y0 : Nat} {j8 : Nat} {y1 : Nat} {p2 : Int32} (hpre : aPre (dC, dI) a0 qb cq bq ow rx cr a1 a4 a8 a11 s.heap.size (hT s.heap) s) (hF : ∃ dep : Nat → Nat, rF a1 a8 dep ∧ ∀ o : Nat, o < 16 → dep o < 17) (hj : j < 16) (hb : bq j = some y0) (hk : (a1 j).toInt = 2) (hj8 : j8 < 16) (hb8 : bq j8 = some y1) (hk8 : (a1 j8).toInt = 3 ∨ (a1 j8).toInt = 4) : uSel l yX7_map wqX7_map ({ frames := 9, cells := 130, slots := 53000, locals := 400 }) 130 53000 (aA ow s.heap.size) (va_Ql (fun (_ : Int64) (_ : (Nat → Nat) × (Nat → Nat)) => True) (fun (u : (Nat → Nat) × (Nat → Nat)) (t : State) => aPost (dC, dI) a0 qb cq bq ow rx cr a1 a4 a8 a11 s.heap.size (hT s.heap) u t) (aA ow s.heap.size)) (vx_X (fun (_ : (Nat → Nat) × (Nat → Nat)) => True) (fun (E : String) (u : (Nat → Nat) × (Nat → Nat)) (t : State) => (E = "java/util/NoSuchElementException" ∨ E = "java/lang/ClassCastException" ∨ E = "java/lang/IllegalArgumentException" ∨ E = "java/lang/IllegalStateException" ∨ E = "java/lang/UnsupportedOperationException") ∧ aPost (dC, dI) a0 qb cq bq ow rx cr a1 a4 a8 a11 s.heap.size (hT s.heap) u t) (aA ow s.heap.size)) [.ref a0, .int (nI j), .int 19, .int p2, .int (nI j8)].toArray s := by
  obtain ⟨-, -, hI, hN, hZ⟩ := hpre
  obtain ⟨dep, hFd, hdp⟩ := hF
  obtain ⟨h1, h2, h3, h4, h5, h6, h7⟩ := id hI
  obtain ⟨lim, bu, x0, k0, w0, ck, cw, L, f, g, nz, ch, hP, hK, hO, hl, e1, e2, e3, e4⟩ := bd_L (h6 j y0 hj hb) hk
  obtain ⟨kd8, wh8, tu8, lo8, hi8, hPs8, e18, ht8⟩ := bd_S (h6 j8 y1 hj8 hb8) hk8
  have hr8 := rt_3 hFd hj8 (hdp j8 hj8) hk8
  obtain ⟨x1, ex8⟩ : ∃ z, z = rx (rtN a1 a8 17 j8) := ⟨_, rfl⟩
  obtain ⟨k8, w8, ck8, cw8, L8, f8, g8, nz8, ch8, hPr8, hK8, hO8, e28, e38, e48⟩ := h7 _ hr8.1 hr8.2
  rw [← ex8] at hPs8 hPr8 e28
  refine ⟨_, _, _, _, _, _, _, c_X7_map19_LS l hlt dC dI s.heap.size a0 qb cq bq j y0 1 (-1) lim bu x0 k0 w0 ck cw L f g nz ch j8 y1 kd8 wh8 (a4 (rtN a1 a8 17 j8)) tu8 lo8 hi8 x1 k8 w8 ck8 cw8 L8 f8 g8 nz8 ch8 p2 hj hb hO hl hj8 hb8 hO8 ht8.2.2.1 ht8.2.2.2.1, ⟨rfl, rfl, va_P.app h1 (va_P.app (hP) (va_P.app hPs8 hPr8)), va_K.app h2 (va_K.app hK (hK8)), hN, hZ.narrow (fun q h9 => Or.inr h9)⟩, ⟨Nat.le_of_ble_eq_true rfl, Nat.le_of_ble_eq_true rfl, Nat.le_of_ble_eq_true rfl, Nat.le_of_ble_eq_true rfl⟩, Nat.le_of_ble_eq_true rfl, Nat.le_of_ble_eq_true rfl, ?_, ?_, fun q h9 => Or.inr h9⟩
  · intro oc t hq hW hz hn
    obtain ⟨⟨r, u, e, -, -⟩, hFr⟩ := hq
    exact ⟨⟨r, (ow, cr), e, trivial, aPost_same hI hW (F_ro hFr rfl) hz hn (Nat.le_of_ble_eq_true rfl) (Nat.le_of_ble_eq_true rfl)⟩, F_mono hFr (fun q h9 => Or.inr h9)⟩
  · intro E t hx hW hz hn
    obtain ⟨u, -, hE, hFr⟩ := hx
    exact ⟨(ow, cr), trivial, ⟨Or.inr (Or.inr (Or.inr (Or.inr (hE)))), aPost_same hI hW (F_ro hFr rfl) hz hn (Nat.le_of_ble_eq_true rfl) (Nat.le_of_ble_eq_true rfl)⟩, F_mono hFr (fun q h9 => Or.inr h9)⟩
set_option maxRecDepth 20000 in
set_option maxHeartbeats 1000000 in
theorem um19_SH (l : Launch) (hlt : l.stackTraces = false) (dC : Nat → ClassId) (dI : Nat → Nat → Nat) {a0 qb : Nat} {cq : ClassId} {bq : Nat → Option Nat} {ow rx cr : Nat → Nat} {a1 a4 a8 a11 : Nat → Int32} {s : State} {j : Nat} {y0 : Nat} {j8 : Nat} {y1 : Nat} {p2 : Int32} (hpre : aPre (dC, dI) a0 qb cq bq ow rx cr a1 a4 a8 a11 s.heap.size (hT s.heap) s) (hF : ∃ dep : Nat → Nat, rF a1 a8 dep ∧ ∀ o : Nat, o < 16 → dep o < 17) (hj : j < 16) (hb : bq j = some y0) (hk : (a1 j).toInt = 3 ∨ (a1 j).toInt = 4) (hj8 : j8 < 16) (hb8 : bq j8 = some y1) (hk8 : (a1 j8).toInt = 1) : uSel l yX7_map wqX7_map ({ frames := 9, cells := 130, slots := 53000, locals := 400 }) 130 53000 (aA ow s.heap.size) (va_Ql (fun (_ : Int64) (_ : (Nat → Nat) × (Nat → Nat)) => True) (fun (u : (Nat → Nat) × (Nat → Nat)) (t : State) => aPost (dC, dI) a0 qb cq bq ow rx cr a1 a4 a8 a11 s.heap.size (hT s.heap) u t) (aA ow s.heap.size)) (vx_X (fun (_ : (Nat → Nat) × (Nat → Nat)) => True) (fun (E : String) (u : (Nat → Nat) × (Nat → Nat)) (t : State) => (E = "java/util/NoSuchElementException" ∨ E = "java/lang/ClassCastException" ∨ E = "java/lang/IllegalArgumentException" ∨ E = "java/lang/IllegalStateException" ∨ E = "java/lang/UnsupportedOperationException") ∧ aPost (dC, dI) a0 qb cq bq ow rx cr a1 a4 a8 a11 s.heap.size (hT s.heap) u t) (aA ow s.heap.size)) [.ref a0, .int (nI j), .int 19, .int p2, .int (nI j8)].toArray s := by
  obtain ⟨-, -, hI, hN, hZ⟩ := hpre
  obtain ⟨dep, hFd, hdp⟩ := hF
  obtain ⟨h1, h2, h3, h4, h5, h6, h7⟩ := id hI
  obtain ⟨kd, wh, tu, lo, hi, hPs, e1, ht⟩ := bd_S (h6 j y0 hj hb) hk
  have hr := rt_3 hFd hj (hdp j hj) hk
  obtain ⟨x0, ex⟩ : ∃ z, z = rx (rtN a1 a8 17 j) := ⟨_, rfl⟩
  obtain ⟨k0, w0, ck, cw, L, f, g, nz, ch, hPr, hK, hO, e2, e3, e4⟩ := h7 _ hr.1 hr.2
  rw [← ex] at hPs hPr e2
  obtain ⟨cap8, ru8, tb8, b8, cb8, bf8, x1, k8, w8, ck8, cw8, L8, f8, g8, nz8, ch8, hP8, hK8, hO8, hc8, e18, e28, e38, e48, e58⟩ := bd_H (h6 j8 y1 hj8 hb8) hk8
  refine ⟨_, _, _, _, _, _, _, c_X7_map19_SH l hlt dC dI s.heap.size a0 qb cq bq j y0 kd wh (a4 (rtN a1 a8 17 j)) tu lo hi x0 k0 w0 ck cw L f g nz ch j8 y1 0 (-1) cap8 ru8 tb8 b8 cb8 bf8 x1 k8 w8 ck8 cw8 L8 f8 g8 nz8 ch8 p2 hj hb hO ht.2.2.1 ht.2.2.2.1 hj8 hb8 hO8, ⟨rfl, rfl, va_P.app h1 (va_P.app (va_P.app hPs hPr) (hP8)), va_K.app h2 (va_K.app hK (hK8)), hN, hZ.narrow (fun q h9 => Or.inr h9)⟩, ⟨Nat.le_of_ble_eq_true rfl, Nat.le_of_ble_eq_true rfl, Nat.le_of_ble_eq_true rfl, Nat.le_of_ble_eq_true rfl⟩, Nat.le_of_ble_eq_true rfl, Nat.le_of_ble_eq_true rfl, ?_, ?_, fun q h9 => Or.inr h9⟩
  · intro oc t hq hW hz hn
    obtain ⟨⟨r, u, e, -, -⟩, hFr⟩ := hq
    exact ⟨⟨r, (ow, cr), e, trivial, aPost_same hI hW (F_ro hFr rfl) hz hn (Nat.le_of_ble_eq_true rfl) (Nat.le_of_ble_eq_true rfl)⟩, F_mono hFr (fun q h9 => Or.inr h9)⟩
  · intro E t hx hW hz hn
    obtain ⟨u, -, hE, hFr⟩ := hx
    exact ⟨(ow, cr), trivial, ⟨Or.inr (Or.inr (Or.inr (Or.inr (hE)))), aPost_same hI hW (F_ro hFr rfl) hz hn (Nat.le_of_ble_eq_true rfl) (Nat.le_of_ble_eq_true rfl)⟩, F_mono hFr (fun q h9 => Or.inr h9)⟩
set_option maxRecDepth 20000 in
set_option maxHeartbeats 1000000 in
theorem um19_SL (l : Launch) (hlt : l.stackTraces = false) (dC : Nat → ClassId) (dI : Nat → Nat → Nat) {a0 qb : Nat} {cq : ClassId} {bq : Nat → Option Nat} {ow rx cr : Nat → Nat} {a1 a4 a8 a11 : Nat → Int32} {s : State} {j : Nat} {y0 : Nat} {j8 : Nat} {y1 : Nat} {p2 : Int32} (hpre : aPre (dC, dI) a0 qb cq bq ow rx cr a1 a4 a8 a11 s.heap.size (hT s.heap) s) (hF : ∃ dep : Nat → Nat, rF a1 a8 dep ∧ ∀ o : Nat, o < 16 → dep o < 17) (hj : j < 16) (hb : bq j = some y0) (hk : (a1 j).toInt = 3 ∨ (a1 j).toInt = 4) (hj8 : j8 < 16) (hb8 : bq j8 = some y1) (hk8 : (a1 j8).toInt = 2) : uSel l yX7_map wqX7_map ({ frames := 9, cells := 130, slots := 53000, locals := 400 }) 130 53000 (aA ow s.heap.size) (va_Ql (fun (_ : Int64) (_ : (Nat → Nat) × (Nat → Nat)) => True) (fun (u : (Nat → Nat) × (Nat → Nat)) (t : State) => aPost (dC, dI) a0 qb cq bq ow rx cr a1 a4 a8 a11 s.heap.size (hT s.heap) u t) (aA ow s.heap.size)) (vx_X (fun (_ : (Nat → Nat) × (Nat → Nat)) => True) (fun (E : String) (u : (Nat → Nat) × (Nat → Nat)) (t : State) => (E = "java/util/NoSuchElementException" ∨ E = "java/lang/ClassCastException" ∨ E = "java/lang/IllegalArgumentException" ∨ E = "java/lang/IllegalStateException" ∨ E = "java/lang/UnsupportedOperationException") ∧ aPost (dC, dI) a0 qb cq bq ow rx cr a1 a4 a8 a11 s.heap.size (hT s.heap) u t) (aA ow s.heap.size)) [.ref a0, .int (nI j), .int 19, .int p2, .int (nI j8)].toArray s := by
  obtain ⟨-, -, hI, hN, hZ⟩ := hpre
  obtain ⟨dep, hFd, hdp⟩ := hF
  obtain ⟨h1, h2, h3, h4, h5, h6, h7⟩ := id hI
  obtain ⟨kd, wh, tu, lo, hi, hPs, e1, ht⟩ := bd_S (h6 j y0 hj hb) hk
  have hr := rt_3 hFd hj (hdp j hj) hk
  obtain ⟨x0, ex⟩ : ∃ z, z = rx (rtN a1 a8 17 j) := ⟨_, rfl⟩
  obtain ⟨k0, w0, ck, cw, L, f, g, nz, ch, hPr, hK, hO, e2, e3, e4⟩ := h7 _ hr.1 hr.2
  rw [← ex] at hPs hPr e2
  obtain ⟨lim8, bu8, x1, k8, w8, ck8, cw8, L8, f8, g8, nz8, ch8, hP8, hK8, hO8, hl8, e18, e28, e38, e48⟩ := bd_L (h6 j8 y1 hj8 hb8) hk8
  refine ⟨_, _, _, _, _, _, _, c_X7_map19_SL l hlt dC dI s.heap.size a0 qb cq bq j y0 kd wh (a4 (rtN a1 a8 17 j)) tu lo hi x0 k0 w0 ck cw L f g nz ch j8 y1 1 (-1) lim8 bu8 x1 k8 w8 ck8 cw8 L8 f8 g8 nz8 ch8 p2 hj hb hO ht.2.2.1 ht.2.2.2.1 hj8 hb8 hO8 hl8, ⟨rfl, rfl, va_P.app h1 (va_P.app (va_P.app hPs hPr) (hP8)), va_K.app h2 (va_K.app hK (hK8)), hN, hZ.narrow (fun q h9 => Or.inr h9)⟩, ⟨Nat.le_of_ble_eq_true rfl, Nat.le_of_ble_eq_true rfl, Nat.le_of_ble_eq_true rfl, Nat.le_of_ble_eq_true rfl⟩, Nat.le_of_ble_eq_true rfl, Nat.le_of_ble_eq_true rfl, ?_, ?_, fun q h9 => Or.inr h9⟩
  · intro oc t hq hW hz hn
    obtain ⟨⟨r, u, e, -, -⟩, hFr⟩ := hq
    exact ⟨⟨r, (ow, cr), e, trivial, aPost_same hI hW (F_ro hFr rfl) hz hn (Nat.le_of_ble_eq_true rfl) (Nat.le_of_ble_eq_true rfl)⟩, F_mono hFr (fun q h9 => Or.inr h9)⟩
  · intro E t hx hW hz hn
    obtain ⟨u, -, hE, hFr⟩ := hx
    exact ⟨(ow, cr), trivial, ⟨Or.inr (Or.inr (Or.inr (Or.inr (hE)))), aPost_same hI hW (F_ro hFr rfl) hz hn (Nat.le_of_ble_eq_true rfl) (Nat.le_of_ble_eq_true rfl)⟩, F_mono hFr (fun q h9 => Or.inr h9)⟩
set_option maxRecDepth 20000 in
set_option maxHeartbeats 1000000 in
theorem um19_SS (l : Launch) (hlt : l.stackTraces = false) (dC : Nat → ClassId) (dI : Nat → Nat → Nat) {a0 qb : Nat} {cq : ClassId} {bq : Nat → Option Nat} {ow rx cr : Nat → Nat} {a1 a4 a8 a11 : Nat → Int32} {s : State} {j : Nat} {y0 : Nat} {j8 : Nat} {y1 : Nat} {p2 : Int32} (hpre : aPre (dC, dI) a0 qb cq bq ow rx cr a1 a4 a8 a11 s.heap.size (hT s.heap) s) (hF : ∃ dep : Nat → Nat, rF a1 a8 dep ∧ ∀ o : Nat, o < 16 → dep o < 17) (hj : j < 16) (hb : bq j = some y0) (hk : (a1 j).toInt = 3 ∨ (a1 j).toInt = 4) (hj8 : j8 < 16) (hb8 : bq j8 = some y1) (hk8 : (a1 j8).toInt = 3 ∨ (a1 j8).toInt = 4) : uSel l yX7_map wqX7_map ({ frames := 9, cells := 130, slots := 53000, locals := 400 }) 130 53000 (aA ow s.heap.size) (va_Ql (fun (_ : Int64) (_ : (Nat → Nat) × (Nat → Nat)) => True) (fun (u : (Nat → Nat) × (Nat → Nat)) (t : State) => aPost (dC, dI) a0 qb cq bq ow rx cr a1 a4 a8 a11 s.heap.size (hT s.heap) u t) (aA ow s.heap.size)) (vx_X (fun (_ : (Nat → Nat) × (Nat → Nat)) => True) (fun (E : String) (u : (Nat → Nat) × (Nat → Nat)) (t : State) => (E = "java/util/NoSuchElementException" ∨ E = "java/lang/ClassCastException" ∨ E = "java/lang/IllegalArgumentException" ∨ E = "java/lang/IllegalStateException" ∨ E = "java/lang/UnsupportedOperationException") ∧ aPost (dC, dI) a0 qb cq bq ow rx cr a1 a4 a8 a11 s.heap.size (hT s.heap) u t) (aA ow s.heap.size)) [.ref a0, .int (nI j), .int 19, .int p2, .int (nI j8)].toArray s := by
  obtain ⟨-, -, hI, hN, hZ⟩ := hpre
  obtain ⟨dep, hFd, hdp⟩ := hF
  obtain ⟨h1, h2, h3, h4, h5, h6, h7⟩ := id hI
  obtain ⟨kd, wh, tu, lo, hi, hPs, e1, ht⟩ := bd_S (h6 j y0 hj hb) hk
  have hr := rt_3 hFd hj (hdp j hj) hk
  obtain ⟨x0, ex⟩ : ∃ z, z = rx (rtN a1 a8 17 j) := ⟨_, rfl⟩
  obtain ⟨k0, w0, ck, cw, L, f, g, nz, ch, hPr, hK, hO, e2, e3, e4⟩ := h7 _ hr.1 hr.2
  rw [← ex] at hPs hPr e2
  obtain ⟨kd8, wh8, tu8, lo8, hi8, hPs8, e18, ht8⟩ := bd_S (h6 j8 y1 hj8 hb8) hk8
  have hr8 := rt_3 hFd hj8 (hdp j8 hj8) hk8
  obtain ⟨x1, ex8⟩ : ∃ z, z = rx (rtN a1 a8 17 j8) := ⟨_, rfl⟩
  obtain ⟨k8, w8, ck8, cw8, L8, f8, g8, nz8, ch8, hPr8, hK8, hO8, e28, e38, e48⟩ := h7 _ hr8.1 hr8.2
  rw [← ex8] at hPs8 hPr8 e28
  refine ⟨_, _, _, _, _, _, _, c_X7_map19_SS l hlt dC dI s.heap.size a0 qb cq bq j y0 kd wh (a4 (rtN a1 a8 17 j)) tu lo hi x0 k0 w0 ck cw L f g nz ch j8 y1 kd8 wh8 (a4 (rtN a1 a8 17 j8)) tu8 lo8 hi8 x1 k8 w8 ck8 cw8 L8 f8 g8 nz8 ch8 p2 hj hb hO ht.2.2.1 ht.2.2.2.1 hj8 hb8 hO8 ht8.2.2.1 ht8.2.2.2.1, ⟨rfl, rfl, va_P.app h1 (va_P.app (va_P.app hPs hPr) (va_P.app hPs8 hPr8)), va_K.app h2 (va_K.app hK (hK8)), hN, hZ.narrow (fun q h9 => Or.inr h9)⟩, ⟨Nat.le_of_ble_eq_true rfl, Nat.le_of_ble_eq_true rfl, Nat.le_of_ble_eq_true rfl, Nat.le_of_ble_eq_true rfl⟩, Nat.le_of_ble_eq_true rfl, Nat.le_of_ble_eq_true rfl, ?_, ?_, fun q h9 => Or.inr h9⟩
  · intro oc t hq hW hz hn
    obtain ⟨⟨r, u, e, -, -⟩, hFr⟩ := hq
    exact ⟨⟨r, (ow, cr), e, trivial, aPost_same hI hW (F_ro hFr rfl) hz hn (Nat.le_of_ble_eq_true rfl) (Nat.le_of_ble_eq_true rfl)⟩, F_mono hFr (fun q h9 => Or.inr h9)⟩
  · intro E t hx hW hz hn
    obtain ⟨u, -, hE, hFr⟩ := hx
    exact ⟨(ow, cr), trivial, ⟨Or.inr (Or.inr (Or.inr (Or.inr (hE)))), aPost_same hI hW (F_ro hFr rfl) hz hn (Nat.le_of_ble_eq_true rfl) (Nat.le_of_ble_eq_true rfl)⟩, F_mono hFr (fun q h9 => Or.inr h9)⟩
