set_option maxRecDepth 20000 in
set_option maxHeartbeats 1000000 in
theorem uw_S (l : Launch) (hlt : l.stackTraces = false) (dC : Nat → ClassId) (dI : Nat → Nat → Nat) {a0 qb : Nat} {cq : ClassId} {bq : Nat → Option Nat} {ow rx cr : Nat → Nat} {a1 a4 a8 a11 : Nat → Int32} {s : State} {j : Nat} {y0 : Nat} {p1 : Int32} {p2 : Int32} {p3 : Int32} (hpre : aPre (dC, dI) a0 qb cq bq ow rx cr a1 a4 a8 a11 s.heap.size (hT s.heap) s) (hF : ∃ dep : Nat → Nat, rF a1 a8 dep ∧ ∀ o : Nat, o < 16 → dep o < 17) (hj : j < 16) (hb : bq j = some y0) (hk : (a1 j).toInt = 3 ∨ (a1 j).toInt = 4) : uSel l yX7_view wqX7_view ({ frames := 7, cells := 4, slots := 26, locals := 180 }) 4 26 (aA ow s.heap.size) (va_Qi (fun (r : Int32) (u : Nat × Nat × (Nat → Option Nat) × (Nat → Nat) × (Nat → Nat) × (Nat → Nat)) => r = nI u.2.1 ∧ vwR a1 a4 a8 a11 (nI j) p1 p2 p3 0 u.1 u.2.1) (fun (u : Nat × Nat × (Nat → Option Nat) × (Nat → Nat) × (Nat → Nat) × (Nat → Nat)) (t : State) => aPostG (dC, dI) a0 qb cq ow cr s.heap.size (hT s.heap) u.2.2.1 u.2.2.2.1 u.2.2.2.2.1 u.2.2.2.2.2 (upd a1 u.2.1 4) a4 (upd (upd a8 u.2.1 (-1)) u.2.1 (nI u.1)) (upd a11 u.2.1 p1) t) (aA ow s.heap.size)) (vx_X (fun (_ : (Nat → Nat) × (Nat → Nat)) => True) (fun (E : String) (u : (Nat → Nat) × (Nat → Nat)) (t : State) => ((E = "java/util/NoSuchElementException" ∧ ∃ o xx : Nat, vwR a1 a4 a8 a11 (nI j) p1 p2 p3 1 o xx) ∨ (E = "java/lang/ClassCastException" ∧ ∃ o xx : Nat, vwR a1 a4 a8 a11 (nI j) p1 p2 p3 2 o xx) ∨ (E = "java/lang/IllegalArgumentException" ∧ ∃ o xx : Nat, vwR a1 a4 a8 a11 (nI j) p1 p2 p3 3 o xx) ∨ (E = "java/lang/IllegalStateException" ∧ ∃ o xx : Nat, vwR a1 a4 a8 a11 (nI j) p1 p2 p3 4 o xx)) ∧ aPost (dC, dI) a0 qb cq bq ow rx cr a1 a4 a8 a11 s.heap.size (hT s.heap) u t) (aA ow s.heap.size)) [.ref a0, .int (nI j), .int p1, .int p2, .int p3].toArray s := by
  obtain ⟨-, -, hI, hN, hZ⟩ := hpre
  obtain ⟨dep, hFd, hdp⟩ := hF
  obtain ⟨h1, h2, h3, h4, h5, h6, h7⟩ := id hI
  obtain ⟨kd, wh, tu, lo, hi, hPs, e1, ht⟩ := bd_S (h6 j y0 hj hb) hk
  have hr := rt_3 hFd hj (hdp j hj) hk
  obtain ⟨x0, ex⟩ : ∃ z, z = rx (rtN a1 a8 17 j) := ⟨_, rfl⟩
  obtain ⟨k0, w0, ck, cw, L, f, g, nz, ch, hPr, hK, hO, e2, e3, e4⟩ := h7 _ hr.1 hr.2
  rw [← ex] at hPs hPr e2
  have hRl := hr.1
  have hPw : va_P (dC, dI) vwCl [(a0, .inr (7, [.ref qb])), (qb, .inl (cq, 16, .inr (.inr (.inr (.inr bq))))), (y0, .inr (6, [.ref x0, .int kd, .int wh, .int (a4 (rtN a1 a8 17 j)), .int tu, .long lo, .long hi])), (x0, .inr (5, [.ref k0, .ref w0, .int (nI nz), .int ch])), (k0, .inl (ck, L, .inl f)), (w0, .inl (cw, L, .inl g))] s.heap := va_P.app h1 (va_P.app hPs hPr)
  have hKw : va_K (dC, dI) vwCl [(cq, .object "KeyAtlas$Body"), (ck, .int), (cw, .int)] s := va_K.app h2 (hK)
  have hDw : va_D (fun _ => True) [(a0, .inr (7, [.ref qb])), (qb, .inl (cq, 16, .inr (.inr (.inr (.inr bq))))), (y0, .inr (6, [.ref x0, .int kd, .int wh, .int (a4 (rtN a1 a8 17 j)), .int tu, .long lo, .long hi])), (x0, .inr (5, [.ref k0, .ref w0, .int (nI nz), .int ch])), (k0, .inl (ck, L, .inl f)), (w0, .inl (cw, L, .inl g))] := D_nd (ow := ow) (by
    show ([ow a0, ow qb, ow y0, ow x0, ow k0, ow w0] : List Nat).Nodup
    rw [h3, h4, e1, e2, e3, e4]
    exact nd_c (List.forall_mem_cons.mpr ⟨(by omega), List.forall_mem_cons.mpr ⟨(by omega), List.forall_mem_cons.mpr ⟨(by omega), List.forall_mem_cons.mpr ⟨(by omega), List.forall_mem_cons.mpr ⟨(by omega), fun _ h => absurd h List.not_mem_nil⟩⟩⟩⟩⟩) (nd_c (List.forall_mem_cons.mpr ⟨(by omega), List.forall_mem_cons.mpr ⟨(by omega), List.forall_mem_cons.mpr ⟨(by omega), List.forall_mem_cons.mpr ⟨(by omega), fun _ h => absurd h List.not_mem_nil⟩⟩⟩⟩) (nd_c (List.forall_mem_cons.mpr ⟨(by omega), List.forall_mem_cons.mpr ⟨(by omega), List.forall_mem_cons.mpr ⟨(by omega), fun _ h => absurd h List.not_mem_nil⟩⟩⟩) (nd_c (List.forall_mem_cons.mpr ⟨(by omega), List.forall_mem_cons.mpr ⟨(by omega), fun _ h => absurd h List.not_mem_nil⟩⟩) (nd_c (List.forall_mem_cons.mpr ⟨(by omega), fun _ h => absurd h List.not_mem_nil⟩) (nd_c (fun _ h => absurd h List.not_mem_nil) (List.nodup_nil)))))))
  have hOp_ : ∀ q ∈ ([(a0, .inr (7, [.ref qb])), (qb, .inl (cq, 16, .inr (.inr (.inr (.inr bq))))), (y0, .inr (6, [.ref x0, .int kd, .int wh, .int (a4 (rtN a1 a8 17 j)), .int tu, .long lo, .long hi])), (x0, .inr (5, [.ref k0, .ref w0, .int (nI nz), .int ch])), (k0, .inl (ck, L, .inl f)), (w0, .inl (cw, L, .inl g))] : va_W), 0 < ow q.1 := List.forall_mem_cons.mpr ⟨(by show 0 < ow a0; omega), List.forall_mem_cons.mpr ⟨(by show 0 < ow qb; omega), List.forall_mem_cons.mpr ⟨(by show 0 < ow y0; omega), List.forall_mem_cons.mpr ⟨(by show 0 < ow x0; omega), List.forall_mem_cons.mpr ⟨(by show 0 < ow k0; omega), List.forall_mem_cons.mpr ⟨(by show 0 < ow w0; omega), fun _ h => absurd h List.not_mem_nil⟩⟩⟩⟩⟩⟩
  refine ⟨_, _, _, _, _, _, _, c_X7_view_S l hlt dC dI s.heap.size a0 qb cq bq j y0 kd wh (a4 (rtN a1 a8 17 j)) tu lo hi x0 k0 w0 ck cw L f g nz ch p1 p2 p3 hj hb hO ht.2.2.1 ht.2.2.2.1 ht.1, ⟨rfl, rfl, hPw, hKw, hDw, hN, hZ.narrow (A_sub hOp_)⟩, ⟨Nat.le_of_ble_eq_true rfl, Nat.le_of_ble_eq_true rfl, Nat.le_of_ble_eq_true rfl, Nat.le_of_ble_eq_true rfl⟩, Nat.le_of_ble_eq_true rfl, Nat.le_of_ble_eq_true rfl, ?_, ?_, A_sub hOp_⟩
  · intro oc t hq hW hz hn
    obtain ⟨⟨r, ⟨xx, yn, tu2, lo2, hi2⟩, e, ⟨⟨hr9, hx, hbx, hlow⟩, hvb, hu0, hu4, hun⟩, hP9, hK9, hD9⟩, hFr⟩ := hq
    dsimp only at hr9 hx hbx hlow hvb hu0 hu4 hun hP9 hK9 hD9
    have ha0 : (a1 xx).toInt = 0 := (h5 xx hx).mp hbx
    have hvw : ¬ vwB a1 a4 a8 a11 j p1 p2 p3 := fun z => hvb ((vb_iff ht.2.1).mpr z)
    have hR0 : vwR a1 a4 a8 a11 (nI j) p1 p2 p3 0 j xx := Or.inr ⟨hj, rfl, by omega, Or.inr ⟨hk, Or.inr ⟨hvw, Or.inr ⟨rfl, hx, ha0, fun i hi z => hlow i hi ((h5 i (by omega)).mpr z)⟩⟩⟩⟩
    have hU := updN_vw (xx := xx) (cr1 := cr) (aI_moved hW.alike hI) hj hb hk e1 e2 e3 e4 hr ex ht (fun q z1 z2 => hFr.2 q z1 z2) hP9 hK9 hD9 hO (fun _ _ => Nat.le_refl _)
    obtain ⟨hrt, htn⟩ := new_part (b1 := upd a1 xx 4) (b8 := upd (upd a8 xx (-1)) xx (nI j)) (b11 := upd a11 xx p1) hFd hj ha0 (by omega) (fun i hi => pk_un hi) (fun i hi => un2 hi) (fun i hi => pk_un hi) (by rw [pk_us]; decide) pk_us
    have hst : stI (dC, dI) t.heap (owU [(yn, 100 + xx)] ow) rx (upd a1 xx 4) a4 (upd (upd a8 xx (-1)) xx (nI j)) (upd a11 xx p1) xx yn := by
      unfold stI
      rw [hrt, htn, ← ex]
      exact ⟨3, nI j, tu2, lo2, hi2, hP9.sub [6] rfl, hU.2.2.2.2, hu0, tn_iff ht.2.1 (by rw [pk_us]; exact hu4) (by rw [pk_us]; exact hun), ht.2.2.1, ht.2.2.2.1, by rw [if_pos (by rw [pk_us]; decide), pk_us]⟩
    have hA := aI_born (rx2 := rx) (b1 := upd a1 xx 4) (b4 := a4) (b8 := upd (upd a8 xx (-1)) xx (nI j)) (b11 := upd a11 xx p1) hFd hx ha0 h5 rfl (fun i hi => pk_un hi) (fun _ _ => rfl) (fun i hi => un2 hi) (fun i hi => pk_un hi) (fun _ _ => rfl) hU.1.1 hU.1.2 (hP9.sub [0, 1] rfl) (hK9.sub [0] rfl) hU.2.2.1 hU.2.2.2.1 (by rw [pk_us]; decide) (Or.inr (Or.inr (Or.inl ⟨Or.inr (by rw [pk_us]; decide), hst⟩))) (fun z => absurd z (by rw [pk_us]; decide))
    exact ⟨⟨r, (j, xx, _, _, rx, cr), e, ⟨hr9, hR0⟩, hA, hU.2.1, by show hT t.heap + sumN cr 16 ≤ _; omega, by omega⟩, F_mono hFr (A_sub hOp_)⟩
  · intro E t hx hW hz hn
    obtain ⟨u, -, ⟨hE, hP9, hK9, hD9⟩, hFr⟩ := hx
    have hU := upd_S (cr1 := cr) (aI_moved hW.alike hI) hj hb hk e1 e2 e3 e4 hr ex ht (fun q z1 z2 => hFr.2 q z1 z2) hP9 hK9 hD9 hO (fun _ _ => Nat.le_refl _)
    have hfu : (∀ j : Nat, j < 16 → ¬ bq j = none) → fullO a1 := fun h9 j hj z => h9 j hj ((h5 j hj).mpr z)
    refine ⟨(_, cr), trivial, ⟨?_, hU.1, hU.2, by show hT t.heap + sumN cr 16 ≤ _; omega, by omega⟩, F_mono hFr (A_sub hOp_)⟩
    rcases hE with ⟨hE, h9⟩ | ⟨hE, h9, h8⟩
    · exact Or.inr (Or.inr (Or.inl ⟨hE, j, 0, Or.inr ⟨hj, rfl, by omega, Or.inr ⟨hk, Or.inl ⟨rfl, (vb_iff ht.2.1).mp h9⟩⟩⟩⟩))
    · exact Or.inr (Or.inr (Or.inr (⟨hE, j, 0, Or.inr ⟨hj, rfl, by omega, Or.inr ⟨hk, Or.inr ⟨fun z => h9 ((vb_iff ht.2.1).mpr z), Or.inl ⟨rfl, hfu h8⟩⟩⟩⟩⟩)))
set_option maxRecDepth 20000 in
set_option maxHeartbeats 1000000 in
theorem uw_none (l : Launch) (hlt : l.stackTraces = false) (dC : Nat → ClassId) (dI : Nat → Nat → Nat) {a0 qb : Nat} {cq : ClassId} {bq : Nat → Option Nat} {ow rx cr : Nat → Nat} {a1 a4 a8 a11 : Nat → Int32} {s : State} {p0 : Int32} {p1 : Int32} {p2 : Int32} {p3 : Int32} (hpre : aPre (dC, dI) a0 qb cq bq ow rx cr a1 a4 a8 a11 s.heap.size (hT s.heap) s) (hF : ∃ dep : Nat → Nat, rF a1 a8 dep ∧ ∀ o : Nat, o < 16 → dep o < 17) (hno : ∀ j : Nat, j < 16 → p0 = nI j → bq j = none) : uSel l yX7_view wqX7_view ({ frames := 7, cells := 4, slots := 26, locals := 180 }) 4 26 (aA ow s.heap.size) (va_Qi (fun (r : Int32) (u : Nat × Nat × (Nat → Option Nat) × (Nat → Nat) × (Nat → Nat) × (Nat → Nat)) => r = nI u.2.1 ∧ vwR a1 a4 a8 a11 p0 p1 p2 p3 0 u.1 u.2.1) (fun (u : Nat × Nat × (Nat → Option Nat) × (Nat → Nat) × (Nat → Nat) × (Nat → Nat)) (t : State) => aPostG (dC, dI) a0 qb cq ow cr s.heap.size (hT s.heap) u.2.2.1 u.2.2.2.1 u.2.2.2.2.1 u.2.2.2.2.2 (upd a1 u.2.1 4) a4 (upd (upd a8 u.2.1 (-1)) u.2.1 (nI u.1)) (upd a11 u.2.1 p1) t) (aA ow s.heap.size)) (vx_X (fun (_ : (Nat → Nat) × (Nat → Nat)) => True) (fun (E : String) (u : (Nat → Nat) × (Nat → Nat)) (t : State) => ((E = "java/util/NoSuchElementException" ∧ ∃ o xx : Nat, vwR a1 a4 a8 a11 p0 p1 p2 p3 1 o xx) ∨ (E = "java/lang/ClassCastException" ∧ ∃ o xx : Nat, vwR a1 a4 a8 a11 p0 p1 p2 p3 2 o xx) ∨ (E = "java/lang/IllegalArgumentException" ∧ ∃ o xx : Nat, vwR a1 a4 a8 a11 p0 p1 p2 p3 3 o xx) ∨ (E = "java/lang/IllegalStateException" ∧ ∃ o xx : Nat, vwR a1 a4 a8 a11 p0 p1 p2 p3 4 o xx)) ∧ aPost (dC, dI) a0 qb cq bq ow rx cr a1 a4 a8 a11 s.heap.size (hT s.heap) u t) (aA ow s.heap.size)) [.ref a0, .int p0, .int p1, .int p2, .int p3].toArray s := by
  obtain ⟨-, -, hI, hN, hZ⟩ := hpre
  obtain ⟨dep, hFd, hdp⟩ := hF
  obtain ⟨h1, h2, h3, h4, h5, h6, h7⟩ := id hI
  refine ⟨_, _, _, _, _, _, _, c_X7_view_none l hlt dC dI s.heap.size a0 qb cq bq p0 p1 p2 p3 hno, ⟨rfl, rfl, h1, h2, hN, hZ.narrow (fun q h9 => Or.inr h9)⟩, ⟨Nat.le_of_ble_eq_true rfl, Nat.le_of_ble_eq_true rfl, Nat.le_of_ble_eq_true rfl, Nat.le_of_ble_eq_true rfl⟩, Nat.le_of_ble_eq_true rfl, Nat.le_of_ble_eq_true rfl, ?_, ?_, fun q h9 => Or.inr h9⟩
  · intro oc t hq _ _ _
    obtain ⟨⟨r, u, e, hp, -⟩, -⟩ := hq
    exact hp.elim
  · intro E t hx hW hz hn
    obtain ⟨u, -, hE, hFr⟩ := hx
    exact ⟨(ow, cr), trivial, ⟨Or.inl ⟨hE, 0, 0, Or.inl ⟨rfl, fun i hi e => (h5 i hi).mp (hno i hi e)⟩⟩, aPost_same hI hW (F_ro hFr rfl) hz hn (Nat.le_of_ble_eq_true rfl) (Nat.le_of_ble_eq_true rfl)⟩, F_mono hFr (fun q h9 => Or.inr h9)⟩
set_option maxRecDepth 20000 in
set_option maxHeartbeats 1000000 in
theorem uw_notH (l : Launch) (hlt : l.stackTraces = false) (dC : Nat → ClassId) (dI : Nat → Nat → Nat) {a0 qb : Nat} {cq : ClassId} {bq : Nat → Option Nat} {ow rx cr : Nat → Nat} {a1 a4 a8 a11 : Nat → Int32} {s : State} {j : Nat} {y0 : Nat} {p1 : Int32} {p2 : Int32} {p3 : Int32} (hpre : aPre (dC, dI) a0 qb cq bq ow rx cr a1 a4 a8 a11 s.heap.size (hT s.heap) s) (hF : ∃ dep : Nat → Nat, rF a1 a8 dep ∧ ∀ o : Nat, o < 16 → dep o < 17) (hj : j < 16) (hb : bq j = some y0) (hk : (a1 j).toInt = 1) : uSel l yX7_view wqX7_view ({ frames := 7, cells := 4, slots := 26, locals := 180 }) 4 26 (aA ow s.heap.size) (va_Qi (fun (r : Int32) (u : Nat × Nat × (Nat → Option Nat) × (Nat → Nat) × (Nat → Nat) × (Nat → Nat)) => r = nI u.2.1 ∧ vwR a1 a4 a8 a11 (nI j) p1 p2 p3 0 u.1 u.2.1) (fun (u : Nat × Nat × (Nat → Option Nat) × (Nat → Nat) × (Nat → Nat) × (Nat → Nat)) (t : State) => aPostG (dC, dI) a0 qb cq ow cr s.heap.size (hT s.heap) u.2.2.1 u.2.2.2.1 u.2.2.2.2.1 u.2.2.2.2.2 (upd a1 u.2.1 4) a4 (upd (upd a8 u.2.1 (-1)) u.2.1 (nI u.1)) (upd a11 u.2.1 p1) t) (aA ow s.heap.size)) (vx_X (fun (_ : (Nat → Nat) × (Nat → Nat)) => True) (fun (E : String) (u : (Nat → Nat) × (Nat → Nat)) (t : State) => ((E = "java/util/NoSuchElementException" ∧ ∃ o xx : Nat, vwR a1 a4 a8 a11 (nI j) p1 p2 p3 1 o xx) ∨ (E = "java/lang/ClassCastException" ∧ ∃ o xx : Nat, vwR a1 a4 a8 a11 (nI j) p1 p2 p3 2 o xx) ∨ (E = "java/lang/IllegalArgumentException" ∧ ∃ o xx : Nat, vwR a1 a4 a8 a11 (nI j) p1 p2 p3 3 o xx) ∨ (E = "java/lang/IllegalStateException" ∧ ∃ o xx : Nat, vwR a1 a4 a8 a11 (nI j) p1 p2 p3 4 o xx)) ∧ aPost (dC, dI) a0 qb cq bq ow rx cr a1 a4 a8 a11 s.heap.size (hT s.heap) u t) (aA ow s.heap.size)) [.ref a0, .int (nI j), .int p1, .int p2, .int p3].toArray s := by
  obtain ⟨-, -, hI, hN, hZ⟩ := hpre
  obtain ⟨dep, hFd, hdp⟩ := hF
  obtain ⟨h1, h2, h3, h4, h5, h6, h7⟩ := id hI
  obtain ⟨cap, ru, tb, b0, cb, bf, x0, k0, w0, ck, cw, L, f, g, nz, ch, hP, hK, hO, hc, e1, e2, e3, e4, e5⟩ := bd_H (h6 j y0 hj hb) hk
  refine ⟨_, _, _, _, _, _, _, c_X7_view_notH l hlt dC dI s.heap.size a0 qb cq bq j y0 ([.ref x0, .int 0, .int (-1), .int (nI cap), .int ru, .int (nI tb), .ref b0]) p1 p2 p3 hj hb, ⟨rfl, rfl, va_P.app h1 (hP.sub (ws' := [(y0, .inr (3, [.ref x0, .int 0, .int (-1), .int (nI cap), .int ru, .int (nI tb), .ref b0]))]) [0] rfl), h2, hN, hZ.narrow (fun q h9 => Or.inr h9)⟩, ⟨Nat.le_of_ble_eq_true rfl, Nat.le_of_ble_eq_true rfl, Nat.le_of_ble_eq_true rfl, Nat.le_of_ble_eq_true rfl⟩, Nat.le_of_ble_eq_true rfl, Nat.le_of_ble_eq_true rfl, ?_, ?_, fun q h9 => Or.inr h9⟩
  · intro oc t hq _ _ _
    obtain ⟨⟨r, u, e, hp, -⟩, -⟩ := hq
    exact hp.elim
  · intro E t hx hW hz hn
    obtain ⟨u, -, hE, hFr⟩ := hx
    exact ⟨(ow, cr), trivial, ⟨Or.inr (Or.inl ⟨hE, j, 0, Or.inr ⟨hj, rfl, by omega, Or.inl ⟨rfl, by omega, by omega⟩⟩⟩), aPost_same hI hW (F_ro hFr rfl) hz hn (Nat.le_of_ble_eq_true rfl) (Nat.le_of_ble_eq_true rfl)⟩, F_mono hFr (fun q h9 => Or.inr h9)⟩
set_option maxRecDepth 20000 in
set_option maxHeartbeats 1000000 in
theorem uw_notL (l : Launch) (hlt : l.stackTraces = false) (dC : Nat → ClassId) (dI : Nat → Nat → Nat) {a0 qb : Nat} {cq : ClassId} {bq : Nat → Option Nat} {ow rx cr : Nat → Nat} {a1 a4 a8 a11 : Nat → Int32} {s : State} {j : Nat} {y0 : Nat} {p1 : Int32} {p2 : Int32} {p3 : Int32} (hpre : aPre (dC, dI) a0 qb cq bq ow rx cr a1 a4 a8 a11 s.heap.size (hT s.heap) s) (hF : ∃ dep : Nat → Nat, rF a1 a8 dep ∧ ∀ o : Nat, o < 16 → dep o < 17) (hj : j < 16) (hb : bq j = some y0) (hk : (a1 j).toInt = 2) : uSel l yX7_view wqX7_view ({ frames := 7, cells := 4, slots := 26, locals := 180 }) 4 26 (aA ow s.heap.size) (va_Qi (fun (r : Int32) (u : Nat × Nat × (Nat → Option Nat) × (Nat → Nat) × (Nat → Nat) × (Nat → Nat)) => r = nI u.2.1 ∧ vwR a1 a4 a8 a11 (nI j) p1 p2 p3 0 u.1 u.2.1) (fun (u : Nat × Nat × (Nat → Option Nat) × (Nat → Nat) × (Nat → Nat) × (Nat → Nat)) (t : State) => aPostG (dC, dI) a0 qb cq ow cr s.heap.size (hT s.heap) u.2.2.1 u.2.2.2.1 u.2.2.2.2.1 u.2.2.2.2.2 (upd a1 u.2.1 4) a4 (upd (upd a8 u.2.1 (-1)) u.2.1 (nI u.1)) (upd a11 u.2.1 p1) t) (aA ow s.heap.size)) (vx_X (fun (_ : (Nat → Nat) × (Nat → Nat)) => True) (fun (E : String) (u : (Nat → Nat) × (Nat → Nat)) (t : State) => ((E = "java/util/NoSuchElementException" ∧ ∃ o xx : Nat, vwR a1 a4 a8 a11 (nI j) p1 p2 p3 1 o xx) ∨ (E = "java/lang/ClassCastException" ∧ ∃ o xx : Nat, vwR a1 a4 a8 a11 (nI j) p1 p2 p3 2 o xx) ∨ (E = "java/lang/IllegalArgumentException" ∧ ∃ o xx : Nat, vwR a1 a4 a8 a11 (nI j) p1 p2 p3 3 o xx) ∨ (E = "java/lang/IllegalStateException" ∧ ∃ o xx : Nat, vwR a1 a4 a8 a11 (nI j) p1 p2 p3 4 o xx)) ∧ aPost (dC, dI) a0 qb cq bq ow rx cr a1 a4 a8 a11 s.heap.size (hT s.heap) u t) (aA ow s.heap.size)) [.ref a0, .int (nI j), .int p1, .int p2, .int p3].toArray s := by
  obtain ⟨-, -, hI, hN, hZ⟩ := hpre
  obtain ⟨dep, hFd, hdp⟩ := hF
  obtain ⟨h1, h2, h3, h4, h5, h6, h7⟩ := id hI
  obtain ⟨lim, bu, x0, k0, w0, ck, cw, L, f, g, nz, ch, hP, hK, hO, hl, e1, e2, e3, e4⟩ := bd_L (h6 j y0 hj hb) hk
  refine ⟨_, _, _, _, _, _, _, c_X7_view_notL l hlt dC dI s.heap.size a0 qb cq bq j y0 ([.ref x0, .int 1, .int (-1), .int (nI lim), .int bu]) p1 p2 p3 hj hb, ⟨rfl, rfl, va_P.app h1 (hP.sub (ws' := [(y0, .inr (4, [.ref x0, .int 1, .int (-1), .int (nI lim), .int bu]))]) [0] rfl), h2, hN, hZ.narrow (fun q h9 => Or.inr h9)⟩, ⟨Nat.le_of_ble_eq_true rfl, Nat.le_of_ble_eq_true rfl, Nat.le_of_ble_eq_true rfl, Nat.le_of_ble_eq_true rfl⟩, Nat.le_of_ble_eq_true rfl, Nat.le_of_ble_eq_true rfl, ?_, ?_, fun q h9 => Or.inr h9⟩
  · intro oc t hq _ _ _
    obtain ⟨⟨r, u, e, hp, -⟩, -⟩ := hq
    exact hp.elim
  · intro E t hx hW hz hn
    obtain ⟨u, -, hE, hFr⟩ := hx
    exact ⟨(ow, cr), trivial, ⟨Or.inr (Or.inl ⟨hE, j, 0, Or.inr ⟨hj, rfl, by omega, Or.inl ⟨rfl, by omega, by omega⟩⟩⟩), aPost_same hI hW (F_ro hFr rfl) hz hn (Nat.le_of_ble_eq_true rfl) (Nat.le_of_ble_eq_true rfl)⟩, F_mono hFr (fun q h9 => Or.inr h9)⟩
set_option maxRecDepth 20000 in
set_option maxHeartbeats 1000000 in
theorem uw_notC (l : Launch) (hlt : l.stackTraces = false) (dC : Nat → ClassId) (dI : Nat → Nat → Nat) {a0 qb : Nat} {cq : ClassId} {bq : Nat → Option Nat} {ow rx cr : Nat → Nat} {a1 a4 a8 a11 : Nat → Int32} {s : State} {j : Nat} {y0 : Nat} {p1 : Int32} {p2 : Int32} {p3 : Int32} (hpre : aPre (dC, dI) a0 qb cq bq ow rx cr a1 a4 a8 a11 s.heap.size (hT s.heap) s) (hF : ∃ dep : Nat → Nat, rF a1 a8 dep ∧ ∀ o : Nat, o < 16 → dep o < 17) (hj : j < 16) (hb : bq j = some y0) (hk : (a1 j).toInt = 5) : uSel l yX7_view wqX7_view ({ frames := 7, cells := 4, slots := 26, locals := 180 }) 4 26 (aA ow s.heap.size) (va_Qi (fun (r : Int32) (u : Nat × Nat × (Nat → Option Nat) × (Nat → Nat) × (Nat → Nat) × (Nat → Nat)) => r = nI u.2.1 ∧ vwR a1 a4 a8 a11 (nI j) p1 p2 p3 0 u.1 u.2.1) (fun (u : Nat × Nat × (Nat → Option Nat) × (Nat → Nat) × (Nat → Nat) × (Nat → Nat)) (t : State) => aPostG (dC, dI) a0 qb cq ow cr s.heap.size (hT s.heap) u.2.2.1 u.2.2.2.1 u.2.2.2.2.1 u.2.2.2.2.2 (upd a1 u.2.1 4) a4 (upd (upd a8 u.2.1 (-1)) u.2.1 (nI u.1)) (upd a11 u.2.1 p1) t) (aA ow s.heap.size)) (vx_X (fun (_ : (Nat → Nat) × (Nat → Nat)) => True) (fun (E : String) (u : (Nat → Nat) × (Nat → Nat)) (t : State) => ((E = "java/util/NoSuchElementException" ∧ ∃ o xx : Nat, vwR a1 a4 a8 a11 (nI j) p1 p2 p3 1 o xx) ∨ (E = "java/lang/ClassCastException" ∧ ∃ o xx : Nat, vwR a1 a4 a8 a11 (nI j) p1 p2 p3 2 o xx) ∨ (E = "java/lang/IllegalArgumentException" ∧ ∃ o xx : Nat, vwR a1 a4 a8 a11 (nI j) p1 p2 p3 3 o xx) ∨ (E = "java/lang/IllegalStateException" ∧ ∃ o xx : Nat, vwR a1 a4 a8 a11 (nI j) p1 p2 p3 4 o xx)) ∧ aPost (dC, dI) a0 qb cq bq ow rx cr a1 a4 a8 a11 s.heap.size (hT s.heap) u t) (aA ow s.heap.size)) [.ref a0, .int (nI j), .int p1, .int p2, .int p3].toArray s := by
  obtain ⟨-, -, hI, hN, hZ⟩ := hpre
  obtain ⟨dep, hFd, hdp⟩ := hF
  obtain ⟨h1, h2, h3, h4, h5, h6, h7⟩ := id hI
  obtain ⟨p9, yk9, kdc, nx, ps, se, -, -, -, hPc, e1c⟩ := bd_C (h6 j y0 hj hb) hk
  refine ⟨_, _, _, _, _, _, _, c_X7_view_notC l hlt dC dI s.heap.size a0 qb cq bq j y0 ([.int kdc, .int (nI p9), .ref yk9, .int nx, .int ps, .int se]) p1 p2 p3 hj hb, ⟨rfl, rfl, va_P.app h1 (hPc), h2, hN, hZ.narrow (fun q h9 => Or.inr h9)⟩, ⟨Nat.le_of_ble_eq_true rfl, Nat.le_of_ble_eq_true rfl, Nat.le_of_ble_eq_true rfl, Nat.le_of_ble_eq_true rfl⟩, Nat.le_of_ble_eq_true rfl, Nat.le_of_ble_eq_true rfl, ?_, ?_, fun q h9 => Or.inr h9⟩
  · intro oc t hq _ _ _
    obtain ⟨⟨r, u, e, hp, -⟩, -⟩ := hq
    exact hp.elim
  · intro E t hx hW hz hn
    obtain ⟨u, -, hE, hFr⟩ := hx
    exact ⟨(ow, cr), trivial, ⟨Or.inr (Or.inl ⟨hE, j, 0, Or.inr ⟨hj, rfl, by omega, Or.inl ⟨rfl, by omega, by omega⟩⟩⟩), aPost_same hI hW (F_ro hFr rfl) hz hn (Nat.le_of_ble_eq_true rfl) (Nat.le_of_ble_eq_true rfl)⟩, F_mono hFr (fun q h9 => Or.inr h9)⟩
set_option maxRecDepth 20000 in
set_option maxHeartbeats 1000000 in
theorem ud_none (l : Launch) (hlt : l.stackTraces = false) (dC : Nat → ClassId) (dI : Nat → Nat → Nat) {a0 qb : Nat} {cq : ClassId} {bq : Nat → Option Nat} {ow rx cr : Nat → Nat} {a1 a4 a8 a11 : Nat → Int32} {s : State} {p0 : Int32} (hpre : aPre (dC, dI) a0 qb cq bq ow rx cr a1 a4 a8 a11 s.heap.size (hT s.heap) s) (hF : ∃ dep : Nat → Nat, rF a1 a8 dep ∧ ∀ o : Nat, o < 16 → dep o < 17) (hno : ∀ j : Nat, j < 16 → p0 = nI j → bq j = none) : uSel l yX7_drop wqX7_drop ({ frames := 7, cells := 2, slots := 22, locals := 140 }) 2 22 (aA ow s.heap.size) (va_Qi (fun (r : Int32) (u : Nat × (Nat → Option Nat)) => r = nI (1 + cntN (dgB a1 a8 u.1) 16) ∧ u.1 < 16 ∧ p0 = nI u.1 ∧ ¬ (a1 u.1).toInt = 0) (fun (u : Nat × (Nat → Option Nat)) (t : State) => ∀ b1 : Nat → Int32, (∀ j : Nat, j < 16 → b1 j = if j = u.1 ∨ dgB a1 a8 u.1 j = true then 0 else a1 j) → aPostG (dC, dI) a0 qb cq ow cr s.heap.size (hT s.heap) u.2 ow rx cr b1 a4 a8 a11 t) (aA ow s.heap.size)) (vx_X (fun (_ : (Nat → Nat) × (Nat → Nat)) => True) (fun (E : String) (u : (Nat → Nat) × (Nat → Nat)) (t : State) => (E = "java/util/NoSuchElementException" ∧ ∀ o : Nat, o < 16 → p0 = nI o → (a1 o).toInt = 0) ∧ aPost (dC, dI) a0 qb cq bq ow rx cr a1 a4 a8 a11 s.heap.size (hT s.heap) u t) (aA ow s.heap.size)) [.ref a0, .int p0].toArray s := by
  obtain ⟨-, -, hI, hN, hZ⟩ := hpre
  obtain ⟨dep, hFd, hdp⟩ := hF
  obtain ⟨h1, h2, h3, h4, h5, h6, h7⟩ := id hI
  refine ⟨_, _, _, _, _, _, _, c_X7_drop_none l hlt dC dI s.heap.size a0 qb cq bq p0 hno, ⟨rfl, rfl, h1, h2, hN, hZ.narrow (fun q h9 => Or.inr h9)⟩, ⟨Nat.le_of_ble_eq_true rfl, Nat.le_of_ble_eq_true rfl, Nat.le_of_ble_eq_true rfl, Nat.le_of_ble_eq_true rfl⟩, Nat.le_of_ble_eq_true rfl, Nat.le_of_ble_eq_true rfl, ?_, ?_, fun q h9 => Or.inr h9⟩
  · intro oc t hq _ _ _
    obtain ⟨⟨r, u, e, hp, -⟩, -⟩ := hq
    exact hp.elim
  · intro E t hx hW hz hn
    obtain ⟨u, -, hE, hFr⟩ := hx
    exact ⟨(ow, cr), trivial, ⟨⟨hE, fun i hi e => (h5 i hi).mp (hno i hi e)⟩, aPost_same hI hW (F_ro hFr rfl) hz hn (Nat.le_of_ble_eq_true rfl) (Nat.le_of_ble_eq_true rfl)⟩, F_mono hFr (fun q h9 => Or.inr h9)⟩
