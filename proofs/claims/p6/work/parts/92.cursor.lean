set_option maxRecDepth 20000 in
theorem upd_C {D : va_G} {U : State} {H H1 : Heap} {a0 qb : Nat} {cq : ClassId} {bq : Nat → Option Nat} {ow rx cr cr1 : Nat → Nat} {a1 a4 a8 a11 : Nat → Int32} {jc : Nat} {j : Nat} {y0 : Nat} {z0 : Nat} {kdc : Int32} {nx : Int32} {ps : Int32} {se : Int32} {nx2 : Int32} {ps2 : Int32} {se2 : Int32} (hI : aI D U H a0 qb cq bq ow rx cr a1 a4 a8 a11) (hjc : jc < 16) (hbc : bq jc = some z0) (hkc : (a1 jc).toInt = 5) (e1c : ow z0 = 100 + jc) (hpc : j < 16 ∧ a8 jc = nI j ∧ bq j = some y0) (hF : ∀ q : Nat, q < H.size → ¬ va_A [(a0, .inr (7, [.ref qb])), (qb, .inl (cq, 16, .inr (.inr (.inr (.inr bq))))), (z0, .inr (2, [.int kdc, .int (nI j), .ref y0, .int nx, .int ps, .int se]))] H.size q → H1[q]? = H[q]?) (hP : va_P D vwCl [(a0, .inr (7, [.ref qb])), (qb, .inl (cq, 16, .inr (.inr (.inr (.inr bq))))), (z0, .inr (2, [.int kdc, .int (nI j), .ref y0, .int nx2, .int ps2, .int se2]))] H1) (hK : va_K D vwCl [(cq, .object "KeyAtlas$Body")] U) (hD : va_D (va_A [(a0, .inr (7, [.ref qb])), (qb, .inl (cq, 16, .inr (.inr (.inr (.inr bq))))), (z0, .inr (2, [.int kdc, .int (nI j), .ref y0, .int nx, .int ps, .int se]))] H.size) [(a0, .inr (7, [.ref qb])), (qb, .inl (cq, 16, .inr (.inr (.inr (.inr bq))))), (z0, .inr (2, [.int kdc, .int (nI j), .ref y0, .int nx2, .int ps2, .int se2]))]) (hcr : ∀ i : Nat, i ≠ jc → cr i ≤ cr1 i) : aI D U H1 a0 qb cq bq (ow) rx cr1 a1 a4 a8 a11 ∧ ∀ q : Nat, 0 < (ow) q → 0 < ow q ∨ H.size ≤ q := by
  have ha0 := hI.2.2.1
  have hq0 := hI.2.2.2.1
  have hw : ∀ q : Nat, (∀ x ∈ ([(a0, .inr (7, [.ref qb])), (qb, .inl (cq, 16, .inr (.inr (.inr (.inr bq))))), (z0, .inr (2, [.int kdc, .int (nI j), .ref y0, .int nx2, .int ps2, .int se2]))] : va_W), x.1 ≠ q) → ow q = ow q := fun q _ => rfl
  have hOc_ : ∀ q ∈ ([(a0, .inr (7, [.ref qb])), (qb, .inl (cq, 16, .inr (.inr (.inr (.inr bq))))), (z0, .inr (2, [.int kdc, .int (nI j), .ref y0, .int nx, .int ps, .int se]))] : va_W), (fun c => c = 1 ∨ c = 2 ∨ c = 100 + jc) (ow q.1) := List.forall_mem_cons.mpr ⟨(by show ow a0 = 1 ∨ ow a0 = 2 ∨ ow a0 = 100 + jc; omega), List.forall_mem_cons.mpr ⟨(by show ow qb = 1 ∨ ow qb = 2 ∨ ow qb = 100 + jc; omega), List.forall_mem_cons.mpr ⟨(by show ow z0 = 1 ∨ ow z0 = 2 ∨ ow z0 = 100 + jc; omega), fun _ h => absurd h List.not_mem_nil⟩⟩⟩
  have hOp_ : ∀ q ∈ ([(a0, .inr (7, [.ref qb])), (qb, .inl (cq, 16, .inr (.inr (.inr (.inr bq))))), (z0, .inr (2, [.int kdc, .int (nI j), .ref y0, .int nx, .int ps, .int se]))] : va_W), 0 < ow q.1 := List.forall_mem_cons.mpr ⟨(by show 0 < ow a0; omega), List.forall_mem_cons.mpr ⟨(by show 0 < ow qb; omega), List.forall_mem_cons.mpr ⟨(by show 0 < ow z0; omega), fun _ h => absurd h List.not_mem_nil⟩⟩⟩
  refine ⟨aI_upd (fun c => c = 1 ∨ c = 2 ∨ c = 100 + jc) hI (ag_call (Ch := fun c => c = 1 ∨ c = 2 ∨ c = 100 + jc) hOc_ hF hD hw) (hP.sub [0, 1] rfl) (ha0) (hq0) (fun i y hi9 hy hch => ?_) (fun r hr9 hk9 hch => ?_) (fun i hi9 hch hk9 => ?_) (fun r hr9 hk9 hch => ?_) (fun i hch => ?_), ow_pos hOp_ hD hw⟩
  ·
    have hch : 100 + i = 1 ∨ 100 + i = 2 ∨ 100 + i = 100 + jc := hch
    have hij : i = jc := by omega
    subst hij
    rw [hbc] at hy
    obtain rfl : z0 = y := Option.some.inj hy
    exact Or.inr (Or.inr (Or.inr ⟨hkc, _, _, kdc, nx2, ps2, se2, hpc.1, hpc.2.1, hpc.2.2, hP.sub [2] rfl, e1c⟩))
  ·
    have hch : 200 + r = 1 ∨ 200 + r = 2 ∨ 200 + r = 100 + jc := hch
    exfalso
    omega
  ·
    replace hch : ¬ (100 + i = 1 ∨ 100 + i = 2 ∨ 100 + i = 100 + jc) := hch
    show ¬ (200 + i = 1 ∨ 200 + i = 2 ∨ 200 + i = 100 + jc) ∧ ¬ (300 + i = 1 ∨ 300 + i = 2 ∨ 300 + i = 100 + jc) ∧ ¬ (400 + i = 1 ∨ 400 + i = 2 ∨ 400 + i = 100 + jc) ∧ ¬ (500 + i = 1 ∨ 500 + i = 2 ∨ 500 + i = 100 + jc)
    omega
  ·
    replace hch : ¬ (200 + r = 1 ∨ 200 + r = 2 ∨ 200 + r = 100 + jc) := hch
    show ¬ (300 + r = 1 ∨ 300 + r = 2 ∨ 300 + r = 100 + jc) ∧ ¬ (400 + r = 1 ∨ 400 + r = 2 ∨ 400 + r = 100 + jc)
    omega
  · exact hcr i (by
      replace hch : ¬ (100 + i = 1 ∨ 100 + i = 2 ∨ 100 + i = 100 + jc) := hch
      omega)
set_option maxRecDepth 20000 in
set_option maxHeartbeats 1000000 in
theorem ur_H (l : Launch) (hlt : l.stackTraces = false) (dC : Nat → ClassId) (dI : Nat → Nat → Nat) {a0 qb : Nat} {cq : ClassId} {bq : Nat → Option Nat} {ow rx cr : Nat → Nat} {a1 a4 a8 a11 : Nat → Int32} {s : State} {j : Nat} {y0 : Nat} (hpre : aPre (dC, dI) a0 qb cq bq ow rx cr a1 a4 a8 a11 s.heap.size (hT s.heap) s) (hF : ∃ dep : Nat → Nat, rF a1 a8 dep ∧ ∀ o : Nat, o < 16 → dep o < 17) (hj : j < 16) (hb : bq j = some y0) (hk : (a1 j).toInt = 1) : uSel l yX7_cursor wqX7_cursor ({ frames := 7, cells := 4, slots := 26, locals := 140 }) 4 26 (aA ow s.heap.size) (va_Qi (fun (r : Int32) (u : Nat × Nat × (Nat → Option Nat) × (Nat → Nat) × (Nat → Nat) × (Nat → Nat)) => r = nI u.2.1 ∧ cuR a1 (nI j) 0 u.1 u.2.1) (fun (u : Nat × Nat × (Nat → Option Nat) × (Nat → Nat) × (Nat → Nat) × (Nat → Nat)) (t : State) => aPostG (dC, dI) a0 qb cq ow cr s.heap.size (hT s.heap) u.2.2.1 u.2.2.2.1 u.2.2.2.2.1 u.2.2.2.2.2 (upd a1 u.2.1 5) a4 (upd (upd a8 u.2.1 (-1)) u.2.1 (nI u.1)) a11 t) (aA ow s.heap.size)) (vx_X (fun (_ : (Nat → Nat) × (Nat → Nat)) => True) (fun (E : String) (u : (Nat → Nat) × (Nat → Nat)) (t : State) => ((E = "java/util/NoSuchElementException" ∧ ∃ o xx : Nat, cuR a1 (nI j) 1 o xx) ∨ (E = "java/lang/ClassCastException" ∧ ∃ o xx : Nat, cuR a1 (nI j) 2 o xx) ∨ (E = "java/lang/IllegalStateException" ∧ ∃ o xx : Nat, cuR a1 (nI j) 3 o xx)) ∧ aPost (dC, dI) a0 qb cq bq ow rx cr a1 a4 a8 a11 s.heap.size (hT s.heap) u t) (aA ow s.heap.size)) [.ref a0, .int (nI j)].toArray s := by
  obtain ⟨-, -, hI, hN, hZ⟩ := hpre
  obtain ⟨dep, hFd, hdp⟩ := hF
  obtain ⟨h1, h2, h3, h4, h5, h6, h7⟩ := id hI
  obtain ⟨cap, ru, tb, b0, cb, bf, x0, k0, w0, ck, cw, L, f, g, nz, ch, hP, hK, hO, hc, e1, e2, e3, e4, e5⟩ := bd_H (h6 j y0 hj hb) hk
  have hPw : va_P (dC, dI) vwCl [(a0, .inr (7, [.ref qb])), (qb, .inl (cq, 16, .inr (.inr (.inr (.inr bq))))), (y0, .inr (3, [.ref x0, .int 0, .int (-1), .int (nI cap), .int ru, .int (nI tb), .ref b0])), (x0, .inr (5, [.ref k0, .ref w0, .int (nI nz), .int ch])), (k0, .inl (ck, L, .inl f)), (w0, .inl (cw, L, .inl g)), (b0, .inl (cb, tb, .inl bf))] s.heap := va_P.app h1 (hP)
  have hKw : va_K (dC, dI) vwCl [(cq, .object "KeyAtlas$Body"), (ck, .int), (cw, .int), (cb, .boolean)] s := va_K.app h2 (hK)
  have hDw : va_D (fun _ => True) [(a0, .inr (7, [.ref qb])), (qb, .inl (cq, 16, .inr (.inr (.inr (.inr bq))))), (y0, .inr (3, [.ref x0, .int 0, .int (-1), .int (nI cap), .int ru, .int (nI tb), .ref b0])), (x0, .inr (5, [.ref k0, .ref w0, .int (nI nz), .int ch])), (k0, .inl (ck, L, .inl f)), (w0, .inl (cw, L, .inl g)), (b0, .inl (cb, tb, .inl bf))] := D_nd (ow := ow) (by
    show ([ow a0, ow qb, ow y0, ow x0, ow k0, ow w0, ow b0] : List Nat).Nodup
    rw [h3, h4, e1, e2, e3, e4, e5]
    exact nd_c (List.forall_mem_cons.mpr ⟨(by omega), List.forall_mem_cons.mpr ⟨(by omega), List.forall_mem_cons.mpr ⟨(by omega), List.forall_mem_cons.mpr ⟨(by omega), List.forall_mem_cons.mpr ⟨(by omega), List.forall_mem_cons.mpr ⟨(by omega), fun _ h => absurd h List.not_mem_nil⟩⟩⟩⟩⟩⟩) (nd_c (List.forall_mem_cons.mpr ⟨(by omega), List.forall_mem_cons.mpr ⟨(by omega), List.forall_mem_cons.mpr ⟨(by omega), List.forall_mem_cons.mpr ⟨(by omega), List.forall_mem_cons.mpr ⟨(by omega), fun _ h => absurd h List.not_mem_nil⟩⟩⟩⟩⟩) (nd_c (List.forall_mem_cons.mpr ⟨(by omega), List.forall_mem_cons.mpr ⟨(by omega), List.forall_mem_cons.mpr ⟨(by omega), List.forall_mem_cons.mpr ⟨(by omega), fun _ h => absurd h List.not_mem_nil⟩⟩⟩⟩) (nd_c (List.forall_mem_cons.mpr ⟨(by omega), List.forall_mem_cons.mpr ⟨(by omega), List.forall_mem_cons.mpr ⟨(by omega), fun _ h => absurd h List.not_mem_nil⟩⟩⟩) (nd_c (List.forall_mem_cons.mpr ⟨(by omega), List.forall_mem_cons.mpr ⟨(by omega), fun _ h => absurd h List.not_mem_nil⟩⟩) (nd_c (List.forall_mem_cons.mpr ⟨(by omega), fun _ h => absurd h List.not_mem_nil⟩) (nd_c (fun _ h => absurd h List.not_mem_nil) (List.nodup_nil))))))))
  have hOp_ : ∀ q ∈ ([(a0, .inr (7, [.ref qb])), (qb, .inl (cq, 16, .inr (.inr (.inr (.inr bq))))), (y0, .inr (3, [.ref x0, .int 0, .int (-1), .int (nI cap), .int ru, .int (nI tb), .ref b0])), (x0, .inr (5, [.ref k0, .ref w0, .int (nI nz), .int ch])), (k0, .inl (ck, L, .inl f)), (w0, .inl (cw, L, .inl g)), (b0, .inl (cb, tb, .inl bf))] : va_W), 0 < ow q.1 := List.forall_mem_cons.mpr ⟨(by show 0 < ow a0; omega), List.forall_mem_cons.mpr ⟨(by show 0 < ow qb; omega), List.forall_mem_cons.mpr ⟨(by show 0 < ow y0; omega), List.forall_mem_cons.mpr ⟨(by show 0 < ow x0; omega), List.forall_mem_cons.mpr ⟨(by show 0 < ow k0; omega), List.forall_mem_cons.mpr ⟨(by show 0 < ow w0; omega), List.forall_mem_cons.mpr ⟨(by show 0 < ow b0; omega), fun _ h => absurd h List.not_mem_nil⟩⟩⟩⟩⟩⟩⟩
  refine ⟨_, _, _, _, _, _, _, c_X7_cursor_H l hlt dC dI s.heap.size a0 qb cq bq j y0 0 (-1) cap ru tb b0 cb bf x0 k0 w0 ck cw L f g nz ch hj hb hO, ⟨rfl, rfl, hPw, hKw, hDw, hN, hZ.narrow (A_sub hOp_)⟩, ⟨Nat.le_of_ble_eq_true rfl, Nat.le_of_ble_eq_true rfl, Nat.le_of_ble_eq_true rfl, Nat.le_of_ble_eq_true rfl⟩, Nat.le_of_ble_eq_true rfl, Nat.le_of_ble_eq_true rfl, ?_, ?_, A_sub hOp_⟩
  · intro oc t hq hW hz hn
    obtain ⟨⟨r, ⟨xx, yn⟩, e, ⟨hr9, hx, hbx, hlow⟩, hP9, hK9, hD9⟩, hFr⟩ := hq
    dsimp only at hr9 hx hbx hlow hP9 hK9 hD9
    have ha0 : (a1 xx).toInt = 0 := (h5 xx hx).mp hbx
    have hjx : j ≠ xx := fun z => by rw [← z, hb] at hbx; cases hbx
    have hR0 : cuR a1 (nI j) 0 j xx := Or.inr ⟨hj, rfl, by omega, Or.inr ⟨by omega, Or.inr ⟨rfl, hx, ha0, fun i hi z => hlow i hi ((h5 i (by omega)).mpr z)⟩⟩⟩
    have hU := updN_cuH (xx := xx) (cr1 := cr) (aI_moved hW.alike hI) hj hb hk e1 e2 e3 e4 e5 (fun q z1 z2 => hFr.2 q z1 z2) hP9 hK9 hD9 hO hc (fun _ _ => Nat.le_refl _)
    have hcu : cuI (dC, dI) t.heap (va_up bq xx (some yn)) (owU [(yn, 100 + xx)] ow) (upd (upd a8 xx (-1)) xx (nI j)) xx yn := ⟨j, y0, 4, 0, -1, _, hj, pk_us, by rw [va_up_ne _ _ hjx]; exact hb, hP9.sub [7] rfl, hU.2.2.2.2⟩
    have hA := aI_born (rx2 := rx) (b1 := upd a1 xx 5) (b4 := a4) (b8 := upd (upd a8 xx (-1)) xx (nI j)) (b11 := a11) hFd hx ha0 h5 rfl (fun i hi => pk_un hi) (fun _ _ => rfl) (fun i hi => un2 hi) (fun _ _ => rfl) (fun _ _ => rfl) hU.1.1 hU.1.2 (hP9.sub [0, 1] rfl) (hK9.sub [0] rfl) hU.2.2.1 hU.2.2.2.1 (by rw [pk_us]; decide) (Or.inr (Or.inr (Or.inr ⟨by rw [pk_us]; decide, hcu⟩))) (fun z => absurd z (by rw [pk_us]; decide))
    exact ⟨⟨r, (j, xx, _, _, rx, cr), e, ⟨hr9, hR0⟩, hA, hU.2.1, by show hT t.heap + sumN cr 16 ≤ _; omega, by omega⟩, F_mono hFr (A_sub hOp_)⟩
  · intro E t hx hW hz hn
    obtain ⟨u, -, ⟨⟨hE, h9⟩, hP9, hK9, hD9⟩, hFr⟩ := hx
    have hU := upd_H (cr1 := cr) (aI_moved hW.alike hI) hj hb hk e1 e2 e3 e4 e5 (fun q z1 z2 => hFr.2 q z1 z2) hP9 hK9 hD9 hO hc (fun _ _ => Nat.le_refl _)
    have hfu : (∀ j : Nat, j < 16 → ¬ bq j = none) → fullO a1 := fun h9 j hj z => h9 j hj ((h5 j hj).mpr z)
    exact ⟨(_, cr), trivial, ⟨Or.inr (Or.inr (⟨hE, j, 0, Or.inr ⟨hj, rfl, by omega, Or.inr ⟨by omega, Or.inl ⟨rfl, hfu h9⟩⟩⟩⟩)), hU.1, hU.2, by show hT t.heap + sumN cr 16 ≤ _; omega, by omega⟩, F_mono hFr (A_sub hOp_)⟩
set_option maxRecDepth 20000 in
set_option maxHeartbeats 1000000 in
theorem ur_L (l : Launch) (hlt : l.stackTraces = false) (dC : Nat → ClassId) (dI : Nat → Nat → Nat) {a0 qb : Nat} {cq : ClassId} {bq : Nat → Option Nat} {ow rx cr : Nat → Nat} {a1 a4 a8 a11 : Nat → Int32} {s : State} {j : Nat} {y0 : Nat} (hpre : aPre (dC, dI) a0 qb cq bq ow rx cr a1 a4 a8 a11 s.heap.size (hT s.heap) s) (hF : ∃ dep : Nat → Nat, rF a1 a8 dep ∧ ∀ o : Nat, o < 16 → dep o < 17) (hj : j < 16) (hb : bq j = some y0) (hk : (a1 j).toInt = 2) : uSel l yX7_cursor wqX7_cursor ({ frames := 7, cells := 4, slots := 26, locals := 140 }) 4 26 (aA ow s.heap.size) (va_Qi (fun (r : Int32) (u : Nat × Nat × (Nat → Option Nat) × (Nat → Nat) × (Nat → Nat) × (Nat → Nat)) => r = nI u.2.1 ∧ cuR a1 (nI j) 0 u.1 u.2.1) (fun (u : Nat × Nat × (Nat → Option Nat) × (Nat → Nat) × (Nat → Nat) × (Nat → Nat)) (t : State) => aPostG (dC, dI) a0 qb cq ow cr s.heap.size (hT s.heap) u.2.2.1 u.2.2.2.1 u.2.2.2.2.1 u.2.2.2.2.2 (upd a1 u.2.1 5) a4 (upd (upd a8 u.2.1 (-1)) u.2.1 (nI u.1)) a11 t) (aA ow s.heap.size)) (vx_X (fun (_ : (Nat → Nat) × (Nat → Nat)) => True) (fun (E : String) (u : (Nat → Nat) × (Nat → Nat)) (t : State) => ((E = "java/util/NoSuchElementException" ∧ ∃ o xx : Nat, cuR a1 (nI j) 1 o xx) ∨ (E = "java/lang/ClassCastException" ∧ ∃ o xx : Nat, cuR a1 (nI j) 2 o xx) ∨ (E = "java/lang/IllegalStateException" ∧ ∃ o xx : Nat, cuR a1 (nI j) 3 o xx)) ∧ aPost (dC, dI) a0 qb cq bq ow rx cr a1 a4 a8 a11 s.heap.size (hT s.heap) u t) (aA ow s.heap.size)) [.ref a0, .int (nI j)].toArray s := by
  obtain ⟨-, -, hI, hN, hZ⟩ := hpre
  obtain ⟨dep, hFd, hdp⟩ := hF
  obtain ⟨h1, h2, h3, h4, h5, h6, h7⟩ := id hI
  obtain ⟨lim, bu, x0, k0, w0, ck, cw, L, f, g, nz, ch, hP, hK, hO, hl, e1, e2, e3, e4⟩ := bd_L (h6 j y0 hj hb) hk
  have hPw : va_P (dC, dI) vwCl [(a0, .inr (7, [.ref qb])), (qb, .inl (cq, 16, .inr (.inr (.inr (.inr bq))))), (y0, .inr (4, [.ref x0, .int 1, .int (-1), .int (nI lim), .int bu])), (x0, .inr (5, [.ref k0, .ref w0, .int (nI nz), .int ch])), (k0, .inl (ck, L, .inl f)), (w0, .inl (cw, L, .inl g))] s.heap := va_P.app h1 (hP)
  have hKw : va_K (dC, dI) vwCl [(cq, .object "KeyAtlas$Body"), (ck, .int), (cw, .int)] s := va_K.app h2 (hK)
  have hDw : va_D (fun _ => True) [(a0, .inr (7, [.ref qb])), (qb, .inl (cq, 16, .inr (.inr (.inr (.inr bq))))), (y0, .inr (4, [.ref x0, .int 1, .int (-1), .int (nI lim), .int bu])), (x0, .inr (5, [.ref k0, .ref w0, .int (nI nz), .int ch])), (k0, .inl (ck, L, .inl f)), (w0, .inl (cw, L, .inl g))] := D_nd (ow := ow) (by
    show ([ow a0, ow qb, ow y0, ow x0, ow k0, ow w0] : List Nat).Nodup
    rw [h3, h4, e1, e2, e3, e4]
    exact nd_c (List.forall_mem_cons.mpr ⟨(by omega), List.forall_mem_cons.mpr ⟨(by omega), List.forall_mem_cons.mpr ⟨(by omega), List.forall_mem_cons.mpr ⟨(by omega), List.forall_mem_cons.mpr ⟨(by omega), fun _ h => absurd h List.not_mem_nil⟩⟩⟩⟩⟩) (nd_c (List.forall_mem_cons.mpr ⟨(by omega), List.forall_mem_cons.mpr ⟨(by omega), List.forall_mem_cons.mpr ⟨(by omega), List.forall_mem_cons.mpr ⟨(by omega), fun _ h => absurd h List.not_mem_nil⟩⟩⟩⟩) (nd_c (List.forall_mem_cons.mpr ⟨(by omega), List.forall_mem_cons.mpr ⟨(by omega), List.forall_mem_cons.mpr ⟨(by omega), fun _ h => absurd h List.not_mem_nil⟩⟩⟩) (nd_c (List.forall_mem_cons.mpr ⟨(by omega), List.forall_mem_cons.mpr ⟨(by omega), fun _ h => absurd h List.not_mem_nil⟩⟩) (nd_c (List.forall_mem_cons.mpr ⟨(by omega), fun _ h => absurd h List.not_mem_nil⟩) (nd_c (fun _ h => absurd h List.not_mem_nil) (List.nodup_nil)))))))
  have hOp_ : ∀ q ∈ ([(a0, .inr (7, [.ref qb])), (qb, .inl (cq, 16, .inr (.inr (.inr (.inr bq))))), (y0, .inr (4, [.ref x0, .int 1, .int (-1), .int (nI lim), .int bu])), (x0, .inr (5, [.ref k0, .ref w0, .int (nI nz), .int ch])), (k0, .inl (ck, L, .inl f)), (w0, .inl (cw, L, .inl g))] : va_W), 0 < ow q.1 := List.forall_mem_cons.mpr ⟨(by show 0 < ow a0; omega), List.forall_mem_cons.mpr ⟨(by show 0 < ow qb; omega), List.forall_mem_cons.mpr ⟨(by show 0 < ow y0; omega), List.forall_mem_cons.mpr ⟨(by show 0 < ow x0; omega), List.forall_mem_cons.mpr ⟨(by show 0 < ow k0; omega), List.forall_mem_cons.mpr ⟨(by show 0 < ow w0; omega), fun _ h => absurd h List.not_mem_nil⟩⟩⟩⟩⟩⟩
  refine ⟨_, _, _, _, _, _, _, c_X7_cursor_L l hlt dC dI s.heap.size a0 qb cq bq j y0 1 (-1) lim bu x0 k0 w0 ck cw L f g nz ch hj hb hO hl, ⟨rfl, rfl, hPw, hKw, hDw, hN, hZ.narrow (A_sub hOp_)⟩, ⟨Nat.le_of_ble_eq_true rfl, Nat.le_of_ble_eq_true rfl, Nat.le_of_ble_eq_true rfl, Nat.le_of_ble_eq_true rfl⟩, Nat.le_of_ble_eq_true rfl, Nat.le_of_ble_eq_true rfl, ?_, ?_, A_sub hOp_⟩
  · intro oc t hq hW hz hn
    obtain ⟨⟨r, ⟨xx, yn⟩, e, ⟨hr9, hx, hbx, hlow⟩, hP9, hK9, hD9⟩, hFr⟩ := hq
    dsimp only at hr9 hx hbx hlow hP9 hK9 hD9
    have ha0 : (a1 xx).toInt = 0 := (h5 xx hx).mp hbx
    have hjx : j ≠ xx := fun z => by rw [← z, hb] at hbx; cases hbx
    have hR0 : cuR a1 (nI j) 0 j xx := Or.inr ⟨hj, rfl, by omega, Or.inr ⟨by omega, Or.inr ⟨rfl, hx, ha0, fun i hi z => hlow i hi ((h5 i (by omega)).mpr z)⟩⟩⟩
    have hU := updN_cuL (xx := xx) (cr1 := cr) (aI_moved hW.alike hI) hj hb hk e1 e2 e3 e4 (fun q z1 z2 => hFr.2 q z1 z2) hP9 hK9 hD9 hO hl (fun _ _ => Nat.le_refl _)
    have hcu : cuI (dC, dI) t.heap (va_up bq xx (some yn)) (owU [(yn, 100 + xx)] ow) (upd (upd a8 xx (-1)) xx (nI j)) xx yn := ⟨j, y0, 4, 0, -1, _, hj, pk_us, by rw [va_up_ne _ _ hjx]; exact hb, hP9.sub [6] rfl, hU.2.2.2.2⟩
    have hA := aI_born (rx2 := rx) (b1 := upd a1 xx 5) (b4 := a4) (b8 := upd (upd a8 xx (-1)) xx (nI j)) (b11 := a11) hFd hx ha0 h5 rfl (fun i hi => pk_un hi) (fun _ _ => rfl) (fun i hi => un2 hi) (fun _ _ => rfl) (fun _ _ => rfl) hU.1.1 hU.1.2 (hP9.sub [0, 1] rfl) (hK9.sub [0] rfl) hU.2.2.1 hU.2.2.2.1 (by rw [pk_us]; decide) (Or.inr (Or.inr (Or.inr ⟨by rw [pk_us]; decide, hcu⟩))) (fun z => absurd z (by rw [pk_us]; decide))
    exact ⟨⟨r, (j, xx, _, _, rx, cr), e, ⟨hr9, hR0⟩, hA, hU.2.1, by show hT t.heap + sumN cr 16 ≤ _; omega, by omega⟩, F_mono hFr (A_sub hOp_)⟩
  · intro E t hx hW hz hn
    obtain ⟨u, -, ⟨⟨hE, h9⟩, hP9, hK9, hD9⟩, hFr⟩ := hx
    have hU := upd_L (cr1 := cr) (aI_moved hW.alike hI) hj hb hk e1 e2 e3 e4 (fun q z1 z2 => hFr.2 q z1 z2) hP9 hK9 hD9 hO hl (fun _ _ => Nat.le_refl _)
    have hfu : (∀ j : Nat, j < 16 → ¬ bq j = none) → fullO a1 := fun h9 j hj z => h9 j hj ((h5 j hj).mpr z)
    exact ⟨(_, cr), trivial, ⟨Or.inr (Or.inr (⟨hE, j, 0, Or.inr ⟨hj, rfl, by omega, Or.inr ⟨by omega, Or.inl ⟨rfl, hfu h9⟩⟩⟩⟩)), hU.1, hU.2, by show hT t.heap + sumN cr 16 ≤ _; omega, by omega⟩, F_mono hFr (A_sub hOp_)⟩
set_option maxRecDepth 20000 in
set_option maxHeartbeats 1000000 in
theorem ur_S (l : Launch) (hlt : l.stackTraces = false) (dC : Nat → ClassId) (dI : Nat → Nat → Nat) {a0 qb : Nat} {cq : ClassId} {bq : Nat → Option Nat} {ow rx cr : Nat → Nat} {a1 a4 a8 a11 : Nat → Int32} {s : State} {j : Nat} {y0 : Nat} (hpre : aPre (dC, dI) a0 qb cq bq ow rx cr a1 a4 a8 a11 s.heap.size (hT s.heap) s) (hF : ∃ dep : Nat → Nat, rF a1 a8 dep ∧ ∀ o : Nat, o < 16 → dep o < 17) (hj : j < 16) (hb : bq j = some y0) (hk : (a1 j).toInt = 3 ∨ (a1 j).toInt = 4) : uSel l yX7_cursor wqX7_cursor ({ frames := 7, cells := 4, slots := 26, locals := 140 }) 4 26 (aA ow s.heap.size) (va_Qi (fun (r : Int32) (u : Nat × Nat × (Nat → Option Nat) × (Nat → Nat) × (Nat → Nat) × (Nat → Nat)) => r = nI u.2.1 ∧ cuR a1 (nI j) 0 u.1 u.2.1) (fun (u : Nat × Nat × (Nat → Option Nat) × (Nat → Nat) × (Nat → Nat) × (Nat → Nat)) (t : State) => aPostG (dC, dI) a0 qb cq ow cr s.heap.size (hT s.heap) u.2.2.1 u.2.2.2.1 u.2.2.2.2.1 u.2.2.2.2.2 (upd a1 u.2.1 5) a4 (upd (upd a8 u.2.1 (-1)) u.2.1 (nI u.1)) a11 t) (aA ow s.heap.size)) (vx_X (fun (_ : (Nat → Nat) × (Nat → Nat)) => True) (fun (E : String) (u : (Nat → Nat) × (Nat → Nat)) (t : State) => ((E = "java/util/NoSuchElementException" ∧ ∃ o xx : Nat, cuR a1 (nI j) 1 o xx) ∨ (E = "java/lang/ClassCastException" ∧ ∃ o xx : Nat, cuR a1 (nI j) 2 o xx) ∨ (E = "java/lang/IllegalStateException" ∧ ∃ o xx : Nat, cuR a1 (nI j) 3 o xx)) ∧ aPost (dC, dI) a0 qb cq bq ow rx cr a1 a4 a8 a11 s.heap.size (hT s.heap) u t) (aA ow s.heap.size)) [.ref a0, .int (nI j)].toArray s := by
  obtain ⟨-, -, hI, hN, hZ⟩ := hpre
  obtain ⟨dep, hFd, hdp⟩ := hF
  obtain ⟨h1, h2, h3, h4, h5, h6, h7⟩ := id hI
  obtain ⟨kd, wh, tu, lo, hi, hPs, e1, ht⟩ := bd_S (h6 j y0 hj hb) hk
  have hr := rt_3 hFd hj (hdp j hj) hk
  obtain ⟨x0, ex⟩ : ∃ z, z = rx (rtN a1 a8 17 j) := ⟨_, rfl⟩
  obtain ⟨k0, w0, ck, cw, L, f, g, nz, ch, hPr, hK, hO, e2, e3, e4⟩ := h7 _ hr.1 hr.2
  rw [← ex] at hPs hPr e2
  have hRl := hr.1
  have hPw : va_P (dC, dI) vwCl [(a0, .inr (7, [.ref qb])), (qb, .inl (cq, 16, .inr (.inr (.inr (.inr bq))))), (y0, .inr (6, [.ref x0, .int kd, .int wh, .int (a4 (rtN a1 a8 17 j)), .int tu, .long lo, .long hi])), (x0, .inr (5, [.ref k0, .ref w0, .int (nI nz), .int ch])), (k0, .inl (ck, L, .inl f)), (w0, .inl (cw, L, .inl g))] s.heap := va_P.app h1 (va_P.app hPs hPr)
  have hKw : va_K (dC, dI) vwCl [(cq, .object "KeyAtlas$Body"), (ck, .int), (cw, .int)] s := va_K.app h2 (hK)
  have hDw : va_D (fun _ => True) [(a0, .inr (7, [.ref qb])), (qb, .inl (cq, 16, .inr (.inr (.inr (.inr bq))))), (y0, .inr (6, [.ref x0, .int kd, .int wh, .int (a4 (rtN a1 a8 17 j)), .int tu, .long lo, .long hi])), (x0, .inr (5, [.ref k0, .ref w0, .int (nI nz), .int ch])), (k0, .inl (ck, L, .inl f)), (w0, .inl (cw, L, .inl g))] := D_nd (ow := ow) (by
    show ([ow a0, ow qb, ow y0, ow x0, ow k0, ow w0] : List Nat).Nodup
    rw [h3, h4, e1, e2, e3, e4]
    exact nd_c (List.forall_mem_cons.mpr ⟨(by omega), List.forall_mem_cons.mpr ⟨(by omega), List.forall_mem_cons.mpr ⟨(by omega), List.forall_mem_cons.mpr ⟨(by omega), List.forall_mem_cons.mpr ⟨(by omega), fun _ h => absurd h List.not_mem_nil⟩⟩⟩⟩⟩) (nd_c (List.forall_mem_cons.mpr ⟨(by omega), List.forall_mem_cons.mpr ⟨(by omega), List.forall_mem_cons.mpr ⟨(by omega), List.forall_mem_cons.mpr ⟨(by omega), fun _ h => absurd h List.not_mem_nil⟩⟩⟩⟩) (nd_c (List.forall_mem_cons.mpr ⟨(by omega), List.forall_mem_cons.mpr ⟨(by omega), List.forall_mem_cons.mpr ⟨(by omega), fun _ h => absurd h List.not_mem_nil⟩⟩⟩) (nd_c (List.forall_mem_cons.mpr ⟨(by omega), List.forall_mem_cons.mpr ⟨(by omega), fun _ h => absurd h List.not_mem_nil⟩⟩) (nd_c (List.forall_mem_cons.mpr ⟨(by omega), fun _ h => absurd h List.not_mem_nil⟩) (nd_c (fun _ h => absurd h List.not_mem_nil) (List.nodup_nil)))))))
  have hOp_ : ∀ q ∈ ([(a0, .inr (7, [.ref qb])), (qb, .inl (cq, 16, .inr (.inr (.inr (.inr bq))))), (y0, .inr (6, [.ref x0, .int kd, .int wh, .int (a4 (rtN a1 a8 17 j)), .int tu, .long lo, .long hi])), (x0, .inr (5, [.ref k0, .ref w0, .int (nI nz), .int ch])), (k0, .inl (ck, L, .inl f)), (w0, .inl (cw, L, .inl g))] : va_W), 0 < ow q.1 := List.forall_mem_cons.mpr ⟨(by show 0 < ow a0; omega), List.forall_mem_cons.mpr ⟨(by show 0 < ow qb; omega), List.forall_mem_cons.mpr ⟨(by show 0 < ow y0; omega), List.forall_mem_cons.mpr ⟨(by show 0 < ow x0; omega), List.forall_mem_cons.mpr ⟨(by show 0 < ow k0; omega), List.forall_mem_cons.mpr ⟨(by show 0 < ow w0; omega), fun _ h => absurd h List.not_mem_nil⟩⟩⟩⟩⟩⟩
  refine ⟨_, _, _, _, _, _, _, c_X7_cursor_S l hlt dC dI s.heap.size a0 qb cq bq j y0 kd wh (a4 (rtN a1 a8 17 j)) tu lo hi x0 k0 w0 ck cw L f g nz ch hj hb hO ht.2.2.1 ht.2.2.2.1, ⟨rfl, rfl, hPw, hKw, hDw, hN, hZ.narrow (A_sub hOp_)⟩, ⟨Nat.le_of_ble_eq_true rfl, Nat.le_of_ble_eq_true rfl, Nat.le_of_ble_eq_true rfl, Nat.le_of_ble_eq_true rfl⟩, Nat.le_of_ble_eq_true rfl, Nat.le_of_ble_eq_true rfl, ?_, ?_, A_sub hOp_⟩
  · intro oc t hq hW hz hn
    obtain ⟨⟨r, ⟨xx, yn⟩, e, ⟨hr9, hx, hbx, hlow⟩, hP9, hK9, hD9⟩, hFr⟩ := hq
    dsimp only at hr9 hx hbx hlow hP9 hK9 hD9
    have ha0 : (a1 xx).toInt = 0 := (h5 xx hx).mp hbx
    have hjx : j ≠ xx := fun z => by rw [← z, hb] at hbx; cases hbx
    have hR0 : cuR a1 (nI j) 0 j xx := Or.inr ⟨hj, rfl, by omega, Or.inr ⟨by omega, Or.inr ⟨rfl, hx, ha0, fun i hi z => hlow i hi ((h5 i (by omega)).mpr z)⟩⟩⟩
    have hU := updN_cuS (xx := xx) (cr1 := cr) (aI_moved hW.alike hI) hj hb hk e1 e2 e3 e4 hr ex ht (fun q z1 z2 => hFr.2 q z1 z2) hP9 hK9 hD9 hO (fun _ _ => Nat.le_refl _)
    have hcu : cuI (dC, dI) t.heap (va_up bq xx (some yn)) (owU [(yn, 100 + xx)] ow) (upd (upd a8 xx (-1)) xx (nI j)) xx yn := ⟨j, y0, 4, 0, -1, _, hj, pk_us, by rw [va_up_ne _ _ hjx]; exact hb, hP9.sub [6] rfl, hU.2.2.2.2⟩
    have hA := aI_born (rx2 := rx) (b1 := upd a1 xx 5) (b4 := a4) (b8 := upd (upd a8 xx (-1)) xx (nI j)) (b11 := a11) hFd hx ha0 h5 rfl (fun i hi => pk_un hi) (fun _ _ => rfl) (fun i hi => un2 hi) (fun _ _ => rfl) (fun _ _ => rfl) hU.1.1 hU.1.2 (hP9.sub [0, 1] rfl) (hK9.sub [0] rfl) hU.2.2.1 hU.2.2.2.1 (by rw [pk_us]; decide) (Or.inr (Or.inr (Or.inr ⟨by rw [pk_us]; decide, hcu⟩))) (fun z => absurd z (by rw [pk_us]; decide))
    exact ⟨⟨r, (j, xx, _, _, rx, cr), e, ⟨hr9, hR0⟩, hA, hU.2.1, by show hT t.heap + sumN cr 16 ≤ _; omega, by omega⟩, F_mono hFr (A_sub hOp_)⟩
  · intro E t hx hW hz hn
    obtain ⟨u, -, ⟨⟨hE, h9⟩, hP9, hK9, hD9⟩, hFr⟩ := hx
    have hU := upd_S (cr1 := cr) (aI_moved hW.alike hI) hj hb hk e1 e2 e3 e4 hr ex ht (fun q z1 z2 => hFr.2 q z1 z2) hP9 hK9 hD9 hO (fun _ _ => Nat.le_refl _)
    have hfu : (∀ j : Nat, j < 16 → ¬ bq j = none) → fullO a1 := fun h9 j hj z => h9 j hj ((h5 j hj).mpr z)
    exact ⟨(_, cr), trivial, ⟨Or.inr (Or.inr (⟨hE, j, 0, Or.inr ⟨hj, rfl, by omega, Or.inr ⟨by omega, Or.inl ⟨rfl, hfu h9⟩⟩⟩⟩)), hU.1, hU.2, by show hT t.heap + sumN cr 16 ≤ _; omega, by omega⟩, F_mono hFr (A_sub hOp_)⟩
set_option maxRecDepth 20000 in
set_option maxHeartbeats 1000000 in
theorem ur_none (l : Launch) (hlt : l.stackTraces = false) (dC : Nat → ClassId) (dI : Nat → Nat → Nat) {a0 qb : Nat} {cq : ClassId} {bq : Nat → Option Nat} {ow rx cr : Nat → Nat} {a1 a4 a8 a11 : Nat → Int32} {s : State} {p0 : Int32} (hpre : aPre (dC, dI) a0 qb cq bq ow rx cr a1 a4 a8 a11 s.heap.size (hT s.heap) s) (hF : ∃ dep : Nat → Nat, rF a1 a8 dep ∧ ∀ o : Nat, o < 16 → dep o < 17) (hno : ∀ j : Nat, j < 16 → p0 = nI j → bq j = none) : uSel l yX7_cursor wqX7_cursor ({ frames := 7, cells := 4, slots := 26, locals := 140 }) 4 26 (aA ow s.heap.size) (va_Qi (fun (r : Int32) (u : Nat × Nat × (Nat → Option Nat) × (Nat → Nat) × (Nat → Nat) × (Nat → Nat)) => r = nI u.2.1 ∧ cuR a1 p0 0 u.1 u.2.1) (fun (u : Nat × Nat × (Nat → Option Nat) × (Nat → Nat) × (Nat → Nat) × (Nat → Nat)) (t : State) => aPostG (dC, dI) a0 qb cq ow cr s.heap.size (hT s.heap) u.2.2.1 u.2.2.2.1 u.2.2.2.2.1 u.2.2.2.2.2 (upd a1 u.2.1 5) a4 (upd (upd a8 u.2.1 (-1)) u.2.1 (nI u.1)) a11 t) (aA ow s.heap.size)) (vx_X (fun (_ : (Nat → Nat) × (Nat → Nat)) => True) (fun (E : String) (u : (Nat → Nat) × (Nat → Nat)) (t : State) => ((E = "java/util/NoSuchElementException" ∧ ∃ o xx : Nat, cuR a1 p0 1 o xx) ∨ (E = "java/lang/ClassCastException" ∧ ∃ o xx : Nat, cuR a1 p0 2 o xx) ∨ (E = "java/lang/IllegalStateException" ∧ ∃ o xx : Nat, cuR a1 p0 3 o xx)) ∧ aPost (dC, dI) a0 qb cq bq ow rx cr a1 a4 a8 a11 s.heap.size (hT s.heap) u t) (aA ow s.heap.size)) [.ref a0, .int p0].toArray s := by
  obtain ⟨-, -, hI, hN, hZ⟩ := hpre
  obtain ⟨dep, hFd, hdp⟩ := hF
  obtain ⟨h1, h2, h3, h4, h5, h6, h7⟩ := id hI
  have hDw : va_D (fun _ => True) [(a0, .inr (7, [.ref qb])), (qb, .inl (cq, 16, .inr (.inr (.inr (.inr bq)))))] := D_nd (ow := ow) (by
    show ([ow a0, ow qb] : List Nat).Nodup
    rw [h3, h4]
    exact nd_c (List.forall_mem_cons.mpr ⟨(by omega), fun _ h => absurd h List.not_mem_nil⟩) (nd_c (fun _ h => absurd h List.not_mem_nil) (List.nodup_nil)))
  have hOp_ : ∀ q ∈ ([(a0, .inr (7, [.ref qb])), (qb, .inl (cq, 16, .inr (.inr (.inr (.inr bq)))))] : va_W), 0 < ow q.1 := List.forall_mem_cons.mpr ⟨(by show 0 < ow a0; omega), List.forall_mem_cons.mpr ⟨(by show 0 < ow qb; omega), fun _ h => absurd h List.not_mem_nil⟩⟩
  refine ⟨_, _, _, _, _, _, _, c_X7_cursor_none l hlt dC dI s.heap.size a0 qb cq bq p0 hno, ⟨rfl, rfl, h1, h2, hDw, hN, hZ.narrow (A_sub hOp_)⟩, ⟨Nat.le_of_ble_eq_true rfl, Nat.le_of_ble_eq_true rfl, Nat.le_of_ble_eq_true rfl, Nat.le_of_ble_eq_true rfl⟩, Nat.le_of_ble_eq_true rfl, Nat.le_of_ble_eq_true rfl, ?_, ?_, A_sub hOp_⟩
  · intro oc t hq _ _ _
    obtain ⟨⟨r, u, e, hp, -⟩, -⟩ := hq
    exact hp.elim
  · intro E t hx hW hz hn
    obtain ⟨u, -, ⟨hE, hP9, hK9, hD9⟩, hFr⟩ := hx
    have hU := upd_0 (aI_moved hW.alike hI) (fun q z1 z2 => hFr.2 q z1 z2) hP9
    exact ⟨(ow, cr), trivial, ⟨Or.inl ⟨hE, 0, 0, Or.inl ⟨rfl, fun i hi e => (h5 i hi).mp (hno i hi e)⟩⟩, hU, fun q h9 => Or.inl h9, by show hT t.heap + sumN cr 16 ≤ _; omega, by omega⟩, F_mono hFr (A_sub hOp_)⟩
set_option maxRecDepth 20000 in
set_option maxHeartbeats 1000000 in
theorem ur_notC (l : Launch) (hlt : l.stackTraces = false) (dC : Nat → ClassId) (dI : Nat → Nat → Nat) {a0 qb : Nat} {cq : ClassId} {bq : Nat → Option Nat} {ow rx cr : Nat → Nat} {a1 a4 a8 a11 : Nat → Int32} {s : State} {jc : Nat} {z0 : Nat} (hpre : aPre (dC, dI) a0 qb cq bq ow rx cr a1 a4 a8 a11 s.heap.size (hT s.heap) s) (hF : ∃ dep : Nat → Nat, rF a1 a8 dep ∧ ∀ o : Nat, o < 16 → dep o < 17) (hjc : jc < 16) (hbc : bq jc = some z0) (hkc : (a1 jc).toInt = 5) : uSel l yX7_cursor wqX7_cursor ({ frames := 7, cells := 4, slots := 26, locals := 140 }) 4 26 (aA ow s.heap.size) (va_Qi (fun (r : Int32) (u : Nat × Nat × (Nat → Option Nat) × (Nat → Nat) × (Nat → Nat) × (Nat → Nat)) => r = nI u.2.1 ∧ cuR a1 (nI jc) 0 u.1 u.2.1) (fun (u : Nat × Nat × (Nat → Option Nat) × (Nat → Nat) × (Nat → Nat) × (Nat → Nat)) (t : State) => aPostG (dC, dI) a0 qb cq ow cr s.heap.size (hT s.heap) u.2.2.1 u.2.2.2.1 u.2.2.2.2.1 u.2.2.2.2.2 (upd a1 u.2.1 5) a4 (upd (upd a8 u.2.1 (-1)) u.2.1 (nI u.1)) a11 t) (aA ow s.heap.size)) (vx_X (fun (_ : (Nat → Nat) × (Nat → Nat)) => True) (fun (E : String) (u : (Nat → Nat) × (Nat → Nat)) (t : State) => ((E = "java/util/NoSuchElementException" ∧ ∃ o xx : Nat, cuR a1 (nI jc) 1 o xx) ∨ (E = "java/lang/ClassCastException" ∧ ∃ o xx : Nat, cuR a1 (nI jc) 2 o xx) ∨ (E = "java/lang/IllegalStateException" ∧ ∃ o xx : Nat, cuR a1 (nI jc) 3 o xx)) ∧ aPost (dC, dI) a0 qb cq bq ow rx cr a1 a4 a8 a11 s.heap.size (hT s.heap) u t) (aA ow s.heap.size)) [.ref a0, .int (nI jc)].toArray s := by
  obtain ⟨-, -, hI, hN, hZ⟩ := hpre
  obtain ⟨dep, hFd, hdp⟩ := hF
  obtain ⟨h1, h2, h3, h4, h5, h6, h7⟩ := id hI
  obtain ⟨j, y0, kdc, nx, ps, se, hj, ejp, hb, hPc, e1c⟩ := bd_C (h6 jc z0 hjc hbc) hkc
  have hPw : va_P (dC, dI) vwCl [(a0, .inr (7, [.ref qb])), (qb, .inl (cq, 16, .inr (.inr (.inr (.inr bq))))), (z0, .inr (2, [.int kdc, .int (nI j), .ref y0, .int nx, .int ps, .int se]))] s.heap := va_P.app h1 hPc
  have hDw : va_D (fun _ => True) [(a0, .inr (7, [.ref qb])), (qb, .inl (cq, 16, .inr (.inr (.inr (.inr bq))))), (z0, .inr (2, [.int kdc, .int (nI j), .ref y0, .int nx, .int ps, .int se]))] := D_nd (ow := ow) (by
    show ([ow a0, ow qb, ow z0] : List Nat).Nodup
    rw [h3, h4, e1c]
    exact nd_c (List.forall_mem_cons.mpr ⟨(by omega), List.forall_mem_cons.mpr ⟨(by omega), fun _ h => absurd h List.not_mem_nil⟩⟩) (nd_c (List.forall_mem_cons.mpr ⟨(by omega), fun _ h => absurd h List.not_mem_nil⟩) (nd_c (fun _ h => absurd h List.not_mem_nil) (List.nodup_nil))))
  have hOp_ : ∀ q ∈ ([(a0, .inr (7, [.ref qb])), (qb, .inl (cq, 16, .inr (.inr (.inr (.inr bq))))), (z0, .inr (2, [.int kdc, .int (nI j), .ref y0, .int nx, .int ps, .int se]))] : va_W), 0 < ow q.1 := List.forall_mem_cons.mpr ⟨(by show 0 < ow a0; omega), List.forall_mem_cons.mpr ⟨(by show 0 < ow qb; omega), List.forall_mem_cons.mpr ⟨(by show 0 < ow z0; omega), fun _ h => absurd h List.not_mem_nil⟩⟩⟩
  refine ⟨_, _, _, _, _, _, _, c_X7_cursor_notC l hlt dC dI s.heap.size a0 qb cq bq jc z0 [.int kdc, .int (nI j), .ref y0, .int nx, .int ps, .int se] hjc hbc, ⟨rfl, rfl, hPw, h2, hDw, hN, hZ.narrow (A_sub hOp_)⟩, ⟨Nat.le_of_ble_eq_true rfl, Nat.le_of_ble_eq_true rfl, Nat.le_of_ble_eq_true rfl, Nat.le_of_ble_eq_true rfl⟩, Nat.le_of_ble_eq_true rfl, Nat.le_of_ble_eq_true rfl, ?_, ?_, A_sub hOp_⟩
  · intro oc t hq _ _ _
    obtain ⟨⟨r, u, e, hp, -⟩, -⟩ := hq
    exact hp.elim
  · intro E t hx hW hz hn
    obtain ⟨u, -, ⟨hE, hP9, hK9, hD9⟩, hFr⟩ := hx
    have hU := upd_C (cr1 := cr) (aI_moved hW.alike hI) hjc hbc hkc e1c ⟨hj, ejp, hb⟩ (fun q z1 z2 => hFr.2 q z1 z2) hP9 hK9 hD9 (fun _ _ => Nat.le_refl _)
    exact ⟨(_, cr), trivial, ⟨Or.inr (Or.inl ⟨hE, jc, 0, Or.inr ⟨hjc, rfl, by omega, Or.inl ⟨rfl, by omega⟩⟩⟩), hU.1, hU.2, by show hT t.heap + sumN cr 16 ≤ _; omega, by omega⟩, F_mono hFr (A_sub hOp_)⟩
