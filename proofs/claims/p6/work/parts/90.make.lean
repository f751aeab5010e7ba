set_option maxRecDepth 20000 in
set_option maxHeartbeats 1000000 in
theorem uk_H (l : Launch) (hlt : l.stackTraces = false) (dC : Nat → ClassId) (dI : Nat → Nat → Nat) {a0 qb : Nat} {cq : ClassId} {bq : Nat → Option Nat} {ow rx cr : Nat → Nat} {a1 a4 a8 a11 : Nat → Int32} {s : State} {p1 : Int32} {p2 : Int32} (hpre : aPre (dC, dI) a0 qb cq bq ow rx cr a1 a4 a8 a11 s.heap.size (hT s.heap) s) (hF : ∃ dep : Nat → Nat, rF a1 a8 dep ∧ ∀ o : Nat, o < 16 → dep o < 17) : uSel l yX7_make wqX7_make ({ frames := 7, cells := 6, slots := 49, locals := 140 }) 6 49 (aA ow s.heap.size) (va_Qi (fun (r : Int32) (u : Nat × (Nat → Option Nat) × (Nat → Nat) × (Nat → Nat) × (Nat → Nat)) => r = nI u.1 ∧ mkR a1 0 p1 p2 0 u.1) (fun (u : Nat × (Nat → Option Nat) × (Nat → Nat) × (Nat → Nat) × (Nat → Nat)) (t : State) => aPostG (dC, dI) a0 qb cq ow cr s.heap.size (hT s.heap) u.2.1 u.2.2.1 u.2.2.2.1 u.2.2.2.2 (upd a1 u.1 (0 + 1)) (upd a4 u.1 p1) (upd a8 u.1 (-1)) a11 t) (aA ow s.heap.size)) (vx_X (fun (_ : (Nat → Nat) × (Nat → Nat)) => True) (fun (E : String) (u : (Nat → Nat) × (Nat → Nat)) (t : State) => ((E = "java/lang/IllegalArgumentException" ∧ mkR a1 0 p1 p2 1 0) ∨ (E = "java/lang/IllegalStateException" ∧ mkR a1 0 p1 p2 2 0) ∨ (E = "java/lang/NegativeArraySizeException" ∧ mkR a1 0 p1 p2 3 0)) ∧ aPost (dC, dI) a0 qb cq bq ow rx cr a1 a4 a8 a11 s.heap.size (hT s.heap) u t) (aA ow s.heap.size)) [.ref a0, .int 0, .int p1, .int p2].toArray s := by
  obtain ⟨-, -, hI, hN, hZ⟩ := hpre
  obtain ⟨dep, hFd, hdp⟩ := hF
  obtain ⟨h1, h2, h3, h4, h5, h6, h7⟩ := id hI
  have hDw : va_D (fun _ => True) [(a0, .inr (7, [.ref qb])), (qb, .inl (cq, 16, .inr (.inr (.inr (.inr bq)))))] := D_nd (ow := ow) (by
    show ([ow a0, ow qb] : List Nat).Nodup
    rw [h3, h4]
    exact nd_c (List.forall_mem_cons.mpr ⟨(by omega), fun _ h => absurd h List.not_mem_nil⟩) (nd_c (fun _ h => absurd h List.not_mem_nil) (List.nodup_nil)))
  have hOp_ : ∀ q ∈ ([(a0, .inr (7, [.ref qb])), (qb, .inl (cq, 16, .inr (.inr (.inr (.inr bq)))))] : va_W), 0 < ow q.1 := List.forall_mem_cons.mpr ⟨(by show 0 < ow a0; omega), List.forall_mem_cons.mpr ⟨(by show 0 < ow qb; omega), fun _ h => absurd h List.not_mem_nil⟩⟩
  refine ⟨_, _, _, _, _, _, _, c_X7_make_H l hlt dC dI s.heap.size a0 qb cq bq p1 p2, ⟨rfl, rfl, h1, h2, hDw, hN, hZ.narrow (A_sub hOp_)⟩, ⟨Nat.le_of_ble_eq_true rfl, Nat.le_of_ble_eq_true rfl, Nat.le_of_ble_eq_true rfl, Nat.le_of_ble_eq_true rfl⟩, Nat.le_of_ble_eq_true rfl, Nat.le_of_ble_eq_true rfl, ?_, ?_, A_sub hOp_⟩
  · intro oc t hq hW hz hn
    obtain ⟨⟨r, ⟨xx, yn, un⟩, e, ⟨hr, hx, hbx, hlow, hrg⟩, hP9, hK9, hD9⟩, hFr⟩ := hq
    dsimp only at hr hx hbx hlow hrg hP9 hK9 hD9
    have ha0 : (a1 xx).toInt = 0 := (h5 xx hx).mp hbx
    have hG : mkG 0 p1 p2 := (mk_gH (by unfold rgH at hrg; omega)).mpr hrg
    have hmk : mkR a1 0 p1 p2 0 xx := mk_one (by decide) (by decide) (by unfold rgH at hrg; omega) hG hx ha0 (fun j hj z => hlow j hj ((h5 j (by omega)).mpr z))
    obtain ⟨cap, hcap, ecap⟩ := nI_nat (x := p1) (n := 1001) (by unfold rgH at hrg; omega) (by unfold rgH at hrg; omega) (by omega)
    have hU := updN_mkH (xx := xx) (cr1 := (va_up cr xx (max (cr xx) 12500))) (aI_moved hW.alike hI) (fun q z1 z2 => hFr.2 q z1 z2) hP9 (hK9.sub [0] rfl) hD9 (fun i _ => by by_cases hix : i = xx; rw [hix, va_up_self]; exact Nat.le_max_left _ _; rw [va_up_ne _ _ hix]; exact Nat.le_refl _)
    have hP8 := hP9.sub [2, 3, 4, 5, 6] rfl
    rw [ecap] at hP8
    have hA := aI_born (rx2 := rx) (b1 := upd a1 xx (0 + 1)) (b4 := upd a4 xx p1) (b8 := upd a8 xx (-1)) (b11 := a11) hFd hx ha0 h5 rfl (fun j hj => pk_un hj) (fun j hj => pk_un hj) (fun j hj => pk_un hj) (fun _ _ => rfl) (fun _ _ => rfl) hU.1.1 hU.1.2 (hP9.sub [0, 1] rfl) (hK9.sub [0] rfl) hU.2.2.1 hU.2.2.2.1 (by rw [pk_us]; decide) (Or.inl ⟨by rw [pk_us]; decide, cap, p2, 0, _, _, _, _, _, _, _, _, 16, _, _, 0, 0, hP8, hK9.sub [1, 2, 3] rfl, hOK_0 (by omega), (by rw [va_up_self]; exact Nat.le_max_right _ _), hU.2.2.2.2.1, hU.2.2.2.2.2.1, hU.2.2.2.2.2.2.1, hU.2.2.2.2.2.2.2.1, hU.2.2.2.2.2.2.2.2⟩) (fun z => absurd z (by rw [pk_us]; decide))
    refine ⟨⟨r, (xx, _, _, rx, (va_up cr xx (max (cr xx) 12500))), e, ⟨hr, hmk⟩, hA, hU.2.1, ?_, by omega⟩, F_mono hFr (A_sub hOp_)⟩
    show hT t.heap + sumN (va_up cr xx (max (cr xx) 12500)) 16 ≤ _
    have g1 := sum_up (f := cr) (x := max (cr xx) 12500) hx
    omega
  · intro E t hx hW hz hn
    obtain ⟨u, -, ⟨hE, hP9, hK9, hD9⟩, hFr⟩ := hx
    have hU := upd_0 (aI_moved hW.alike hI) (fun q z1 z2 => hFr.2 q z1 z2) hP9
    refine ⟨(ow, cr), trivial, ⟨?_, hU, fun q h9 => Or.inl h9, by show hT t.heap + sumN cr 16 ≤ _; omega, by omega⟩, F_mono hFr (A_sub hOp_)⟩
    have hfu : (∀ j : Nat, j < 16 → ¬ bq j = none) → fullO a1 := fun h9 j hj z => h9 j hj ((h5 j hj).mpr z)
    rcases hE with ⟨hE, h9⟩ | ⟨hE, h8, h9⟩ | ⟨hE, h9, h8⟩
    · exact Or.inr (Or.inr ⟨hE, Or.inr ⟨by decide, by decide, Or.inl ⟨rfl, by decide, h9⟩⟩⟩)
    · exact Or.inl ⟨hE, mk_bad (by decide) (by decide) (by omega) (fun z => h9 ((mk_gH h8).mp z))⟩
    · have h7 : 0 ≤ p1.toInt := by unfold rgH at h9; omega
      exact Or.inr (Or.inl ⟨hE, mk_full (by decide) (by decide) (by omega) ((mk_gH h7).mpr h9) (hfu h8)⟩)
set_option maxRecDepth 20000 in
set_option maxHeartbeats 1000000 in
theorem uk_L (l : Launch) (hlt : l.stackTraces = false) (dC : Nat → ClassId) (dI : Nat → Nat → Nat) {a0 qb : Nat} {cq : ClassId} {bq : Nat → Option Nat} {ow rx cr : Nat → Nat} {a1 a4 a8 a11 : Nat → Int32} {s : State} {p1 : Int32} {p2 : Int32} (hpre : aPre (dC, dI) a0 qb cq bq ow rx cr a1 a4 a8 a11 s.heap.size (hT s.heap) s) (hF : ∃ dep : Nat → Nat, rF a1 a8 dep ∧ ∀ o : Nat, o < 16 → dep o < 17) : uSel l yX7_make wqX7_make ({ frames := 7, cells := 6, slots := 49, locals := 140 }) 6 49 (aA ow s.heap.size) (va_Qi (fun (r : Int32) (u : Nat × (Nat → Option Nat) × (Nat → Nat) × (Nat → Nat) × (Nat → Nat)) => r = nI u.1 ∧ mkR a1 1 p1 p2 0 u.1) (fun (u : Nat × (Nat → Option Nat) × (Nat → Nat) × (Nat → Nat) × (Nat → Nat)) (t : State) => aPostG (dC, dI) a0 qb cq ow cr s.heap.size (hT s.heap) u.2.1 u.2.2.1 u.2.2.2.1 u.2.2.2.2 (upd a1 u.1 (1 + 1)) (upd a4 u.1 p1) (upd a8 u.1 (-1)) a11 t) (aA ow s.heap.size)) (vx_X (fun (_ : (Nat → Nat) × (Nat → Nat)) => True) (fun (E : String) (u : (Nat → Nat) × (Nat → Nat)) (t : State) => ((E = "java/lang/IllegalArgumentException" ∧ mkR a1 1 p1 p2 1 0) ∨ (E = "java/lang/IllegalStateException" ∧ mkR a1 1 p1 p2 2 0) ∨ (E = "java/lang/NegativeArraySizeException" ∧ mkR a1 1 p1 p2 3 0)) ∧ aPost (dC, dI) a0 qb cq bq ow rx cr a1 a4 a8 a11 s.heap.size (hT s.heap) u t) (aA ow s.heap.size)) [.ref a0, .int 1, .int p1, .int p2].toArray s := by
  obtain ⟨-, -, hI, hN, hZ⟩ := hpre
  obtain ⟨dep, hFd, hdp⟩ := hF
  obtain ⟨h1, h2, h3, h4, h5, h6, h7⟩ := id hI
  have hDw : va_D (fun _ => True) [(a0, .inr (7, [.ref qb])), (qb, .inl (cq, 16, .inr (.inr (.inr (.inr bq)))))] := D_nd (ow := ow) (by
    show ([ow a0, ow qb] : List Nat).Nodup
    rw [h3, h4]
    exact nd_c (List.forall_mem_cons.mpr ⟨(by omega), fun _ h => absurd h List.not_mem_nil⟩) (nd_c (fun _ h => absurd h List.not_mem_nil) (List.nodup_nil)))
  have hOp_ : ∀ q ∈ ([(a0, .inr (7, [.ref qb])), (qb, .inl (cq, 16, .inr (.inr (.inr (.inr bq)))))] : va_W), 0 < ow q.1 := List.forall_mem_cons.mpr ⟨(by show 0 < ow a0; omega), List.forall_mem_cons.mpr ⟨(by show 0 < ow qb; omega), fun _ h => absurd h List.not_mem_nil⟩⟩
  refine ⟨_, _, _, _, _, _, _, c_X7_make_L l hlt dC dI s.heap.size a0 qb cq bq p1 p2, ⟨rfl, rfl, h1, h2, hDw, hN, hZ.narrow (A_sub hOp_)⟩, ⟨Nat.le_of_ble_eq_true rfl, Nat.le_of_ble_eq_true rfl, Nat.le_of_ble_eq_true rfl, Nat.le_of_ble_eq_true rfl⟩, Nat.le_of_ble_eq_true rfl, Nat.le_of_ble_eq_true rfl, ?_, ?_, A_sub hOp_⟩
  · intro oc t hq hW hz hn
    obtain ⟨⟨r, ⟨xx, yn, un⟩, e, ⟨hr, hx, hbx, hlow, hrg⟩, hP9, hK9, hD9⟩, hFr⟩ := hq
    dsimp only at hr hx hbx hlow hrg hP9 hK9 hD9
    have ha0 : (a1 xx).toInt = 0 := (h5 xx hx).mp hbx
    have hG : mkG 1 p1 p2 := mk_gL.mpr hrg
    have hmk : mkR a1 1 p1 p2 0 xx := mk_one (by decide) (by decide) (fun z => absurd z.1 (by decide)) hG hx ha0 (fun j hj z => hlow j hj ((h5 j (by omega)).mpr z))
    obtain ⟨cap, hcap, ecap⟩ := nI_nat (x := p1) (n := 1001) (by unfold rgL at hrg; omega) (by unfold rgL at hrg; omega) (by omega)
    have hU := updN_mkL (xx := xx) (cr1 := cr) (aI_moved hW.alike hI) (fun q z1 z2 => hFr.2 q z1 z2) hP9 (hK9.sub [0] rfl) hD9 (fun _ _ => Nat.le_refl _)
    have hP8 := hP9.sub [2, 3, 4, 5] rfl
    rw [ecap] at hP8
    have hA := aI_born (rx2 := rx) (b1 := upd a1 xx (1 + 1)) (b4 := upd a4 xx p1) (b8 := upd a8 xx (-1)) (b11 := a11) hFd hx ha0 h5 rfl (fun j hj => pk_un hj) (fun j hj => pk_un hj) (fun j hj => pk_un hj) (fun _ _ => rfl) (fun _ _ => rfl) hU.1.1 hU.1.2 (hP9.sub [0, 1] rfl) (hK9.sub [0] rfl) hU.2.2.1 hU.2.2.2.1 (by rw [pk_us]; decide) (Or.inr (Or.inl ⟨by rw [pk_us]; decide, cap, lbu p2, _, _, _, _, _, 16, _, _, 0, 0, hP8, hK9.sub [1, 2] rfl, rOK_0, by omega, hU.2.2.2.2.1, hU.2.2.2.2.2.1, hU.2.2.2.2.2.2.1, hU.2.2.2.2.2.2.2⟩)) (fun z => absurd z (by rw [pk_us]; decide))
    refine ⟨⟨r, (xx, _, _, rx, cr), e, ⟨hr, hmk⟩, hA, hU.2.1, ?_, by omega⟩, F_mono hFr (A_sub hOp_)⟩
    show hT t.heap + sumN cr 16 ≤ _
    omega
  · intro E t hx hW hz hn
    obtain ⟨u, -, ⟨hE, hP9, hK9, hD9⟩, hFr⟩ := hx
    have hU := upd_0 (aI_moved hW.alike hI) (fun q z1 z2 => hFr.2 q z1 z2) hP9
    refine ⟨(ow, cr), trivial, ⟨?_, hU, fun q h9 => Or.inl h9, by show hT t.heap + sumN cr 16 ≤ _; omega, by omega⟩, F_mono hFr (A_sub hOp_)⟩
    have hfu : (∀ j : Nat, j < 16 → ¬ bq j = none) → fullO a1 := fun h9 j hj z => h9 j hj ((h5 j hj).mpr z)
    rcases hE with ⟨hE, h9⟩ | ⟨hE, h9⟩ | ⟨hE, h9, h8⟩
    · exact h9.elim
    · exact Or.inl ⟨hE, mk_bad (by decide) (by decide) (fun z => absurd z.1 (by decide)) (fun z => h9 (mk_gL.mp z))⟩
    · exact Or.inr (Or.inl ⟨hE, mk_full (by decide) (by decide) (fun z => absurd z.1 (by decide)) (mk_gL.mpr h9) (hfu h8)⟩)
set_option maxRecDepth 20000 in
set_option maxHeartbeats 1000000 in
theorem uk_S (l : Launch) (hlt : l.stackTraces = false) (dC : Nat → ClassId) (dI : Nat → Nat → Nat) {a0 qb : Nat} {cq : ClassId} {bq : Nat → Option Nat} {ow rx cr : Nat → Nat} {a1 a4 a8 a11 : Nat → Int32} {s : State} {p1 : Int32} {p2 : Int32} (hpre : aPre (dC, dI) a0 qb cq bq ow rx cr a1 a4 a8 a11 s.heap.size (hT s.heap) s) (hF : ∃ dep : Nat → Nat, rF a1 a8 dep ∧ ∀ o : Nat, o < 16 → dep o < 17) : uSel l yX7_make wqX7_make ({ frames := 7, cells := 6, slots := 49, locals := 140 }) 6 49 (aA ow s.heap.size) (va_Qi (fun (r : Int32) (u : Nat × (Nat → Option Nat) × (Nat → Nat) × (Nat → Nat) × (Nat → Nat)) => r = nI u.1 ∧ mkR a1 2 p1 p2 0 u.1) (fun (u : Nat × (Nat → Option Nat) × (Nat → Nat) × (Nat → Nat) × (Nat → Nat)) (t : State) => aPostG (dC, dI) a0 qb cq ow cr s.heap.size (hT s.heap) u.2.1 u.2.2.1 u.2.2.2.1 u.2.2.2.2 (upd a1 u.1 (2 + 1)) (upd a4 u.1 p1) (upd a8 u.1 (-1)) a11 t) (aA ow s.heap.size)) (vx_X (fun (_ : (Nat → Nat) × (Nat → Nat)) => True) (fun (E : String) (u : (Nat → Nat) × (Nat → Nat)) (t : State) => ((E = "java/lang/IllegalArgumentException" ∧ mkR a1 2 p1 p2 1 0) ∨ (E = "java/lang/IllegalStateException" ∧ mkR a1 2 p1 p2 2 0) ∨ (E = "java/lang/NegativeArraySizeException" ∧ mkR a1 2 p1 p2 3 0)) ∧ aPost (dC, dI) a0 qb cq bq ow rx cr a1 a4 a8 a11 s.heap.size (hT s.heap) u t) (aA ow s.heap.size)) [.ref a0, .int 2, .int p1, .int p2].toArray s := by
  obtain ⟨-, -, hI, hN, hZ⟩ := hpre
  obtain ⟨dep, hFd, hdp⟩ := hF
  obtain ⟨h1, h2, h3, h4, h5, h6, h7⟩ := id hI
  have hDw : va_D (fun _ => True) [(a0, .inr (7, [.ref qb])), (qb, .inl (cq, 16, .inr (.inr (.inr (.inr bq)))))] := D_nd (ow := ow) (by
    show ([ow a0, ow qb] : List Nat).Nodup
    rw [h3, h4]
    exact nd_c (List.forall_mem_cons.mpr ⟨(by omega), fun _ h => absurd h List.not_mem_nil⟩) (nd_c (fun _ h => absurd h List.not_mem_nil) (List.nodup_nil)))
  have hOp_ : ∀ q ∈ ([(a0, .inr (7, [.ref qb])), (qb, .inl (cq, 16, .inr (.inr (.inr (.inr bq)))))] : va_W), 0 < ow q.1 := List.forall_mem_cons.mpr ⟨(by show 0 < ow a0; omega), List.forall_mem_cons.mpr ⟨(by show 0 < ow qb; omega), fun _ h => absurd h List.not_mem_nil⟩⟩
  refine ⟨_, _, _, _, _, _, _, c_X7_make_S l hlt dC dI s.heap.size a0 qb cq bq p1 p2, ⟨rfl, rfl, h1, h2, hDw, hN, hZ.narrow (A_sub hOp_)⟩, ⟨Nat.le_of_ble_eq_true rfl, Nat.le_of_ble_eq_true rfl, Nat.le_of_ble_eq_true rfl, Nat.le_of_ble_eq_true rfl⟩, Nat.le_of_ble_eq_true rfl, Nat.le_of_ble_eq_true rfl, ?_, ?_, A_sub hOp_⟩
  · intro oc t hq hW hz hn
    obtain ⟨⟨r, ⟨xx, yn, un⟩, e, ⟨hr, hx, hbx, hlow, hrg⟩, hP9, hK9, hD9⟩, hFr⟩ := hq
    dsimp only at hr hx hbx hlow hrg hP9 hK9 hD9
    have ha0 : (a1 xx).toInt = 0 := (h5 xx hx).mp hbx
    have hG : mkG 2 p1 p2 := mk_gS.mpr hrg
    have hmk : mkR a1 2 p1 p2 0 xx := mk_one (by decide) (by decide) (fun z => absurd z.1 (by decide)) hG hx ha0 (fun j hj z => hlow j hj ((h5 j (by omega)).mpr z))
    have hU := updN_mkS (xx := xx) (cr1 := cr) (aI_moved hW.alike hI) (fun q z1 z2 => hFr.2 q z1 z2) hP9 (hK9.sub [0] rfl) hD9 (fun _ _ => Nat.le_refl _)
    have h3x : (upd a1 xx (2 + 1) xx).toInt = 3 := by rw [pk_us]; decide
    have hrt : rtN (upd a1 xx (2 + 1)) (upd a8 xx (-1)) 17 xx = xx := rtN_top (n := 16) (by rw [h3x]; decide)
    have htn : tnN (upd a1 xx (2 + 1)) (upd a8 xx (-1)) a11 17 xx false = false := tnN_top (n := 16) (by rw [h3x]; decide)
    have hst : stI (dC, dI) t.heap (owU [(yn, 100 + xx), (un.1, 200 + xx), (un.2.1, 300 + xx), (un.2.2.1, 400 + xx)] ow) (va_up rx xx un.1) (upd a1 xx (2 + 1)) (upd a4 xx p1) (upd a8 xx (-1)) a11 xx yn := by
      unfold stI
      rw [hrt, htn, va_up_self, pk_us]
      exact ⟨2, -1, 0, _, _, hP9.sub [2] rfl, hU.2.2.2.2.1, Or.inl (by decide), ⟨fun _ => rfl, fun _ => by decide⟩, by unfold rgS at hrg; omega, by unfold rgS at hrg; omega, (if_neg (by rw [h3x]; decide)).symm⟩
    have hA := aI_born (rx2 := (va_up rx xx un.1)) (b1 := upd a1 xx (2 + 1)) (b4 := upd a4 xx p1) (b8 := upd a8 xx (-1)) (b11 := a11) hFd hx ha0 h5 rfl (fun j hj => pk_un hj) (fun j hj => pk_un hj) (fun j hj => pk_un hj) (fun _ _ => rfl) (fun j hj => va_up_ne _ _ hj) hU.1.1 hU.1.2 (hP9.sub [0, 1] rfl) (hK9.sub [0] rfl) hU.2.2.1 hU.2.2.2.1 (by rw [pk_us]; decide) (Or.inr (Or.inr (Or.inl ⟨Or.inl h3x, hst⟩))) (fun _ => by rw [va_up_self]; exact ⟨_, _, _, _, 16, _, _, 0, 0, hP9.sub [3, 4, 5] rfl, hK9.sub [1, 2] rfl, rOK_0, hU.2.2.2.2.2.1, hU.2.2.2.2.2.2.1, hU.2.2.2.2.2.2.2⟩)
    refine ⟨⟨r, (xx, _, _, (va_up rx xx un.1), cr), e, ⟨hr, hmk⟩, hA, hU.2.1, ?_, by omega⟩, F_mono hFr (A_sub hOp_)⟩
    show hT t.heap + sumN cr 16 ≤ _
    omega
  · intro E t hx hW hz hn
    obtain ⟨u, -, ⟨hE, hP9, hK9, hD9⟩, hFr⟩ := hx
    have hU := upd_0 (aI_moved hW.alike hI) (fun q z1 z2 => hFr.2 q z1 z2) hP9
    refine ⟨(ow, cr), trivial, ⟨?_, hU, fun q h9 => Or.inl h9, by show hT t.heap + sumN cr 16 ≤ _; omega, by omega⟩, F_mono hFr (A_sub hOp_)⟩
    have hfu : (∀ j : Nat, j < 16 → ¬ bq j = none) → fullO a1 := fun h9 j hj z => h9 j hj ((h5 j hj).mpr z)
    rcases hE with ⟨hE, h9⟩ | ⟨hE, h9⟩ | ⟨hE, h9, h8⟩
    · exact h9.elim
    · exact Or.inl ⟨hE, mk_bad (by decide) (by decide) (fun z => absurd z.1 (by decide)) (fun z => h9 (mk_gS.mp z))⟩
    · exact Or.inr (Or.inl ⟨hE, mk_full (by decide) (by decide) (fun z => absurd z.1 (by decide)) (mk_gS.mpr h9) (hfu h8)⟩)
set_option maxRecDepth 20000 in
set_option maxHeartbeats 1000000 in
theorem uk_no (l : Launch) (hlt : l.stackTraces = false) (dC : Nat → ClassId) (dI : Nat → Nat → Nat) {a0 qb : Nat} {cq : ClassId} {bq : Nat → Option Nat} {ow rx cr : Nat → Nat} {a1 a4 a8 a11 : Nat → Int32} {s : State} {p0 : Int32} {p1 : Int32} {p2 : Int32} (hpre : aPre (dC, dI) a0 qb cq bq ow rx cr a1 a4 a8 a11 s.heap.size (hT s.heap) s) (hF : ∃ dep : Nat → Nat, rF a1 a8 dep ∧ ∀ o : Nat, o < 16 → dep o < 17) (hk0 : p0.toInt < 0 ∨ 2 < p0.toInt) : uSel l yX7_make wqX7_make ({ frames := 7, cells := 6, slots := 49, locals := 140 }) 6 49 (aA ow s.heap.size) (va_Qi (fun (r : Int32) (u : Nat × (Nat → Option Nat) × (Nat → Nat) × (Nat → Nat) × (Nat → Nat)) => r = nI u.1 ∧ mkR a1 p0 p1 p2 0 u.1) (fun (u : Nat × (Nat → Option Nat) × (Nat → Nat) × (Nat → Nat) × (Nat → Nat)) (t : State) => aPostG (dC, dI) a0 qb cq ow cr s.heap.size (hT s.heap) u.2.1 u.2.2.1 u.2.2.2.1 u.2.2.2.2 (upd a1 u.1 (p0 + 1)) (upd a4 u.1 p1) (upd a8 u.1 (-1)) a11 t) (aA ow s.heap.size)) (vx_X (fun (_ : (Nat → Nat) × (Nat → Nat)) => True) (fun (E : String) (u : (Nat → Nat) × (Nat → Nat)) (t : State) => ((E = "java/lang/IllegalArgumentException" ∧ mkR a1 p0 p1 p2 1 0) ∨ (E = "java/lang/IllegalStateException" ∧ mkR a1 p0 p1 p2 2 0) ∨ (E = "java/lang/NegativeArraySizeException" ∧ mkR a1 p0 p1 p2 3 0)) ∧ aPost (dC, dI) a0 qb cq bq ow rx cr a1 a4 a8 a11 s.heap.size (hT s.heap) u t) (aA ow s.heap.size)) [.ref a0, .int p0, .int p1, .int p2].toArray s := by
  obtain ⟨-, -, hI, hN, hZ⟩ := hpre
  obtain ⟨dep, hFd, hdp⟩ := hF
  obtain ⟨h1, h2, h3, h4, h5, h6, h7⟩ := id hI
  refine ⟨_, _, _, _, _, _, _, c_X7_make_no l hlt dC dI s.heap.size a0 qb cq bq p0 p1 p2 hk0, ⟨rfl, rfl, fun k q h9 => by simp at h9, ⟨h2.1, fun k q h9 => by simp at h9⟩, hN, hZ.narrow (fun q h9 => Or.inr h9)⟩, ⟨Nat.le_of_ble_eq_true rfl, Nat.le_of_ble_eq_true rfl, Nat.le_of_ble_eq_true rfl, Nat.le_of_ble_eq_true rfl⟩, Nat.le_of_ble_eq_true rfl, Nat.le_of_ble_eq_true rfl, ?_, ?_, fun q h9 => Or.inr h9⟩
  · intro oc t hq _ _ _
    obtain ⟨⟨r, u, e, hp, -⟩, -⟩ := hq
    exact hp.elim
  · intro E t hx hW hz hn
    obtain ⟨u, -, hE, hFr⟩ := hx
    exact ⟨(ow, cr), trivial, ⟨Or.inl ⟨hE, Or.inl ⟨rfl, hk0⟩⟩, aPost_same hI hW (F_ro hFr rfl) hz hn (Nat.le_of_ble_eq_true rfl) (Nat.le_of_ble_eq_true rfl)⟩, F_mono hFr (fun q h9 => Or.inr h9)⟩
