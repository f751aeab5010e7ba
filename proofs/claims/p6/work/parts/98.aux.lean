/-! THE LAW BETWEEN TWO CALLS -/
def lawI (D : va_G) (s : State) (A : Nat → Prop) (x h0 qo k : Nat) (H : Heap) : Prop := ∃ (qb : Nat) (cq : ClassId) (bq : Nat → Option Nat) (ow rx cr : Nat → Nat) (co : ClassId) (f0 : Nat → Int64) (th : Int32) (q1 q2 q3 q4 q5 q6 q7 q8 q9 q10 q11 q12 q13 q14 q15 q16 : Nat) (c1 c2 c3 c4 c5 c6 c7 c8 c9 c10 c11 c12 c13 c14 c15 c16 : ClassId) (a1 a2 a3 a4 a5 a6 a7 a8 a9 a10 a11 a12 a13 a14 a15 a16 : Nat → Int32), va_P D vwCl [(h0, .inr (8, [.int th, .ref q1, .ref q2, .ref q3, .ref q4, .ref q5, .ref q6, .ref q7, .ref q8, .ref q9, .ref q10, .ref q11, .ref q12, .ref q13, .ref q14, .ref q15, .ref q16])), (q1, .inl (c1, 16, .inl a1)), (q2, .inl (c2, 67200, .inl a2)), (q3, .inl (c3, 16, .inl a3)), (q4, .inl (c4, 16, .inl a4)), (q5, .inl (c5, 16, .inl a5)), (q6, .inl (c6, 16, .inl a6)), (q7, .inl (c7, 16, .inl a7)), (q8, .inl (c8, 16, .inl a8)), (q9, .inl (c9, 16, .inl a9)), (q10, .inl (c10, 16, .inl a10)), (q11, .inl (c11, 16, .inl a11)), (q12, .inl (c12, 16, .inl a12)), (q13, .inl (c13, 1000, .inl a13)), (q14, .inl (c14, 1000, .inl a14)), (q15, .inl (c15, 4096, .inl a15)), (q16, .inl (c16, 16, .inl a16))] H ∧ va_K D vwCl [(c1, .int), (c2, .int), (c3, .int), (c4, .int), (c5, .int), (c6, .int), (c7, .int), (c8, .int), (c9, .int), (c10, .int), (c11, .int), (c12, .int), (c13, .int), (c14, .int), (c15, .boolean), (c16, .boolean)] s ∧ va_D A [(h0, .inr (8, [.int th, .ref q1, .ref q2, .ref q3, .ref q4, .ref q5, .ref q6, .ref q7, .ref q8, .ref q9, .ref q10, .ref q11, .ref q12, .ref q13, .ref q14, .ref q15, .ref q16])), (q1, .inl (c1, 16, .inl a1)), (q2, .inl (c2, 67200, .inl a2)), (q3, .inl (c3, 16, .inl a3)), (q4, .inl (c4, 16, .inl a4)), (q5, .inl (c5, 16, .inl a5)), (q6, .inl (c6, 16, .inl a6)), (q7, .inl (c7, 16, .inl a7)), (q8, .inl (c8, 16, .inl a8)), (q9, .inl (c9, 16, .inl a9)), (q10, .inl (c10, 16, .inl a10)), (q11, .inl (c11, 16, .inl a11)), (q12, .inl (c12, 16, .inl a12)), (q13, .inl (c13, 1000, .inl a13)), (q14, .inl (c14, 1000, .inl a14)), (q15, .inl (c15, 4096, .inl a15)), (q16, .inl (c16, 16, .inl a16))] ∧ va_P D vwCl [(qo, .inl (co, 1, .inr (.inl f0)))] H ∧ va_K D vwCl [(co, .long)] s ∧ A qo ∧ ow qo = 0 ∧ aI D s H x qb cq bq ow rx cr a1 a4 a8 a11 ∧ (∀ q ∈ [h0, q1, q2, q3, q4, q5, q6, q7, q8, q9, q10, q11, q12, q13, q14, q15, q16], ow q = 0 ∧ q ≠ qo) ∧ (∀ q : Nat, 0 < ow q → s.heap.size ≤ q) ∧ RInv (2000 * k) a1 a2 a3 a4 a6 a7 a8 a9 a10 a11 a12 ∧ hT H + sumN cr 16 ≤ hT s.heap + 100000 + 12700 * k ∧ H.size ≤ s.heap.size + 2000 + 150 * k
theorem na2 {ow : Nat → Nat} {qo sz q : Nat} {ws : va_W} (h : ∀ x ∈ ws, ow x.1 = 0 ∧ x.1 ≠ qo) (z1 : q < sz) (z2 : 0 < ow q ∨ q = qo) : ¬ va_A ws sz q := fun z => by
  rcases z with ⟨k, e, hk⟩ | z
  · have h9 : ow q = 0 ∧ q ≠ qo := h _ (List.mem_of_getElem? hk)
    rcases z2 with z | z
    · omega
    · exact h9.2 z
  · omega
theorem oz_sub {ow : Nat → Nat} {qo : Nat} {l : List Nat} {ws : va_W} (h : ∀ q ∈ l, ow q = 0 ∧ q ≠ qo) (is : List Nat) (hs : is.filterMap (fun i => l[i]?) = ws.map (fun x => x.1)) : ∀ x ∈ ws, ow x.1 = 0 ∧ x.1 ≠ qo := fun x hx => by
  have h1 : x.1 ∈ is.filterMap (fun i => l[i]?) := by rw [hs]; exact List.mem_map_of_mem hx
  obtain ⟨i, -, hi⟩ := List.mem_filterMap.mp h1
  exact h _ (List.mem_of_getElem? hi)
theorem P_law {D : va_G} {ws : va_W} {H H1 : Heap} {ow : Nat → Nat} {qo : Nat} {l : List Nat} (hP : va_P D vwCl ws H) (hm : ws.map (fun x => x.1) = l) (hoz : ∀ q ∈ l, ow q = 0 ∧ q ≠ qo) (hk1 : ∀ q : Nat, q < H.size → ¬ lA ow qo H.size q → H1[q]? = H[q]?) : va_P D vwCl ws H1 := P_kept hP (fun x hx z => hk1 x.1 z (fun y => by
  have h9 := hoz x.1 (by rw [← hm]; exact List.mem_map_of_mem hx)
  rcases y with (y | y) | y
  · omega
  · omega
  · exact h9.2 y))
theorem P_lt {D : va_G} {ws : va_W} {H : Heap} {l : List Nat} (hP : va_P D vwCl ws H) (hm : ws.map (fun x => x.1) = l) : ∀ q ∈ l, q < H.size := fun q hq => by
  rw [← hm] at hq
  obtain ⟨x, hx, rfl⟩ := List.mem_map.mp hq
  obtain ⟨k, hk⟩ := List.getElem?_of_mem hx
  exact (hP k x hk).lt
theorem oz_call {ow ow1 : Nat → Nat} {qo sz : Nat} {l : List Nat} (h : ∀ q ∈ l, ow q = 0 ∧ q ≠ qo) (hl : ∀ q ∈ l, q < sz) (hpos : ∀ q : Nat, 0 < ow1 q → 0 < ow q ∨ sz ≤ q) : ∀ q ∈ l, ow1 q = 0 ∧ q ≠ qo := fun q hq => ⟨by
  have g1 := (h q hq).1
  have g2 := hl q hq
  have g3 := hpos q
  omega, (h q hq).2⟩
theorem lA_A {ow : Nat → Nat} {qo sz s0 : Nat} {A : Nat → Prop} (hAe : A = fun q : Nat => s0 ≤ q) (hlo : ∀ q : Nat, 0 < ow q → s0 ≤ q) (hz : s0 ≤ sz) (hA : A qo) : ∀ q, lA ow qo sz q → A q := fun q z => by
  rcases z with (z | z) | z
  · rw [hAe]
    exact hlo q z
  · rw [hAe]
    exact Nat.le_trans hz z
  · rw [z]
    exact hA
theorem mk_ok {p0 p1 p2 : Int32} (h1 : 0 ≤ p0.toInt) (h2 : p0.toInt ≤ 2) (hn : ¬ (p0.toInt = 0 ∧ p1.toInt < 0)) (hg : mkG p0 p1 p2) : (1 ≤ (p0 + 1).toInt ∧ (p0 + 1).toInt ≤ 3) ∧ mOK (p0 + 1) p1 0 0 := by
  have e : (p0 + 1).toInt = p0.toInt + 1 := by rw [Int32.toInt_add, show (1 : Int32).toInt = 1 from by decide, tx_bm (by omega) (by omega)]
  unfold mkG at hg
  have hf : 0 ≤ p1.toInt → p1.toInt ≤ 1000 → p1 = nI p1.toInt.toNat := fun g1 g2 => Int32.toInt_inj.mp (by rw [nI_toInt (by omega)]; omega)
  refine ⟨by omega, 0, 0, p1.toInt.toNat, rfl, rfl, by omega, fun h => ?_, fun h => ?_⟩
  · exact ⟨hf (by omega) (by omega), by omega, Or.inl ⟨rfl, rfl⟩⟩
  · exact ⟨hf (by omega) (by omega), by omega, fun _ => by omega⟩
theorem RInv_new : RInv 0 (fun _ => 0) (fun _ => 0) (fun _ => 0) (fun _ => 0) (fun _ => 0) (fun _ => 0) (fun _ => 0) (fun _ => 0) (fun _ => 0) (fun _ => 0) (fun _ => 0) :=
  ⟨⟨fun _ => 0, fun _ _ h => absurd (show (0 : Int32).toInt = 4 ∨ (0 : Int32).toInt = 5 from h) (by decide), fun _ _ => (show 0 < 17 from by decide)⟩, fun _ _ => (show 0 ≤ (0 : Int32).toInt ∧ (0 : Int32).toInt ≤ 5 from by decide), fun _ _ h => absurd (show 1 ≤ (0 : Int32).toInt from h) (by decide), fun _ _ => (show 0 ≤ (0 : Int32).toInt ∧ (0 : Int32).toInt ≤ ((0 : Nat) : Int) from by decide), fun _ _ h => absurd (show (0 : Int32).toInt = 5 from h) (by decide)⟩
theorem aI_new {D : va_G} {s : State} {H : Heap} {x qb : Nat} {cq : ClassId} (hP : va_P D vwCl [(x, .inr (7, [.ref qb])), (qb, .inl (cq, 16, .inr (.inr (.inr (.inr (fun _ => none))))))] H) (hK : va_K D vwCl [(cq, .object "KeyAtlas$Body")] s) (hne : x ≠ qb) : aI D s H x qb cq (fun _ => none) (fun q => if q = x then 1 else if q = qb then 2 else 0) (fun _ => 0) (fun _ => 0) (fun _ => 0) (fun _ => 0) (fun _ => 0) (fun _ => 0) :=
  ⟨hP, hK, if_pos rfl, (if_neg (fun z => hne z.symm)).trans (if_pos rfl), fun _ _ => ⟨fun _ => (show (0 : Int32).toInt = 0 from by decide), fun _ => rfl⟩, fun _ _ _ h => absurd h (fun z => by cases z), fun _ _ h => absurd (show (0 : Int32).toInt = 3 from h) (by decide)⟩
theorem fin_make {K : Nat} {a1 a2 a3 a4 a5 a6 a7 a8 a9 a10 a11 a12 u1 u3 u4 u5 u6 u7 u8 b1 b4 b8 b11 : Nat → Int32} {p0 p1 p2 kc th x : Int32} {f1 : Nat → Int64} (hR : RInv K a1 a2 a3 a4 a6 a7 a8 a9 a10 a11 a12) (hK : K < 2000000) (hc : ∃ xx : Nat, mkR a1 p0 p1 p2 kc xx ∧ (kc = 0 → f1 0 = (nI xx).toInt64 ∧ b1 = upd a1 xx (p0 + 1) ∧ b4 = upd a4 xx p1 ∧ b8 = upd a8 xx (-1) ∧ b11 = a11) ∧ (¬ kc = 0 → b1 = a1 ∧ b4 = a4 ∧ b8 = a8 ∧ b11 = a11)) (hm : ∃ (c : Int32) (xx : Nat), mkR a1 p0 p1 p2 c xx ∧ th = c ∧ (c = 0 → x = nI xx ∧ u1 = upd a1 xx (p0 + 1) ∧ u3 = upd a3 xx 0 ∧ u4 = upd a4 xx p1 ∧ u5 = upd a5 xx p2 ∧ u6 = upd a6 xx 0 ∧ u7 = upd a7 xx 0 ∧ u8 = upd a8 xx (-1)) ∧ (¬ c = 0 → x = 0 ∧ u1 = a1 ∧ u3 = a3 ∧ u4 = a4 ∧ u5 = a5 ∧ u6 = a6 ∧ u7 = a7 ∧ u8 = a8)) : th = kc ∧ (kc = 0 → f1 0 = x.toInt64) ∧ b1 = u1 ∧ b4 = u4 ∧ b8 = u8 ∧ b11 = a11 ∧ RInv (K + 2000) u1 a2 u3 u4 u6 u7 u8 a9 a10 a11 a12 := by
  obtain ⟨xc, hc1, hc2, hc3⟩ := hc
  obtain ⟨c, xm, hm1, hm2, hm3, hm4⟩ := hm
  obtain ⟨e1, e2⟩ := mkR_one hc1 hm1
  by_cases hk : kc = 0
  · obtain ⟨g0, g1, g4, g8, g11⟩ := hc2 hk
    obtain ⟨z0, z1, z3, z4, z5, z6, z7, z8⟩ := hm3 (e1.symm.trans hk)
    have ex := e2 hk
    subst ex
    refine ⟨hm2.trans e1.symm, fun _ => by rw [g0, z0], g1.trans z1.symm, g4.trans z4.symm, g8.trans z8.symm, g11, ?_⟩
    rw [z1, z3, z4, z6, z7, z8]
    have hh : 0 ≤ p0.toInt ∧ p0.toInt ≤ 2 ∧ ¬ (p0.toInt = 0 ∧ p1.toInt < 0) ∧ mkG p0 p1 p2 ∧ (a1 xc).toInt = 0 := by
      rcases hc1 with ⟨q, -⟩ | ⟨q1, q2, ⟨q, -⟩ | ⟨q3, ⟨q, -⟩ | ⟨q4, ⟨q, -⟩ | ⟨-, -, q5, -⟩⟩⟩⟩
      · rw [hk] at q; exact absurd q (by decide)
      · rw [hk] at q; exact absurd q (by decide)
      · rw [hk] at q; exact absurd q (by decide)
      · rw [hk] at q; exact absurd q (by decide)
      · exact ⟨q1, q2, q3, q4, q5⟩
    obtain ⟨q1, q2, q3, q4, q5⟩ := hh
    obtain ⟨w1, w2⟩ := mk_ok q1 q2 q3 q4
    exact RInv_le (RInv_make hR q5 w1 w2) (by omega)
  · obtain ⟨g1, g4, g8, g11⟩ := hc3 hk
    obtain ⟨z0, z1, z3, z4, z5, z6, z7, z8⟩ := hm4 (fun z => hk (e1.trans z))
    refine ⟨hm2.trans e1.symm, fun z => absurd z hk, g1.trans z1.symm, g4.trans z4.symm, g8.trans z8.symm, g11, ?_⟩
    rw [z1, z3, z4, z6, z7, z8]
    exact RInv_le hR (by omega)
theorem cuR_c {a1 : Nat → Int32} {p0 c d : Int32} {o x q y : Nat} (h : cuR a1 p0 c o x) (g : cuR a1 p0 d q y) : c = d := by
  rcases h with ⟨z, h1⟩ | ⟨h1, h2, h3, h4⟩
  · rcases g with ⟨w, -⟩ | ⟨g1, g2, g3, -⟩
    · exact z.trans w.symm
    · exact absurd (h1 q g1 g2) g3
  · rcases g with ⟨w, g1⟩ | ⟨g1, g2, g3, g4⟩
    · exact absurd (g1 o h1 h2) h3
    · obtain rfl : o = q := (nI_eq (by omega) (by omega)).mp (h2.symm.trans g2)
      rcases h4 with ⟨z, h4⟩ | ⟨h4, ⟨z, h5⟩ | ⟨z, h5, h6, -⟩⟩ <;> rcases g4 with ⟨w, g4⟩ | ⟨g4, ⟨w, g5⟩ | ⟨w, g5, g6, -⟩⟩
      all_goals first | exact z.trans w.symm | (exfalso; omega) | exact absurd g6 ((show ∀ j : Nat, j < 16 → ¬ (a1 j).toInt = 0 from h5) _ g5) | exact absurd h6 ((show ∀ j : Nat, j < 16 → ¬ (a1 j).toInt = 0 from g5) _ h5)
theorem vwR_c {a1 a4 a8 a11 : Nat → Int32} {p0 p1 p2 p3 c d : Int32} {o x q y : Nat} (h : vwR a1 a4 a8 a11 p0 p1 p2 p3 c o x) (g : vwR a1 a4 a8 a11 p0 p1 p2 p3 d q y) : c = d := by
  rcases h with ⟨z, h1⟩ | ⟨h1, h2, h3, h4⟩
  · rcases g with ⟨w, -⟩ | ⟨g1, g2, g3, -⟩
    · exact z.trans w.symm
    · exact absurd (h1 q g1 g2) g3
  · rcases g with ⟨w, g1⟩ | ⟨g1, g2, g3, g4⟩
    · exact absurd (g1 o h1 h2) h3
    · obtain rfl : o = q := (nI_eq (by omega) (by omega)).mp (h2.symm.trans g2)
      rcases h4 with ⟨z, h4, h5⟩ | ⟨h4, ⟨z, h5⟩ | ⟨h5, ⟨z, h6⟩ | ⟨z, h6, h7, -⟩⟩⟩ <;> rcases g4 with ⟨w, g4, g5⟩ | ⟨g4, ⟨w, g5⟩ | ⟨g5, ⟨w, g6⟩ | ⟨w, g6, g7, -⟩⟩⟩
      all_goals first | exact z.trans w.symm | (exfalso; omega) | exact absurd h5 g5 | exact absurd g5 h5 | exact absurd g7 ((show ∀ j : Nat, j < 16 → ¬ (a1 j).toInt = 0 from h6) _ g6) | exact absurd h7 ((show ∀ j : Nat, j < 16 → ¬ (a1 j).toInt = 0 from g6) _ h6)
theorem fin_view {K : Nat} {a1 a2 a3 a4 a6 a7 a8 a9 a10 a11 a12 u1 u3 u6 u7 u8 u9 u10 u11 b1 b4 b8 b11 : Nat → Int32} {p0 p1 p2 p3 kc th x : Int32} {f1 : Nat → Int64} (hR : RInv K a1 a2 a3 a4 a6 a7 a8 a9 a10 a11 a12) (hK : K < 2000000) (hc : (∃ o xx : Nat, kc = 0 ∧ f1 0 = (nI xx).toInt64 ∧ vwR a1 a4 a8 a11 p0 p1 p2 p3 0 o xx ∧ b1 = upd a1 xx 4 ∧ b4 = a4 ∧ b8 = upd (upd a8 xx (-1)) xx (nI o) ∧ b11 = upd a11 xx p1) ∨ ((∃ (c : Int32) (o xx : Nat), ¬ c = 0 ∧ kc = c ∧ vwR a1 a4 a8 a11 p0 p1 p2 p3 c o xx) ∧ b1 = a1 ∧ b4 = a4 ∧ b8 = a8 ∧ b11 = a11)) (hm : ∃ (c : Int32) (o xx : Nat), vwR a1 a4 a8 a11 p0 p1 p2 p3 c o xx ∧ th = c ∧ (c = 0 → x = nI xx ∧ u1 = upd a1 xx 4 ∧ u3 = upd a3 xx 0 ∧ u6 = upd a6 xx 0 ∧ u7 = upd a7 xx 0 ∧ u8 = upd (upd a8 xx (-1)) xx (nI o) ∧ u9 = upd a9 xx p2 ∧ u10 = upd a10 xx p3 ∧ u11 = upd a11 xx p1) ∧ (¬ c = 0 → x = 0 ∧ u1 = a1 ∧ u3 = a3 ∧ u6 = a6 ∧ u7 = a7 ∧ u8 = a8 ∧ u9 = a9 ∧ u10 = a10 ∧ u11 = a11)) : th = kc ∧ (kc = 0 → f1 0 = x.toInt64) ∧ b1 = u1 ∧ b4 = a4 ∧ b8 = u8 ∧ b11 = u11 ∧ RInv (K + 2000) u1 a2 u3 a4 u6 u7 u8 u9 u10 u11 a12 := by
  obtain ⟨c, om, xm, hm1, hm2, hm3, hm4⟩ := hm
  rcases hc with ⟨oc, xc, hk0, hf0, hc1, g1, g4, g8, g11⟩ | ⟨⟨d, oc, xc, hd, hkd, hc1⟩, g1, g4, g8, g11⟩
  · obtain ⟨e1, e2⟩ := vwR_one hc1 hm1
    obtain ⟨z0, z1, z3, z6, z7, z8, z9, z10, z11⟩ := hm3 (e1.mp rfl)
    obtain ⟨eo, ex⟩ := e2 rfl
    subst eo
    subst ex
    refine ⟨(hm2.trans (e1.mp rfl)).trans hk0.symm, fun _ => by rw [hf0, z0], g1.trans z1.symm, g4, g8.trans z8.symm, g11.trans z11.symm, ?_⟩
    rw [z1, z3, z6, z7, z8, z9, z10, z11]
    have hh : oc < 16 ∧ ((a1 oc).toInt = 3 ∨ (a1 oc).toInt = 4) ∧ (a1 xc).toInt = 0 := by
      rcases hc1 with ⟨q, -⟩ | ⟨q1, -, -, ⟨q, -⟩ | ⟨q2, ⟨q, -⟩ | ⟨-, ⟨q, -⟩ | ⟨-, -, q5, -⟩⟩⟩⟩
      · exact absurd q (by decide)
      · exact absurd q (by decide)
      · exact absurd q (by decide)
      · exact absurd q (by decide)
      · exact ⟨q1, q2, q5⟩
    exact RInv_le (RInv_view hR hh.2.2 hh.1 hh.2.1) (by omega)
  · have ec := vwR_c hm1 hc1
    obtain ⟨z0, z1, z3, z6, z7, z8, z9, z10, z11⟩ := hm4 (fun z => hd (ec.symm.trans z))
    refine ⟨hm2.trans (ec.trans hkd.symm), fun z => absurd (hkd.symm.trans z) hd, g1.trans z1.symm, g4, g8.trans z8.symm, g11.trans z11.symm, ?_⟩
    rw [z1, z3, z6, z7, z8, z9, z10, z11]
    exact RInv_le hR (by omega)
theorem fin_cursor {K : Nat} {a1 a2 a3 a4 a6 a7 a8 a9 a10 a11 a12 u1 u3 u6 u7 u8 u9 u10 u12 b1 b4 b8 b11 : Nat → Int32} {p0 kc th x : Int32} {f1 : Nat → Int64} (hR : RInv K a1 a2 a3 a4 a6 a7 a8 a9 a10 a11 a12) (hK : K < 2000000) (hc : (∃ o xx : Nat, kc = 0 ∧ f1 0 = (nI xx).toInt64 ∧ cuR a1 p0 0 o xx ∧ b1 = upd a1 xx 5 ∧ b4 = a4 ∧ b8 = upd (upd a8 xx (-1)) xx (nI o) ∧ b11 = a11) ∨ ((∃ (c : Int32) (o xx : Nat), ¬ c = 0 ∧ kc = c ∧ cuR a1 p0 c o xx) ∧ b1 = a1 ∧ b4 = a4 ∧ b8 = a8 ∧ b11 = a11)) (hm : ∃ (c : Int32) (o xx : Nat), cuR a1 p0 c o xx ∧ th = c ∧ (c = 0 → x = nI xx ∧ u1 = upd a1 xx 5 ∧ u3 = upd a3 xx 0 ∧ u6 = upd a6 xx 0 ∧ u7 = upd a7 xx 0 ∧ u8 = upd (upd a8 xx (-1)) xx (nI o) ∧ u9 = upd a9 xx 0 ∧ u10 = upd a10 xx 0 ∧ u12 = upd a12 xx ((upd a7 xx 0) (rtN (upd a1 xx 5) (upd (upd a8 xx (-1)) xx (nI o)) 17 o))) ∧ (¬ c = 0 → x = 0 ∧ u1 = a1 ∧ u3 = a3 ∧ u6 = a6 ∧ u7 = a7 ∧ u8 = a8 ∧ u9 = a9 ∧ u10 = a10 ∧ u12 = a12)) : th = kc ∧ (kc = 0 → f1 0 = x.toInt64) ∧ b1 = u1 ∧ b4 = a4 ∧ b8 = u8 ∧ b11 = a11 ∧ RInv (K + 2000) u1 a2 u3 a4 u6 u7 u8 u9 u10 a11 u12 := by
  obtain ⟨c, om, xm, hm1, hm2, hm3, hm4⟩ := hm
  rcases hc with ⟨oc, xc, hk0, hf0, hc1, g1, g4, g8, g11⟩ | ⟨⟨d, oc, xc, hd, hkd, hc1⟩, g1, g4, g8, g11⟩
  · obtain ⟨e1, e2⟩ := cuR_one hc1 hm1
    obtain ⟨z0, z1, z3, z6, z7, z8, z9, z10, z12⟩ := hm3 (e1.mp rfl)
    obtain ⟨eo, ex⟩ := e2 rfl
    subst eo
    subst ex
    refine ⟨(hm2.trans (e1.mp rfl)).trans hk0.symm, fun _ => by rw [hf0, z0], g1.trans z1.symm, g4, g8.trans z8.symm, g11, ?_⟩
    rw [z1, z3, z6, z7, z8, z9, z10, z12]
    have hh : oc < 16 ∧ (1 ≤ (a1 oc).toInt ∧ (a1 oc).toInt ≤ 4) ∧ (a1 xc).toInt = 0 := by
      rcases hc1 with ⟨q, -⟩ | ⟨q1, -, -, ⟨q, -⟩ | ⟨q2, ⟨q, -⟩ | ⟨-, -, q5, -⟩⟩⟩
      · exact absurd q (by decide)
      · exact absurd q (by decide)
      · exact absurd q (by decide)
      · exact ⟨q1, q2, q5⟩
    exact RInv_le (RInv_cur hR hh.2.2 hh.1 hh.2.1) (by omega)
  · have ec := cuR_c hm1 hc1
    obtain ⟨z0, z1, z3, z6, z7, z8, z9, z10, z12⟩ := hm4 (fun z => hd (ec.symm.trans z))
    refine ⟨hm2.trans (ec.trans hkd.symm), fun z => absurd (hkd.symm.trans z) hd, g1.trans z1.symm, g4, g8.trans z8.symm, g11, ?_⟩
    rw [z1, z3, z6, z7, z8, z9, z10, z12]
    exact RInv_le hR (by omega)
theorem fin_map {K : Nat} {a1 a2 a3 a4 a6 a7 a8 a9 a10 a11 a12 u2 u3 u6 u7 b1 b4 b8 b11 : Nat → Int32} (hR : RInv K a1 a2 a3 a4 a6 a7 a8 a9 a10 a11 a12) (hK : K < 2000000) (hc : b1 = a1 ∧ b4 = a4 ∧ b8 = a8 ∧ b11 = a11) (hm : ∃ r d : Nat, d ≤ 2000 ∧ rsR r d a2 a3 a6 a7 u2 u3 u6 u7 ∧ (r < 16 → 1 ≤ (a1 r).toInt → (a1 r).toInt ≤ 3 → mOK (a1 r) (a4 r) (u3 r) (u6 r))) : b1 = a1 ∧ b4 = a4 ∧ b8 = a8 ∧ b11 = a11 ∧ RInv (K + 2000) a1 u2 u3 a4 u6 u7 a8 a9 a10 a11 a12 := by
  obtain ⟨r, d, h1, h2, h3⟩ := hm
  exact ⟨hc.1, hc.2.1, hc.2.2.1, hc.2.2.2, RInv_rs hR h1 (by omega) h2 h3⟩
theorem fin_move {K : Nat} {a1 a2 a3 a4 a6 a7 a8 a9 a10 a11 a12 u2 u3 u7 u9 u10 u12 b1 b4 b8 b11 : Nat → Int32} (hR : RInv K a1 a2 a3 a4 a6 a7 a8 a9 a10 a11 a12) (hK : K < 2000000) (hc : b1 = a1 ∧ b4 = a4 ∧ b8 = a8 ∧ b11 = a11) (hm : (u2 = a2 ∧ u3 = a3 ∧ u7 = a7 ∧ u9 = a9 ∧ u10 = a10 ∧ u12 = a12) ∨ (∃ c r d : Nat, c < 16 ∧ (a1 c).toInt = 5 ∧ d ≤ 1 ∧ rsR r d a2 a3 a6 a7 u2 u3 a6 u7 ∧ r < 16 ∧ mOK (a1 r) (a4 r) (u3 r) (a6 r) ∧ (∀ q : Nat, q ≠ c → u9 q = a9 q ∧ u10 q = a10 q ∧ u12 q = a12 q) ∧ cuO a1 u2 u3 a4 u7 a8 u9 u10 a11 u12 c)) : b1 = a1 ∧ b4 = a4 ∧ b8 = a8 ∧ b11 = a11 ∧ RInv (K + 2000) a1 u2 u3 a4 a6 u7 a8 u9 u10 a11 u12 := by
  refine ⟨hc.1, hc.2.1, hc.2.2.1, hc.2.2.2, ?_⟩
  rcases hm with ⟨z2, z3, z7, z9, z10, z12⟩ | ⟨c, r, d, h1, h2, h3, h4, -, h6, h7, h8⟩
  · rw [z2, z3, z7, z9, z10, z12]
    exact RInv_le hR (by omega)
  · exact RInv_mv hR (by omega) h1 h2 h3 h4 h6 h7 h8
theorem fin_item {K : Nat} {a1 a2 a3 a4 a6 a7 a8 a9 a10 a11 a12 b1 b4 b8 b11 : Nat → Int32} (hR : RInv K a1 a2 a3 a4 a6 a7 a8 a9 a10 a11 a12) (hK : K < 2000000) (hc : b1 = a1 ∧ b4 = a4 ∧ b8 = a8 ∧ b11 = a11) (hm : True) : b1 = a1 ∧ b4 = a4 ∧ b8 = a8 ∧ b11 = a11 ∧ RInv (K + 2000) a1 a2 a3 a4 a6 a7 a8 a9 a10 a11 a12 := by
  exact ⟨hc.1, hc.2.1, hc.2.2.1, hc.2.2.2, RInv_le hR (by omega)⟩
theorem fin_drop {K : Nat} {a1 a2 a3 a4 a6 a7 a8 a9 a10 a11 a12 u1 : Nat → Int32} {p0 th x kc : Int32} {f1 : Nat → Int64} (hR : RInv K a1 a2 a3 a4 a6 a7 a8 a9 a10 a11 a12) (hc : (kc = 1 ∧ ∀ o : Nat, o < 16 → p0 = nI o → (a1 o).toInt = 0) ∨ (kc = 0 ∧ ∃ o : Nat, o < 16 ∧ p0 = nI o ∧ ¬ (a1 o).toInt = 0 ∧ f1 0 = (nI (1 + cntN (dgB a1 a8 o) 16)).toInt64)) (hm : (th = 1 ∧ x = 0 ∧ u1 = a1 ∧ ∀ o : Nat, o < 16 → p0 = nI o → (a1 o).toInt = 0) ∨ (∃ o : Nat, o < 16 ∧ p0 = nI o ∧ ¬ (a1 o).toInt = 0 ∧ th = 0 ∧ (∀ j : Nat, j < 16 → u1 j = if j = o ∨ dgB a1 a8 o j = true then 0 else a1 j) ∧ x = nI (1 + cntN (dgB a1 a8 o) 16))) : th = kc ∧ (kc = 0 → f1 0 = x.toInt64) ∧ dq a1 a8 p0 u1 ∧ RInv (K + 2000) u1 a2 a3 a4 a6 a7 a8 a9 a10 a11 a12 := by
  rcases hm with ⟨t1, -, z, h⟩ | ⟨o, h1, h2, h3, t0, h4, hx⟩
  · rcases hc with ⟨k1, -⟩ | ⟨-, q, q1, q2, q3, -⟩
    · exact ⟨t1.trans k1.symm, fun w => absurd (k1.symm.trans w) (by decide), Or.inr ⟨z, h⟩, by rw [z]; exact RInv_le hR (by omega)⟩
    · exact absurd (h q q1 q2) q3
  · rcases hc with ⟨-, g⟩ | ⟨k0, q, q1, q2, q3, qf⟩
    · exact absurd (g o h1 h2) h3
    · obtain rfl : o = q := (nI_eq (by omega) (by omega)).mp (h2.symm.trans q2)
      exact ⟨t0.trans k0.symm, fun _ => by rw [qf, hx], Or.inl ⟨o, h1, h2, h3, h4⟩, RInv_le (RInv_drop hR h4) (by omega)⟩
