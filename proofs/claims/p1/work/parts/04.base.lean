/-! words, starts and ends that all contracts of this claim share -/
theorem tx_lt {x y : Int32} {a b : Int} (hx : x.toInt = a) (hy : y.toInt = b) (h : x < y) : a < b := by rw [← hx, ← hy]; exact Int32.lt_iff_toInt_lt.mp h
theorem tx_le {x y : Int32} {a b : Int} (hx : x.toInt = a) (hy : y.toInt = b) (h : x ≤ y) : a ≤ b := by rw [← hx, ← hy]; exact Int32.le_iff_toInt_le.mp h
theorem tx_nlt {x y : Int32} {a b : Int} (hx : x.toInt = a) (hy : y.toInt = b) (h : ¬ x < y) : b ≤ a := by rw [← hx, ← hy]; exact Int.not_lt.mp (fun z => h (Int32.lt_iff_toInt_lt.mpr z))
theorem tx_nle {x y : Int32} {a b : Int} (hx : x.toInt = a) (hy : y.toInt = b) (h : ¬ x ≤ y) : b < a := by rw [← hx, ← hy]; exact Int.not_le.mp (fun z => h (Int32.le_iff_toInt_le.mpr z))
theorem tx_eq {x y : Int32} {a b : Int} (hx : x.toInt = a) (hy : y.toInt = b) (h : x = y) : a = b := by rw [← hx, ← hy, h]
theorem tx_ne {x y : Int32} {a b : Int} (hx : x.toInt = a) (hy : y.toInt = b) (h : ¬ x = y) : ¬ a = b := by rw [← hx, ← hy]; exact fun z => h (Int32.toInt_inj.mp z)
def pk_Pre (D : va_G) (ws : va_W) (tys : List (ClassId × FieldType)) (sz : Nat) (U : State) : Prop := U.heap.size = sz ∧ va_P D vwCl ws U.heap ∧ va_K D vwCl tys U ∧ va_D (fun _ => True) ws
theorem pk_blind {av : List Value} {D : va_G} {ws : va_W} {tys : List (ClassId × FieldType)} {sz : Nat} : FrameBlind (va_Pc av (pk_Pre D ws tys sz)) := fun a U g mk q => by
  obtain ⟨q0, q1, qP, qK, qD⟩ := q
  exact ⟨q0, q1, qP, va_K.moved (u := U) (U := U.calling g mk a) (Vm.Alike.refl U.vm) qK, qD⟩
theorem pk_call {s : State} {H : Heap} {A : Nat → Prop} {av : List Value} {D : va_G} {ws : va_W} {tys : List (ClassId × FieldType)} (hP : va_P D vwCl ws H) (hK : va_K D vwCl tys s) (hD : va_D A ws) :
    ∀ U : State, U.heap = H → s.WarmedH U.vm → va_Pc av (pk_Pre D ws tys H.size) av.toArray U := fun U hU hW => ⟨rfl, by rw [hU], by rw [hU]; exact hP, va_K.moved hW.alike hK, hD.weaken (fun _ _ _ _ => trivial)⟩
/-- the two statics that a new exception reads -/
def p_Z (A : Nat → Prop) (U : State) (H : Heap) : Prop := vx_Zq Bundle.tN "UNASSIGNED_STACK" Bundle.steD A U H ∧ vx_Zq Bundle.tN "SUPPRESSED_SENTINEL" Bundle.listD A U H
theorem p_Z.moved {A : Nat → Prop} {u U : State} {H : Heap} (h : p_Z A u H) (hvm : u.vm.Alike U.vm) : p_Z A U H := ⟨vx_Zq.moved hvm h.1, vx_Zq.moved hvm h.2⟩
theorem p_Z.kept {A : Nat → Prop} {U : State} {H H1 : Heap} (h : p_Z A U H) (hq : ∀ a : Nat, a < H.size → ¬ A a → H1[a]? = H[a]?) : p_Z A U H1 := ⟨vx_Zq.kept h.1 hq, vx_Zq.kept h.2 hq⟩
theorem p_Z.narrow {A B : Nat → Prop} {U : State} {H : Heap} (h : p_Z A U H) (hAB : ∀ q, B q → A q) : p_Z B U H := ⟨vx_Zq.narrow h.1 hAB, vx_Zq.narrow h.2 hAB⟩
/-- words that aren't kept by themselves: what is thrown can be cast to its own class -/
def p_xw : List Cond := [.castable "java/lang/IllegalArgumentException" "java/lang/IllegalArgumentException", .castable "java/lang/NegativeArraySizeException" "java/lang/NegativeArraySizeException", .castable "java/util/NoSuchElementException" "java/util/NoSuchElementException", .declares (Bundle.initS "java/lang/RuntimeException"), .declares (Bundle.initS "java/lang/Exception"), .declares (Bundle.initS "java/lang/Throwable"), .castable RX2 "KeyAtlas$Body", .castable RX4 "KeyAtlas$Body", .castable RX6 "KeyAtlas$Body"]
theorem p_xw_warm {s U : State} (hW : s.WarmedH U.vm) : ∀ w ∈ p_xw, va_Nw w s → va_Nw w U := by
  intro w hw h
  simp only [p_xw, List.mem_cons, List.not_mem_nil, or_false] at hw
  rcases hw with rfl | rfl | rfl | rfl | rfl | rfl | rfl | rfl | rfl <;> first | exact va_Nw.warmC hW h | exact va_Nw.warmD hW h
theorem p_xw_tab : p_xw.all Cond.onTables = true := by decide +kernel
/-- what the class's methods need of the tables beside their words -/
def p_N (U : State) : Prop := va_AO "KeyAtlas$Body" U ∧ va_Nw (.methodLinkNest RX2 5 yX5_init "KeyAtlas") U ∧ va_Nw (.methodLinkNest RX4 5 yX5_init "KeyAtlas") U ∧ va_Nw (.methodLinkNest RX6 7 yX5_init "KeyAtlas") U ∧
  (∃ a, vk_R RX7 17 "no such kind" a U) ∧ (∃ a, vk_R RX7 24 "capacity below 0" a U) ∧ (∃ a, vk_R RX7 31 "a or b out of range" a U) ∧ (∃ a, vk_R RX7 241 "no such object" a U) ∧ (∃ a, vk_R RX7 221 "nothing is counted by that number" a U) ∧
  (∀ w ∈ p_xw, va_Nw w U) ∧ va_Nc "java/lang/NegativeArraySizeException" "java/lang/IllegalArgumentException" U ∧ va_Nc "java/lang/NegativeArraySizeException" "java/lang/IllegalStateException" U
theorem p_N.ao {U : State} (h : p_N U) : va_AO "KeyAtlas$Body" U := h.1
theorem p_N.n2 {U : State} (h : p_N U) : va_Nw (.methodLinkNest RX2 5 yX5_init "KeyAtlas") U := h.2.1
theorem p_N.n4 {U : State} (h : p_N U) : va_Nw (.methodLinkNest RX4 5 yX5_init "KeyAtlas") U := h.2.2.1
theorem p_N.n6 {U : State} (h : p_N U) : va_Nw (.methodLinkNest RX6 7 yX5_init "KeyAtlas") U := h.2.2.2.1
theorem p_N.stX7_17 {U : State} (h : p_N U) : ∃ a, vk_R RX7 17 "no such kind" a U := h.2.2.2.2.1
theorem p_N.stX7_24 {U : State} (h : p_N U) : ∃ a, vk_R RX7 24 "capacity below 0" a U := h.2.2.2.2.2.1
theorem p_N.stX7_31 {U : State} (h : p_N U) : ∃ a, vk_R RX7 31 "a or b out of range" a U := h.2.2.2.2.2.2.1
theorem p_N.stX7_241 {U : State} (h : p_N U) : ∃ a, vk_R RX7 241 "no such object" a U := h.2.2.2.2.2.2.2.1
theorem p_N.stX7_221 {U : State} (h : p_N U) : ∃ a, vk_R RX7 221 "nothing is counted by that number" a U := h.2.2.2.2.2.2.2.2.1
theorem p_N.xw {U : State} (h : p_N U) : ∀ w ∈ p_xw, va_Nw w U := h.2.2.2.2.2.2.2.2.2.1
theorem p_N.nc1 {U : State} (h : p_N U) : va_Nc "java/lang/NegativeArraySizeException" "java/lang/IllegalArgumentException" U := h.2.2.2.2.2.2.2.2.2.2.1
theorem p_N.nc2 {U : State} (h : p_N U) : va_Nc "java/lang/NegativeArraySizeException" "java/lang/IllegalStateException" U := h.2.2.2.2.2.2.2.2.2.2.2
theorem p_R_warm {own tx : String} {k : Nat} {s U : State} (hW : s.WarmedH U.vm) (h : ∃ a, vk_R own k tx a s) : ∃ a, vk_R own k tx a U := by
  obtain ⟨a, h⟩ := h
  exact ⟨a, vk_R.warm hW h⟩
theorem p_N.warm {s U : State} (h : p_N s) (hW : s.WarmedH U.vm) : p_N U := by
  obtain ⟨h1, h2, h3, h4, h5, h6, h7, h8, h9, h10, h11, h12⟩ := h
  exact ⟨va_AO.moved hW.alike h1, va_Nw.warmM hW h2, va_Nw.warmM hW h3, va_Nw.warmM hW h4, p_R_warm hW h5, p_R_warm hW h6, p_R_warm hW h7, p_R_warm hW h8, p_R_warm hW h9, fun w hw => p_xw_warm hW w hw (h10 w hw), va_Nc.moved hW.alike h11, va_Nc.moved hW.alike h12⟩
def pk_PreX (D : va_G) (ws : va_W) (tys : List (ClassId × FieldType)) (sz : Nat) (U : State) : Prop := U.heap.size = sz ∧ va_P D vwCl ws U.heap ∧ va_K D vwCl tys U ∧ va_D (fun _ => True) ws ∧ p_N U ∧ p_Z (va_A ws sz) U U.heap
theorem pk_blindX {av : List Value} {D : va_G} {ws : va_W} {tys : List (ClassId × FieldType)} {sz : Nat} : FrameBlind (va_Pc av (pk_PreX D ws tys sz)) := fun a U g mk q => by
  obtain ⟨q0, q1, qP, qK, qD, qN, qZ⟩ := q
  exact ⟨q0, q1, qP, va_K.moved (u := U) (U := U.calling g mk a) (Vm.Alike.refl U.vm) qK, qD, p_N.warm (s := U) (U := U.calling g mk a) qN (State.WarmedH.refl U), p_Z.moved (u := U) (U := U.calling g mk a) qZ (Vm.Alike.refl U.vm)⟩
theorem pk_callX {s : State} {H : Heap} {A : Nat → Prop} {av : List Value} {D : va_G} {ws : va_W} {tys : List (ClassId × FieldType)} (hP : va_P D vwCl ws H) (hK : va_K D vwCl tys s) (hD : va_D A ws) (hN : p_N s) (hZ : p_Z (va_A ws H.size) s H) :
    ∀ U : State, U.heap = H → s.WarmedH U.vm → va_Pc av (pk_PreX D ws tys H.size) av.toArray U := fun U hU hW => ⟨rfl, by rw [hU], by rw [hU]; exact hP, va_K.moved hW.alike hK, hD.weaken (fun _ _ _ _ => trivial), hN.warm hW, by rw [hU]; exact hZ.moved hW.alike⟩
theorem tx_hat {args : Array Value} {s : State} {L : List Cond} (h1 : ∀ w ∈ p_xw, va_Nw w s) (h2 : ∀ w ∈ L.filter goodWord, w.before args s = true) (h3 : ∀ w ∈ L.filter (fun w => !goodWord w), w ∈ p_xw) : ∀ w ∈ L, w.before args s = true :=
  vx_hat h2 h3 (fun w hw => va_Nw.use (List.all_eq_true.mp p_xw_tab w hw) (h1 w hw))
theorem tx_in {x : Int32} {n : Nat} (h1 : 0 ≤ x.toInt) (h2 : x.toInt < n) : vp_in x n := vp_in_iff.mpr ⟨h1, h2⟩
theorem tx_at {P : Int → Prop} {x : Int32} {n : Int} (h : x.toInt = n) (hp : P n) : P x.toInt := by rw [h]; exact hp
theorem tx_sub {x y : Int32} {b : Int} (hy : y.toInt = b) (hb : 0 ≤ b) (h0 : b ≤ x.toInt) : (x - y).toInt = x.toInt - b := by
  have h := Int32.toInt_sub x y
  have h1 := Int32.toInt_lt x
  rw [hy] at h
  rw [h, Int.bmod_def]
  split <;> omega
theorem tx_subin {x y : Int32} {n : Nat} {b : Int} (hy : y.toInt = b) (hb : 0 ≤ b) (h0 : b ≤ x.toInt) (h1 : x.toInt < b + n) : vp_in (x - y) n := tx_in (by rw [tx_sub hy hb h0]; omega) (by rw [tx_sub hy hb h0]; omega)
theorem tx_cmp (x : Int64) : lg_cmp x x = 0 := by simp [lg_cmp]
/-- make on a fresh object: 0 it is made, 1 and 3 it is refused -/
def mkIs (k a b : Int32) (t : Int) : Prop :=
  (t = 1 ∧ (k.toInt < 0 ∨ 2 < k.toInt)) ∨ (t = 3 ∧ k.toInt = 0 ∧ a.toInt < 0) ∨
  (t = 1 ∧ k.toInt = 0 ∧ 0 ≤ a.toInt ∧ (1000 < a.toInt ∨ b.toInt < 0 ∨ 3 < b.toInt)) ∨ (t = 0 ∧ k.toInt = 0 ∧ 0 ≤ a.toInt ∧ a.toInt ≤ 1000 ∧ 0 ≤ b.toInt ∧ b.toInt ≤ 3) ∨
  (t = 1 ∧ k.toInt = 1 ∧ (a.toInt < 0 ∨ 1000 < a.toInt ∨ b.toInt < 0 ∨ 1 < b.toInt)) ∨ (t = 0 ∧ k.toInt = 1 ∧ 0 ≤ a.toInt ∧ a.toInt ≤ 1000 ∧ 0 ≤ b.toInt ∧ b.toInt ≤ 1) ∨
  (t = 1 ∧ k.toInt = 2 ∧ (a.toInt < 0 ∨ 3 < a.toInt)) ∨ (t = 0 ∧ k.toInt = 2 ∧ 0 ≤ a.toInt ∧ a.toInt ≤ 3)
theorem mkIs_one {k a b : Int32} {t u : Int} (h1 : mkIs k a b t) (h2 : mkIs k a b u) : t = u := by
  unfold mkIs at h1 h2
  omega
/-- count on a fresh object: the code, the answer -/
def ctIs (w : Int32) (t r : Int) : Prop := (t = 0 ∧ r = 0 ∧ w.toInt = 0) ∨ (t = 0 ∧ r = -1 ∧ 10 ≤ w.toInt ∧ w.toInt ≤ 25) ∨ (t = 0 ∧ r = -1 ∧ 30 ≤ w.toInt ∧ w.toInt ≤ 45) ∨
  (t = 1 ∧ ¬ w.toInt = 0 ∧ (w.toInt < 10 ∨ 25 < w.toInt) ∧ (w.toInt < 30 ∨ 45 < w.toInt))
theorem ctIs_one {w : Int32} {t r u q : Int} (h1 : ctIs w t r) (h2 : ctIs w u q) : t = u ∧ (t = 0 → r = q) := by
  unfold ctIs at h1 h2
  omega
theorem p1_atw : ∀ w ∈ (vx_atS RX7 19 "java/lang/IllegalArgumentException" ["java/lang/RuntimeException", "java/lang/Exception"]).filter (fun w => !goodWord w), w ∈ p_xw := by decide +kernel
theorem p1_atw2 : ∀ w ∈ (tx_atN RX7 243).filter (fun w => !goodWord w), w ∈ p_xw := by decide +kernel
theorem p1_atn2 : ∀ w ∈ (tx_atN RX7 243).filter goodWord, w ∈ lw_tbl := by decide +kernel
theorem tx_P0 {D : va_G} {cl : List vw_C} {H : Heap} : va_P D cl [] H := fun k q h => by simp at h
theorem tx_D0 {A : Nat → Prop} : va_D A [] := ⟨fun i j p q h => by simp at h, fun k q h => by simp at h⟩
def mkRng (k a b : Int32) : Prop := (k.toInt = 0 ∧ 0 ≤ a.toInt ∧ a.toInt ≤ 1000 ∧ 0 ≤ b.toInt ∧ b.toInt ≤ 3) ∨ (k.toInt = 1 ∧ 0 ≤ a.toInt ∧ a.toInt ≤ 1000 ∧ 0 ≤ b.toInt ∧ b.toInt ≤ 1) ∨ (¬ k.toInt = 0 ∧ ¬ k.toInt = 1 ∧ 0 ≤ a.toInt ∧ a.toInt ≤ 3)
def p1_NX : List Cond := (vx_atS RX7 26 "java/lang/NegativeArraySizeException" ["java/lang/RuntimeException", "java/lang/Exception"]).filter goodWord
def wsN_make : List Cond := wsX7_make ++ p1_NX
theorem p1_NXg : p1_NX.all goodWord = true := by decide +kernel
theorem tx_at2 {P : Int → Int → Prop} {x y : Int32} {n m : Int} (h : x.toInt = n) (h2 : y.toInt = m) (hp : P n m) : P x.toInt y.toInt := by rw [h, h2]; exact hp
theorem goodIn_mono {ws a b : List Cond} (h : GoodIn a ws) : GoodIn (a ++ b) ws := fun w hw => ⟨List.mem_append_left _ (h w hw).1, (h w hw).2⟩
