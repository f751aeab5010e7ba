def uSel (l : Launch) (y : MethodName) (ws : List Cond) (rm' : Room) (mc' ms' : Nat) (free' : Addr → Prop) (Qc' : Array Value → State → Outcome → State → Prop) (XC' : String → State → State → Prop) (a : Array Value) (s : State) : Prop := ∃ (rm : Room) (Pc : Array Value → State → Prop) (Qc : Array Value → State → Outcome → State → Prop) (XC : String → State → State → Prop) (mc ms : Nat) (free : Addr → Prop), vx_Met l y ws rm Pc Qc XC mc ms free ∧ Pc a s ∧ rmLe rm rm' ∧ mc ≤ mc' ∧ ms ≤ ms' ∧
      (∀ o t, Qc a s o t → s.WarmedH t.vm → t.heap.size ≤ s.heap.size + mc → hT t.heap ≤ hT s.heap + ms → Qc' a s o t) ∧ (∀ E t, XC E s t → s.WarmedH t.vm → t.heap.size ≤ s.heap.size + mc → hT t.heap ≤ hT s.heap + ms → XC' E s t) ∧ ∀ q, free q → free' q
theorem vx_sel {l : Launch} {y : MethodName} {ws : List Cond} {rm' : Room} {Pc' : Array Value → State → Prop} {Qc' : Array Value → State → Outcome → State → Prop} {XC' : String → State → State → Prop} {mc' ms' : Nat} {free' : Addr → Prop} (h : ∀ (a : Array Value) (s : State), Pc' a s → uSel l y ws rm' mc' ms' free' Qc' XC' a s) : vx_Met l y ws rm' Pc' Qc' XC' mc' ms' free' := vx_union h
def sumN (f : Nat → Nat) : Nat → Nat
  | 0 => 0
  | n + 1 => sumN f n + f n
theorem sum_ext {f g : Nat → Nat} {n : Nat} (h : ∀ i : Nat, i < n → g i = f i) : sumN g n = sumN f n := by
  induction n with
  | zero => rfl
  | succ n ih =>
    show sumN g n + g n = sumN f n + f n
    rw [ih (fun i hi => h i (by omega)), h n (by omega)]
theorem sum_up {f : Nat → Nat} {n j x : Nat} (hj : j < n) : sumN (va_up f j x) n + f j = sumN f n + x := by
  induction n with
  | zero => omega
  | succ n ih =>
    show sumN (va_up f j x) n + va_up f j x n + f j = sumN f n + f n + x
    by_cases h : j = n
    · subst h
      rw [va_up_self, sum_ext (f := f) (fun i hi => va_up_ne _ _ (by omega))]
      omega
    · rw [va_up_ne _ _ (fun z => h z.symm)]
      have := ih (by omega)
      omega
def aA (ow : Nat → Nat) (sz : Nat) : Nat → Prop := fun q => 0 < ow q ∨ sz ≤ q
theorem A_sub {ow : Nat → Nat} {sz : Nat} {ws : va_W} (h : ∀ q ∈ ws, 0 < ow q.1) : ∀ q, va_A ws sz q → aA ow sz q := fun q hq => by
  rcases hq with ⟨k, e, hk⟩ | hq
  · exact Or.inl (h _ (List.mem_of_getElem? hk))
  · exact Or.inr hq
theorem D_nd {ow : Nat → Nat} {ws : va_W} (h : (ws.map (fun q => ow q.1)).Nodup) : va_D (fun _ => True) ws := ⟨fun i j p q hi hj e => by
  have h1 : (ws.map (fun q => ow q.1))[i]? = some (ow p.1) := by rw [List.getElem?_map, hi]; rfl
  have h2 : (ws.map (fun q => ow q.1))[j]? = some (ow p.1) := by rw [List.getElem?_map, hj, e]; rfl
  obtain ⟨l1, -⟩ := List.getElem?_eq_some_iff.mp h1
  exact (List.getElem?_inj l1 h).mp (h1.trans h2.symm), fun _ _ _ => trivial⟩
theorem nd_c {a : Nat} {l : List Nat} (h : ∀ b ∈ l, a ≠ b) (hl : l.Nodup) : (a :: l).Nodup := List.nodup_cons.mpr ⟨fun z => h a z rfl, hl⟩
/-- what a call over the cells wsO leaves as it was -/
theorem ag_call {ow ow1 : Nat → Nat} {wsO wsN : va_W} {H H1 : Heap} {Ch : Nat → Prop} (hO : ∀ q ∈ wsO, Ch (ow q.1)) (hF : ∀ q : Nat, q < H.size → ¬ va_A wsO H.size q → H1[q]? = H[q]?) (hD : va_D (va_A wsO H.size) wsN) (hw : ∀ q : Nat, (∀ x ∈ wsN, x.1 ≠ q) → ow1 q = ow q) : ∀ q : Nat, q < H.size → 0 < ow q → ¬ Ch (ow q) → ow1 q = ow q ∧ H1[q]? = H[q]? := fun q h1 _ h3 => by
  have hn : ¬ va_A wsO H.size q := fun z => by
    rcases z with ⟨k, e, hk⟩ | z
    · exact h3 (hO _ (List.mem_of_getElem? hk))
    · omega
  refine ⟨hw q (fun x hx e => ?_), hF q h1 hn⟩
  obtain ⟨k, hk⟩ := List.getElem?_of_mem hx
  have := hD.2 k x hk
  rw [e] at this
  exact hn this
theorem ow_pos {ow ow1 : Nat → Nat} {wsO wsN : va_W} {sz : Nat} (hO : ∀ q ∈ wsO, 0 < ow q.1) (hD : va_D (va_A wsO sz) wsN) (hw : ∀ q : Nat, (∀ x ∈ wsN, x.1 ≠ q) → ow1 q = ow q) : ∀ q : Nat, 0 < ow1 q → 0 < ow q ∨ sz ≤ q := fun q h => by
  by_cases hq : ∀ x ∈ wsN, x.1 ≠ q
  · rw [hw q hq] at h
    exact Or.inl h
  · obtain ⟨x, hx, e⟩ : ∃ x ∈ wsN, x.1 = q := Classical.byContradiction (fun z => hq (fun x hx e => z ⟨x, hx, e⟩))
    obtain ⟨k, hk⟩ := List.getElem?_of_mem hx
    have := hD.2 k x hk
    rw [e] at this
    exact A_sub hO q this
/-- new cells at addresses of their own -/
def owU (l : List (Nat × Nat)) (ow : Nat → Nat) : Nat → Nat := fun q => match l with
  | [] => ow q
  | (a, c) :: l => if q = a then c else owU l ow q
theorem owU_no {l : List (Nat × Nat)} {ow : Nat → Nat} {q : Nat} (h : ∀ x ∈ l, x.1 ≠ q) : owU l ow q = ow q := by
  induction l with
  | nil => rfl
  | cons x l ih =>
    obtain ⟨a, c⟩ := x
    unfold owU
    rw [if_neg (fun z => h (a, c) List.mem_cons_self z.symm)]
    exact ih (fun y hy => h y (List.mem_cons_of_mem _ hy))
theorem owU_hd {l : List (Nat × Nat)} {ow : Nat → Nat} {a c : Nat} : owU ((a, c) :: l) ow a = c := if_pos rfl
theorem owU_tl {l : List (Nat × Nat)} {ow : Nat → Nat} {a c q : Nat} (h : q ≠ a) : owU ((a, c) :: l) ow q = owU l ow q := if_neg h
def GHO : Type := (Nat → Nat) × (Nat → Nat)
def aPost (D : va_G) (a0 qb : Nat) (cq : ClassId) (bq : Nat → Option Nat) (ow rx cr : Nat → Nat) (a1 a4 a8 a11 : Nat → Int32) (sz T0 : Nat) (u : (Nat → Nat) × (Nat → Nat)) (t : State) : Prop := aI D t t.heap a0 qb cq bq u.1 rx u.2 a1 a4 a8 a11 ∧ (∀ q : Nat, 0 < u.1 q → 0 < ow q ∨ sz ≤ q) ∧ hT t.heap + sumN u.2 16 ≤ T0 + sumN cr 16 + 12700 ∧ t.heap.size ≤ sz + 150
def aPre (D : va_G) (a0 qb : Nat) (cq : ClassId) (bq : Nat → Option Nat) (ow rx cr : Nat → Nat) (a1 a4 a8 a11 : Nat → Int32) (sz T0 : Nat) (U : State) : Prop := U.heap.size = sz ∧ hT U.heap = T0 ∧ aI D U U.heap a0 qb cq bq ow rx cr a1 a4 a8 a11 ∧ p_N U ∧ p_Z (aA ow sz) U U.heap
theorem aPre_blind {av : List Value} {D : va_G} {a0 qb : Nat} {cq : ClassId} {bq : Nat → Option Nat} {ow rx cr : Nat → Nat} {a1 a4 a8 a11 : Nat → Int32} {sz T0 : Nat} : FrameBlind (va_Pc av (aPre D a0 qb cq bq ow rx cr a1 a4 a8 a11 sz T0)) := fun a U g mk q => by
  obtain ⟨q0, q1, q2, q3, q4, q5⟩ := q
  exact ⟨q0, q1, q2, aI_moved (U := U) (V := U.calling g mk a) (Vm.Alike.refl U.vm) q3, p_N.warm (s := U) (U := U.calling g mk a) q4 (State.WarmedH.refl U), p_Z.moved (u := U) (U := U.calling g mk a) q5 (Vm.Alike.refl U.vm)⟩
theorem aPre_call {s : State} {H : Heap} {A : Nat → Prop} {av : List Value} {D : va_G} {a0 qb : Nat} {cq : ClassId} {bq : Nat → Option Nat} {ow rx cr : Nat → Nat} {a1 a4 a8 a11 : Nat → Int32} (hI : aI D s H a0 qb cq bq ow rx cr a1 a4 a8 a11) (hN : p_N s) (hZ : p_Z A s H) (hA : ∀ q, aA ow H.size q → A q) :
    ∀ U : State, U.heap = H → s.WarmedH U.vm → va_Pc av (aPre D a0 qb cq bq ow rx cr a1 a4 a8 a11 H.size (hT H)) av.toArray U := fun U hU hW => ⟨rfl, by rw [hU], by rw [hU], by rw [hU]; exact aI_moved hW.alike hI, hN.warm hW, by rw [hU]; exact (hZ.narrow hA).moved hW.alike⟩
/-- nothing old has changed -/
theorem aPost_same {D : va_G} {a0 qb : Nat} {cq : ClassId} {bq : Nat → Option Nat} {ow rx cr : Nat → Nat} {a1 a4 a8 a11 : Nat → Int32} {s t : State} {mc ms : Nat} (hI : aI D s s.heap a0 qb cq bq ow rx cr a1 a4 a8 a11) (hW : s.WarmedH t.vm) (hq : ∀ q : Nat, q < s.heap.size → t.heap[q]? = s.heap[q]?) (hz : t.heap.size ≤ s.heap.size + mc) (hn : hT t.heap ≤ hT s.heap + ms) (h1 : mc ≤ 150) (h2 : ms ≤ 12700) : aPost D a0 qb cq bq ow rx cr a1 a4 a8 a11 s.heap.size (hT s.heap) (ow, cr) t :=
  ⟨aI_moved hW.alike (aI_kept hI (fun q h _ => hq q h)), fun q h => Or.inl h, by show hT t.heap + sumN cr 16 ≤ _; omega, by omega⟩
theorem F_ro {s t : State} {n : Nat} (h : va_F (roN n) s t) (hn : s.heap.size = n) : ∀ q : Nat, q < s.heap.size → t.heap[q]? = s.heap[q]? := fun q hq => h.2 q hq (fun z => by unfold roN at z; omega)
theorem F_mono {A B : Nat → Prop} {s t : State} (h : va_F A s t) (hAB : ∀ q, A q → B q) : va_F B s t := ⟨h.1, fun q h1 h2 => h.2 q h1 (fun z => h2 (hAB q z))⟩
theorem cr_map {tb L nz cap t2 L2 n2 T T2 : Nat} (h1 : hOK tb L nz cap) (h2 : hOK t2 L2 n2 cap) (h : T2 + hPS tb L ≤ T + 6 + hPS t2 L2) : T2 + crOf t2 L2 ≤ T + crOf tb L + 12600 := by
  have g1 := (hPS_le h1).1
  have g2 := (hPS_le h2).1
  unfold crOf
  by_cases e1 : tb = 0
  · rw [if_pos e1]
    by_cases e2 : t2 = 0
    · rw [if_pos e2]
      rw [hPS_0 e1] at h
      rw [hPS_0 e2] at h
      have k2 := h2.2.2.2
      have : L2 = 16 := by omega
      omega
    · rw [if_neg e2]
      omega
  · rw [if_neg e1]
    by_cases e2 : t2 = 0
    · rw [if_pos e2]
      rw [hPS_0 e2] at h
      have k2 := h2.2.2.2
      have : L2 = 16 := by omega
      omega
    · rw [if_neg e2]
      omega
theorem rt_3 {kd pa : Nat → Int32} {dep : Nat → Nat} {n o : Nat} (hF : rF kd pa dep) (ho : o < 16) (hd : dep o < n) (hk : (kd o).toInt = 3 ∨ (kd o).toInt = 4) : rtN kd pa n o < 16 ∧ (kd (rtN kd pa n o)).toInt = 3 := by
  induction n generalizing o with
  | zero => exact absurd hd (Nat.not_lt_zero _)
  | succ n ih =>
    by_cases h : (kd o).toInt = 4
    · obtain ⟨p, hp, ep, hq, h1, h4, h3⟩ := hF o ho (Or.inl h)
      rw [rtN_up h ep hp]
      exact ih hp (by omega) (by have := h3 h; omega)
    · rw [rtN_top h]
      exact ⟨ho, by omega⟩
