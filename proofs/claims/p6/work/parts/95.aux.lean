def p_nx : List (String × String) := [("java/lang/ClassCastException", "java/util/NoSuchElementException"), ("java/lang/IllegalArgumentException", "java/util/NoSuchElementException"), ("java/lang/IllegalArgumentException", "java/lang/ClassCastException"), ("java/lang/IllegalStateException", "java/util/NoSuchElementException"), ("java/lang/IllegalStateException", "java/lang/ClassCastException"), ("java/lang/IllegalStateException", "java/lang/IllegalArgumentException"), ("java/lang/UnsupportedOperationException", "java/util/NoSuchElementException"), ("java/lang/UnsupportedOperationException", "java/lang/ClassCastException"), ("java/lang/UnsupportedOperationException", "java/lang/IllegalArgumentException"), ("java/lang/UnsupportedOperationException", "java/lang/IllegalStateException"), ("java/lang/IndexOutOfBoundsException", "java/util/NoSuchElementException"), ("java/lang/IndexOutOfBoundsException", "java/lang/ClassCastException"), ("java/lang/IndexOutOfBoundsException", "java/lang/IllegalArgumentException"), ("java/lang/NegativeArraySizeException", "java/lang/IllegalArgumentException"), ("java/lang/NegativeArraySizeException", "java/lang/IllegalStateException")]
def p_M (U : State) : Prop := ∀ x ∈ p_nx, va_Nc x.1 x.2 U
theorem p_M.moved {u U : State} (hvm : u.vm.Alike U.vm) (h : p_M u) : p_M U := fun x hx => va_Nc.moved hvm (h x hx)
theorem D_one {A : Nat → Prop} {q : Nat × va_E} (h : A q.1) : va_D A [q] := ⟨fun i j x y hi hj _ => by
  have h1 : i < 1 := (List.getElem?_eq_some_iff.mp hi).1
  have h2 : j < 1 := (List.getElem?_eq_some_iff.mp hj).1
  omega, fun k x hk => by
  cases k with
  | zero => cases hk; exact h
  | succ k => simp at hk⟩
def lA (ow : Nat → Nat) (qo sz : Nat) : Nat → Prop := fun q => aA ow sz q ∨ q = qo
section LAST
variable {p : Program} {l : Launch} {e : Env} {R : Room} {s : State} {m : MethodId} {args : Array Value} {below : List Frame} {meth : Method} {c : Code} {H : Heap} {locs : List Loc} {cells slots : Nat} {Q : State → Prop}
variable {cc : ByteArray} {pc : Nat} {ls : Array Slot} {rest : List Value} {D : va_G} {cl : List vw_C} {A : Nat → Prop} {a : Nat} {tys : List (ClassId × FieldType)} {ws : va_W} {H0 : Heap}
/-- a store into a long[], with what it leaves as it was -/
theorem tx_last (hexec : p.tables.exec = Jvm.exec) (hb : c.code = cc) (hK : va_K D cl tys s) (hP : va_P D cl ws H) (hD : va_D A ws) (hS : va_S A H0 H locs) (q0 t0 : Nat) {cA : ClassId} {n : Nat} {f : Nat → Int64} (ha : ws[q0]? = some (a, .inl (cA, n, .inr (.inl f)))) (ht : tys[t0]? = some (cA, .long)) {i : Int32} {x : Int64} (hin : vp_in i n) (hdg : decode cc pc = .ok (.lastore, 1))
    (kk : ∀ (H1 : Heap) (locs1 : List Loc), va_P D cl (ws.set q0 (a, .inl (cA, n, .inr (.inl (vp_updL f i.toNatClampNeg x))))) H1 → va_D A (ws.set q0 (a, .inl (cA, n, .inr (.inl (vp_updL f i.toNatClampNeg x))))) → va_S A H0 H1 locs1 → (∀ q : Nat, q ≠ a → H1[q]? = H[q]?) → W p l e R s m args below meth c H1 locs1 cells slots Q (F0 m (pc + 1) ls rest)) : W p l e R s m args below meth c H locs cells slots Q (F0 m pc ls (.long x :: .int i :: .ref a :: rest)) := by
  refine W.last hexec hb (hP q0 _ ha) ((hK.2 t0 _ ht).1 n (fun j => .long (f j))) (fun q => by cases q) (by show ¬ (i < 0 ∨ (arrV _ _ _).slots.size ≤ _); rw [arrV_size]; exact hin) rfl rfl hdg fun H1 e z oq => ?_
  refine kk H1 _ (hP.set hD ha ?_ oq) (hD.set ha) (hS.put z oq (hD.2 q0 _ ha)) oq
  show H1[a]? = some (vp_cell _ _)
  rw [e, vp_cell_l, vp_cell_l, arrV_store]
  congr 2
  funext q
  by_cases hq : q = i.toNatClampNeg
  · subst hq
    simp [updV, vp_updL]
  · simp [updV, vp_updL, hq]
/-- what came is known from below too -/
theorem W.book2 {g : JFrame} (kk : H.size ≤ s.heap.size + cells → hT H ≤ hT s.heap + slots → s.heap.size ≤ H.size → hT s.heap ≤ hT H → W p l e R s m args below meth c H locs cells slots Q g) : W p l e R s m args below meth c H locs cells slots Q g := fun T hH X => by
  have h1 := X.heapSize
  have h2 := X.used
  obtain ⟨h3, h4⟩ := tx_used X
  obtain ⟨g1, g2, g3, g4, g5, g6⟩ := X.same
  have g4' : T.slotsUsed = s.slotsUsed + (((T.setVm s.vm).heap.toList.drop s.heap.size).map (·.slots.size)).sum := g4
  have g2' : s.heap.size ≤ T.heap.size := g2
  rw [h3, h4, hH] at h2 g4'
  rw [hH] at h1 g2'
  exact kk h1 h2 g2' (by omega) T hH X
end LAST
theorem up_0 {f : Nat → Int64} {x : Int64} : vp_updL f (0 : Int32).toNatClampNeg x 0 = x := by
  unfold vp_updL
  rw [if_pos (by decide)]
def lPre (D : va_G) (a0 qb : Nat) (cq : ClassId) (bq : Nat → Option Nat) (ow rx cr : Nat → Nat) (a1 a4 a8 a11 : Nat → Int32) (qo : Nat) (co : ClassId) (f0 : Nat → Int64) (sz T0 : Nat) (U : State) : Prop := U.heap.size = sz ∧ hT U.heap = T0 ∧ aI D U U.heap a0 qb cq bq ow rx cr a1 a4 a8 a11 ∧ p_N U ∧ p_M U ∧ p_Z (lA ow qo sz) U U.heap ∧ va_P D vwCl [(qo, .inl (co, 1, .inr (.inl f0)))] U.heap ∧ va_K D vwCl [(co, .long)] U ∧ ow qo = 0
theorem lPre_blind {av : List Value} {D : va_G} {a0 qb : Nat} {cq : ClassId} {bq : Nat → Option Nat} {ow rx cr : Nat → Nat} {a1 a4 a8 a11 : Nat → Int32} {qo : Nat} {co : ClassId} {f0 : Nat → Int64} {sz T0 : Nat} : FrameBlind (va_Pc av (lPre D a0 qb cq bq ow rx cr a1 a4 a8 a11 qo co f0 sz T0)) := fun a U g mk q => by
  obtain ⟨q0, q1, q2, q3, q4, q5, q6, q7, q8, q9⟩ := q
  exact ⟨q0, q1, q2, aI_moved (U := U) (V := U.calling g mk a) (Vm.Alike.refl U.vm) q3, p_N.warm (s := U) (U := U.calling g mk a) q4 (State.WarmedH.refl U), p_M.moved (u := U) (U := U.calling g mk a) (Vm.Alike.refl U.vm) q5, p_Z.moved (u := U) (U := U.calling g mk a) q6 (Vm.Alike.refl U.vm), q7, va_K.moved (u := U) (U := U.calling g mk a) (Vm.Alike.refl U.vm) q8, q9⟩
theorem lPre_call {s : State} {H : Heap} {A : Nat → Prop} {av : List Value} {D : va_G} {a0 qb : Nat} {cq : ClassId} {bq : Nat → Option Nat} {ow rx cr : Nat → Nat} {a1 a4 a8 a11 : Nat → Int32} {qo : Nat} {co : ClassId} {f0 : Nat → Int64} (hI : aI D s H a0 qb cq bq ow rx cr a1 a4 a8 a11) (hN : p_N s) (hM : p_M s) (hZ : p_Z A s H) (hA : ∀ q, lA ow qo H.size q → A q) (hP : va_P D vwCl [(qo, .inl (co, 1, .inr (.inl f0)))] H) (hK : va_K D vwCl [(co, .long)] s) (ho : ow qo = 0) :
    ∀ U : State, U.heap = H → s.WarmedH U.vm → va_Pc av (lPre D a0 qb cq bq ow rx cr a1 a4 a8 a11 qo co f0 H.size (hT H)) av.toArray U := fun U hU hW => ⟨rfl, by rw [hU], by rw [hU], by rw [hU]; exact aI_moved hW.alike hI, hN.warm hW, hM.moved hW.alike, by rw [hU]; exact (hZ.narrow hA).moved hW.alike, by rw [hU]; exact hP, va_K.moved hW.alike hK, ho⟩
