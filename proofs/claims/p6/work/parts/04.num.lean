/-! numbers, starts and ends that the contracts share -/
theorem tx_lt {x y : Int32} {a b : Int} (hx : x.toInt = a) (hy : y.toInt = b) (h : x < y) : a < b := by rw [← hx, ← hy]; exact Int32.lt_iff_toInt_lt.mp h
theorem tx_le {x y : Int32} {a b : Int} (hx : x.toInt = a) (hy : y.toInt = b) (h : x ≤ y) : a ≤ b := by rw [← hx, ← hy]; exact Int32.le_iff_toInt_le.mp h
theorem tx_nlt {x y : Int32} {a b : Int} (hx : x.toInt = a) (hy : y.toInt = b) (h : ¬ x < y) : b ≤ a := by rw [← hx, ← hy]; exact Int.not_lt.mp (fun z => h (Int32.lt_iff_toInt_lt.mpr z))
theorem tx_nle {x y : Int32} {a b : Int} (hx : x.toInt = a) (hy : y.toInt = b) (h : ¬ x ≤ y) : b < a := by rw [← hx, ← hy]; exact Int.not_le.mp (fun z => h (Int32.le_iff_toInt_le.mpr z))
theorem tx_eq {x y : Int32} {a b : Int} (hx : x.toInt = a) (hy : y.toInt = b) (h : x = y) : a = b := by rw [← hx, ← hy, h]
theorem tx_ne {x y : Int32} {a b : Int} (hx : x.toInt = a) (hy : y.toInt = b) (h : ¬ x = y) : ¬ a = b := by rw [← hx, ← hy]; exact fun z => h (Int32.toInt_inj.mp z)
def pk_Pre (D : va_G) (ws : va_W) (tys : List (ClassId × FieldType)) (sz : Nat) (U : State) : Prop := U.heap.size = sz ∧ va_P D vwCl ws U.heap ∧ va_K D vwCl tys U ∧ va_D (fun _ => True) ws
theorem pk_blind {av : List Value} {D : va_G} {ws : va_W} {tys : List (ClassId × FieldType)} {sz : Nat} : FrameBlind (va_Pc av (pk_Pre D ws tys sz)) := fun a U g mk q => by
  obtain ⟨q0, q1, qP, qK, qD⟩ := q
  exact ⟨q0, q1, qP, va_K.moved (u := U) (U := U.calling g mk a) (Vm.Alike.refl U.vm) qK, qD⟩
theorem pk_call {s : State} {H : Heap} {A : Nat → Prop} {av : List Value} {D : va_G} {ws : va_W} {tys : List (ClassId × FieldType)} (hP : va_P D vwCl ws H) (hK : va_K D vwCl tys s) (hD : va_D A ws) :
    ∀ U : State, U.heap = H → s.WarmedH U.vm → va_Pc av (pk_Pre D ws tys H.size) av.toArray U := fun U hU hW => ⟨rfl, by rw [hU], by rw [hU]; exact hP, va_K.moved hW.alike hK, hD.weaken (fun _ _ _ _ => trivial)⟩
theorem tx_in {x : Int32} {n : Nat} (h1 : 0 ≤ x.toInt) (h2 : x.toInt < n) : vp_in x n := vp_in_iff.mpr ⟨h1, h2⟩
theorem tx_at {P : Int → Prop} {x : Int32} {n : Int} (h : x.toInt = n) (hp : P n) : P x.toInt := by rw [h]; exact hp
theorem tx_sub {x y : Int32} {b : Int} (hy : y.toInt = b) (hb : 0 ≤ b) (h0 : b ≤ x.toInt) : (x - y).toInt = x.toInt - b := by
  have h := Int32.toInt_sub x y
  have h1 := Int32.toInt_lt x
  rw [hy] at h
  rw [h, Int.bmod_def]
  split <;> omega
theorem tx_subin {x y : Int32} {n : Nat} {b : Int} (hy : y.toInt = b) (hb : 0 ≤ b) (h0 : b ≤ x.toInt) (h1 : x.toInt < b + n) : vp_in (x - y) n := tx_in (by rw [tx_sub hy hb h0]; omega) (by rw [tx_sub hy hb h0]; omega)
theorem tx_cmp (x : Int64) : lg_cmp x x = 0 := by simp [lg_cmp]
theorem tx_P0 {D : va_G} {cl : List vw_C} {H : Heap} : va_P D cl [] H := fun k q h => by simp at h
theorem tx_D0 {A : Nat → Prop} : va_D A [] := ⟨fun i j p q h => by simp at h, fun k q h => by simp at h⟩
theorem tx_at2 {P : Int → Int → Prop} {x y : Int32} {n m : Int} (h : x.toInt = n) (h2 : y.toInt = m) (hp : P n m) : P x.toInt y.toInt := by rw [h, h2]; exact hp
theorem goodIn_mono {ws a b : List Cond} (h : GoodIn a ws) : GoodIn (a ++ b) ws := fun w hw => ⟨List.mem_append_left _ (h w hw).1, (h w hw).2⟩
