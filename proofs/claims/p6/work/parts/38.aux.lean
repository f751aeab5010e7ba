/-! Linked and Sorted -/
def lnP (L nz L2 n2 : Nat) : Prop := rOK L2 n2 ∧ n2 ≤ nz + 1 ∧ (L2 = L ∨ (nz = L ∧ L2 = 2 * L))
theorem tx_b64 {z : Int} (h1 : -9223372036854775808 ≤ z) (h2 : z < 9223372036854775808) : z.bmod (2 ^ 64) = z := by
  rw [Int.bmod_def]
  split <;> omega
theorem rk_0 {o : Int} {x : Int32} (h : o = 0) : ((2 : Int64) * x.toInt64).toInt = 2 * rkI o x := by
  have h1 := Int32.toInt_lt x
  have h2 := Int32.le_toInt x
  unfold rkI
  rw [if_neg (by omega), if_neg (by omega), if_neg (by omega), Int64.toInt_mul, Int32.toInt_toInt64, show (2 : Int64).toInt = 2 from rfl, tx_b64 (by omega) (by omega)]
theorem rk_1 {o : Int} {x : Int32} (h : o = 1) : ((-2 : Int64) * x.toInt64).toInt = 2 * rkI o x := by
  have h1 := Int32.toInt_lt x
  have h2 := Int32.le_toInt x
  unfold rkI
  rw [if_pos h, Int64.toInt_mul, Int32.toInt_toInt64, show (-2 : Int64).toInt = -2 from rfl, tx_b64 (by omega) (by omega)]
  omega
theorem rk_a {x : Int32} : (if 0 < x.toInt64 then x.toInt64 else -x.toInt64).toInt = (x.toInt.natAbs : Int) := by
  split
  · next h =>
    have h1 := Int64.lt_iff_toInt_lt.mp h
    rw [tx_l] at h1
    rw [tx_l]
    have h2 : (0 : Int64).toInt = 0 := rfl
    omega
  · next h =>
    have h1 := Int.not_lt.mp (fun z => h (Int64.lt_iff_toInt_lt.mpr z))
    rw [tx_l] at h1
    rw [tx_ln]
    have h2 : (0 : Int64).toInt = 0 := rfl
    omega
theorem rk_2p {o : Int} {x : Int32} (h : o = 2) (hx : 0 < x.toInt) : ((4 : Int64) * (if 0 < x.toInt64 then x.toInt64 else -x.toInt64) + (2 : Int32).toInt64).toInt = 2 * rkI o x := by
  have h1 := Int32.toInt_lt x
  have h2 := Int32.le_toInt x
  rw [rk2 h, if_pos hx, Int64.toInt_add, Int64.toInt_mul, rk_a, show (4 : Int64).toInt = 4 from rfl, show (2 : Int32).toInt64.toInt = 2 from rfl, tx_b64 (z := 4 * (x.toInt.natAbs : Int)) (by omega) (by omega), tx_b64 (by omega) (by omega)]
  omega
theorem rk_2n {o : Int} {x : Int32} (h : o = 2) (hx : x.toInt ≤ 0) : ((4 : Int64) * (if 0 < x.toInt64 then x.toInt64 else -x.toInt64) + (0 : Int32).toInt64).toInt = 2 * rkI o x := by
  have h1 := Int32.toInt_lt x
  have h2 := Int32.le_toInt x
  rw [rk2 h, Int64.toInt_add, Int64.toInt_mul, rk_a, if_neg (show ¬ 0 < x.toInt by omega), show (4 : Int64).toInt = 4 from rfl, show (0 : Int32).toInt64.toInt = 0 from rfl, tx_b64 (z := 4 * (x.toInt.natAbs : Int)) (by omega) (by omega), tx_b64 (by omega) (by omega)]
  omega
theorem rk_3 {o : Int} {x y : Int32} (h : o = 3) (hy : y.toInt = x.toInt % 10) : ((2 : Int64) * y.toInt64).toInt = 2 * rkI o x := by
  unfold rkI
  rw [if_neg (by omega), if_neg (by omega), if_pos h, Int64.toInt_mul, Int32.toInt_toInt64, show (2 : Int64).toInt = 2 from rfl, hy, tx_b64 (by omega) (by omega)]
theorem xr10 {x : Int32} : (x ^^^ 10).toInt < 0 ↔ x.toInt < 0 := by
  have h1 : (x ^^^ 10).toBitVec.msb = x.toBitVec.msb := by
    rw [Int32.toBitVec_xor, BitVec.msb_xor, show (10 : Int32).toBitVec.msb = false by decide, Bool.xor_false]
  rw [BitVec.msb_eq_toInt, BitVec.msb_eq_toInt] at h1
  exact decide_eq_decide.mp h1
theorem Met_ofWF {l : Launch} {y : MethodName} {ws ws' : List Cond} {rm : Room} {Pc : Array Value → State → Prop} {Qc : Array Value → State → Outcome → State → Prop} {mc ms : Nat} {free : Addr → Prop} {cc : ByteArray} {maxL : Nat} {ret : Option FieldType}
    (hy : plainFor y = true) (hw : ws = Cond.code y cc maxL ret :: ws')
    (body : ∀ p e s m args below meth c s₁, BodyLoose p l y (headSpec ws rm) cc maxL ret e s m args below meth c s₁ → c.maxLocals = maxL → Pc args s →
      W p l e (headSpec ws rm).room s m args below meth c s.heap [] 0 0 (MQ below Qc args s mc ms free) (entryFrame m args maxL)) : Met l y ws rm Pc Qc mc ms free := by
  refine MetFree.of_bodySF (code := cc) (maxLocals := maxL) (ret := ret) hy ?_ ?_
  · intro args s m h hn
    obtain ⟨meth, c, h1, h2, h3, h4, h5, h6, -, -⟩ := Cond.code_spec hn (atoms_spec (ws := ws) h _ (by rw [hw]; exact List.mem_cons_self))
    exact ⟨meth, c, h1, h2, h3, h4, h5, h6⟩
  · intro p e s m args below meth c s₁ B hml hP _
    obtain ⟨t, a1, o, b1, b2, b3⟩ := body p e s m args below meth c s₁ B hml hP s₁ (by rw [B.state]; rfl) (Stand.of_body B)
    exact ⟨t, o, a1, b1, b2, ⟨b3.1, b3.2⟩⟩
