theorem tx_s1 {x : Int32} (h0 : -1000 ≤ x.toInt) (h1 : x.toInt ≤ 1000) : (x - 1).toInt = x.toInt - 1 := by
  rw [Int32.toInt_sub, show (1 : Int32).toInt = 1 from rfl, tx_bm (by omega) (by omega)]
/-- what a call that may put a key in does -/
def kpH (tb L nz cap t2 L2 n2 : Nat) : Prop := (t2 = tb ∧ L2 = L ∧ n2 ≤ nz) ∨ enP tb L nz cap t2 L2 n2
def kpL (L nz L2 n2 : Nat) : Prop := (L2 = L ∧ n2 ≤ nz) ∨ lnP L nz L2 n2
