theorem tx_s1 {x : Int32} (h0 : -1000 ≤ x.toInt) (h1 : x.toInt ≤ 1000) : (x - 1).toInt = x.toInt - 1 := by
  rw [Int32.toInt_sub, show (1 : Int32).toInt = 1 from rfl, tx_bm (by omega) (by omega)]
