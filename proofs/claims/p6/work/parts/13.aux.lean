/-- does k hang on x, n steps up at most -/
def hgN (kd pa : Nat → Int32) : Nat → Nat → Int32 → Bool
  | 0, _, _ => false
  | n + 1, k, x => if (kd k).toInt = 4 ∨ (kd k).toInt = 5 then (if pa k = x then true else hgN kd pa n (pa k).toNatClampNeg x) else false
theorem hg_no {kd pa : Nat → Int32} {n k : Nat} {x : Int32} (h4 : ¬ (kd k).toInt = 4) (h5 : ¬ (kd k).toInt = 5) : hgN kd pa (n + 1) k x = false := by
  show (if (kd k).toInt = 4 ∨ (kd k).toInt = 5 then (if pa k = x then true else hgN kd pa n (pa k).toNatClampNeg x) else false) = _
  rw [if_neg (by omega)]
theorem hg_yes {kd pa : Nat → Int32} {n k p : Nat} {x : Int32} (h : (kd k).toInt = 4 ∨ (kd k).toInt = 5) (hp : pa k = nI p) (hp16 : p < 16) (hx : nI p = x) : hgN kd pa (n + 1) k x = true := by
  show (if (kd k).toInt = 4 ∨ (kd k).toInt = 5 then (if pa k = x then true else hgN kd pa n (pa k).toNatClampNeg x) else false) = _
  rw [if_pos h, if_pos (hp.trans hx)]
theorem hg_up {kd pa : Nat → Int32} {n k p : Nat} {x : Int32} (h : (kd k).toInt = 4 ∨ (kd k).toInt = 5) (hp : pa k = nI p) (hp16 : p < 16) (hx : ¬ nI p = x) : hgN kd pa (n + 1) k x = hgN kd pa n p x := by
  show (if (kd k).toInt = 4 ∨ (kd k).toInt = 5 then (if pa k = x then true else hgN kd pa n (pa k).toNatClampNeg x) else false) = _
  rw [if_pos h, if_neg (by rw [hp]; exact hx), hp, nI_clamp (by omega)]
