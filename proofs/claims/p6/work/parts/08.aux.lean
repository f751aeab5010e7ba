theorem tx_bm {z : Int} (h1 : -2147483648 ≤ z) (h2 : z < 2147483648) : z.bmod (2 ^ 32) = z := by
  rw [Int.bmod_def]
  split <;> omega
theorem tx_rem {x y : Int32} {n : Int} (hy : y.toInt = n) (h0 : 0 < n) (h1 : n ≤ 16) : ∃ q r : Int, (x - x / y * y).toInt = r ∧ x.toInt = n * q + r ∧ (0 ≤ x.toInt → 0 ≤ r ∧ r < n) ∧ (x.toInt < 0 → -n < r ∧ r ≤ 0) := by
  have hx1 := Int32.toInt_lt x
  have hx2 := Int32.le_toInt x
  have h2 := Int32.toInt_div x y
  have h3 := Int32.toInt_mul (x / y) y
  have h4 := Int32.toInt_sub x (x / y * y)
  rw [hy] at h2 h3
  obtain ⟨q, hq⟩ : ∃ q, q = x.toInt.tdiv n := ⟨_, rfl⟩
  have hm := Int.mul_tdiv_add_tmod x.toInt n
  rw [← hq] at h2 hm
  have hr : (0 ≤ x.toInt → 0 ≤ x.toInt.tmod n ∧ x.toInt.tmod n < n) ∧ (x.toInt < 0 → -n < x.toInt.tmod n ∧ x.toInt.tmod n ≤ 0) := by
    refine ⟨fun h => ⟨Int.tmod_nonneg n h, Int.tmod_lt_of_pos _ h0⟩, fun h => ?_⟩
    have e1 : x.toInt.tmod n = -((-x.toInt).tmod n) := by rw [Int.neg_tmod, Int.neg_neg]
    have e2 := Int.tmod_nonneg n (show (0 : Int) ≤ -x.toInt by omega)
    have e3 := Int.tmod_lt_of_pos (-x.toInt) h0
    omega
  obtain ⟨r, hre⟩ : ∃ r, r = x.toInt.tmod n := ⟨_, rfl⟩
  rw [← hre] at hm hr
  have hb : -2147483648 ≤ q ∧ q < 2147483648 ∧ -2147483648 ≤ q * n ∧ q * n < 2147483648 := by
    rw [Int.mul_comm] at hm
    have hc : n = 1 ∨ n = 2 ∨ n = 3 ∨ n = 4 ∨ n = 5 ∨ n = 6 ∨ n = 7 ∨ n = 8 ∨ n = 9 ∨ n = 10 ∨ n = 11 ∨ n = 12 ∨ n = 13 ∨ n = 14 ∨ n = 15 ∨ n = 16 := by omega
    rcases hc with rfl | rfl | rfl | rfl | rfl | rfl | rfl | rfl | rfl | rfl | rfl | rfl | rfl | rfl | rfl | rfl <;> omega
  rw [tx_bm hb.1 hb.2.1] at h2
  rw [h2, tx_bm hb.2.2.1 hb.2.2.2] at h3
  have h5 : x.toInt - q * n = r := by rw [← hm, Int.mul_comm]; omega
  rw [h3, h5] at h4
  have hb2 : -2147483648 ≤ r ∧ r < 2147483648 := by
    rcases Int.lt_or_le x.toInt 0 with h | h
    · have := hr.2 h; omega
    · have := hr.1 h; omega
  rw [tx_bm hb2.1 hb2.2] at h4
  exact ⟨q, r, h4, hm.symm, hr.1, hr.2⟩
def cmpI (a b : Int) : Int := if a < b then -1 else if a = b then 0 else 1
theorem sg3_cmp {r a b : Int} (h : sg3 r a b) : r = cmpI a b := by
  unfold sg3 at h
  unfold cmpI
  split
  · omega
  · split <;> omega
theorem tx_l {x : Int32} : x.toInt64.toInt = x.toInt := Int32.toInt_toInt64 x
theorem tx_ln {x : Int32} : (-x.toInt64).toInt = -x.toInt := by
  have h1 := Int32.toInt_lt x
  have h2 := Int32.le_toInt x
  rw [Int64.toInt_neg, Int32.toInt_toInt64, Int.bmod_def]
  split <;> omega
theorem tx_em {x n q r : Int} (h : x = n * q + r) (h1 : -n < r) (h2 : r < 0) : r + n = x % n := by
  have h3 : x = n * (q - 1) + (r + n) := by rw [h, Int.mul_sub]; omega
  rw [h3, Int.mul_add_emod_self_left, Int.emod_eq_of_lt (by omega) (by omega)]
theorem tx_em2 {x n q r : Int} (h : x = n * q + r) (h1 : 0 ≤ r) (h2 : r < n) : r = x % n := by
  rw [h, Int.mul_add_emod_self_left, Int.emod_eq_of_lt h1 h2]
theorem lgc_eq {x y : Int64} (h : lg_cmp x y = 0) : x.toInt = y.toInt := Int.le_antisymm (lgc_le (by rw [h]; decide)) (lgc_ge (by rw [h]; decide))
theorem lgc_ne {x y : Int64} (h : ¬ lg_cmp x y = 0) : ¬ x.toInt = y.toInt := fun z => h (by
  have h1 : x = y := Int64.toInt_inj.mp z
  subst h1
  exact tx_cmp _)
theorem cmp_1 {o r : Int} {x y : Int32} (ho : o = 1) (h : sg3 r y.toInt64.toInt x.toInt64.toInt) : r = cmpI (rkI o x) (rkI o y) := by
  rw [tx_l, tx_l] at h
  unfold rkI
  rw [if_pos ho, if_pos ho]
  exact sg3_cmp (by unfold sg3 at *; omega)
theorem cmp_0 {o r : Int} {x y : Int32} (h1 : ¬ o = 1) (h2 : ¬ o = 2) (h3 : ¬ o = 3) (h : sg3 r x.toInt64.toInt y.toInt64.toInt) : r = cmpI (rkI o x) (rkI o y) := by
  rw [tx_l, tx_l] at h
  unfold rkI
  rw [if_neg h1, if_neg h2, if_neg h3, if_neg h1, if_neg h2, if_neg h3]
  exact sg3_cmp h
theorem cmp_3 {o r : Int} {x y u v : Int32} (ho : o = 3) (hu : u.toInt = x.toInt % 10) (hv : v.toInt = y.toInt % 10) (h : sg3 r u.toInt64.toInt v.toInt64.toInt) : r = cmpI (rkI o x) (rkI o y) := by
  rw [tx_l, tx_l, hu, hv] at h
  unfold rkI
  rw [if_neg (by omega), if_neg (by omega), if_pos ho, if_neg (by omega), if_neg (by omega), if_pos ho]
  exact sg3_cmp h
theorem rk2 {o : Int} (ho : o = 2) (x : Int32) : rkI o x = 2 * (x.toInt.natAbs : Int) + (if 0 < x.toInt then 1 else 0) := by
  subst ho
  unfold rkI
  rw [if_neg (show ¬ (2 : Int) = 1 by decide), if_pos (rfl : (2 : Int) = 2)]
theorem cmp_2a {o r : Int} {x y : Int32} {a b : Int64} (ho : o = 2) (ha : a.toInt = (x.toInt.natAbs : Int)) (hb : b.toInt = (y.toInt.natAbs : Int)) (hn : ¬ a.toInt = b.toInt) (h : sg3 r a.toInt b.toInt) : r = cmpI (rkI o x) (rkI o y) := by
  rw [ha, hb] at h hn
  rw [rk2 ho, rk2 ho]
  refine sg3_cmp ?_
  unfold sg3 at *
  split <;> split <;> omega
theorem cmp_2b {o r : Int} {x y : Int32} {a b : Int64} (ho : o = 2) (ha : a.toInt = (x.toInt.natAbs : Int)) (hb : b.toInt = (y.toInt.natAbs : Int)) (hn : a.toInt = b.toInt) (h : sg3 r x.toInt64.toInt y.toInt64.toInt) : r = cmpI (rkI o x) (rkI o y) := by
  rw [tx_l, tx_l] at h
  rw [ha, hb] at hn
  rw [rk2 ho, rk2 ho]
  refine sg3_cmp ?_
  unfold sg3 at *
  split <;> split <;> omega
theorem ab_n {x : Int32} (h : x.toInt < 0) : (-x.toInt64).toInt = (x.toInt.natAbs : Int) := by rw [tx_ln]; omega
theorem ab_p {x : Int32} (h : 0 ≤ x.toInt) : x.toInt64.toInt = (x.toInt.natAbs : Int) := by rw [tx_l]; omega
/-- the reference's 'ordered': turned round or not -/
def ocI (t : Bool) (o : Int) (x y : Int32) : Int := if t then - cmpI (rkI o x) (rkI o y) else cmpI (rkI o x) (rkI o y)
theorem tx_neg {x : Int32} (h : -2147483648 < x.toInt) : (-x).toInt = -x.toInt := by
  have h2 := Int32.toInt_lt x
  rw [Int32.toInt_neg, tx_bm (by omega) (by omega)]
