/-! the reference's parts of parts: who hangs on whom; dep falls from a part to what it is a part of -/
def rF (kd pa : Nat → Int32) (dep : Nat → Nat) : Prop := ∀ o : Nat, o < 16 → ((kd o).toInt = 4 ∨ (kd o).toInt = 5) → ∃ p : Nat, p < 16 ∧ pa o = nI p ∧ dep p < dep o ∧ 1 ≤ (kd p).toInt ∧ (kd p).toInt ≤ 4 ∧ ((kd o).toInt = 4 → 3 ≤ (kd p).toInt)
/-- the TREE (or MAP) at the end of the way from o up, n steps at most -/
def rtN (kd pa : Nat → Int32) : Nat → Nat → Nat
  | 0, o => o
  | n + 1, o => if (kd o).toInt = 4 then rtN kd pa n (pa o).toNatClampNeg else o
theorem rtN_up {kd pa : Nat → Int32} {n o p : Nat} (h : (kd o).toInt = 4) (hp : pa o = nI p) (hp16 : p < 16) : rtN kd pa (n + 1) o = rtN kd pa n p := by
  show (if (kd o).toInt = 4 then rtN kd pa n (pa o).toNatClampNeg else o) = _
  rw [if_pos h, hp, nI_clamp (by omega)]
theorem rtN_top {kd pa : Nat → Int32} {n o : Nat} (h : ¬ (kd o).toInt = 4) : rtN kd pa (n + 1) o = o := by
  show (if (kd o).toInt = 4 then rtN kd pa n (pa o).toNatClampNeg else o) = _
  rw [if_neg h]
def tz (b : Bool) : Int32 := if b then 1 else 0
theorem tz_0 {b : Bool} (h : (tz b).toInt = 0) : b = false := by cases b; rfl; exact absurd h (by decide)
theorem tz_1 {b : Bool} (h : ¬ (tz b).toInt = 0) : b = true := by cases b; exact absurd rfl h; rfl
/-- turned round or not, n steps at most -/
def tnN (kd pa wa : Nat → Int32) : Nat → Nat → Bool → Bool
  | 0, _, b => b
  | n + 1, o, b => if (kd o).toInt = 4 then tnN kd pa wa n (pa o).toNatClampNeg (if (wa o).toInt = 4 then !b else b) else b
theorem tnN_up {kd pa wa : Nat → Int32} {n o p : Nat} {b b2 : Bool} (h : (kd o).toInt = 4) (hp : pa o = nI p) (hp16 : p < 16) (hb : (if (wa o).toInt = 4 then !b else b) = b2) : tnN kd pa wa (n + 1) o b = tnN kd pa wa n p b2 := by
  show (if (kd o).toInt = 4 then tnN kd pa wa n (pa o).toNatClampNeg (if (wa o).toInt = 4 then !b else b) else b) = _
  rw [if_pos h, hp, nI_clamp (by omega), hb]
theorem tnN_top {kd pa wa : Nat → Int32} {n o : Nat} {b : Bool} (h : ¬ (kd o).toInt = 4) : tnN kd pa wa (n + 1) o b = b := by
  show (if (kd o).toInt = 4 then tnN kd pa wa n (pa o).toNatClampNeg (if (wa o).toInt = 4 then !b else b) else b) = _
  rw [if_neg h]
/-- the last digit, and where a key stands in an ORDER -/
def rkI (ord : Int) (x : Int32) : Int := if ord = 1 then - x.toInt else if ord = 2 then 2 * (x.toInt.natAbs : Int) + (if 0 < x.toInt then 1 else 0) else if ord = 3 then x.toInt % 10 else x.toInt
theorem lgc_ge {x y : Int64} (h : 0 ≤ lg_cmp x y) : y.toInt ≤ x.toInt := Int64.le_iff_toInt_le.mp ((lg_cmp_ge x y).mp h)
theorem lgc_nge {x y : Int64} (h : ¬ 0 ≤ lg_cmp x y) : x.toInt < y.toInt := Int.not_le.mp (fun z => h ((lg_cmp_ge x y).mpr (Int64.le_iff_toInt_le.mpr z)))
theorem lgc_le {x y : Int64} (h : lg_cmp x y ≤ 0) : x.toInt ≤ y.toInt := Int64.le_iff_toInt_le.mp ((lg_cmp_le x y).mp h)
theorem lgc_nle {x y : Int64} (h : ¬ lg_cmp x y ≤ 0) : y.toInt < x.toInt := Int.not_le.mp (fun z => h ((lg_cmp_le x y).mpr (Int64.le_iff_toInt_le.mpr z)))
def sg3 (r : Int) (a b : Int) : Prop := (r = -1 ∧ a < b) ∨ (r = 0 ∧ a = b) ∨ (r = 1 ∧ b < a)
