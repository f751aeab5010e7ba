/-- how many of the first n -/
def cntN (f : Nat → Bool) : Nat → Nat
  | 0 => 0
  | n + 1 => cntN f n + (if f n then 1 else 0)
theorem cnt_t {f : Nat → Bool} {i : Nat} (h : f i = true) : cntN f (i + 1) = cntN f i + 1 := by
  show cntN f i + (if f i then 1 else 0) = _
  rw [if_pos h]
theorem cnt_f {f : Nat → Bool} {i : Nat} (h : f i = false) : cntN f (i + 1) = cntN f i + 0 := by
  show cntN f i + (if f i then 1 else 0) = _
  rw [if_neg (by rw [h]; decide)]
theorem cnt_le (f : Nat → Bool) (n : Nat) : cntN f n ≤ n := by
  induction n with
  | zero => exact Nat.le_refl 0
  | succ n ih =>
    show cntN f n + (if f n then 1 else 0) ≤ n + 1
    split <;> omega
theorem cnt_ext {f g : Nat → Bool} {n : Nat} (h : ∀ i, i < n → f i = g i) : cntN f n = cntN g n := by
  induction n with
  | zero => rfl
  | succ n ih =>
    show cntN f n + (if f n then 1 else 0) = cntN g n + (if g n then 1 else 0)
    rw [ih (fun i hi => h i (by omega)), h n (by omega)]
theorem cnt_shift (f : Nat → Bool) (n : Nat) : cntN f (n + 1) = (if f 0 then 1 else 0) + cntN (fun i => f (i + 1)) n := by
  induction n with
  | zero => exact Nat.add_comm 0 _
  | succ n ih =>
    show cntN f (n + 1) + (if f (n + 1) then 1 else 0) = _ + (cntN (fun i => f (i + 1)) n + (if f (n + 1) then 1 else 0))
    rw [ih]; omega
theorem cnt_rev (f : Nat → Bool) (n : Nat) : cntN (fun k => f (n - 1 - k)) n = cntN f n := by
  induction n with
  | zero => rfl
  | succ n ih =>
    rw [cnt_shift]
    show (if f (n + 1 - 1 - 0) then 1 else 0) + cntN (fun i => f (n + 1 - 1 - (i + 1))) n = cntN f n + (if f n then 1 else 0)
    rw [show n + 1 - 1 - 0 = n by omega, cnt_ext (g := fun k => f (n - 1 - k)) (fun i hi => by show f _ = f _; rw [show n + 1 - 1 - (i + 1) = n - 1 - i by omega]), ih]
    omega
/-- the keys of o's rows that are within o -/
def inO (a1 a2 a4 a8 a9 a10 a11 : Nat → Int32) (o : Nat) (i : Nat) : Bool := winN a1 a8 a11 a9 a10 a4 17 o (a2 (4200 * rtN a1 a8 17 o + i))
theorem tzt {b : Bool} (h : ¬ (tz b).toInt = 0) : b = true := tz_1 h
theorem cnt_pk {f : Nat → Bool} {b : Bool} {n : Nat} : cntN (fun k => f (if b then n - 1 - k else k)) n = cntN f n := by
  cases b
  · rfl
  · exact cnt_rev f n
