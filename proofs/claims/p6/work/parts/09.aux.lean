theorem tx_hv {p : Program} {l : Launch} {e : Env} {R : Room} {s : State} {m : MethodId} {args : Array Value} {below : List Frame} {meth : Method} {c : Code} {H H0 : Heap} {locs : List Loc} {cells slots : Nat} {Q : State → Prop} {g : JFrame} (hH : H = H0) (hl : locs = []) (k : W p l e R s m args below meth c H locs cells slots Q g) : W p l e R s m args below meth c H0 [] cells slots Q g := by
  subst hH
  subst hl
  exact k
/-- is the key within the bounds of one part -/
def wiB (t : Bool) (o way : Int) (fr to key : Int32) : Bool := if way = 1 then decide (0 ≤ ocI t o key fr) && decide (ocI t o key to < 0) else if way = 2 then decide (ocI t o key fr < 0) else if way = 3 then decide (0 ≤ ocI t o key fr) else true
theorem wi_1f {t : Bool} {o way : Int} {fr to key : Int32} (h : way = 1) (h1 : ocI t o key fr < 0) : wiB t o way fr to key = false := by
  unfold wiB
  rw [if_pos h, decide_eq_false (by omega)]; rfl
theorem wi_1g {t : Bool} {o way : Int} {fr to key : Int32} (h : way = 1) (h1 : 0 ≤ ocI t o key to) : wiB t o way fr to key = false := by
  unfold wiB
  rw [if_pos h, decide_eq_false (p := ocI t o key to < 0) (by omega), Bool.and_false]
theorem wi_1t {t : Bool} {o way : Int} {fr to key : Int32} (h : way = 1) (h1 : 0 ≤ ocI t o key fr) (h2 : ocI t o key to < 0) : wiB t o way fr to key = true := by
  unfold wiB
  rw [if_pos h, decide_eq_true h1, decide_eq_true h2]; rfl
theorem wi_2f {t : Bool} {o way : Int} {fr to key : Int32} (h : way = 2) (h1 : 0 ≤ ocI t o key fr) : wiB t o way fr to key = false := by
  unfold wiB
  rw [if_neg (by omega), if_pos h, decide_eq_false (by omega)]
theorem wi_2t {t : Bool} {o way : Int} {fr to key : Int32} (h : way = 2) (h1 : ocI t o key fr < 0) : wiB t o way fr to key = true := by
  unfold wiB
  rw [if_neg (by omega), if_pos h, decide_eq_true h1]
theorem wi_3f {t : Bool} {o way : Int} {fr to key : Int32} (h : way = 3) (h1 : ocI t o key fr < 0) : wiB t o way fr to key = false := by
  unfold wiB
  rw [if_neg (by omega), if_neg (by omega), if_pos h, decide_eq_false (by omega)]
theorem wi_3t {t : Bool} {o way : Int} {fr to key : Int32} (h : way = 3) (h1 : 0 ≤ ocI t o key fr) : wiB t o way fr to key = true := by
  unfold wiB
  rw [if_neg (by omega), if_neg (by omega), if_pos h, decide_eq_true h1]
theorem wi_4 {t : Bool} {o way : Int} {fr to key : Int32} (h1 : ¬ way = 1) (h2 : ¬ way = 2) (h3 : ¬ way = 3) : wiB t o way fr to key = true := by
  unfold wiB
  rw [if_neg h1, if_neg h2, if_neg h3]
/-- is the key within all the parts from k up, n steps at most -/
def winN (kd pa wa fr to f1 : Nat → Int32) : Nat → Nat → Int32 → Bool
  | 0, _, _ => true
  | n + 1, k, key => if (kd k).toInt = 4 then wiB (tnN kd pa wa 17 (pa k).toNatClampNeg false) (f1 (rtN kd pa 17 (pa k).toNatClampNeg)).toInt (wa k).toInt (fr k) (to k) key && winN kd pa wa fr to f1 n (pa k).toNatClampNeg key else true
theorem win_st {kd pa wa fr to f1 : Nat → Int32} {n k p : Nat} {key : Int32} {b : Bool} (h : (kd k).toInt = 4) (hp : pa k = nI p) (hp16 : p < 16) (hs : wiB (tnN kd pa wa 17 p false) (f1 (rtN kd pa 17 p)).toInt (wa k).toInt (fr k) (to k) key = b) : winN kd pa wa fr to f1 (n + 1) k key = (b && winN kd pa wa fr to f1 n p key) := by
  show (if (kd k).toInt = 4 then wiB (tnN kd pa wa 17 (pa k).toNatClampNeg false) (f1 (rtN kd pa 17 (pa k).toNatClampNeg)).toInt (wa k).toInt (fr k) (to k) key && winN kd pa wa fr to f1 n (pa k).toNatClampNeg key else true) = _
  rw [if_pos h, hp, nI_clamp (by omega), hs]
theorem win_no {kd pa wa fr to f1 : Nat → Int32} {n k p : Nat} {key : Int32} (h : (kd k).toInt = 4) (hp : pa k = nI p) (hp16 : p < 16) (hs : wiB (tnN kd pa wa 17 p false) (f1 (rtN kd pa 17 p)).toInt (wa k).toInt (fr k) (to k) key = false) : winN kd pa wa fr to f1 (n + 1) k key = false := (win_st h hp hp16 hs).trans rfl
theorem win_up {kd pa wa fr to f1 : Nat → Int32} {n k p : Nat} {key : Int32} (h : (kd k).toInt = 4) (hp : pa k = nI p) (hp16 : p < 16) (hs : wiB (tnN kd pa wa 17 p false) (f1 (rtN kd pa 17 p)).toInt (wa k).toInt (fr k) (to k) key = true) : winN kd pa wa fr to f1 (n + 1) k key = winN kd pa wa fr to f1 n p key := (win_st h hp hp16 hs).trans (Bool.true_and _)
theorem win_top {kd pa wa fr to f1 : Nat → Int32} {n k : Nat} {key : Int32} (h : ¬ (kd k).toInt = 4) : winN kd pa wa fr to f1 (n + 1) k key = true := by
  show (if (kd k).toInt = 4 then wiB (tnN kd pa wa 17 (pa k).toNatClampNeg false) (f1 (rtN kd pa 17 (pa k).toNatClampNeg)).toInt (wa k).toInt (fr k) (to k) key && winN kd pa wa fr to f1 n (pa k).toNatClampNeg key else true) = _
  rw [if_neg h]
