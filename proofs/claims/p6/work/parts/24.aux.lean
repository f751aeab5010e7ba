/-- view refuses the bounds -/
def vwB (a1 a4 a8 a11 : Nat → Int32) (o : Nat) (p1 p2 p3 : Int32) : Prop := (p1.toInt < 1 ∨ 4 < p1.toInt) ∨ (p1.toInt = 1 ∧ ocI (tnN a1 a8 a11 17 o false) (a4 (rtN a1 a8 17 o)).toInt p3 p2 < 0)
def vwR (a1 a4 a8 a11 : Nat → Int32) (p0 p1 p2 p3 c : Int32) (o xx : Nat) : Prop := (c = 1 ∧ ∀ j : Nat, j < 16 → p0 = nI j → (a1 j).toInt = 0) ∨ (o < 16 ∧ p0 = nI o ∧ ¬ (a1 o).toInt = 0 ∧ ((c = 2 ∧ ¬ (a1 o).toInt = 3 ∧ ¬ (a1 o).toInt = 4) ∨ (((a1 o).toInt = 3 ∨ (a1 o).toInt = 4) ∧ ((c = 3 ∧ vwB a1 a4 a8 a11 o p1 p2 p3) ∨ (¬ vwB a1 a4 a8 a11 o p1 p2 p3 ∧ ((c = 4 ∧ fullO a1) ∨ (c = 0 ∧ xx < 16 ∧ (a1 xx).toInt = 0 ∧ ∀ j : Nat, j < xx → ¬ (a1 j).toInt = 0)))))))
def cuR (a1 : Nat → Int32) (p0 c : Int32) (o xx : Nat) : Prop := (c = 1 ∧ ∀ j : Nat, j < 16 → p0 = nI j → (a1 j).toInt = 0) ∨ (o < 16 ∧ p0 = nI o ∧ ¬ (a1 o).toInt = 0 ∧ ((c = 2 ∧ ((a1 o).toInt < 1 ∨ 4 < (a1 o).toInt)) ∨ ((1 ≤ (a1 o).toInt ∧ (a1 o).toInt ≤ 4) ∧ ((c = 3 ∧ fullO a1) ∨ (c = 0 ∧ xx < 16 ∧ (a1 xx).toInt = 0 ∧ ∀ j : Nat, j < xx → ¬ (a1 j).toInt = 0)))))
def depU (dep : Nat → Nat) (xx o : Nat) : Nat → Nat := fun q => if q = xx then dep o + 1 else dep q
theorem rF_new {kd pa : Nat → Int32} {dep : Nat → Nat} {xx o : Nat} {v : Int32} (hF : rF kd pa dep) (ho : o < 16) (hx : (kd xx).toInt = 0) (hm : 1 ≤ (kd o).toInt ∧ (kd o).toInt ≤ 4) (hv : v.toInt = 4 → 3 ≤ (kd o).toInt) : rF (upd kd xx v) (upd (upd pa xx (-1)) xx (nI o)) (depU dep xx o) := by
  have hne : o ≠ xx := fun h => by rw [h] at hm; omega
  intro q hq hk
  by_cases h : q = xx
  · subst h
    rw [pk_us] at hk
    refine ⟨o, ho, pk_us, ?_, ?_, ?_, ?_⟩
    · unfold depU
      rw [if_neg hne, if_pos rfl]
      omega
    · rw [pk_un hne]; exact hm.1
    · rw [pk_un hne]; exact hm.2
    · rw [pk_us, pk_un hne]; exact hv
  · rw [pk_un h] at hk
    obtain ⟨p, hp, ep, hd, h1, h4, h3⟩ := hF q hq hk
    have hpx : p ≠ xx := fun z => by rw [z] at h1; omega
    refine ⟨p, hp, (pk_un h).trans ((pk_un h).trans ep), ?_, ?_, ?_, ?_⟩
    · unfold depU
      rw [if_neg hpx, if_neg h]
      exact hd
    · rw [pk_un hpx]; exact h1
    · rw [pk_un hpx]; exact h4
    · rw [pk_un h, pk_un hpx]; exact h3
theorem depU_o {dep : Nat → Nat} {xx o n : Nat} (h : o ≠ xx) (hd : dep o < n) : depU dep xx o o < n := by
  unfold depU
  rw [if_neg h]
  exact hd
/-! places of a closed set: what is found from there is found where they agree -/
def clS (kd pa : Nat → Int32) (S : Nat → Prop) : Prop := ∀ o : Nat, S o → (kd o).toInt = 4 → ∃ p : Nat, p < 16 ∧ pa o = nI p ∧ S p
theorem rt_ext {kd pa kd' pa' : Nat → Int32} {S : Nat → Prop} (hS : clS kd pa S) (h1 : ∀ o, S o → kd' o = kd o) (h8 : ∀ o, S o → pa' o = pa o) {n o : Nat} (ho : S o) : rtN kd' pa' n o = rtN kd pa n o ∧ S (rtN kd pa n o) := by
  induction n generalizing o with
  | zero => exact ⟨rfl, ho⟩
  | succ n ih =>
    by_cases h : (kd o).toInt = 4
    · obtain ⟨p, hp, ep, hs⟩ := hS o ho h
      rw [rtN_up h ep hp, rtN_up (by rw [h1 o ho]; exact h) (by rw [h8 o ho]; exact ep) hp]
      exact ih hs
    · rw [rtN_top h, rtN_top (by rw [h1 o ho]; exact h)]
      exact ⟨rfl, ho⟩
theorem tn_ext {kd pa wa kd' pa' wa' : Nat → Int32} {S : Nat → Prop} (hS : clS kd pa S) (h1 : ∀ o, S o → kd' o = kd o) (h8 : ∀ o, S o → pa' o = pa o) (hw : ∀ o, S o → (kd o).toInt = 4 → wa' o = wa o) {n o : Nat} {b : Bool} (ho : S o) : tnN kd' pa' wa' n o b = tnN kd pa wa n o b := by
  induction n generalizing o b with
  | zero => rfl
  | succ n ih =>
    by_cases h : (kd o).toInt = 4
    · obtain ⟨p, hp, ep, hs⟩ := hS o ho h
      rw [tnN_up h ep hp rfl, tnN_up (by rw [h1 o ho]; exact h) (by rw [h8 o ho]; exact ep) hp rfl, hw o ho h]
      exact ih hs
    · rw [tnN_top h, tnN_top (by rw [h1 o ho]; exact h)]
theorem win_ext {kd pa wa fr to f1 kd' pa' wa' fr' to' f1' : Nat → Int32} {S : Nat → Prop} (hS : clS kd pa S) (h1 : ∀ o, S o → kd' o = kd o) (h8 : ∀ o, S o → pa' o = pa o) (hw : ∀ o, S o → (kd o).toInt = 4 → wa' o = wa o ∧ fr' o = fr o ∧ to' o = to o) (hf : ∀ o, S o → f1' o = f1 o) {n o : Nat} {x : Int32} (ho : S o) : winN kd' pa' wa' fr' to' f1' n o x = winN kd pa wa fr to f1 n o x := by
  induction n generalizing o with
  | zero => rfl
  | succ n ih =>
    by_cases h : (kd o).toInt = 4
    · obtain ⟨p, hp, ep, hs⟩ := hS o ho h
      rw [win_st h ep hp rfl, win_st (by rw [h1 o ho]; exact h) (by rw [h8 o ho]; exact ep) hp rfl, ih hs, (hw o ho h).1, (hw o ho h).2.1, (hw o ho h).2.2, tn_ext hS h1 h8 (fun o a b => (hw o a b).1) hs, (rt_ext hS h1 h8 hs).1, hf _ (rt_ext hS h1 h8 hs).2]
    · rw [win_top h, win_top (by rw [h1 o ho]; exact h)]
theorem cl_lt {kd pa : Nat → Int32} {dep : Nat → Nat} (hF : rF kd pa dep) : clS kd pa (fun o => o < 16) := fun o ho h => by
  obtain ⟨p, hp, ep, -⟩ := hF o ho (Or.inl h)
  exact ⟨p, hp, ep, hp⟩
/-- from and to of a CURSOR bound nothing -/
theorem cnt_cu {a1 a2 a4 a8 a9 a10 a11 : Nat → Int32} {dep : Nat → Nat} {o cc n : Nat} {x y : Int32} (hF : rF a1 a8 dep) (ho : o < 16) (hc : (a1 cc).toInt = 5) : cntN (inO a1 a2 a4 a8 (upd a9 cc x) (upd a10 cc y) a11 o) n = cntN (inO a1 a2 a4 a8 a9 a10 a11 o) n := cnt_ext (fun i _ => by
  unfold inO
  refine win_ext (cl_lt hF) (fun _ _ => rfl) (fun _ _ => rfl) (fun q _ h => ?_) (fun _ _ => rfl) ho
  have hq : q ≠ cc := fun z => by rw [z] at h; omega
  exact ⟨rfl, pk_un hq, pk_un hq⟩)
/-- a CURSOR c -/
def cuO (a1 a2 a3 a4 a7 a8 a9 a10 a11 a12 : Nat → Int32) (c : Nat) : Prop := ∀ p : Nat, p < 16 → a8 c = nI p → 0 ≤ (a12 c).toInt ∧ (a12 c).toInt ≤ (a7 (rtN a1 a8 17 p)).toInt ∧ (a12 c = a7 (rtN a1 a8 17 p) → ∀ nz : Nat, a3 (rtN a1 a8 17 p) = nI nz → nz ≤ 1000 → ∃ fr tt : Nat, a9 c = nI fr ∧ a10 c = nI tt ∧ tt ≤ fr ∧ fr ≤ cntN (inO a1 a2 a4 a8 a9 a10 a11 p) nz)
theorem cu_mk {a1 a2 a3 a4 a7 a8 a9 a10 a11 a12 : Nat → Int32} {c o r : Nat} (ho : o < 16) (ep : a8 c = nI o) (hr : rtN a1 a8 17 o = r) (h1 : 0 ≤ (a12 c).toInt) (h2 : (a12 c).toInt ≤ (a7 r).toInt) (h3 : a12 c = a7 r → ∀ nz : Nat, a3 r = nI nz → nz ≤ 1000 → ∃ fr tt : Nat, a9 c = nI fr ∧ a10 c = nI tt ∧ tt ≤ fr ∧ fr ≤ cntN (inO a1 a2 a4 a8 a9 a10 a11 o) nz) : cuO a1 a2 a3 a4 a7 a8 a9 a10 a11 a12 c := fun p hp e => by
  obtain rfl : o = p := (nI_eq (by omega) (by omega)).mp (ep.symm.trans e)
  rw [hr]
  exact ⟨h1, h2, h3⟩
theorem tx_inc {x : Int32} (h0 : 0 ≤ x.toInt) (h : x.toInt < 2147483000) : (x + 1).toInt = x.toInt + 1 := by
  rw [Int32.toInt_add, show (1 : Int32).toInt = 1 from rfl, tx_bm (by omega) (by omega)]
