def whA (a1 a8 : Nat → Int32) : Nat → Int32 := fun j => if (a1 j).toInt = 4 ∨ (a1 j).toInt = 5 then a8 j else -1
theorem ip_dg {bq : Nat → Option Nat} {a1 a8 : Nat → Int32} {dep : Nat → Nat} {o : Nat} (hF : rF a1 a8 dep) (hd : ∀ o : Nat, o < 16 → dep o < 16) (ho : o < 16) (hiff : ∀ j : Nat, j < 16 → (bq j = none ↔ (a1 j).toInt = 0)) {n j : Nat} (hj : j < 16) (hn : dep j < n) (hb : ¬ bq j = none) : ipN bq (whA a1 a8) n (nI j) (nI o) = (decide (j = o) || hgN a1 a8 17 j (nI o)) := by
  induction n generalizing j with
  | zero => exact absurd hn (Nat.not_lt_zero _)
  | succ n ih =>
    by_cases hjo : j = o
    · rw [ip_eq (by rw [hjo]), decide_eq_true hjo, Bool.true_or]
    · have hne : ¬ nI j = nI o := fun z => hjo ((nI_eq (by omega) (by omega)).mp z)
      obtain ⟨y, hy⟩ : ∃ y, bq j = some y := Option.ne_none_iff_exists'.mp hb
      rw [decide_eq_false hjo, Bool.false_or, ip_up hne (bqI_some hj hy)]
      by_cases hk : (a1 j).toInt = 4 ∨ (a1 j).toInt = 5
      · obtain ⟨p, hp, ep, hdp, h1, -, -⟩ := hF j hj hk
        have ew : whA a1 a8 j = nI p := (if_pos hk).trans ep
        rw [ew, ih hp (by omega) (fun z => by have := (hiff p hp).mp z; omega)]
        by_cases hpo : p = o
        · rw [decide_eq_true hpo, Bool.true_or, hg_yes (n := 16) hk ep hp (by rw [hpo])]
        · rw [decide_eq_false hpo, Bool.false_or, hg_up (n := 16) hk ep hp (fun z => hpo ((nI_eq (by omega) (by omega)).mp z))]
          exact hg_fuel hF hp (by have := hd p hp; omega) (hd p hp)
      · have ew : whA a1 a8 j = -1 := if_neg hk
        rw [ew, hg_no (n := 16) (fun z => hk (Or.inl z)) (fun z => hk (Or.inr z))]
        refine ip_no (fun z => ?_) ?_
        · have h2 := nI_toInt (n := o) (by omega)
          rw [← z] at h2
          rw [show (-1 : Int32).toInt = -1 from rfl] at h2
          omega
        · unfold bqI
          exact if_neg (fun z => absurd z.1 (by decide))
theorem bdW_of {D : va_G} {U : State} {H : Heap} {bq : Nat → Option Nat} {ow rx cr : Nat → Nat} {a1 a4 a8 a11 : Nat → Int32} (h6 : ∀ j y : Nat, j < 16 → bq j = some y → bdI D U H bq ow rx cr a1 a4 a8 a11 j y) : bdW D bq (whA a1 a8) H := fun j y hj hy => by
  rcases h6 j y hj hy with ⟨k, g⟩ | ⟨k, g⟩ | ⟨k, g⟩ | ⟨k, g⟩
  · obtain ⟨cap, ru, tb, b0, cb, bf, x0, k0, w0, ck, cw, L, f, g, nz, ch, hP, -⟩ := g
    have e : whA a1 a8 j = -1 := if_neg (by omega)
    rw [e]
    exact Or.inr (Or.inl ⟨_, _, _, _, _, _, hP 0 _ rfl⟩)
  · obtain ⟨lim, bu, x0, k0, w0, ck, cw, L, f, g, nz, ch, hP, -⟩ := g
    have e : whA a1 a8 j = -1 := if_neg (by omega)
    rw [e]
    exact Or.inr (Or.inr (Or.inl ⟨_, _, _, _, hP 0 _ rfl⟩))
  · obtain ⟨kd, wh, tu, lo, hi, hP, -, -, -, -, -, ew⟩ := g
    have e : whA a1 a8 j = wh := by
      rw [ew]
      unfold whA
      by_cases h4 : (a1 j).toInt = 4
      · rw [if_pos (Or.inl h4), if_pos h4]
      · rw [if_neg (by omega), if_neg h4]
    rw [e]
    exact Or.inr (Or.inr (Or.inr ⟨_, _, _, _, _, _, hP 0 _ rfl⟩))
  · obtain ⟨p, yk, kdc, nx, ps, se, hp, ep, -, hP, -⟩ := g
    have e : whA a1 a8 j = nI p := (if_pos (Or.inr k)).trans ep
    rw [e]
    exact Or.inl ⟨_, _, _, _, _, hP 0 _ rfl⟩
/-- what is left of the atlas when o and what hangs on it go -/
theorem aI_drop {D : va_G} {U : State} {H1 : Heap} {a0 qb : Nat} {cq : ClassId} {bq bq2 : Nat → Option Nat} {ow rx cr : Nat → Nat} {a1 a4 a8 a11 b1 : Nat → Int32} {dep : Nat → Nat} {o : Nat} (hF : rF a1 a8 dep) (hdep : ∀ o : Nat, o < 16 → dep o < 17) (ho : o < 16) (hiff : ∀ j : Nat, j < 16 → (bq j = none ↔ (a1 j).toInt = 0)) (hb1 : ∀ j : Nat, j < 16 → b1 j = if j = o ∨ dgB a1 a8 o j = true then 0 else a1 j) (hb2 : ∀ j : Nat, bq2 j = if j < 16 ∧ ipN bq (whA a1 a8) 16 (nI j) (nI o) = true then none else bq j)
    (hB : ∀ j y : Nat, j < 16 → bq j = some y → bdI D U H1 bq ow rx cr a1 a4 a8 a11 j y) (hR : ∀ r : Nat, r < 16 → (a1 r).toInt = 3 → rwI D U H1 ow r (rx r)) (hP : va_P D vwCl [(a0, .inr (7, [.ref qb])), (qb, .inl (cq, 16, .inr (.inr (.inr (.inr bq2)))))] H1) (hK : va_K D vwCl [(cq, .object "KeyAtlas$Body")] U) (ha : ow a0 = 1) (hq : ow qb = 2) : aI D U H1 a0 qb cq bq2 ow rx cr b1 a4 a8 a11 := by
  obtain ⟨d2, hF2, hd2⟩ := rF_rank16 hF
  have hgo : ∀ j : Nat, j < 16 → ¬ bq j = none → (ipN bq (whA a1 a8) 16 (nI j) (nI o) = true ↔ (j = o ∨ dgB a1 a8 o j = true)) := fun j hj hb => by
    rw [ip_dg hF2 hd2 ho hiff hj (hd2 j hj) hb]
    unfold dgB
    by_cases hjo : j = o
    · rw [decide_eq_true hjo]
      exact ⟨fun _ => Or.inl hjo, fun _ => rfl⟩
    · rw [decide_eq_false hjo]
      constructor
      · intro z
        exact Or.inr z
      · intro z
        exact z.elim (fun z => absurd z hjo) (fun z => z)
  have hsv : ∀ j : Nat, j < 16 → ∀ y, bq2 j = some y → bq j = some y ∧ svP a1 a8 o j := fun j hj y hy => by
    rw [hb2 j] at hy
    by_cases hc : j < 16 ∧ ipN bq (whA a1 a8) 16 (nI j) (nI o) = true
    · rw [if_pos hc] at hy; cases hy
    · rw [if_neg hc] at hy
      have hn := (hgo j hj (by rw [hy]; exact fun z => by cases z))
      have hno : ¬ (j = o ∨ dgB a1 a8 o j = true) := fun z => hc ⟨hj, hn.mpr z⟩
      exact ⟨hy, hj, fun z => hno (Or.inl z), Bool.eq_false_iff.mpr (fun z => hno (Or.inr z))⟩
  have he : ∀ q : Nat, svP a1 a8 o q → b1 q = a1 q := fun q hq => by
    rw [hb1 q hq.1, if_neg (fun z => z.elim (fun z => hq.2.1 z) (fun z => absurd (hq.2.2.symm.trans z) (by decide)))]
  have hS : clS a1 a8 (svP a1 a8 o) := fun q hq h4 => by
    obtain ⟨p, hp, ep, hd, -, -, -⟩ := hF q hq.1 (Or.inl h4)
    exact ⟨p, hp, ep, sv_up hF hdep hq (Or.inl h4) hp ep hd⟩
  have hof : ∀ j : Nat, svP a1 a8 o j → ¬ bq j = none → bq2 j = bq j := fun j hj hb => by
    rw [hb2 j]
    refine if_neg (fun z => ?_)
    rcases (hgo j hj.1 hb).mp z.2 with h | h
    · exact hj.2.1 h
    · exact absurd (hj.2.2.symm.trans h) (by decide)
  refine ⟨hP, hK, ha, hq, fun j hj => ?_, fun j y hj hy => ?_, fun r hr hk => ?_⟩
  · by_cases hb : bq j = none
    · have h0 := (hiff j hj).mp hb
      have e2 : bq2 j = none := by
        rw [hb2 j, hb]
        split <;> rfl
      refine ⟨fun _ => ?_, fun _ => e2⟩
      rw [hb1 j hj]
      split
      · rfl
      · exact h0
    · by_cases hc : j = o ∨ dgB a1 a8 o j = true
      · refine ⟨fun _ => by rw [hb1 j hj, if_pos hc]; rfl, fun _ => ?_⟩
        rw [hb2 j, if_pos ⟨hj, (hgo j hj hb).mpr hc⟩]
      · rw [hb1 j hj, if_neg hc, hb2 j, if_neg (fun z => hc ((hgo j hj hb).mp z.2))]
        exact hiff j hj
  · obtain ⟨hby, hs⟩ := hsv j hj y hy
    rcases hB j y hj hby with ⟨k, g⟩ | ⟨k, g⟩ | ⟨k, g⟩ | ⟨k, g⟩
    · exact Or.inl ⟨by rw [he j hs]; exact k, g⟩
    · exact Or.inr (Or.inl ⟨by rw [he j hs]; exact k, g⟩)
    · obtain ⟨eR, -⟩ := rt_ext (n := 17) (o := j) hS (kd' := b1) (pa' := a8) he (fun _ _ => rfl) hs
      have eT := tn_ext (n := 17) (o := j) (b := false) hS (kd' := b1) (pa' := a8) (wa := a11) (wa' := a11) he (fun _ _ => rfl) (fun _ _ _ => rfl) hs
      refine Or.inr (Or.inr (Or.inl ⟨by rw [he j hs]; exact k, ?_⟩))
      unfold stI at g ⊢
      rw [eR, eT, he j hs]
      exact g
    · refine Or.inr (Or.inr (Or.inr ⟨by rw [he j hs]; exact k, ?_⟩))
      obtain ⟨p, yk, kdc, nx, ps, se, hp, ep, hb, h2⟩ := g
      obtain ⟨p2, hp2, ep2, hdp, -, -, -⟩ := hF j hj (Or.inr k)
      obtain rfl : p = p2 := (nI_eq (by omega) (by omega)).mp (ep.symm.trans ep2)
      have hps := sv_up hF hdep hs (Or.inr k) hp ep hdp
      exact ⟨p, yk, kdc, nx, ps, se, hp, ep, by rw [hof p hps (by rw [hb]; exact fun z => by cases z)]; exact hb, h2⟩
  · have hr2 : (a1 r).toInt = 3 := by
      rw [hb1 r hr] at hk
      by_cases hc : r = o ∨ dgB a1 a8 o r = true
      · rw [if_pos hc] at hk
        exact absurd hk (by decide)
      · rw [if_neg hc] at hk
        exact hk
    exact hR r hr hr2
theorem cnt_or {f : Nat → Bool} {o n : Nat} (hf : f o = false) : cntN (fun j => decide (j = o) || f j) n = (if o < n then 1 else 0) + cntN f n := by
  induction n with
  | zero => rfl
  | succ n ih =>
    show cntN (fun j => decide (j = o) || f j) n + (if (decide (n = o) || f n) = true then 1 else 0) = (if o < n + 1 then 1 else 0) + (cntN f n + (if f n = true then 1 else 0))
    rw [ih]
    by_cases h : n = o
    · subst h
      rw [if_neg (Nat.lt_irrefl n), if_pos (by simp), if_pos (Nat.lt_succ_self n), if_neg (by rw [hf]; decide)]
      omega
    · have e : (decide (n = o) || f n) = f n := by rw [decide_eq_false h]; rfl
      rw [e]
      by_cases h2 : o < n
      · rw [if_pos h2, if_pos (show o < n + 1 by omega)]
        omega
      · rw [if_neg h2, if_neg (show ¬ o < n + 1 by omega)]
        omega
theorem cnt_drop {bq : Nat → Option Nat} {a1 a8 : Nat → Int32} {dep : Nat → Nat} {o y : Nat} (hF0 : rF a1 a8 dep) (ho : o < 16) (hiff : ∀ j : Nat, j < 16 → (bq j = none ↔ (a1 j).toInt = 0)) (hb : bq o = some y) : cntN (fun j => ipN bq (whA a1 a8) 16 (nI j) (nI o)) 16 = 1 + cntN (dgB a1 a8 o) 16 := by
  obtain ⟨d2, hF, hd⟩ := rF_rank16 hF0
  have hoo : dgB a1 a8 o o = false := by unfold dgB; simp
  rw [cnt_ext (g := fun j => decide (j = o) || dgB a1 a8 o j) (fun j hj => ?_), cnt_or hoo, if_pos ho]
  show ipN bq (whA a1 a8) 16 (nI j) (nI o) = (decide (j = o) || dgB a1 a8 o j)
  by_cases hn : bq j = none
  · have hjo : ¬ j = o := fun z => by rw [z, hb] at hn; cases hn
    have hk := (hiff j hj).mp hn
    have h9 : dgB a1 a8 o j = false := by
      unfold dgB
      rw [hg_no (by omega) (by omega), Bool.and_false]
    have hq : bqI bq (nI j) = none := by
      unfold bqI
      rw [nI_toInt (by omega)]
      have e : ((j : Nat) : Int).toNat = j := by omega
      rw [e, if_neg (fun z => z.2.2 hn)]
    rw [ip_no (fun z => hjo ((nI_eq (by omega) (by omega)).mp z)) hq, decide_eq_false hjo, h9]
    rfl
  · rw [ip_dg hF hd ho hiff hj (hd j hj) hn]
    unfold dgB
    by_cases hjo : j = o
    · rw [decide_eq_true hjo]; rfl
    · rw [decide_eq_false hjo]; rfl
