/-! the reference between two calls -/
theorem cnt_mono {f g : Nat → Bool} {n : Nat} (h : ∀ i, i < n → f i = true → g i = true) : cntN f n ≤ cntN g n := by
  induction n with
  | zero => exact Nat.le_refl 0
  | succ n ih =>
    have h1 := ih (fun i hi => h i (by omega))
    show cntN f n + (if f n then 1 else 0) ≤ cntN g n + (if g n then 1 else 0)
    by_cases hc : f n = true
    · rw [if_pos hc, if_pos (h n (by omega) hc)]
      omega
    · rw [if_neg hc]
      omega
theorem cnt_lt {f g : Nat → Bool} {n p : Nat} (hp : p < n) (h : ∀ i, i < n → f i = true → g i = true) (h1 : f p = false) (h2 : g p = true) : cntN f n < cntN g n := by
  induction n with
  | zero => omega
  | succ n ih =>
    show cntN f n + (if f n then 1 else 0) < cntN g n + (if g n then 1 else 0)
    by_cases hc : p = n
    · subst hc
      have h3 := cnt_mono (n := p) (fun i hi => h i (by omega))
      rw [if_neg (by rw [h1]; decide), if_pos h2]
      omega
    · have h3 := ih (by omega) (fun i hi => h i (by omega))
      by_cases hd : f n = true
      · rw [if_pos hd, if_pos (h n (by omega) hd)]
        omega
      · rw [if_neg hd]
        omega
theorem rF_rank {kd pa : Nat → Int32} {dep : Nat → Nat} (hF : rF kd pa dep) : ∃ d2 : Nat → Nat, rF kd pa d2 ∧ ∀ o : Nat, o < 16 → d2 o < 17 := by
  refine ⟨fun o => cntN (fun j => decide (dep j < dep o)) 16, fun o ho hk => ?_, fun o _ => Nat.lt_succ_of_le (cnt_le _ 16)⟩
  obtain ⟨p, hp, ep, hd, h1, h4, h3⟩ := hF o ho hk
  exact ⟨p, hp, ep, cnt_lt hp (fun i _ hi => decide_eq_true (by have := of_decide_eq_true hi; omega)) (decide_eq_false (by omega)) (decide_eq_true hd), h1, h4, h3⟩
def RInv (K : Nat) (a1 a2 a3 a4 a6 a7 a8 a9 a10 a11 a12 : Nat → Int32) : Prop :=
  (∃ dep : Nat → Nat, rF a1 a8 dep ∧ ∀ o : Nat, o < 16 → dep o < 17) ∧ (∀ o : Nat, o < 16 → 0 ≤ (a1 o).toInt ∧ (a1 o).toInt ≤ 5) ∧ (∀ r : Nat, r < 16 → 1 ≤ (a1 r).toInt → (a1 r).toInt ≤ 3 → mOK (a1 r) (a4 r) (a3 r) (a6 r)) ∧ (∀ r : Nat, r < 16 → 0 ≤ (a7 r).toInt ∧ (a7 r).toInt ≤ K) ∧ (∀ c : Nat, c < 16 → (a1 c).toInt = 5 → cuO a1 a2 a3 a4 a7 a8 a9 a10 a11 a12 c)
theorem tx_addn {x : Int32} {d K : Nat} (h0 : 0 ≤ x.toInt) (h1 : x.toInt ≤ K) (hd : d ≤ 2000) (hK : K < 2147480000) : (x + nI d).toInt = x.toInt + d := by
  rw [Int32.toInt_add, nI_toInt (by omega), tx_bm (by omega) (by omega)]
/-- a call has changed the rows of r alone: of a cursor over them -/
theorem cu_rs {K r d c : Nat} {a1 a2 a3 a4 a6 a7 a8 a9 a10 a11 a12 b2 b3 b6 b7 : Nat → Int32} (hb : ∀ q : Nat, q < 16 → 0 ≤ (a7 q).toInt ∧ (a7 q).toInt ≤ K) (hF : ∃ dep : Nat → Nat, rF a1 a8 dep ∧ ∀ o : Nat, o < 16 → dep o < 17) (hd : d ≤ 2000) (hK : K < 2147480000) (hr : rsR r d a2 a3 a6 a7 b2 b3 b6 b7) (h : cuO a1 a2 a3 a4 a7 a8 a9 a10 a11 a12 c) : cuO a1 b2 b3 a4 b7 a8 a9 a10 a11 a12 c := by
  intro p hp ep
  obtain ⟨h1, h2, h3⟩ := h p hp ep
  obtain ⟨dep, hF1, -⟩ := hF
  have hR : rtN a1 a8 17 p < 16 := rt_lt hF1 hp
  obtain ⟨R, eR⟩ : ∃ R, R = rtN a1 a8 17 p := ⟨_, rfl⟩
  rw [← eR] at h2 h3 hR ⊢
  obtain ⟨o1, o2, o3, o4⟩ := hr
  by_cases hc : R = r
  · subst hc
    have hbR := hb R hR
    have h7 : (b7 R).toInt = (a7 R).toInt + d := by rw [o3, tx_addn hbR.1 hbR.2 hd hK]
    by_cases hd0 : d = 0
    · subst hd0
      obtain ⟨g1, g2⟩ := o4 rfl
      have e7 : b7 R = a7 R := by rw [o3, show nI 0 = 0 from rfl, Int32.add_zero]
      rw [e7]
      refine ⟨h1, h2, fun hs nz hz hn => ?_⟩
      rw [g1] at hz
      obtain ⟨fr, tt, k1, k2, k3, k4⟩ := h3 hs nz hz hn
      exact ⟨fr, tt, k1, k2, k3, by rw [cnt_io eR.symm hn g2]; exact k4⟩
    · refine ⟨h1, by omega, fun hs => ?_⟩
      rw [hs] at h2
      omega
  · obtain ⟨g1, g2, g3⟩ := o2 R hc
    rw [g3]
    refine ⟨h1, h2, fun hs nz hz hn => ?_⟩
    rw [g1] at hz
    obtain ⟨fr, tt, k1, k2, k3, k4⟩ := h3 hs nz hz hn
    exact ⟨fr, tt, k1, k2, k3, by rw [cnt_io eR.symm hn (fun i hi => o1 _ (by omega))]; exact k4⟩
theorem RInv_rs {K r d : Nat} {a1 a2 a3 a4 a6 a7 a8 a9 a10 a11 a12 b2 b3 b6 b7 : Nat → Int32} (h : RInv K a1 a2 a3 a4 a6 a7 a8 a9 a10 a11 a12) (hd : d ≤ 2000) (hK : K < 2147470000) (hr : rsR r d a2 a3 a6 a7 b2 b3 b6 b7) (hm : r < 16 → 1 ≤ (a1 r).toInt → (a1 r).toInt ≤ 3 → mOK (a1 r) (a4 r) (b3 r) (b6 r)) : RInv (K + 2000) a1 b2 b3 a4 b6 b7 a8 a9 a10 a11 a12 := by
  obtain ⟨h1, h2, h3, h4, h5⟩ := h
  refine ⟨h1, h2, fun q hq k1 k3 => ?_, fun q hq => ?_, fun c hc hk => cu_rs h4 h1 hd (by omega) hr (h5 c hc hk)⟩
  · by_cases hc : q = r
    · subst hc
      exact hm hq k1 k3
    · obtain ⟨g1, g2, -⟩ := hr.2.1 q hc
      rw [g1, g2]
      exact h3 q hq k1 k3
  · have h7 := h4 q hq
    by_cases hc : q = r
    · subst hc
      rw [hr.2.2.1, tx_addn h7.1 h7.2 hd (by omega)]
      omega
    · rw [(hr.2.1 q hc).2.2]
      omega
theorem RInv_le {K K2 : Nat} {a1 a2 a3 a4 a6 a7 a8 a9 a10 a11 a12 : Nat → Int32} (h : RInv K a1 a2 a3 a4 a6 a7 a8 a9 a10 a11 a12) (hK : K ≤ K2) : RInv K2 a1 a2 a3 a4 a6 a7 a8 a9 a10 a11 a12 := by
  obtain ⟨h1, h2, h3, h4, h5⟩ := h
  exact ⟨h1, h2, h3, fun r hr => ⟨(h4 r hr).1, by have := (h4 r hr).2; omega⟩, h5⟩
theorem cnt_ext9 {a1 a2 a4 a8 a9 a10 a11 b9 b10 : Nat → Int32} {dep : Nat → Nat} {p n : Nat} (hF : rF a1 a8 dep) (hp : p < 16) (h : ∀ q : Nat, (a1 q).toInt = 4 → b9 q = a9 q ∧ b10 q = a10 q) : cntN (inO a1 a2 a4 a8 b9 b10 a11 p) n = cntN (inO a1 a2 a4 a8 a9 a10 a11 p) n := cnt_ext (fun i _ => by
  unfold inO
  exact win_ext (cl_lt hF) (fun _ _ => rfl) (fun _ _ => rfl) (fun q _ hk => ⟨rfl, (h q hk).1, (h q hk).2⟩) (fun _ _ => rfl) hp)
/-- move keeps it -/
theorem RInv_mv {K r d c : Nat} {a1 a2 a3 a4 a6 a7 a8 a9 a10 a11 a12 b2 b3 b7 b9 b10 b12 : Nat → Int32} (h : RInv K a1 a2 a3 a4 a6 a7 a8 a9 a10 a11 a12) (hK : K < 2147470000) (hc : c < 16) (hk5 : (a1 c).toInt = 5) (hd : d ≤ 1) (hr : rsR r d a2 a3 a6 a7 b2 b3 a6 b7) (hm : mOK (a1 r) (a4 r) (b3 r) (a6 r)) (hq : ∀ q : Nat, q ≠ c → b9 q = a9 q ∧ b10 q = a10 q ∧ b12 q = a12 q) (hcu : cuO a1 b2 b3 a4 b7 a8 b9 b10 a11 b12 c) : RInv (K + 2000) a1 b2 b3 a4 a6 b7 a8 b9 b10 a11 b12 := by
  obtain ⟨h1, h2, h3, h4, h5⟩ := RInv_rs h (by omega) hK hr (fun _ _ _ => hm)
  refine ⟨h1, h2, h3, h4, fun q hq16 hk => ?_⟩
  by_cases hqc : q = c
  · subst hqc
    exact hcu
  · obtain ⟨e9, e10, e12⟩ := hq q hqc
    intro p hp ep
    obtain ⟨g1, g2, g3⟩ := h5 q hq16 hk p hp ep
    rw [e12]
    refine ⟨g1, g2, fun hs nz hz hn => ?_⟩
    obtain ⟨fr, tt, k1, k2, k3, k4⟩ := g3 hs nz hz hn
    obtain ⟨dep, hF, -⟩ := h1
    refine ⟨fr, tt, e9.trans k1, e10.trans k2, k3, ?_⟩
    rw [cnt_ext9 hF hp (fun x hx => ?_)]
    · exact k4
    · have hxc : x ≠ c := fun z => by rw [z] at hx; omega
      exact ⟨(hq x hxc).1, (hq x hxc).2.1⟩
/-- a birth at xx, which was free: the cursors that were stay what they were -/
theorem cu_born {xx c : Nat} {a1 a2 a3 a4 a7 a8 a9 a10 a11 a12 b1 b3 b4 b7 b8 b9 b10 b11 b12 : Nat → Int32} {dep : Nat → Nat} (hF : rF a1 a8 dep) (hx : (a1 xx).toInt = 0) (hc : c < 16) (hk : (a1 c).toInt = 5) (e1 : ∀ q : Nat, q ≠ xx → b1 q = a1 q) (e3 : ∀ q : Nat, q ≠ xx → b3 q = a3 q) (e4 : ∀ q : Nat, q ≠ xx → b4 q = a4 q) (e7 : ∀ q : Nat, q ≠ xx → b7 q = a7 q) (e8 : ∀ q : Nat, q ≠ xx → b8 q = a8 q) (e9 : ∀ q : Nat, q ≠ xx → b9 q = a9 q) (e10 : ∀ q : Nat, q ≠ xx → b10 q = a10 q) (e11 : ∀ q : Nat, q ≠ xx → b11 q = a11 q) (e12 : ∀ q : Nat, q ≠ xx → b12 q = a12 q) (h : cuO a1 a2 a3 a4 a7 a8 a9 a10 a11 a12 c) : cuO b1 a2 b3 b4 b7 b8 b9 b10 b11 b12 c := by
  have hcx : c ≠ xx := fun z => by rw [z] at hk; omega
  intro p hp ep
  rw [e8 c hcx] at ep
  obtain ⟨p2, hp2, ep2, -, hk1, -, -⟩ := hF c hc (Or.inr hk)
  obtain rfl : p = p2 := (nI_eq (by omega) (by omega)).mp (ep.symm.trans ep2)
  have hpx : p ≠ xx := fun z => by rw [z] at hk1; omega
  have hS : clS a1 a8 (fun o => o < 16 ∧ o ≠ xx) := fun o ho h4 => by
    obtain ⟨p3, hp3, ep3, -, hk3, -, -⟩ := hF o ho.1 (Or.inl h4)
    exact ⟨p3, hp3, ep3, hp3, fun z => by rw [z] at hk3; omega⟩
  obtain ⟨eR, hR⟩ := rt_ext (n := 17) (o := p) hS (kd' := b1) (pa' := b8) (fun o ho => e1 o ho.2) (fun o ho => e8 o ho.2) ⟨hp, hpx⟩
  obtain ⟨g1, g2, g3⟩ := h p hp ep
  rw [eR, e12 c hcx, e7 _ hR.2, e3 _ hR.2]
  refine ⟨g1, g2, fun hs nz hz hn => ?_⟩
  obtain ⟨fr, tt, k1, k2, k3, k4⟩ := g3 hs nz hz hn
  refine ⟨fr, tt, (e9 c hcx).trans k1, (e10 c hcx).trans k2, k3, ?_⟩
  rw [cnt_ext (g := inO a1 a2 a4 a8 a9 a10 a11 p) (fun i _ => ?_)]
  · exact k4
  · unfold inO
    rw [eR]
    exact win_ext hS (fun o ho => e1 o ho.2) (fun o ho => e8 o ho.2) (fun o ho _ => ⟨e11 o ho.2, e9 o ho.2, e10 o ho.2⟩) (fun o ho => e4 o ho.2) ⟨hp, hpx⟩
/-- make keeps it -/
theorem RInv_make {K xx : Nat} {v p1 : Int32} {a1 a2 a3 a4 a6 a7 a8 a9 a10 a11 a12 : Nat → Int32} (h : RInv K a1 a2 a3 a4 a6 a7 a8 a9 a10 a11 a12) (hx : (a1 xx).toInt = 0) (hv : 1 ≤ v.toInt ∧ v.toInt ≤ 3) (hm : mOK v p1 0 0) : RInv K (upd a1 xx v) a2 (upd a3 xx 0) (upd a4 xx p1) (upd a6 xx 0) (upd a7 xx 0) (upd a8 xx (-1)) a9 a10 a11 a12 := by
  obtain ⟨⟨dep, hF, hdep⟩, h2, h3, h4, h5⟩ := h
  refine ⟨⟨dep, fun q hq hk => ?_, hdep⟩, fun q hq => ?_, fun q hq k1 k3 => ?_, fun q hq => ?_, fun c hc hk => ?_⟩
  · have hqx : q ≠ xx := fun z => by rw [z, pk_us] at hk; omega
    rw [pk_un hqx] at hk
    obtain ⟨p, hp, ep, hd, g1, g4, g3⟩ := hF q hq hk
    have hpx : p ≠ xx := fun z => by rw [z] at g1; omega
    exact ⟨p, hp, (pk_un hqx).trans ep, hd, by rw [pk_un hpx]; exact g1, by rw [pk_un hpx]; exact g4, by rw [pk_un hqx, pk_un hpx]; exact g3⟩
  · by_cases hqx : q = xx
    · rw [hqx, pk_us]; omega
    · rw [pk_un hqx]; exact h2 q hq
  · by_cases hqx : q = xx
    · rw [hqx, pk_us, pk_us, pk_us, pk_us]; exact hm
    · rw [pk_un hqx] at k1 k3
      rw [pk_un hqx, pk_un hqx, pk_un hqx, pk_un hqx]; exact h3 q hq k1 k3
  · by_cases hqx : q = xx
    · rw [hqx, pk_us]
      exact ⟨by decide, by rw [show (0 : Int32).toInt = 0 from rfl]; omega⟩
    · rw [pk_un hqx]; exact h4 q hq
  · have hcx : c ≠ xx := fun z => by rw [z, pk_us] at hk; omega
    rw [pk_un hcx] at hk
    exact cu_born hF hx hc hk (fun _ hq => pk_un hq) (fun _ hq => pk_un hq) (fun _ hq => pk_un hq) (fun _ hq => pk_un hq) (fun _ hq => pk_un hq) (fun _ _ => rfl) (fun _ _ => rfl) (fun _ _ => rfl) (fun _ _ => rfl) (h5 c hc hk)
theorem un2 {f : Nat → Int32} {xx q : Nat} {x y : Int32} (h : q ≠ xx) : upd (upd f xx x) xx y q = f q := (pk_un h).trans (pk_un h)
/-- view keeps it -/
theorem RInv_view {K xx o : Nat} {p1 p2 p3 : Int32} {a1 a2 a3 a4 a6 a7 a8 a9 a10 a11 a12 : Nat → Int32} (h : RInv K a1 a2 a3 a4 a6 a7 a8 a9 a10 a11 a12) (hx : (a1 xx).toInt = 0) (ho : o < 16) (hm : (a1 o).toInt = 3 ∨ (a1 o).toInt = 4) : RInv K (upd a1 xx 4) a2 (upd a3 xx 0) a4 (upd a6 xx 0) (upd a7 xx 0) (upd (upd a8 xx (-1)) xx (nI o)) (upd a9 xx p2) (upd a10 xx p3) (upd a11 xx p1) a12 := by
  obtain ⟨⟨dep, hF, hdep⟩, h2, h3, h4, h5⟩ := h
  refine ⟨rF_rank (rF_new (v := 4) hF ho hx (by omega) (fun _ => by omega)), fun q hq => ?_, fun q hq k1 k3 => ?_, fun q hq => ?_, fun c hc hk => ?_⟩
  · by_cases hqx : q = xx
    · rw [hqx, pk_us]; decide
    · rw [pk_un hqx]; exact h2 q hq
  · have hqx : q ≠ xx := fun z => by rw [z, pk_us] at k3; exact absurd k3 (by decide)
    rw [pk_un hqx] at k1 k3
    rw [pk_un hqx, pk_un hqx, pk_un hqx]; exact h3 q hq k1 k3
  · by_cases hqx : q = xx
    · rw [hqx, pk_us]
      exact ⟨by decide, by rw [show (0 : Int32).toInt = 0 from rfl]; omega⟩
    · rw [pk_un hqx]; exact h4 q hq
  · have hcx : c ≠ xx := fun z => by rw [z, pk_us] at hk; exact absurd hk (by decide)
    rw [pk_un hcx] at hk
    exact cu_born hF hx hc hk (fun _ hq => pk_un hq) (fun _ hq => pk_un hq) (fun _ _ => rfl) (fun _ hq => pk_un hq) (fun _ hq => un2 hq) (fun _ hq => pk_un hq) (fun _ hq => pk_un hq) (fun _ hq => pk_un hq) (fun _ _ => rfl) (h5 c hc hk)
/-- cursor keeps it -/
theorem RInv_cur {K xx o : Nat} {a1 a2 a3 a4 a6 a7 a8 a9 a10 a11 a12 : Nat → Int32} (h : RInv K a1 a2 a3 a4 a6 a7 a8 a9 a10 a11 a12) (hx : (a1 xx).toInt = 0) (ho : o < 16) (hm : 1 ≤ (a1 o).toInt ∧ (a1 o).toInt ≤ 4) : RInv K (upd a1 xx 5) a2 (upd a3 xx 0) a4 (upd a6 xx 0) (upd a7 xx 0) (upd (upd a8 xx (-1)) xx (nI o)) (upd a9 xx 0) (upd a10 xx 0) a11 (upd a12 xx ((upd a7 xx 0) (rtN (upd a1 xx 5) (upd (upd a8 xx (-1)) xx (nI o)) 17 o))) := by
  obtain ⟨⟨dep, hF, hdep⟩, h2, h3, h4, h5⟩ := h
  have hox : o ≠ xx := fun z => by rw [z] at hm; omega
  have h4' : ∀ q : Nat, q < 16 → 0 ≤ (upd a7 xx 0 q).toInt ∧ (upd a7 xx 0 q).toInt ≤ K := fun q hq => by
    by_cases hqx : q = xx
    · rw [hqx, pk_us]
      exact ⟨by decide, by rw [show (0 : Int32).toInt = 0 from rfl]; omega⟩
    · rw [pk_un hqx]; exact h4 q hq
  have hF2 := rF_new (v := 5) hF ho hx hm (fun z => absurd z (by decide))
  refine ⟨rF_rank hF2, fun q hq => ?_, fun q hq k1 k3 => ?_, h4', fun c hc hk => ?_⟩
  · by_cases hqx : q = xx
    · rw [hqx, pk_us]; decide
    · rw [pk_un hqx]; exact h2 q hq
  · have hqx : q ≠ xx := fun z => by rw [z, pk_us] at k3; exact absurd k3 (by decide)
    rw [pk_un hqx] at k1 k3
    rw [pk_un hqx, pk_un hqx, pk_un hqx]; exact h3 q hq k1 k3
  · by_cases hcx : c = xx
    · subst hcx
      have hR := h4' (rtN (upd a1 c 5) (upd (upd a8 c (-1)) c (nI o)) 17 o) (rt_lt hF2 ho)
      exact cu_mk ho pk_us rfl (by rw [pk_us]; exact hR.1) (by rw [pk_us]; exact Int.le_refl _) (fun _ nz _ _ => ⟨0, 0, pk_us, pk_us, Nat.le_refl _, Nat.zero_le _⟩)
    · rw [pk_un hcx] at hk
      exact cu_born hF hx hc hk (fun _ hq => pk_un hq) (fun _ hq => pk_un hq) (fun _ _ => rfl) (fun _ hq => pk_un hq) (fun _ hq => un2 hq) (fun _ hq => pk_un hq) (fun _ hq => pk_un hq) (fun _ _ => rfl) (fun _ hq => pk_un hq) (h5 c hc hk)
theorem hg_fuel {kd pa : Nat → Int32} {dep : Nat → Nat} {x : Int32} (hF : rF kd pa dep) {n m k : Nat} (hk : k < 16) (h1 : dep k < n) (h2 : dep k < m) : hgN kd pa n k x = hgN kd pa m k x := by
  induction n generalizing m k with
  | zero => exact absurd h1 (Nat.not_lt_zero _)
  | succ n ih =>
    cases m with
    | zero => exact absurd h2 (Nat.not_lt_zero _)
    | succ m =>
      by_cases h : (kd k).toInt = 4 ∨ (kd k).toInt = 5
      · obtain ⟨p, hp, ep, hd, -, -, -⟩ := hF k hk h
        by_cases hx : nI p = x
        · rw [hg_yes h ep hp hx, hg_yes h ep hp hx]
        · rw [hg_up h ep hp hx, hg_up h ep hp hx]
          exact ih hp (by omega) (by omega)
      · rw [hg_no (fun z => h (Or.inl z)) (fun z => h (Or.inr z)), hg_no (fun z => h (Or.inl z)) (fun z => h (Or.inr z))]
/-- what is left when o is dropped -/
def svP (a1 a8 : Nat → Int32) (o j : Nat) : Prop := j < 16 ∧ j ≠ o ∧ dgB a1 a8 o j = false
theorem sv_up {a1 a8 : Nat → Int32} {dep : Nat → Nat} {o q p : Nat} (hF : rF a1 a8 dep) (hd : ∀ o : Nat, o < 16 → dep o < 17) (hs : svP a1 a8 o q) (hk : (a1 q).toInt = 4 ∨ (a1 q).toInt = 5) (hp : p < 16) (ep : a8 q = nI p) (hdp : dep p < dep q) : svP a1 a8 o p := by
  obtain ⟨hq, hqo, hg⟩ := hs
  have hg2 : hgN a1 a8 17 q (nI o) = false := by
    unfold dgB at hg
    rw [decide_eq_false hqo] at hg
    exact hg
  have hdq := hd q hq
  by_cases hx : nI p = nI o
  · rw [hg_yes (n := 16) hk ep hp hx] at hg2
    exact absurd hg2 (by decide)
  · rw [hg_up (n := 16) hk ep hp hx, hg_fuel hF hp (m := 17) (by omega) (by omega)] at hg2
    refine ⟨hp, fun z => hx (by rw [z]), ?_⟩
    unfold dgB
    rw [hg2, Bool.and_false]
/-- drop keeps it -/
theorem RInv_drop {K o : Nat} {a1 a2 a3 a4 a6 a7 a8 a9 a10 a11 a12 b1 : Nat → Int32} (h : RInv K a1 a2 a3 a4 a6 a7 a8 a9 a10 a11 a12) (hb : ∀ j : Nat, j < 16 → b1 j = if j = o ∨ dgB a1 a8 o j = true then 0 else a1 j) : RInv K b1 a2 a3 a4 a6 a7 a8 a9 a10 a11 a12 := by
  obtain ⟨⟨dep, hF, hdep⟩, h2, h3, h4, h5⟩ := h
  have hs : ∀ q : Nat, q < 16 → ¬ (b1 q).toInt = 0 → svP a1 a8 o q := fun q hq hk => by
    rw [hb q hq] at hk
    by_cases hc : q = o ∨ dgB a1 a8 o q = true
    · rw [if_pos hc] at hk
      exact absurd rfl hk
    · exact ⟨hq, fun z => hc (Or.inl z), Bool.eq_false_iff.mpr (fun z => hc (Or.inr z))⟩
  have he : ∀ q : Nat, svP a1 a8 o q → b1 q = a1 q := fun q hq => by
    rw [hb q hq.1, if_neg (fun z => z.elim (fun z => hq.2.1 z) (fun z => absurd (hq.2.2.symm.trans z) (by decide)))]
  have hS : clS a1 a8 (svP a1 a8 o) := fun q hq h4 => by
    obtain ⟨p, hp, ep, hd, -, -, -⟩ := hF q hq.1 (Or.inl h4)
    exact ⟨p, hp, ep, sv_up hF hdep hq (Or.inl h4) hp ep hd⟩
  refine ⟨⟨dep, fun q hq hk => ?_, hdep⟩, fun q hq => ?_, fun q hq k1 k3 => ?_, h4, fun c hc hk => ?_⟩
  · have hq2 := hs q hq (by omega)
    rw [he q hq2] at hk
    obtain ⟨p, hp, ep, hd, g1, g4, g3⟩ := hF q hq hk
    have hp2 := sv_up hF hdep hq2 hk hp ep hd
    exact ⟨p, hp, ep, hd, by rw [he p hp2]; exact g1, by rw [he p hp2]; exact g4, by rw [he q hq2, he p hp2]; exact g3⟩
  · rw [hb q hq]
    split
    · decide
    · exact h2 q hq
  · have hq2 := hs q hq (by omega)
    rw [he q hq2] at k1 k3 ⊢
    exact h3 q hq k1 k3
  · have hc2 := hs c hc (by omega)
    rw [he c hc2] at hk
    obtain ⟨p2, hp2, ep2, hd2, -, -, -⟩ := hF c hc (Or.inr hk)
    intro p hp ep
    obtain rfl : p = p2 := (nI_eq (by omega) (by omega)).mp (ep.symm.trans ep2)
    have hps := sv_up hF hdep hc2 (Or.inr hk) hp ep hd2
    obtain ⟨eR, -⟩ := rt_ext (n := 17) (o := p) hS (kd' := b1) (pa' := a8) he (fun _ _ => rfl) hps
    obtain ⟨g1, g2, g3⟩ := h5 c hc hk p hp ep
    rw [eR]
    refine ⟨g1, g2, fun hs nz hz hn => ?_⟩
    obtain ⟨fr, tt, k1, k2, k3, k4⟩ := g3 hs nz hz hn
    refine ⟨fr, tt, k1, k2, k3, ?_⟩
    rw [cnt_ext (g := inO a1 a2 a4 a8 a9 a10 a11 p) (fun i _ => ?_)]
    · exact k4
    · unfold inO
      rw [eR]
      exact win_ext hS he (fun _ _ => rfl) (fun _ _ _ => ⟨rfl, rfl, rfl⟩) (fun _ _ => rfl) hps
