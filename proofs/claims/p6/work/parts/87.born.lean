/-- a call has changed what the codes Ch name -/
theorem aB_upd {D : va_G} {U : State} {H H1 : Heap} {a0 qb : Nat} {cq : ClassId} {bq : Nat → Option Nat} {ow ow1 rx cr cr1 : Nat → Nat} {a1 a4 a8 a11 : Nat → Int32} (Ch : Nat → Prop) (h : aI D U H a0 qb cq bq ow rx cr a1 a4 a8 a11)
    (hag : ∀ q : Nat, q < H.size → 0 < ow q → ¬ Ch (ow q) → ow1 q = ow q ∧ H1[q]? = H[q]?)
    (hb : ∀ j y : Nat, j < 16 → bq j = some y → Ch (100 + j) → bdI D U H1 bq ow1 rx cr1 a1 a4 a8 a11 j y) (hr : ∀ r : Nat, r < 16 → (a1 r).toInt = 3 → Ch (200 + r) → rwI D U H1 ow1 r (rx r))
    (hc1 : ∀ j : Nat, j < 16 → ¬ Ch (100 + j) → (a1 j).toInt = 1 ∨ (a1 j).toInt = 2 → ¬ Ch (200 + j) ∧ ¬ Ch (300 + j) ∧ ¬ Ch (400 + j) ∧ ¬ Ch (500 + j)) (hc2 : ∀ r : Nat, r < 16 → (a1 r).toInt = 3 → ¬ Ch (200 + r) → ¬ Ch (300 + r) ∧ ¬ Ch (400 + r)) (hcr : ∀ j : Nat, ¬ Ch (100 + j) → cr j ≤ cr1 j) :
    (∀ j y : Nat, j < 16 → bq j = some y → bdI D U H1 bq ow1 rx cr1 a1 a4 a8 a11 j y) ∧ (∀ r : Nat, r < 16 → (a1 r).toInt = 3 → rwI D U H1 ow1 r (rx r)) := by
  obtain ⟨h1, h2, h3, h4, h5, h6, h7⟩ := h
  refine ⟨fun j y hj hy => ?_, fun r hr1 hk => ?_⟩
  · by_cases hch : Ch (100 + j)
    · exact hb j y hj hy hch
    · rcases h6 j y hj hy with ⟨k, g⟩ | ⟨k, g⟩ | ⟨k, g⟩ | ⟨k, g⟩
      · obtain ⟨z2, z3, z4, z5⟩ := hc1 j hj hch (Or.inl k)
        exact Or.inl ⟨k, hsI_kept g (hcr j hch) (fun q hq1 hq2 => hag q hq1 (by omega) (by rcases hq2 with e | e | e | e | e <;> rw [e] <;> assumption))⟩
      · obtain ⟨z2, z3, z4, z5⟩ := hc1 j hj hch (Or.inr k)
        exact Or.inr (Or.inl ⟨k, lkI_kept g (fun q hq1 hq2 => hag q hq1 (by omega) (by rcases hq2 with e | e | e | e <;> rw [e] <;> assumption))⟩)
      · exact Or.inr (Or.inr (Or.inl ⟨k, stI_kept g (fun q hq1 e => hag q hq1 (by omega) (by rw [e]; exact hch))⟩))
      · exact Or.inr (Or.inr (Or.inr ⟨k, cuI_kept g (fun q hq1 e => hag q hq1 (by omega) (by rw [e]; exact hch))⟩))
  · by_cases hch : Ch (200 + r)
    · exact hr r hr1 hk hch
    · obtain ⟨z3, z4⟩ := hc2 r hr1 hk hch
      exact rwI_kept (h7 r hr1 hk) (fun q hq1 hq2 => hag q hq1 (by omega) (by rcases hq2 with e | e | e <;> rw [e] <;> assumption))
/-- a new object at xx -/
theorem aI_born {D : va_G} {U : State} {H1 : Heap} {a0 qb : Nat} {cq : ClassId} {bq bq2 : Nat → Option Nat} {ow1 rx rx2 cr1 : Nat → Nat} {a1 a4 a8 a11 b1 b4 b8 b11 : Nat → Int32} {dep : Nat → Nat} {xx y : Nat} (hF : rF a1 a8 dep) (hx : xx < 16) (h0 : (a1 xx).toInt = 0) (hiff : ∀ j : Nat, j < 16 → (bq j = none ↔ (a1 j).toInt = 0)) (eb : bq2 = va_up bq xx (some y)) (e1 : ∀ j : Nat, j ≠ xx → b1 j = a1 j) (e4 : ∀ j : Nat, j ≠ xx → b4 j = a4 j) (e8 : ∀ j : Nat, j ≠ xx → b8 j = a8 j) (e11 : ∀ j : Nat, j ≠ xx → b11 j = a11 j) (er : ∀ j : Nat, j ≠ xx → rx2 j = rx j)
    (hB : ∀ j y : Nat, j < 16 → bq j = some y → bdI D U H1 bq ow1 rx cr1 a1 a4 a8 a11 j y) (hR : ∀ r : Nat, r < 16 → (a1 r).toInt = 3 → rwI D U H1 ow1 r (rx r)) (hP : va_P D vwCl [(a0, .inr (7, [.ref qb])), (qb, .inl (cq, 16, .inr (.inr (.inr (.inr bq2)))))] H1) (hK : va_K D vwCl [(cq, .object "KeyAtlas$Body")] U) (ha : ow1 a0 = 1) (hq : ow1 qb = 2) (hv : ¬ (b1 xx).toInt = 0) (hnew : bdI D U H1 bq2 ow1 rx2 cr1 b1 b4 b8 b11 xx y) (hnr : (b1 xx).toInt = 3 → rwI D U H1 ow1 xx (rx2 xx)) : aI D U H1 a0 qb cq bq2 ow1 rx2 cr1 b1 b4 b8 b11 := by
  have hS : clS a1 a8 (fun o => o < 16 ∧ o ≠ xx) := fun o ho h4 => by
    obtain ⟨p, hp, ep, -, hk1, -, -⟩ := hF o ho.1 (Or.inl h4)
    exact ⟨p, hp, ep, hp, fun z => by rw [z] at hk1; omega⟩
  refine ⟨hP, hK, ha, hq, fun j hj => ?_, fun j z hj hz => ?_, fun r hr hk => ?_⟩
  · by_cases hjx : j = xx
    · subst hjx
      rw [eb, va_up_self]
      exact ⟨fun z => (by cases z), fun z => absurd z hv⟩
    · rw [eb, va_up_ne _ _ hjx, e1 j hjx]
      exact hiff j hj
  · by_cases hjx : j = xx
    · subst hjx
      rw [eb, va_up_self] at hz
      obtain rfl : y = z := Option.some.inj hz
      exact hnew
    · rw [eb, va_up_ne _ _ hjx] at hz
      rcases hB j z hj hz with ⟨k, g⟩ | ⟨k, g⟩ | ⟨k, g⟩ | ⟨k, g⟩
      · exact Or.inl ⟨by rw [e1 j hjx]; exact k, g⟩
      · exact Or.inr (Or.inl ⟨by rw [e1 j hjx]; exact k, g⟩)
      · obtain ⟨eR, hR1⟩ := rt_ext (n := 17) (o := j) hS (kd' := b1) (pa' := b8) (fun o ho => e1 o ho.2) (fun o ho => e8 o ho.2) ⟨hj, hjx⟩
        have eT := tn_ext (n := 17) (o := j) (b := false) hS (kd' := b1) (pa' := b8) (wa := a11) (wa' := b11) (fun o ho => e1 o ho.2) (fun o ho => e8 o ho.2) (fun o ho _ => e11 o ho.2) ⟨hj, hjx⟩
        refine Or.inr (Or.inr (Or.inl ⟨by rw [e1 j hjx]; exact k, ?_⟩))
        unfold stI at g ⊢
        rw [eR, eT, er _ hR1.2, e4 _ hR1.2, e1 j hjx, e8 j hjx]
        exact g
      · refine Or.inr (Or.inr (Or.inr ⟨by rw [e1 j hjx]; exact k, ?_⟩))
        obtain ⟨p, yk, kdc, nx, ps, se, hp, ep, hb, h2⟩ := g
        have hpx : p ≠ xx := fun z => by
          rw [z] at hb
          rw [(hiff xx hx).mpr h0] at hb
          cases hb
        exact ⟨p, yk, kdc, nx, ps, se, hp, by rw [e8 j hjx]; exact ep, by rw [eb, va_up_ne _ _ hpx]; exact hb, h2⟩
  · by_cases hrx : r = xx
    · subst hrx
      exact hnr hk
    · rw [e1 r hrx] at hk
      rw [er r hrx]
      exact hR r hr hk
def aPostG (D : va_G) (a0 qb : Nat) (cq : ClassId) (ow cr : Nat → Nat) (sz T0 : Nat) (bq2 : Nat → Option Nat) (ow2 rx2 cr2 : Nat → Nat) (b1 b4 b8 b11 : Nat → Int32) (t : State) : Prop := aI D t t.heap a0 qb cq bq2 ow2 rx2 cr2 b1 b4 b8 b11 ∧ (∀ q : Nat, 0 < ow2 q → 0 < ow q ∨ sz ≤ q) ∧ hT t.heap + sumN cr2 16 ≤ T0 + sumN cr 16 + 12700 ∧ t.heap.size ≤ sz + 150
