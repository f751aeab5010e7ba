set_option maxHeartbeats 1000000 in
theorem u_X7_map (l : Launch) (hlt : l.stackTraces = false) (dC : Nat → ClassId) (dI : Nat → Nat → Nat) (sz T0 : Nat) {a0 qb : Nat} {cq : ClassId} {bq : Nat → Option Nat} {ow rx cr : Nat → Nat} {a1 a4 a8 a11 : Nat → Int32} (hF : ∃ dep : Nat → Nat, rF a1 a8 dep ∧ ∀ o : Nat, o < 16 → dep o < 17) (p0 : Int32) (p1 : Int32) (p2 : Int32) (p3 : Int32) : vx_Met l yX7_map wqX7_map ({ frames := 9, cells := 130, slots := 53000, locals := 400 }) (va_Pc [.ref a0, .int p0, .int p1, .int p2, .int p3] (aPre (dC, dI) a0 qb cq bq ow rx cr a1 a4 a8 a11 sz T0)) (va_Ql (fun (_ : Int64) (_ : (Nat → Nat) × (Nat → Nat)) => True) (fun (u : (Nat → Nat) × (Nat → Nat)) (t : State) => aPost (dC, dI) a0 qb cq bq ow rx cr a1 a4 a8 a11 sz T0 u t) (aA ow sz)) (vx_X (fun (_ : (Nat → Nat) × (Nat → Nat)) => True) (fun (E : String) (u : (Nat → Nat) × (Nat → Nat)) (t : State) => (E = "java/util/NoSuchElementException" ∨ E = "java/lang/ClassCastException" ∨ E = "java/lang/IllegalArgumentException" ∨ E = "java/lang/IllegalStateException" ∨ E = "java/lang/UnsupportedOperationException") ∧ aPost (dC, dI) a0 qb cq bq ow rx cr a1 a4 a8 a11 sz T0 u t) (aA ow sz)) 130 53000 (aA ow sz) := by
  refine vx_sel (fun a s hp => ?_)
  obtain ⟨rfl, hp⟩ := hp
  obtain ⟨rfl, rfl, hI⟩ := id hp
  have h6 := hI.1.2.2.2.2.2.1
  by_cases h0 : ∃ j : Nat, j < 16 ∧ p0 = nI j ∧ ¬ bq j = none
  ·
    obtain ⟨j, hj, rfl, hbn⟩ := h0
    obtain ⟨y0, hb⟩ : ∃ z, bq j = some z := Option.ne_none_iff_exists'.mp hbn
    have hkk := bd_kind (h6 j y0 hj hb)
    by_cases hop : p1.toInt = 19 ∨ p1.toInt = 20
    · by_cases h8 : ∃ j8 : Nat, j8 < 16 ∧ p3 = nI j8 ∧ ¬ bq j8 = none
      ·
        obtain ⟨j8, hj8, rfl, hbn⟩ := h8
        obtain ⟨y1, hb8⟩ : ∃ z, bq j8 = some z := Option.ne_none_iff_exists'.mp hbn
        have hkk8 := bd_kind (h6 j8 y1 hj8 hb8)
        rcases hkk with hk | hk | hk | hk
        · rcases hkk8 with hk8 | hk8 | hk8 | hk8
          · rcases hop with hop | hop
            · obtain rfl : p1 = 19 := Int32.toInt_inj.mp hop
              exact um19_HH l hlt dC dI hp hF hj hb hk hj8 hb8 hk8
            · obtain rfl : p1 = 20 := Int32.toInt_inj.mp hop
              by_cases hne : j = j8
              · subst hne
                exact um_selfH l hlt dC dI hp hF hj hb hk
              · exact um20_HH l hlt dC dI hp hF hj hb hk hj8 hb8 hk8 hne
          · rcases hop with hop | hop
            · obtain rfl : p1 = 19 := Int32.toInt_inj.mp hop
              exact um19_HL l hlt dC dI hp hF hj hb hk hj8 hb8 hk8
            · obtain rfl : p1 = 20 := Int32.toInt_inj.mp hop
              by_cases hne : j = j8
              · exact absurd hk (by rw [hne]; omega)
              · exact um20_HL l hlt dC dI hp hF hj hb hk hj8 hb8 hk8 hne
          · rcases hop with hop | hop
            · obtain rfl : p1 = 19 := Int32.toInt_inj.mp hop
              exact um19_HS l hlt dC dI hp hF hj hb hk hj8 hb8 hk8
            · obtain rfl : p1 = 20 := Int32.toInt_inj.mp hop
              by_cases hne : j = j8
              · exact absurd hk (by rw [hne]; omega)
              · exact um20_HS l hlt dC dI hp hF hj hb hk hj8 hb8 hk8 hne
          · exact um_twonotCH l hlt dC dI hp hF hj hb hk hj8 hb8 hk8 hop
        · rcases hkk8 with hk8 | hk8 | hk8 | hk8
          · rcases hop with hop | hop
            · obtain rfl : p1 = 19 := Int32.toInt_inj.mp hop
              exact um19_LH l hlt dC dI hp hF hj hb hk hj8 hb8 hk8
            · obtain rfl : p1 = 20 := Int32.toInt_inj.mp hop
              by_cases hne : j = j8
              · exact absurd hk (by rw [hne]; omega)
              · exact um20_LH l hlt dC dI hp hF hj hb hk hj8 hb8 hk8 hne
          · rcases hop with hop | hop
            · obtain rfl : p1 = 19 := Int32.toInt_inj.mp hop
              exact um19_LL l hlt dC dI hp hF hj hb hk hj8 hb8 hk8
            · obtain rfl : p1 = 20 := Int32.toInt_inj.mp hop
              by_cases hne : j = j8
              · subst hne
                exact um_selfL l hlt dC dI hp hF hj hb hk
              · exact um20_LL l hlt dC dI hp hF hj hb hk hj8 hb8 hk8 hne
          · rcases hop with hop | hop
            · obtain rfl : p1 = 19 := Int32.toInt_inj.mp hop
              exact um19_LS l hlt dC dI hp hF hj hb hk hj8 hb8 hk8
            · obtain rfl : p1 = 20 := Int32.toInt_inj.mp hop
              by_cases hne : j = j8
              · exact absurd hk (by rw [hne]; omega)
              · exact um20_LS l hlt dC dI hp hF hj hb hk hj8 hb8 hk8 hne
          · exact um_twonotCL l hlt dC dI hp hF hj hb hk hj8 hb8 hk8 hop
        · rcases hkk8 with hk8 | hk8 | hk8 | hk8
          · rcases hop with hop | hop
            · obtain rfl : p1 = 19 := Int32.toInt_inj.mp hop
              exact um19_SH l hlt dC dI hp hF hj hb hk hj8 hb8 hk8
            · obtain rfl : p1 = 20 := Int32.toInt_inj.mp hop
              by_cases hne : j = j8
              · exact absurd hk (by rw [hne]; omega)
              · exact um20_SH l hlt dC dI hp hF hj hb hk hj8 hb8 hk8 hne
          · rcases hop with hop | hop
            · obtain rfl : p1 = 19 := Int32.toInt_inj.mp hop
              exact um19_SL l hlt dC dI hp hF hj hb hk hj8 hb8 hk8
            · obtain rfl : p1 = 20 := Int32.toInt_inj.mp hop
              by_cases hne : j = j8
              · exact absurd hk (by rw [hne]; omega)
              · exact um20_SL l hlt dC dI hp hF hj hb hk hj8 hb8 hk8 hne
          · rcases hop with hop | hop
            · obtain rfl : p1 = 19 := Int32.toInt_inj.mp hop
              exact um19_SS l hlt dC dI hp hF hj hb hk hj8 hb8 hk8
            · obtain rfl : p1 = 20 := Int32.toInt_inj.mp hop
              by_cases hne : j = j8
              · subst hne
                exact um_selfS l hlt dC dI hp hF hj hb hk
              · by_cases hRe : rtN a1 a8 17 j8 = rtN a1 a8 17 j
                · exact um20_SSe l hlt dC dI hp hF hj hb hk hj8 hb8 hk8 hne hRe
                · exact um20_SS l hlt dC dI hp hF hj hb hk hj8 hb8 hk8 hne (fun z => hRe z.symm)
          · exact um_twonotCS l hlt dC dI hp hF hj hb hk hj8 hb8 hk8 hop
        · exact um_twonotC l hlt dC dI hp hF hj hb hk hj8 hb8 hop
      · exact um_twonone l hlt dC dI hp hF hj hb (fun j hj e => Classical.byContradiction (fun z => h8 ⟨j, hj, e, z⟩)) hop
    · have hop2 : ¬ p1.toInt = 19 ∧ ¬ p1.toInt = 20 := by omega
      rcases hkk with hk | hk | hk | hk
      · exact um_H l hlt dC dI hp hF hj hb hk hop2
      · exact um_L l hlt dC dI hp hF hj hb hk hop2
      · exact um_S l hlt dC dI hp hF hj hb hk hop2
      · exact um_notC l hlt dC dI hp hF hj hb hk hop2
  · exact um_none l hlt dC dI hp hF (fun j hj e => Classical.byContradiction (fun z => h0 ⟨j, hj, e, z⟩))
set_option maxHeartbeats 1000000 in
theorem u_X7_item (l : Launch) (hlt : l.stackTraces = false) (dC : Nat → ClassId) (dI : Nat → Nat → Nat) (sz T0 : Nat) {a0 qb : Nat} {cq : ClassId} {bq : Nat → Option Nat} {ow rx cr : Nat → Nat} {a1 a4 a8 a11 : Nat → Int32} (hF : ∃ dep : Nat → Nat, rF a1 a8 dep ∧ ∀ o : Nat, o < 16 → dep o < 17) (p0 : Int32) (p1 : Int32) (p2 : Int32) : vx_Met l yX7_item wqX7_item ({ frames := 7, cells := 2, slots := 12, locals := 240 }) (va_Pc [.ref a0, .int p0, .int p1, .int p2] (aPre (dC, dI) a0 qb cq bq ow rx cr a1 a4 a8 a11 sz T0)) (va_Ql (fun (_ : Int64) (_ : (Nat → Nat) × (Nat → Nat)) => True) (fun (u : (Nat → Nat) × (Nat → Nat)) (t : State) => aPost (dC, dI) a0 qb cq bq ow rx cr a1 a4 a8 a11 sz T0 u t) (aA ow sz)) (vx_X (fun (_ : (Nat → Nat) × (Nat → Nat)) => True) (fun (E : String) (u : (Nat → Nat) × (Nat → Nat)) (t : State) => (E = "java/util/NoSuchElementException" ∨ E = "java/lang/ClassCastException" ∨ E = "java/lang/IllegalArgumentException" ∨ E = "java/lang/IndexOutOfBoundsException") ∧ aPost (dC, dI) a0 qb cq bq ow rx cr a1 a4 a8 a11 sz T0 u t) (aA ow sz)) 2 12 (aA ow sz) := by
  refine vx_sel (fun a s hp => ?_)
  obtain ⟨rfl, hp⟩ := hp
  obtain ⟨rfl, rfl, hI⟩ := id hp
  have h6 := hI.1.2.2.2.2.2.1
  by_cases h0 : ∃ j : Nat, j < 16 ∧ p0 = nI j ∧ ¬ bq j = none
  ·
    obtain ⟨j, hj, rfl, hbn⟩ := h0
    obtain ⟨y0, hb⟩ : ∃ z, bq j = some z := Option.ne_none_iff_exists'.mp hbn
    rcases bd_kind (h6 j y0 hj hb) with hk | hk | hk | hk
    · exact ui_H l hlt dC dI hp hF hj hb hk
    · exact ui_L l hlt dC dI hp hF hj hb hk
    · exact ui_S l hlt dC dI hp hF hj hb hk
    · exact ui_notC l hlt dC dI hp hF hj hb hk
  · exact ui_none l hlt dC dI hp hF (fun j hj e => Classical.byContradiction (fun z => h0 ⟨j, hj, e, z⟩))
set_option maxHeartbeats 1000000 in
theorem u_X7_move (l : Launch) (hlt : l.stackTraces = false) (dC : Nat → ClassId) (dI : Nat → Nat → Nat) (sz T0 : Nat) {a0 qb : Nat} {cq : ClassId} {bq : Nat → Option Nat} {ow rx cr : Nat → Nat} {a1 a4 a8 a11 : Nat → Int32} (hF : ∃ dep : Nat → Nat, rF a1 a8 dep ∧ ∀ o : Nat, o < 16 → dep o < 17) (p0 : Int32) (p1 : Int32) (p2 : Int32) : vx_Met l yX7_move wqX7_move ({ frames := 9, cells := 2, slots := 12, locals := 330 }) (va_Pc [.ref a0, .int p0, .int p1, .int p2] (aPre (dC, dI) a0 qb cq bq ow rx cr a1 a4 a8 a11 sz T0)) (va_Ql (fun (_ : Int64) (_ : (Nat → Nat) × (Nat → Nat)) => True) (fun (u : (Nat → Nat) × (Nat → Nat)) (t : State) => aPost (dC, dI) a0 qb cq bq ow rx cr a1 a4 a8 a11 sz T0 u t) (aA ow sz)) (vx_X (fun (_ : (Nat → Nat) × (Nat → Nat)) => True) (fun (E : String) (u : (Nat → Nat) × (Nat → Nat)) (t : State) => (E = "java/util/NoSuchElementException" ∨ E = "java/lang/ClassCastException" ∨ E = "java/lang/IllegalArgumentException" ∨ E = "java/lang/IllegalStateException") ∧ aPost (dC, dI) a0 qb cq bq ow rx cr a1 a4 a8 a11 sz T0 u t) (aA ow sz)) 2 12 (aA ow sz) := by
  refine vx_sel (fun a s hp => ?_)
  obtain ⟨rfl, hp⟩ := hp
  obtain ⟨rfl, rfl, hI⟩ := id hp
  have h6 := hI.1.2.2.2.2.2.1
  by_cases h0 : ∃ j : Nat, j < 16 ∧ p0 = nI j ∧ ¬ bq j = none
  ·
    obtain ⟨j, hj, rfl, hbn⟩ := h0
    obtain ⟨y0, hb⟩ : ∃ z, bq j = some z := Option.ne_none_iff_exists'.mp hbn
    rcases bd_kind (h6 j y0 hj hb) with hk | hk | hk | hk
    · exact uv_notH l hlt dC dI hp hF hj hb hk
    · exact uv_notL l hlt dC dI hp hF hj hb hk
    · exact uv_notS l hlt dC dI hp hF hj hb hk
    · obtain ⟨p, yk, kdc, nx, ps, se, hp9, ep9, hbp, -, -⟩ := bd_C (h6 j y0 hj hb) hk
      have hun : ∀ i : Nat, i < 16 → a8 j = nI i → i = p := fun i hi e => (nI_eq (by omega) (by omega)).mp (e.symm.trans ep9)
      rcases bd_kind (h6 p yk hp9 hbp) with hkp | hkp | hkp | hkp
      · exact uv_H l hlt dC dI hp hF hj hb hk (fun i hi e => by rw [hun i hi e]; exact hkp)
      · exact uv_L l hlt dC dI hp hF hj hb hk (fun i hi e => by rw [hun i hi e]; exact hkp)
      · exact uv_S l hlt dC dI hp hF hj hb hk (fun i hi e => by rw [hun i hi e]; exact hkp)
      · obtain ⟨dep, hFd, -⟩ := hF
        obtain ⟨p2, hp2, ep2, -, -, h4, -⟩ := hFd j hj (Or.inr hk)
        have := hun p2 hp2 ep2
        rw [this] at h4
        omega
  · exact uv_none l hlt dC dI hp hF (fun j hj e => Classical.byContradiction (fun z => h0 ⟨j, hj, e, z⟩))
set_option maxHeartbeats 1000000 in
theorem u_X7_count (l : Launch) (hlt : l.stackTraces = false) (dC : Nat → ClassId) (dI : Nat → Nat → Nat) (sz T0 : Nat) {a0 qb : Nat} {cq : ClassId} {bq : Nat → Option Nat} {ow rx cr : Nat → Nat} {a1 a4 a8 a11 : Nat → Int32} (hF : ∃ dep : Nat → Nat, rF a1 a8 dep ∧ ∀ o : Nat, o < 16 → dep o < 17) (p0 : Int32) : vx_Met l yX7_count wsX7_count ({ frames := 8, cells := 1, slots := 6, locals := 280 }) (va_Pc [.ref a0, .int p0] (aPre (dC, dI) a0 qb cq bq ow rx cr a1 a4 a8 a11 sz T0)) (va_Qi (fun (_ : Int32) (_ : (Nat → Nat) × (Nat → Nat)) => True) (fun (u : (Nat → Nat) × (Nat → Nat)) (t : State) => aPost (dC, dI) a0 qb cq bq ow rx cr a1 a4 a8 a11 sz T0 u t) (aA ow sz)) (vx_X (fun (_ : (Nat → Nat) × (Nat → Nat)) => True) (fun (E : String) (u : (Nat → Nat) × (Nat → Nat)) (t : State) => (E = "java/lang/IllegalArgumentException") ∧ aPost (dC, dI) a0 qb cq bq ow rx cr a1 a4 a8 a11 sz T0 u t) (aA ow sz)) 1 6 (aA ow sz) := by
  refine vx_sel (fun a s hp => ?_)
  obtain ⟨rfl, hp⟩ := hp
  obtain ⟨rfl, rfl, hI⟩ := id hp
  have h6 := hI.1.2.2.2.2.2.1
  by_cases h0 : ∃ j : Nat, j < 16 ∧ p0 = nI (10 + j) ∧ ¬ bq j = none
  ·
    obtain ⟨j, hj, rfl, hbn⟩ := h0
    obtain ⟨y0, hb⟩ : ∃ z, bq j = some z := Option.ne_none_iff_exists'.mp hbn
    rcases bd_kind (h6 j y0 hj hb) with hk | hk | hk | hk
    · exact uc10_H l hlt dC dI hp hF hj hb hk
    · exact uc10_L l hlt dC dI hp hF hj hb hk
    · exact uc10_S l hlt dC dI hp hF hj hb hk
    · exact uc10_C l hlt dC dI hp hF hj hb hk
  · by_cases h1 : ∃ j : Nat, j < 16 ∧ p0 = nI (30 + j) ∧ ¬ bq j = none
    ·
      obtain ⟨j, hj, rfl, hbn⟩ := h1
      obtain ⟨y0, hb⟩ : ∃ z, bq j = some z := Option.ne_none_iff_exists'.mp hbn
      rcases bd_kind (h6 j y0 hj hb) with hk | hk | hk | hk
      · exact uc30_H l hlt dC dI hp hF hj hb hk
      · exact uc30_L l hlt dC dI hp hF hj hb hk
      · exact uc30_S l hlt dC dI hp hF hj hb hk
      · exact uc30_C l hlt dC dI hp hF hj hb hk
    · exact uc_none l hlt dC dI hp hF (fun j hj e => Classical.byContradiction (fun z => h0 ⟨j, hj, e, z⟩)) (fun j hj e => Classical.byContradiction (fun z => h1 ⟨j, hj, e, z⟩))
