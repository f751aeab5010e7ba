theorem upd_0 {D : va_G} {U : State} {H H1 : Heap} {a0 qb : Nat} {cq : ClassId} {bq : Nat → Option Nat} {ow rx cr : Nat → Nat} {a1 a4 a8 a11 : Nat → Int32} (hI : aI D U H a0 qb cq bq ow rx cr a1 a4 a8 a11) (hF : ∀ q : Nat, q < H.size → ¬ va_A [(a0, .inr (7, [.ref qb])), (qb, .inl (cq, 16, .inr (.inr (.inr (.inr bq)))))] H.size q → H1[q]? = H[q]?) (hP : va_P D vwCl [(a0, .inr (7, [.ref qb])), (qb, .inl (cq, 16, .inr (.inr (.inr (.inr bq)))))] H1) : aI D U H1 a0 qb cq bq ow rx cr a1 a4 a8 a11 := by
  have ha0 := hI.2.2.1
  have hq0 := hI.2.2.2.1
  have hO : ∀ q ∈ ([(a0, .inr (7, [.ref qb])), (qb, .inl (cq, 16, .inr (.inr (.inr (.inr bq)))))] : va_W), (fun c => c = 1 ∨ c = 2) (ow q.1) := List.forall_mem_cons.mpr ⟨(by show ow a0 = 1 ∨ ow a0 = 2; omega), List.forall_mem_cons.mpr ⟨(by show ow qb = 1 ∨ ow qb = 2; omega), fun _ h => absurd h List.not_mem_nil⟩⟩
  refine aI_upd (fun c => c = 1 ∨ c = 2) hI (fun q z1 z2 z3 => ⟨rfl, hF q z1 (fun z => ?_)⟩) hP ha0 hq0 (fun j y _ _ z => absurd z (by show ¬ (100 + j = 1 ∨ 100 + j = 2); omega)) (fun r _ _ z => absurd z (by show ¬ (200 + r = 1 ∨ 200 + r = 2); omega)) (fun j _ _ _ => by show ¬ (200 + j = 1 ∨ 200 + j = 2) ∧ ¬ (300 + j = 1 ∨ 300 + j = 2) ∧ ¬ (400 + j = 1 ∨ 400 + j = 2) ∧ ¬ (500 + j = 1 ∨ 500 + j = 2); omega) (fun j _ _ _ => by show ¬ (300 + j = 1 ∨ 300 + j = 2) ∧ ¬ (400 + j = 1 ∨ 400 + j = 2); omega) (fun _ _ => Nat.le_refl _)
  rcases z with ⟨k, e, hk⟩ | z
  · exact z3 (hO _ (List.mem_of_getElem? hk))
  · omega
theorem hOK_0 {cap : Nat} (h : cap ≤ 1000) : hOK 0 16 0 cap := ⟨⟨by omega, by omega, by omega, by omega⟩, ⟨4, rfl⟩, h, Or.inl ⟨rfl, rfl, rfl⟩⟩
theorem rOK_0 : rOK 16 0 := ⟨by omega, by omega, by omega, by omega⟩
theorem mk_one {a1 : Nat → Int32} {p0 p1 p2 : Int32} {xx : Nat} (h0 : 0 ≤ p0.toInt) (h2 : p0.toInt ≤ 2) (hn : ¬ (p0.toInt = 0 ∧ p1.toInt < 0)) (hg : mkG p0 p1 p2) (hx : xx < 16) (hz : (a1 xx).toInt = 0) (hl : ∀ j : Nat, j < xx → ¬ (a1 j).toInt = 0) : mkR a1 p0 p1 p2 0 xx := Or.inr ⟨h0, h2, Or.inr ⟨hn, Or.inr ⟨hg, Or.inr ⟨rfl, hx, hz, hl⟩⟩⟩⟩
theorem mk_bad {a1 : Nat → Int32} {p0 p1 p2 : Int32} {xx : Nat} (h0 : 0 ≤ p0.toInt) (h2 : p0.toInt ≤ 2) (hn : ¬ (p0.toInt = 0 ∧ p1.toInt < 0)) (hg : ¬ mkG p0 p1 p2) : mkR a1 p0 p1 p2 1 xx := Or.inr ⟨h0, h2, Or.inr ⟨hn, Or.inl ⟨rfl, hg⟩⟩⟩
theorem mk_full {a1 : Nat → Int32} {p0 p1 p2 : Int32} {xx : Nat} (h0 : 0 ≤ p0.toInt) (h2 : p0.toInt ≤ 2) (hn : ¬ (p0.toInt = 0 ∧ p1.toInt < 0)) (hg : mkG p0 p1 p2) (hf : fullO a1) : mkR a1 p0 p1 p2 2 xx := Or.inr ⟨h0, h2, Or.inr ⟨hn, Or.inr ⟨hg, Or.inl ⟨rfl, hf⟩⟩⟩⟩
theorem mk_gH {p1 p2 : Int32} (h : 0 ≤ p1.toInt) : mkG 0 p1 p2 ↔ rgH p1 p2 := by
  unfold mkG rgH
  rw [show (0 : Int32).toInt = 0 from rfl]
  constructor <;> intro z <;> omega
theorem mk_gL {p1 p2 : Int32} : mkG 1 p1 p2 ↔ rgL p1 p2 := by
  unfold mkG rgL
  rw [show (1 : Int32).toInt = 1 from rfl]
  constructor <;> intro z <;> omega
theorem mk_gS {p1 p2 : Int32} : mkG 2 p1 p2 ↔ rgS p1 p2 := by
  unfold mkG rgS
  rw [show (2 : Int32).toInt = 2 from rfl]
  constructor <;> intro z <;> omega
